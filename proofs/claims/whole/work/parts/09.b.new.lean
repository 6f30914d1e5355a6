set_option maxRecDepth 100000 in
set_option maxHeartbeats 4000000 in
theorem c_X0_init {l : Launch} {G : mG} {a0 : Array Value} {s0 : State} (Z : mZ l G a0 s0) (h0 : Hp) (o : Nat) (a : Int32) (d : Int32) (ho : hat h0 o (eO 0 [.int 0, .int 0, .int 0, .long 0])) : mM l G s0 yX0_init cX0_init 3 none 1 24 0 0 h0 [.ref o, .int a, .int d] (fun v9 h9 => v9 = none ∧ hat h9 o (eO 0 [.int a, .int d, .int (nI 0), .long (lN 0)]) ∧ nFr h0 o h9) := by
  refine mM_in RX0 "<init>" rfl rfl (by decide +kernel) (Nat.le_of_ble_eq_true rfl) ?_
  intro p e s mt below meth c H locs C hM hS ls hl
  have hx := C.1
  have hb := C.2.1
  have hown := C.2.2.2.1
  have hE := C.2.2.2.2.2.2.1
  have hl : lv_has ls 3 [(0, .ref o), (1, .int a), (2, .int d)] := hl
  obtain ⟨h, hM, hX_o, hFr⟩ : ∃ h9, MW G s0.heap.size h9 H ∧ hat h9 o (eO 0 [.int 0, .int 0, .int 0, .long 0]) ∧ nFr h0 o h9 := ⟨_, hM, ho, nFr.rf⟩
  refine lv_aload_n hx hb dX0_init_0 rfl (lv_at hl 0 rfl) ?_
  refine m_objInit Z C ml_X0_3 hl.1 dX0_init_1 ⟨Nat.le_of_ble_eq_true rfl, Nat.le_of_ble_eq_true rfl⟩ ?_
  refine W.eq (g2 := F0 mt 4 ls []) rfl ?_
  refine lv_aload_n hx hb dX0_init_4 rfl (lv_at hl 0 rfl) ?_
  refine lv_iload_n hx hb dX0_init_5 rfl (lv_at hl 1 rfl) ?_
  refine m_putF Z C hM hS hX_o K_X0 0 (by decide) fl_X0_9 (v := .int a) rfl rfl rfl rfl (fs' := [.int a, .int 0, .int 0, .long 0]) rfl (Nat.le_of_ble_eq_true rfl) dX0_init_6 (fun H locs hM hS => ?_)
  obtain ⟨h, hM, hX_o, hFr⟩ : ∃ h9, MW G s0.heap.size h9 H ∧ hat h9 o (eO 0 [.int a, .int 0, .int 0, .long 0]) ∧ nFr h0 o h9 := ⟨_, hM, hat_put hX_o, hFr.put _⟩
  refine lv_aload_n hx hb dX0_init_9 rfl (lv_at hl 0 rfl) ?_
  refine lv_iload_n hx hb dX0_init_10 rfl (lv_at hl 2 rfl) ?_
  refine m_putF Z C hM hS hX_o K_X0 1 (by decide) fl_X0_15 (v := .int d) rfl rfl rfl rfl (fs' := [.int a, .int d, .int 0, .long 0]) rfl (Nat.le_of_ble_eq_true rfl) dX0_init_11 (fun H locs hM hS => ?_)
  obtain ⟨h, hM, hX_o, hFr⟩ : ∃ h9, MW G s0.heap.size h9 H ∧ hat h9 o (eO 0 [.int a, .int d, .int 0, .long 0]) ∧ nFr h0 o h9 := ⟨_, hM, hat_put hX_o, hFr.put _⟩
  refine lv_aload_n hx hb dX0_init_14 rfl (lv_at hl 0 rfl) ?_
  refine lv_iconst (v := nI 0) hx hb dX0_init_15 (by decide) ?_
  refine m_put Z C hM hS hX_o K_X0 2 (by decide) fl_X0_18 (v := .int (nI 0)) rfl rfl rfl (fs' := [.int a, .int d, .int (nI 0), .long 0]) rfl (Nat.le_of_ble_eq_true rfl) dX0_init_16 (fun H locs hM hS => ?_)
  obtain ⟨h, hM, hX_o, hFr⟩ : ∃ h9, MW G s0.heap.size h9 H ∧ hat h9 o (eO 0 [.int a, .int d, .int (nI 0), .long 0]) ∧ nFr h0 o h9 := ⟨_, hM, hat_put hX_o, hFr.put _⟩
  refine lv_aload_n hx hb dX0_init_19 rfl (lv_at hl 0 rfl) ?_
  refine lv_lconst (v := lN 0) hx hb dX0_init_20 (by decide) ?_
  refine m_put Z C hM hS hX_o K_X0 3 (by decide) fl_X0_22 (v := .long (lN 0)) rfl rfl rfl (fs' := [.int a, .int d, .int (nI 0), .long (lN 0)]) rfl (Nat.le_of_ble_eq_true rfl) dX0_init_21 (fun H locs hM hS => ?_)
  obtain ⟨h, hM, hX_o, hFr⟩ : ∃ h9, MW G s0.heap.size h9 H ∧ hat h9 o (eO 0 [.int a, .int d, .int (nI 0), .long (lN 0)]) ∧ nFr h0 o h9 := ⟨_, hM, hat_put hX_o, hFr.put _⟩
  exact m_vret C hM hS (Nat.le_of_ble_eq_true rfl) (Nat.le_of_ble_eq_true rfl) dX0_init_24 ⟨rfl, hX_o, hFr⟩
set_option maxRecDepth 100000 in
set_option maxHeartbeats 4000000 in
theorem c_X4_init {l : Launch} {G : mG} {a0 : Array Value} {s0 : State} (Z : mZ l G a0 s0) (h0 : Hp) (o : Nat) (ho : hat h0 o (eO 4 [.int 0, .long 0, .int 0])) : mM l G s0 yX4_init cX4_init 1 none 1 24 0 0 h0 [.ref o] (fun v9 h9 => v9 = none ∧ hat h9 o (eO 4 [.int 0, .long 0, .int 0]) ∧ nFr h0 o h9) := by
  refine mM_in RX4 "<init>" rfl rfl (by decide +kernel) (Nat.le_of_ble_eq_true rfl) ?_
  intro p e s mt below meth c H locs C hM hS ls hl
  have hx := C.1
  have hb := C.2.1
  have hown := C.2.2.2.1
  have hE := C.2.2.2.2.2.2.1
  have hl : lv_has ls 1 [(0, .ref o)] := hl
  obtain ⟨h, hM, hX_o, hFr⟩ : ∃ h9, MW G s0.heap.size h9 H ∧ hat h9 o (eO 4 [.int 0, .long 0, .int 0]) ∧ nFr h0 o h9 := ⟨_, hM, ho, nFr.rf⟩
  refine lv_aload_n hx hb dX4_init_0 rfl (lv_at hl 0 rfl) ?_
  refine m_objInit Z C ml_X4_3 hl.1 dX4_init_1 ⟨Nat.le_of_ble_eq_true rfl, Nat.le_of_ble_eq_true rfl⟩ ?_
  refine W.eq (g2 := F0 mt 4 ls []) rfl ?_
  exact m_vret C hM hS (Nat.le_of_ble_eq_true rfl) (Nat.le_of_ble_eq_true rfl) dX4_init_4 ⟨rfl, hX_o, hFr⟩
set_option maxRecDepth 100000 in
set_option maxHeartbeats 4000000 in
theorem c_X1_init {l : Launch} {G : mG} {a0 : Array Value} {s0 : State} (Z : mZ l G a0 s0) (h0 : Hp) (o : Nat) (ti : Int64) (x : Int32) (ho : hat h0 o (eO 1 [.long 0, .int 0, .null, .null, .int 0, .int 0, .long 0, .long 0, .int 0])) : mM l G s0 yX1_init cX1_init 4 none 1 24 2 16 h0 [.ref o, .long ti, .int x] (fun v9 h9 => v9 = none ∧ ∃ q1 : Nat, ∃ q2 : Nat, hat h9 o (eO 1 [.long ti, .int x, .ref q1, .ref q2, .int (nI 1), .int (nI 64), .long ti, .long (lN 0), .int x]) ∧ hat h9 q1 (eL G 8 (fun _ => 0)) ∧ hat h9 q2 (eI G 8 (fun _ => 0)) ∧ q1 ∉ h0.1 ∧ q2 ∉ h0.1 ∧ q1 ≠ q2 ∧ nFr h0 o h9) := by
  refine mM_in RX1 "<init>" rfl rfl (by decide +kernel) (Nat.le_of_ble_eq_true rfl) ?_
  intro p e s mt below meth c H locs C hM hS ls hl
  have hx := C.1
  have hb := C.2.1
  have hown := C.2.2.2.1
  have hE := C.2.2.2.2.2.2.1
  have hl : lv_has ls 4 [(0, .ref o), (1, .long ti), (3, .int x)] := hl
  obtain ⟨h, hM, hX_o, hFr⟩ : ∃ h9, MW G s0.heap.size h9 H ∧ hat h9 o (eO 1 [.long 0, .int 0, .null, .null, .int 0, .int 0, .long 0, .long 0, .int 0]) ∧ nFr h0 o h9 := ⟨_, hM, ho, nFr.rf⟩
  refine lv_aload_n hx hb dX1_init_0 rfl (lv_at hl 0 rfl) ?_
  refine m_objInit Z C ml_X1_3 hl.1 dX1_init_1 ⟨Nat.le_of_ble_eq_true rfl, Nat.le_of_ble_eq_true rfl⟩ ?_
  refine W.eq (g2 := F0 mt 4 ls []) rfl ?_
  refine lv_aload_n hx hb dX1_init_4 rfl (lv_at hl 0 rfl) ?_
  refine lv_lload_n hx hb dX1_init_5 rfl (lv_at hl 1 rfl) ?_
  refine m_putF Z C hM hS hX_o K_X1 0 (by decide) fl_X1_9 (v := .long ti) rfl rfl rfl rfl (fs' := [.long ti, .int 0, .null, .null, .int 0, .int 0, .long 0, .long 0, .int 0]) rfl (Nat.le_of_ble_eq_true rfl) dX1_init_6 (fun H locs hM hS => ?_)
  obtain ⟨h, hM, hX_o, hFr⟩ : ∃ h9, MW G s0.heap.size h9 H ∧ hat h9 o (eO 1 [.long ti, .int 0, .null, .null, .int 0, .int 0, .long 0, .long 0, .int 0]) ∧ nFr h0 o h9 := ⟨_, hM, hat_put hX_o, hFr.put _⟩
  refine lv_aload_n hx hb dX1_init_9 rfl (lv_at hl 0 rfl) ?_
  refine lv_iload_n hx hb dX1_init_10 rfl (lv_at hl 2 rfl) ?_
  refine m_putF Z C hM hS hX_o K_X1 1 (by decide) fl_X1_15 (v := .int x) rfl rfl rfl rfl (fs' := [.long ti, .int x, .null, .null, .int 0, .int 0, .long 0, .long 0, .int 0]) rfl (Nat.le_of_ble_eq_true rfl) dX1_init_11 (fun H locs hM hS => ?_)
  obtain ⟨h, hM, hX_o, hFr⟩ : ∃ h9, MW G s0.heap.size h9 H ∧ hat h9 o (eO 1 [.long ti, .int x, .null, .null, .int 0, .int 0, .long 0, .long 0, .int 0]) ∧ nFr h0 o h9 := ⟨_, hM, hat_put hX_o, hFr.put _⟩
  refine lv_aload_n hx hb dX1_init_14 rfl (lv_at hl 0 rfl) ?_
  refine lv_bipush (v := nI 8) hx hb dX1_init_15 (by decide) ?_
  refine m_newL Z C hM hS 8 (by decide) rfl (by decide) (Nat.le_of_ble_eq_true rfl) (Nat.le_of_ble_eq_true rfl) dX1_init_17 (fun q1 H hq hM hS => ?_)
  have hO_q1 := hFr.out hX_o hq
  obtain ⟨h, hM, hX_o, hX_q1, hFr⟩ : ∃ h9, MW G s0.heap.size h9 H ∧ hat h9 o (eO 1 [.long ti, .int x, .null, .null, .int 0, .int 0, .long 0, .long 0, .int 0]) ∧ hat h9 q1 (eL G 8 (fun _ => 0)) ∧ nFr h0 o h9 := ⟨_, hM, hat_new_ne hX_o hq, hat_new, hFr.new hq _⟩
  refine m_putF Z C hM hS hX_o K_X1 2 (by decide) fl_X1_19 (v := .ref q1) rfl rfl rfl rfl (fs' := [.long ti, .int x, .ref q1, .null, .int 0, .int 0, .long 0, .long 0, .int 0]) rfl (Nat.le_of_ble_eq_true rfl) dX1_init_19 (fun H locs hM hS => ?_)
  obtain ⟨h, hM, hX_o, hX_q1, hFr⟩ : ∃ h9, MW G s0.heap.size h9 H ∧ hat h9 o (eO 1 [.long ti, .int x, .ref q1, .null, .int 0, .int 0, .long 0, .long 0, .int 0]) ∧ hat h9 q1 (eL G 8 (fun _ => 0)) ∧ nFr h0 o h9 := ⟨_, hM, hat_put hX_o, hat_put_ne hX_q1 (fun z => hO_q1 (z ▸ ho.1)), hFr.put _⟩
  refine lv_aload_n hx hb dX1_init_22 rfl (lv_at hl 0 rfl) ?_
  refine lv_bipush (v := nI 8) hx hb dX1_init_23 (by decide) ?_
  refine m_newI Z C hM hS 8 (by decide) rfl (by decide) (Nat.le_of_ble_eq_true rfl) (Nat.le_of_ble_eq_true rfl) dX1_init_25 (fun q2 H hq hM hS => ?_)
  have hO_q2 := hFr.out hX_o hq
  have hN_q1_q2 : q1 ≠ q2 := fun z => hq (z ▸ hX_q1.1)
  obtain ⟨h, hM, hX_o, hX_q1, hX_q2, hFr⟩ : ∃ h9, MW G s0.heap.size h9 H ∧ hat h9 o (eO 1 [.long ti, .int x, .ref q1, .null, .int 0, .int 0, .long 0, .long 0, .int 0]) ∧ hat h9 q1 (eL G 8 (fun _ => 0)) ∧ hat h9 q2 (eI G 8 (fun _ => 0)) ∧ nFr h0 o h9 := ⟨_, hM, hat_new_ne hX_o hq, hat_new_ne hX_q1 hq, hat_new, hFr.new hq _⟩
  refine m_putF Z C hM hS hX_o K_X1 3 (by decide) fl_X1_23 (v := .ref q2) rfl rfl rfl rfl (fs' := [.long ti, .int x, .ref q1, .ref q2, .int 0, .int 0, .long 0, .long 0, .int 0]) rfl (Nat.le_of_ble_eq_true rfl) dX1_init_27 (fun H locs hM hS => ?_)
  obtain ⟨h, hM, hX_o, hX_q1, hX_q2, hFr⟩ : ∃ h9, MW G s0.heap.size h9 H ∧ hat h9 o (eO 1 [.long ti, .int x, .ref q1, .ref q2, .int 0, .int 0, .long 0, .long 0, .int 0]) ∧ hat h9 q1 (eL G 8 (fun _ => 0)) ∧ hat h9 q2 (eI G 8 (fun _ => 0)) ∧ nFr h0 o h9 := ⟨_, hM, hat_put hX_o, hat_put_ne hX_q1 (fun z => hO_q1 (z ▸ ho.1)), hat_put_ne hX_q2 (fun z => hO_q2 (z ▸ ho.1)), hFr.put _⟩
  refine lv_aload_n hx hb dX1_init_30 rfl (lv_at hl 0 rfl) ?_
  refine lv_iconst (v := nI 1) hx hb dX1_init_31 (by decide) ?_
  refine m_put Z C hM hS hX_o K_X1 4 (by decide) fl_X1_27 (v := .int (nI 1)) rfl rfl rfl (fs' := [.long ti, .int x, .ref q1, .ref q2, .int (nI 1), .int 0, .long 0, .long 0, .int 0]) rfl (Nat.le_of_ble_eq_true rfl) dX1_init_32 (fun H locs hM hS => ?_)
  obtain ⟨h, hM, hX_o, hX_q1, hX_q2, hFr⟩ : ∃ h9, MW G s0.heap.size h9 H ∧ hat h9 o (eO 1 [.long ti, .int x, .ref q1, .ref q2, .int (nI 1), .int 0, .long 0, .long 0, .int 0]) ∧ hat h9 q1 (eL G 8 (fun _ => 0)) ∧ hat h9 q2 (eI G 8 (fun _ => 0)) ∧ nFr h0 o h9 := ⟨_, hM, hat_put hX_o, hat_put_ne hX_q1 (fun z => hO_q1 (z ▸ ho.1)), hat_put_ne hX_q2 (fun z => hO_q2 (z ▸ ho.1)), hFr.put _⟩
  refine lv_aload_n hx hb dX1_init_35 rfl (lv_at hl 0 rfl) ?_
  refine lv_bipush (v := nI 64) hx hb dX1_init_36 (by decide) ?_
  refine m_put Z C hM hS hX_o K_X1 5 (by decide) fl_X1_30 (v := .int (nI 64)) rfl rfl rfl (fs' := [.long ti, .int x, .ref q1, .ref q2, .int (nI 1), .int (nI 64), .long 0, .long 0, .int 0]) rfl (Nat.le_of_ble_eq_true rfl) dX1_init_38 (fun H locs hM hS => ?_)
  obtain ⟨h, hM, hX_o, hX_q1, hX_q2, hFr⟩ : ∃ h9, MW G s0.heap.size h9 H ∧ hat h9 o (eO 1 [.long ti, .int x, .ref q1, .ref q2, .int (nI 1), .int (nI 64), .long 0, .long 0, .int 0]) ∧ hat h9 q1 (eL G 8 (fun _ => 0)) ∧ hat h9 q2 (eI G 8 (fun _ => 0)) ∧ nFr h0 o h9 := ⟨_, hM, hat_put hX_o, hat_put_ne hX_q1 (fun z => hO_q1 (z ▸ ho.1)), hat_put_ne hX_q2 (fun z => hO_q2 (z ▸ ho.1)), hFr.put _⟩
  refine lv_aload_n hx hb dX1_init_41 rfl (lv_at hl 0 rfl) ?_
  refine lv_lload_n hx hb dX1_init_42 rfl (lv_at hl 1 rfl) ?_
  refine m_put Z C hM hS hX_o K_X1 6 (by decide) fl_X1_33 (v := .long ti) rfl rfl rfl (fs' := [.long ti, .int x, .ref q1, .ref q2, .int (nI 1), .int (nI 64), .long ti, .long 0, .int 0]) rfl (Nat.le_of_ble_eq_true rfl) dX1_init_43 (fun H locs hM hS => ?_)
  obtain ⟨h, hM, hX_o, hX_q1, hX_q2, hFr⟩ : ∃ h9, MW G s0.heap.size h9 H ∧ hat h9 o (eO 1 [.long ti, .int x, .ref q1, .ref q2, .int (nI 1), .int (nI 64), .long ti, .long 0, .int 0]) ∧ hat h9 q1 (eL G 8 (fun _ => 0)) ∧ hat h9 q2 (eI G 8 (fun _ => 0)) ∧ nFr h0 o h9 := ⟨_, hM, hat_put hX_o, hat_put_ne hX_q1 (fun z => hO_q1 (z ▸ ho.1)), hat_put_ne hX_q2 (fun z => hO_q2 (z ▸ ho.1)), hFr.put _⟩
  refine lv_aload_n hx hb dX1_init_46 rfl (lv_at hl 0 rfl) ?_
  refine lv_lconst (v := lN 0) hx hb dX1_init_47 (by decide) ?_
  refine m_put Z C hM hS hX_o K_X1 7 (by decide) fl_X1_36 (v := .long (lN 0)) rfl rfl rfl (fs' := [.long ti, .int x, .ref q1, .ref q2, .int (nI 1), .int (nI 64), .long ti, .long (lN 0), .int 0]) rfl (Nat.le_of_ble_eq_true rfl) dX1_init_48 (fun H locs hM hS => ?_)
  obtain ⟨h, hM, hX_o, hX_q1, hX_q2, hFr⟩ : ∃ h9, MW G s0.heap.size h9 H ∧ hat h9 o (eO 1 [.long ti, .int x, .ref q1, .ref q2, .int (nI 1), .int (nI 64), .long ti, .long (lN 0), .int 0]) ∧ hat h9 q1 (eL G 8 (fun _ => 0)) ∧ hat h9 q2 (eI G 8 (fun _ => 0)) ∧ nFr h0 o h9 := ⟨_, hM, hat_put hX_o, hat_put_ne hX_q1 (fun z => hO_q1 (z ▸ ho.1)), hat_put_ne hX_q2 (fun z => hO_q2 (z ▸ ho.1)), hFr.put _⟩
  refine lv_aload_n hx hb dX1_init_51 rfl (lv_at hl 0 rfl) ?_
  refine lv_iload_n hx hb dX1_init_52 rfl (lv_at hl 2 rfl) ?_
  refine m_put Z C hM hS hX_o K_X1 8 (by decide) fl_X1_39 (v := .int x) rfl rfl rfl (fs' := [.long ti, .int x, .ref q1, .ref q2, .int (nI 1), .int (nI 64), .long ti, .long (lN 0), .int x]) rfl (Nat.le_of_ble_eq_true rfl) dX1_init_53 (fun H locs hM hS => ?_)
  obtain ⟨h, hM, hX_o, hX_q1, hX_q2, hFr⟩ : ∃ h9, MW G s0.heap.size h9 H ∧ hat h9 o (eO 1 [.long ti, .int x, .ref q1, .ref q2, .int (nI 1), .int (nI 64), .long ti, .long (lN 0), .int x]) ∧ hat h9 q1 (eL G 8 (fun _ => 0)) ∧ hat h9 q2 (eI G 8 (fun _ => 0)) ∧ nFr h0 o h9 := ⟨_, hM, hat_put hX_o, hat_put_ne hX_q1 (fun z => hO_q1 (z ▸ ho.1)), hat_put_ne hX_q2 (fun z => hO_q2 (z ▸ ho.1)), hFr.put _⟩
  exact m_vret C hM hS (Nat.le_of_ble_eq_true rfl) (Nat.le_of_ble_eq_true rfl) dX1_init_56 ⟨rfl, q1, q2, hX_o, hX_q1, hX_q2, hO_q1, hO_q2, hN_q1_q2, hFr⟩
set_option maxRecDepth 100000 in
set_option maxHeartbeats 4000000 in
theorem c_X6_init {l : Launch} {G : mG} {a0 : Array Value} {s0 : State} (Z : mZ l G a0 s0) (h0 : Hp) (o : Nat) (ho : hat h0 o (eO 6 [.int 0, .int 0, .long 0, .null, .null, .null, .null, .null, .null, .null, .null, .null, .null, .null, .null, .null, .null])) : mM l G s0 yX6_init cX6_init 1 none 1 24 14 3090 h0 [.ref o] (fun v9 h9 => v9 = none ∧ ∃ q1 : Nat, ∃ q2 : Nat, ∃ q3 : Nat, ∃ q4 : Nat, ∃ q5 : Nat, ∃ q6 : Nat, ∃ q7 : Nat, ∃ q8 : Nat, ∃ q9 : Nat, ∃ q10 : Nat, ∃ q11 : Nat, ∃ q12 : Nat, ∃ q13 : Nat, ∃ q14 : Nat, hat h9 o (eO 6 [.int 0, .int 0, .long 0, .ref q1, .ref q2, .ref q3, .ref q4, .ref q5, .ref q6, .ref q7, .ref q8, .ref q9, .ref q10, .ref q11, .ref q12, .ref q13, .ref q14]) ∧ hat h9 q1 (eI G 10 (fun _ => 0)) ∧ hat h9 q2 (eI G 10 (fun _ => 0)) ∧ hat h9 q3 (eI G 10 (fun _ => 0)) ∧ hat h9 q4 (eI G 1200 (fun _ => 0)) ∧ hat h9 q5 (eI G 10 (fun _ => 0)) ∧ hat h9 q6 (eL G 1200 (fun _ => 0)) ∧ hat h9 q7 (eI G 480 (fun _ => 0)) ∧ hat h9 q8 (eI G 60 (fun _ => 0)) ∧ hat h9 q9 (eI G 60 (fun _ => 0)) ∧ hat h9 q10 (eI G 10 (fun _ => 0)) ∧ hat h9 q11 (eI G 10 (fun _ => 0)) ∧ hat h9 q12 (eI G 10 (fun _ => 0)) ∧ hat h9 q13 (eI G 10 (fun _ => 0)) ∧ hat h9 q14 (eL G 10 (fun _ => 0)) ∧ q1 ∉ h0.1 ∧ q2 ∉ h0.1 ∧ q3 ∉ h0.1 ∧ q4 ∉ h0.1 ∧ q5 ∉ h0.1 ∧ q6 ∉ h0.1 ∧ q7 ∉ h0.1 ∧ q8 ∉ h0.1 ∧ q9 ∉ h0.1 ∧ q10 ∉ h0.1 ∧ q11 ∉ h0.1 ∧ q12 ∉ h0.1 ∧ q13 ∉ h0.1 ∧ q14 ∉ h0.1 ∧ q1 ≠ q2 ∧ q1 ≠ q3 ∧ q2 ≠ q3 ∧ q1 ≠ q4 ∧ q2 ≠ q4 ∧ q3 ≠ q4 ∧ q1 ≠ q5 ∧ q2 ≠ q5 ∧ q3 ≠ q5 ∧ q4 ≠ q5 ∧ q1 ≠ q6 ∧ q2 ≠ q6 ∧ q3 ≠ q6 ∧ q4 ≠ q6 ∧ q5 ≠ q6 ∧ q1 ≠ q7 ∧ q2 ≠ q7 ∧ q3 ≠ q7 ∧ q4 ≠ q7 ∧ q5 ≠ q7 ∧ q6 ≠ q7 ∧ q1 ≠ q8 ∧ q2 ≠ q8 ∧ q3 ≠ q8 ∧ q4 ≠ q8 ∧ q5 ≠ q8 ∧ q6 ≠ q8 ∧ q7 ≠ q8 ∧ q1 ≠ q9 ∧ q2 ≠ q9 ∧ q3 ≠ q9 ∧ q4 ≠ q9 ∧ q5 ≠ q9 ∧ q6 ≠ q9 ∧ q7 ≠ q9 ∧ q8 ≠ q9 ∧ q1 ≠ q10 ∧ q2 ≠ q10 ∧ q3 ≠ q10 ∧ q4 ≠ q10 ∧ q5 ≠ q10 ∧ q6 ≠ q10 ∧ q7 ≠ q10 ∧ q8 ≠ q10 ∧ q9 ≠ q10 ∧ q1 ≠ q11 ∧ q2 ≠ q11 ∧ q3 ≠ q11 ∧ q4 ≠ q11 ∧ q5 ≠ q11 ∧ q6 ≠ q11 ∧ q7 ≠ q11 ∧ q8 ≠ q11 ∧ q9 ≠ q11 ∧ q10 ≠ q11 ∧ q1 ≠ q12 ∧ q2 ≠ q12 ∧ q3 ≠ q12 ∧ q4 ≠ q12 ∧ q5 ≠ q12 ∧ q6 ≠ q12 ∧ q7 ≠ q12 ∧ q8 ≠ q12 ∧ q9 ≠ q12 ∧ q10 ≠ q12 ∧ q11 ≠ q12 ∧ q1 ≠ q13 ∧ q2 ≠ q13 ∧ q3 ≠ q13 ∧ q4 ≠ q13 ∧ q5 ≠ q13 ∧ q6 ≠ q13 ∧ q7 ≠ q13 ∧ q8 ≠ q13 ∧ q9 ≠ q13 ∧ q10 ≠ q13 ∧ q11 ≠ q13 ∧ q12 ≠ q13 ∧ q1 ≠ q14 ∧ q2 ≠ q14 ∧ q3 ≠ q14 ∧ q4 ≠ q14 ∧ q5 ≠ q14 ∧ q6 ≠ q14 ∧ q7 ≠ q14 ∧ q8 ≠ q14 ∧ q9 ≠ q14 ∧ q10 ≠ q14 ∧ q11 ≠ q14 ∧ q12 ≠ q14 ∧ q13 ≠ q14 ∧ nFr h0 o h9) := by
  refine mM_in RX6 "<init>" rfl rfl (by decide +kernel) (Nat.le_of_ble_eq_true rfl) ?_
  intro p e s mt below meth c H locs C hM hS ls hl
  have hx := C.1
  have hb := C.2.1
  have hown := C.2.2.2.1
  have hE := C.2.2.2.2.2.2.1
  have hl : lv_has ls 1 [(0, .ref o)] := hl
  obtain ⟨h, hM, hX_o, hFr⟩ : ∃ h9, MW G s0.heap.size h9 H ∧ hat h9 o (eO 6 [.int 0, .int 0, .long 0, .null, .null, .null, .null, .null, .null, .null, .null, .null, .null, .null, .null, .null, .null]) ∧ nFr h0 o h9 := ⟨_, hM, ho, nFr.rf⟩
  refine lv_aload_n hx hb dX6_init_0 rfl (lv_at hl 0 rfl) ?_
  refine m_objInit Z C ml_X6_1 hl.1 dX6_init_1 ⟨Nat.le_of_ble_eq_true rfl, Nat.le_of_ble_eq_true rfl⟩ ?_
  refine W.eq (g2 := F0 mt 4 ls []) rfl ?_
  refine lv_aload_n hx hb dX6_init_4 rfl (lv_at hl 0 rfl) ?_
  refine lv_bipush (v := nI 10) hx hb dX6_init_5 (by decide) ?_
  refine m_newI Z C hM hS 10 (by decide) rfl (by decide) (Nat.le_of_ble_eq_true rfl) (Nat.le_of_ble_eq_true rfl) dX6_init_7 (fun q1 H hq hM hS => ?_)
  have hO_q1 := hFr.out hX_o hq
  obtain ⟨h, hM, hX_o, hX_q1, hFr⟩ : ∃ h9, MW G s0.heap.size h9 H ∧ hat h9 o (eO 6 [.int 0, .int 0, .long 0, .null, .null, .null, .null, .null, .null, .null, .null, .null, .null, .null, .null, .null, .null]) ∧ hat h9 q1 (eI G 10 (fun _ => 0)) ∧ nFr h0 o h9 := ⟨_, hM, hat_new_ne hX_o hq, hat_new, hFr.new hq _⟩
  refine m_putF Z C hM hS hX_o K_X6 3 (by decide) fl_X6_7 (v := .ref q1) rfl rfl rfl rfl (fs' := [.int 0, .int 0, .long 0, .ref q1, .null, .null, .null, .null, .null, .null, .null, .null, .null, .null, .null, .null, .null]) rfl (Nat.le_of_ble_eq_true rfl) dX6_init_9 (fun H locs hM hS => ?_)
  obtain ⟨h, hM, hX_o, hX_q1, hFr⟩ : ∃ h9, MW G s0.heap.size h9 H ∧ hat h9 o (eO 6 [.int 0, .int 0, .long 0, .ref q1, .null, .null, .null, .null, .null, .null, .null, .null, .null, .null, .null, .null, .null]) ∧ hat h9 q1 (eI G 10 (fun _ => 0)) ∧ nFr h0 o h9 := ⟨_, hM, hat_put hX_o, hat_put_ne hX_q1 (fun z => hO_q1 (z ▸ ho.1)), hFr.put _⟩
  refine lv_aload_n hx hb dX6_init_12 rfl (lv_at hl 0 rfl) ?_
  refine lv_bipush (v := nI 10) hx hb dX6_init_13 (by decide) ?_
  refine m_newI Z C hM hS 10 (by decide) rfl (by decide) (Nat.le_of_ble_eq_true rfl) (Nat.le_of_ble_eq_true rfl) dX6_init_15 (fun q2 H hq hM hS => ?_)
  have hO_q2 := hFr.out hX_o hq
  have hN_q1_q2 : q1 ≠ q2 := fun z => hq (z ▸ hX_q1.1)
  obtain ⟨h, hM, hX_o, hX_q1, hX_q2, hFr⟩ : ∃ h9, MW G s0.heap.size h9 H ∧ hat h9 o (eO 6 [.int 0, .int 0, .long 0, .ref q1, .null, .null, .null, .null, .null, .null, .null, .null, .null, .null, .null, .null, .null]) ∧ hat h9 q1 (eI G 10 (fun _ => 0)) ∧ hat h9 q2 (eI G 10 (fun _ => 0)) ∧ nFr h0 o h9 := ⟨_, hM, hat_new_ne hX_o hq, hat_new_ne hX_q1 hq, hat_new, hFr.new hq _⟩
  refine m_putF Z C hM hS hX_o K_X6 4 (by decide) fl_X6_13 (v := .ref q2) rfl rfl rfl rfl (fs' := [.int 0, .int 0, .long 0, .ref q1, .ref q2, .null, .null, .null, .null, .null, .null, .null, .null, .null, .null, .null, .null]) rfl (Nat.le_of_ble_eq_true rfl) dX6_init_17 (fun H locs hM hS => ?_)
  obtain ⟨h, hM, hX_o, hX_q1, hX_q2, hFr⟩ : ∃ h9, MW G s0.heap.size h9 H ∧ hat h9 o (eO 6 [.int 0, .int 0, .long 0, .ref q1, .ref q2, .null, .null, .null, .null, .null, .null, .null, .null, .null, .null, .null, .null]) ∧ hat h9 q1 (eI G 10 (fun _ => 0)) ∧ hat h9 q2 (eI G 10 (fun _ => 0)) ∧ nFr h0 o h9 := ⟨_, hM, hat_put hX_o, hat_put_ne hX_q1 (fun z => hO_q1 (z ▸ ho.1)), hat_put_ne hX_q2 (fun z => hO_q2 (z ▸ ho.1)), hFr.put _⟩
  refine lv_aload_n hx hb dX6_init_20 rfl (lv_at hl 0 rfl) ?_
  refine lv_bipush (v := nI 10) hx hb dX6_init_21 (by decide) ?_
  refine m_newI Z C hM hS 10 (by decide) rfl (by decide) (Nat.le_of_ble_eq_true rfl) (Nat.le_of_ble_eq_true rfl) dX6_init_23 (fun q3 H hq hM hS => ?_)
  have hO_q3 := hFr.out hX_o hq
  have hN_q1_q3 : q1 ≠ q3 := fun z => hq (z ▸ hX_q1.1)
  have hN_q2_q3 : q2 ≠ q3 := fun z => hq (z ▸ hX_q2.1)
  obtain ⟨h, hM, hX_o, hX_q1, hX_q2, hX_q3, hFr⟩ : ∃ h9, MW G s0.heap.size h9 H ∧ hat h9 o (eO 6 [.int 0, .int 0, .long 0, .ref q1, .ref q2, .null, .null, .null, .null, .null, .null, .null, .null, .null, .null, .null, .null]) ∧ hat h9 q1 (eI G 10 (fun _ => 0)) ∧ hat h9 q2 (eI G 10 (fun _ => 0)) ∧ hat h9 q3 (eI G 10 (fun _ => 0)) ∧ nFr h0 o h9 := ⟨_, hM, hat_new_ne hX_o hq, hat_new_ne hX_q1 hq, hat_new_ne hX_q2 hq, hat_new, hFr.new hq _⟩
  refine m_putF Z C hM hS hX_o K_X6 5 (by decide) fl_X6_16 (v := .ref q3) rfl rfl rfl rfl (fs' := [.int 0, .int 0, .long 0, .ref q1, .ref q2, .ref q3, .null, .null, .null, .null, .null, .null, .null, .null, .null, .null, .null]) rfl (Nat.le_of_ble_eq_true rfl) dX6_init_25 (fun H locs hM hS => ?_)
  obtain ⟨h, hM, hX_o, hX_q1, hX_q2, hX_q3, hFr⟩ : ∃ h9, MW G s0.heap.size h9 H ∧ hat h9 o (eO 6 [.int 0, .int 0, .long 0, .ref q1, .ref q2, .ref q3, .null, .null, .null, .null, .null, .null, .null, .null, .null, .null, .null]) ∧ hat h9 q1 (eI G 10 (fun _ => 0)) ∧ hat h9 q2 (eI G 10 (fun _ => 0)) ∧ hat h9 q3 (eI G 10 (fun _ => 0)) ∧ nFr h0 o h9 := ⟨_, hM, hat_put hX_o, hat_put_ne hX_q1 (fun z => hO_q1 (z ▸ ho.1)), hat_put_ne hX_q2 (fun z => hO_q2 (z ▸ ho.1)), hat_put_ne hX_q3 (fun z => hO_q3 (z ▸ ho.1)), hFr.put _⟩
  refine lv_aload_n hx hb dX6_init_28 rfl (lv_at hl 0 rfl) ?_
  refine lv_sipush (v := nI 1200) hx hb dX6_init_29 (by decide) ?_
  refine m_newI Z C hM hS 1200 (by decide) rfl (by decide) (Nat.le_of_ble_eq_true rfl) (Nat.le_of_ble_eq_true rfl) dX6_init_32 (fun q4 H hq hM hS => ?_)
  have hO_q4 := hFr.out hX_o hq
  have hN_q1_q4 : q1 ≠ q4 := fun z => hq (z ▸ hX_q1.1)
  have hN_q2_q4 : q2 ≠ q4 := fun z => hq (z ▸ hX_q2.1)
  have hN_q3_q4 : q3 ≠ q4 := fun z => hq (z ▸ hX_q3.1)
  obtain ⟨h, hM, hX_o, hX_q1, hX_q2, hX_q3, hX_q4, hFr⟩ : ∃ h9, MW G s0.heap.size h9 H ∧ hat h9 o (eO 6 [.int 0, .int 0, .long 0, .ref q1, .ref q2, .ref q3, .null, .null, .null, .null, .null, .null, .null, .null, .null, .null, .null]) ∧ hat h9 q1 (eI G 10 (fun _ => 0)) ∧ hat h9 q2 (eI G 10 (fun _ => 0)) ∧ hat h9 q3 (eI G 10 (fun _ => 0)) ∧ hat h9 q4 (eI G 1200 (fun _ => 0)) ∧ nFr h0 o h9 := ⟨_, hM, hat_new_ne hX_o hq, hat_new_ne hX_q1 hq, hat_new_ne hX_q2 hq, hat_new_ne hX_q3 hq, hat_new, hFr.new hq _⟩
  refine m_putF Z C hM hS hX_o K_X6 6 (by decide) fl_X6_19 (v := .ref q4) rfl rfl rfl rfl (fs' := [.int 0, .int 0, .long 0, .ref q1, .ref q2, .ref q3, .ref q4, .null, .null, .null, .null, .null, .null, .null, .null, .null, .null]) rfl (Nat.le_of_ble_eq_true rfl) dX6_init_34 (fun H locs hM hS => ?_)
  obtain ⟨h, hM, hX_o, hX_q1, hX_q2, hX_q3, hX_q4, hFr⟩ : ∃ h9, MW G s0.heap.size h9 H ∧ hat h9 o (eO 6 [.int 0, .int 0, .long 0, .ref q1, .ref q2, .ref q3, .ref q4, .null, .null, .null, .null, .null, .null, .null, .null, .null, .null]) ∧ hat h9 q1 (eI G 10 (fun _ => 0)) ∧ hat h9 q2 (eI G 10 (fun _ => 0)) ∧ hat h9 q3 (eI G 10 (fun _ => 0)) ∧ hat h9 q4 (eI G 1200 (fun _ => 0)) ∧ nFr h0 o h9 := ⟨_, hM, hat_put hX_o, hat_put_ne hX_q1 (fun z => hO_q1 (z ▸ ho.1)), hat_put_ne hX_q2 (fun z => hO_q2 (z ▸ ho.1)), hat_put_ne hX_q3 (fun z => hO_q3 (z ▸ ho.1)), hat_put_ne hX_q4 (fun z => hO_q4 (z ▸ ho.1)), hFr.put _⟩
  refine lv_aload_n hx hb dX6_init_37 rfl (lv_at hl 0 rfl) ?_
  refine lv_bipush (v := nI 10) hx hb dX6_init_38 (by decide) ?_
  refine m_newI Z C hM hS 10 (by decide) rfl (by decide) (Nat.le_of_ble_eq_true rfl) (Nat.le_of_ble_eq_true rfl) dX6_init_40 (fun q5 H hq hM hS => ?_)
  have hO_q5 := hFr.out hX_o hq
  have hN_q1_q5 : q1 ≠ q5 := fun z => hq (z ▸ hX_q1.1)
  have hN_q2_q5 : q2 ≠ q5 := fun z => hq (z ▸ hX_q2.1)
  have hN_q3_q5 : q3 ≠ q5 := fun z => hq (z ▸ hX_q3.1)
  have hN_q4_q5 : q4 ≠ q5 := fun z => hq (z ▸ hX_q4.1)
  obtain ⟨h, hM, hX_o, hX_q1, hX_q2, hX_q3, hX_q4, hX_q5, hFr⟩ : ∃ h9, MW G s0.heap.size h9 H ∧ hat h9 o (eO 6 [.int 0, .int 0, .long 0, .ref q1, .ref q2, .ref q3, .ref q4, .null, .null, .null, .null, .null, .null, .null, .null, .null, .null]) ∧ hat h9 q1 (eI G 10 (fun _ => 0)) ∧ hat h9 q2 (eI G 10 (fun _ => 0)) ∧ hat h9 q3 (eI G 10 (fun _ => 0)) ∧ hat h9 q4 (eI G 1200 (fun _ => 0)) ∧ hat h9 q5 (eI G 10 (fun _ => 0)) ∧ nFr h0 o h9 := ⟨_, hM, hat_new_ne hX_o hq, hat_new_ne hX_q1 hq, hat_new_ne hX_q2 hq, hat_new_ne hX_q3 hq, hat_new_ne hX_q4 hq, hat_new, hFr.new hq _⟩
  refine m_putF Z C hM hS hX_o K_X6 7 (by decide) fl_X6_22 (v := .ref q5) rfl rfl rfl rfl (fs' := [.int 0, .int 0, .long 0, .ref q1, .ref q2, .ref q3, .ref q4, .ref q5, .null, .null, .null, .null, .null, .null, .null, .null, .null]) rfl (Nat.le_of_ble_eq_true rfl) dX6_init_42 (fun H locs hM hS => ?_)
  obtain ⟨h, hM, hX_o, hX_q1, hX_q2, hX_q3, hX_q4, hX_q5, hFr⟩ : ∃ h9, MW G s0.heap.size h9 H ∧ hat h9 o (eO 6 [.int 0, .int 0, .long 0, .ref q1, .ref q2, .ref q3, .ref q4, .ref q5, .null, .null, .null, .null, .null, .null, .null, .null, .null]) ∧ hat h9 q1 (eI G 10 (fun _ => 0)) ∧ hat h9 q2 (eI G 10 (fun _ => 0)) ∧ hat h9 q3 (eI G 10 (fun _ => 0)) ∧ hat h9 q4 (eI G 1200 (fun _ => 0)) ∧ hat h9 q5 (eI G 10 (fun _ => 0)) ∧ nFr h0 o h9 := ⟨_, hM, hat_put hX_o, hat_put_ne hX_q1 (fun z => hO_q1 (z ▸ ho.1)), hat_put_ne hX_q2 (fun z => hO_q2 (z ▸ ho.1)), hat_put_ne hX_q3 (fun z => hO_q3 (z ▸ ho.1)), hat_put_ne hX_q4 (fun z => hO_q4 (z ▸ ho.1)), hat_put_ne hX_q5 (fun z => hO_q5 (z ▸ ho.1)), hFr.put _⟩
  refine lv_aload_n hx hb dX6_init_45 rfl (lv_at hl 0 rfl) ?_
  refine lv_sipush (v := nI 1200) hx hb dX6_init_46 (by decide) ?_
  refine m_newL Z C hM hS 1200 (by decide) rfl (by decide) (Nat.le_of_ble_eq_true rfl) (Nat.le_of_ble_eq_true rfl) dX6_init_49 (fun q6 H hq hM hS => ?_)
  have hO_q6 := hFr.out hX_o hq
  have hN_q1_q6 : q1 ≠ q6 := fun z => hq (z ▸ hX_q1.1)
  have hN_q2_q6 : q2 ≠ q6 := fun z => hq (z ▸ hX_q2.1)
  have hN_q3_q6 : q3 ≠ q6 := fun z => hq (z ▸ hX_q3.1)
  have hN_q4_q6 : q4 ≠ q6 := fun z => hq (z ▸ hX_q4.1)
  have hN_q5_q6 : q5 ≠ q6 := fun z => hq (z ▸ hX_q5.1)
  obtain ⟨h, hM, hX_o, hX_q1, hX_q2, hX_q3, hX_q4, hX_q5, hX_q6, hFr⟩ : ∃ h9, MW G s0.heap.size h9 H ∧ hat h9 o (eO 6 [.int 0, .int 0, .long 0, .ref q1, .ref q2, .ref q3, .ref q4, .ref q5, .null, .null, .null, .null, .null, .null, .null, .null, .null]) ∧ hat h9 q1 (eI G 10 (fun _ => 0)) ∧ hat h9 q2 (eI G 10 (fun _ => 0)) ∧ hat h9 q3 (eI G 10 (fun _ => 0)) ∧ hat h9 q4 (eI G 1200 (fun _ => 0)) ∧ hat h9 q5 (eI G 10 (fun _ => 0)) ∧ hat h9 q6 (eL G 1200 (fun _ => 0)) ∧ nFr h0 o h9 := ⟨_, hM, hat_new_ne hX_o hq, hat_new_ne hX_q1 hq, hat_new_ne hX_q2 hq, hat_new_ne hX_q3 hq, hat_new_ne hX_q4 hq, hat_new_ne hX_q5 hq, hat_new, hFr.new hq _⟩
  refine m_putF Z C hM hS hX_o K_X6 8 (by decide) fl_X6_25 (v := .ref q6) rfl rfl rfl rfl (fs' := [.int 0, .int 0, .long 0, .ref q1, .ref q2, .ref q3, .ref q4, .ref q5, .ref q6, .null, .null, .null, .null, .null, .null, .null, .null]) rfl (Nat.le_of_ble_eq_true rfl) dX6_init_51 (fun H locs hM hS => ?_)
  obtain ⟨h, hM, hX_o, hX_q1, hX_q2, hX_q3, hX_q4, hX_q5, hX_q6, hFr⟩ : ∃ h9, MW G s0.heap.size h9 H ∧ hat h9 o (eO 6 [.int 0, .int 0, .long 0, .ref q1, .ref q2, .ref q3, .ref q4, .ref q5, .ref q6, .null, .null, .null, .null, .null, .null, .null, .null]) ∧ hat h9 q1 (eI G 10 (fun _ => 0)) ∧ hat h9 q2 (eI G 10 (fun _ => 0)) ∧ hat h9 q3 (eI G 10 (fun _ => 0)) ∧ hat h9 q4 (eI G 1200 (fun _ => 0)) ∧ hat h9 q5 (eI G 10 (fun _ => 0)) ∧ hat h9 q6 (eL G 1200 (fun _ => 0)) ∧ nFr h0 o h9 := ⟨_, hM, hat_put hX_o, hat_put_ne hX_q1 (fun z => hO_q1 (z ▸ ho.1)), hat_put_ne hX_q2 (fun z => hO_q2 (z ▸ ho.1)), hat_put_ne hX_q3 (fun z => hO_q3 (z ▸ ho.1)), hat_put_ne hX_q4 (fun z => hO_q4 (z ▸ ho.1)), hat_put_ne hX_q5 (fun z => hO_q5 (z ▸ ho.1)), hat_put_ne hX_q6 (fun z => hO_q6 (z ▸ ho.1)), hFr.put _⟩
  refine lv_aload_n hx hb dX6_init_54 rfl (lv_at hl 0 rfl) ?_
  refine lv_sipush (v := nI 480) hx hb dX6_init_55 (by decide) ?_
  refine m_newI Z C hM hS 480 (by decide) rfl (by decide) (Nat.le_of_ble_eq_true rfl) (Nat.le_of_ble_eq_true rfl) dX6_init_58 (fun q7 H hq hM hS => ?_)
  have hO_q7 := hFr.out hX_o hq
  have hN_q1_q7 : q1 ≠ q7 := fun z => hq (z ▸ hX_q1.1)
  have hN_q2_q7 : q2 ≠ q7 := fun z => hq (z ▸ hX_q2.1)
  have hN_q3_q7 : q3 ≠ q7 := fun z => hq (z ▸ hX_q3.1)
  have hN_q4_q7 : q4 ≠ q7 := fun z => hq (z ▸ hX_q4.1)
  have hN_q5_q7 : q5 ≠ q7 := fun z => hq (z ▸ hX_q5.1)
  have hN_q6_q7 : q6 ≠ q7 := fun z => hq (z ▸ hX_q6.1)
  obtain ⟨h, hM, hX_o, hX_q1, hX_q2, hX_q3, hX_q4, hX_q5, hX_q6, hX_q7, hFr⟩ : ∃ h9, MW G s0.heap.size h9 H ∧ hat h9 o (eO 6 [.int 0, .int 0, .long 0, .ref q1, .ref q2, .ref q3, .ref q4, .ref q5, .ref q6, .null, .null, .null, .null, .null, .null, .null, .null]) ∧ hat h9 q1 (eI G 10 (fun _ => 0)) ∧ hat h9 q2 (eI G 10 (fun _ => 0)) ∧ hat h9 q3 (eI G 10 (fun _ => 0)) ∧ hat h9 q4 (eI G 1200 (fun _ => 0)) ∧ hat h9 q5 (eI G 10 (fun _ => 0)) ∧ hat h9 q6 (eL G 1200 (fun _ => 0)) ∧ hat h9 q7 (eI G 480 (fun _ => 0)) ∧ nFr h0 o h9 := ⟨_, hM, hat_new_ne hX_o hq, hat_new_ne hX_q1 hq, hat_new_ne hX_q2 hq, hat_new_ne hX_q3 hq, hat_new_ne hX_q4 hq, hat_new_ne hX_q5 hq, hat_new_ne hX_q6 hq, hat_new, hFr.new hq _⟩
  refine m_putF Z C hM hS hX_o K_X6 9 (by decide) fl_X6_29 (v := .ref q7) rfl rfl rfl rfl (fs' := [.int 0, .int 0, .long 0, .ref q1, .ref q2, .ref q3, .ref q4, .ref q5, .ref q6, .ref q7, .null, .null, .null, .null, .null, .null, .null]) rfl (Nat.le_of_ble_eq_true rfl) dX6_init_60 (fun H locs hM hS => ?_)
  obtain ⟨h, hM, hX_o, hX_q1, hX_q2, hX_q3, hX_q4, hX_q5, hX_q6, hX_q7, hFr⟩ : ∃ h9, MW G s0.heap.size h9 H ∧ hat h9 o (eO 6 [.int 0, .int 0, .long 0, .ref q1, .ref q2, .ref q3, .ref q4, .ref q5, .ref q6, .ref q7, .null, .null, .null, .null, .null, .null, .null]) ∧ hat h9 q1 (eI G 10 (fun _ => 0)) ∧ hat h9 q2 (eI G 10 (fun _ => 0)) ∧ hat h9 q3 (eI G 10 (fun _ => 0)) ∧ hat h9 q4 (eI G 1200 (fun _ => 0)) ∧ hat h9 q5 (eI G 10 (fun _ => 0)) ∧ hat h9 q6 (eL G 1200 (fun _ => 0)) ∧ hat h9 q7 (eI G 480 (fun _ => 0)) ∧ nFr h0 o h9 := ⟨_, hM, hat_put hX_o, hat_put_ne hX_q1 (fun z => hO_q1 (z ▸ ho.1)), hat_put_ne hX_q2 (fun z => hO_q2 (z ▸ ho.1)), hat_put_ne hX_q3 (fun z => hO_q3 (z ▸ ho.1)), hat_put_ne hX_q4 (fun z => hO_q4 (z ▸ ho.1)), hat_put_ne hX_q5 (fun z => hO_q5 (z ▸ ho.1)), hat_put_ne hX_q6 (fun z => hO_q6 (z ▸ ho.1)), hat_put_ne hX_q7 (fun z => hO_q7 (z ▸ ho.1)), hFr.put _⟩
  refine lv_aload_n hx hb dX6_init_63 rfl (lv_at hl 0 rfl) ?_
  refine lv_bipush (v := nI 60) hx hb dX6_init_64 (by decide) ?_
  refine m_newI Z C hM hS 60 (by decide) rfl (by decide) (Nat.le_of_ble_eq_true rfl) (Nat.le_of_ble_eq_true rfl) dX6_init_66 (fun q8 H hq hM hS => ?_)
  have hO_q8 := hFr.out hX_o hq
  have hN_q1_q8 : q1 ≠ q8 := fun z => hq (z ▸ hX_q1.1)
  have hN_q2_q8 : q2 ≠ q8 := fun z => hq (z ▸ hX_q2.1)
  have hN_q3_q8 : q3 ≠ q8 := fun z => hq (z ▸ hX_q3.1)
  have hN_q4_q8 : q4 ≠ q8 := fun z => hq (z ▸ hX_q4.1)
  have hN_q5_q8 : q5 ≠ q8 := fun z => hq (z ▸ hX_q5.1)
  have hN_q6_q8 : q6 ≠ q8 := fun z => hq (z ▸ hX_q6.1)
  have hN_q7_q8 : q7 ≠ q8 := fun z => hq (z ▸ hX_q7.1)
  obtain ⟨h, hM, hX_o, hX_q1, hX_q2, hX_q3, hX_q4, hX_q5, hX_q6, hX_q7, hX_q8, hFr⟩ : ∃ h9, MW G s0.heap.size h9 H ∧ hat h9 o (eO 6 [.int 0, .int 0, .long 0, .ref q1, .ref q2, .ref q3, .ref q4, .ref q5, .ref q6, .ref q7, .null, .null, .null, .null, .null, .null, .null]) ∧ hat h9 q1 (eI G 10 (fun _ => 0)) ∧ hat h9 q2 (eI G 10 (fun _ => 0)) ∧ hat h9 q3 (eI G 10 (fun _ => 0)) ∧ hat h9 q4 (eI G 1200 (fun _ => 0)) ∧ hat h9 q5 (eI G 10 (fun _ => 0)) ∧ hat h9 q6 (eL G 1200 (fun _ => 0)) ∧ hat h9 q7 (eI G 480 (fun _ => 0)) ∧ hat h9 q8 (eI G 60 (fun _ => 0)) ∧ nFr h0 o h9 := ⟨_, hM, hat_new_ne hX_o hq, hat_new_ne hX_q1 hq, hat_new_ne hX_q2 hq, hat_new_ne hX_q3 hq, hat_new_ne hX_q4 hq, hat_new_ne hX_q5 hq, hat_new_ne hX_q6 hq, hat_new_ne hX_q7 hq, hat_new, hFr.new hq _⟩
  refine m_putF Z C hM hS hX_o K_X6 10 (by decide) fl_X6_32 (v := .ref q8) rfl rfl rfl rfl (fs' := [.int 0, .int 0, .long 0, .ref q1, .ref q2, .ref q3, .ref q4, .ref q5, .ref q6, .ref q7, .ref q8, .null, .null, .null, .null, .null, .null]) rfl (Nat.le_of_ble_eq_true rfl) dX6_init_68 (fun H locs hM hS => ?_)
  obtain ⟨h, hM, hX_o, hX_q1, hX_q2, hX_q3, hX_q4, hX_q5, hX_q6, hX_q7, hX_q8, hFr⟩ : ∃ h9, MW G s0.heap.size h9 H ∧ hat h9 o (eO 6 [.int 0, .int 0, .long 0, .ref q1, .ref q2, .ref q3, .ref q4, .ref q5, .ref q6, .ref q7, .ref q8, .null, .null, .null, .null, .null, .null]) ∧ hat h9 q1 (eI G 10 (fun _ => 0)) ∧ hat h9 q2 (eI G 10 (fun _ => 0)) ∧ hat h9 q3 (eI G 10 (fun _ => 0)) ∧ hat h9 q4 (eI G 1200 (fun _ => 0)) ∧ hat h9 q5 (eI G 10 (fun _ => 0)) ∧ hat h9 q6 (eL G 1200 (fun _ => 0)) ∧ hat h9 q7 (eI G 480 (fun _ => 0)) ∧ hat h9 q8 (eI G 60 (fun _ => 0)) ∧ nFr h0 o h9 := ⟨_, hM, hat_put hX_o, hat_put_ne hX_q1 (fun z => hO_q1 (z ▸ ho.1)), hat_put_ne hX_q2 (fun z => hO_q2 (z ▸ ho.1)), hat_put_ne hX_q3 (fun z => hO_q3 (z ▸ ho.1)), hat_put_ne hX_q4 (fun z => hO_q4 (z ▸ ho.1)), hat_put_ne hX_q5 (fun z => hO_q5 (z ▸ ho.1)), hat_put_ne hX_q6 (fun z => hO_q6 (z ▸ ho.1)), hat_put_ne hX_q7 (fun z => hO_q7 (z ▸ ho.1)), hat_put_ne hX_q8 (fun z => hO_q8 (z ▸ ho.1)), hFr.put _⟩
  refine lv_aload_n hx hb dX6_init_71 rfl (lv_at hl 0 rfl) ?_
  refine lv_bipush (v := nI 60) hx hb dX6_init_72 (by decide) ?_
  refine m_newI Z C hM hS 60 (by decide) rfl (by decide) (Nat.le_of_ble_eq_true rfl) (Nat.le_of_ble_eq_true rfl) dX6_init_74 (fun q9 H hq hM hS => ?_)
  have hO_q9 := hFr.out hX_o hq
  have hN_q1_q9 : q1 ≠ q9 := fun z => hq (z ▸ hX_q1.1)
  have hN_q2_q9 : q2 ≠ q9 := fun z => hq (z ▸ hX_q2.1)
  have hN_q3_q9 : q3 ≠ q9 := fun z => hq (z ▸ hX_q3.1)
  have hN_q4_q9 : q4 ≠ q9 := fun z => hq (z ▸ hX_q4.1)
  have hN_q5_q9 : q5 ≠ q9 := fun z => hq (z ▸ hX_q5.1)
  have hN_q6_q9 : q6 ≠ q9 := fun z => hq (z ▸ hX_q6.1)
  have hN_q7_q9 : q7 ≠ q9 := fun z => hq (z ▸ hX_q7.1)
  have hN_q8_q9 : q8 ≠ q9 := fun z => hq (z ▸ hX_q8.1)
  obtain ⟨h, hM, hX_o, hX_q1, hX_q2, hX_q3, hX_q4, hX_q5, hX_q6, hX_q7, hX_q8, hX_q9, hFr⟩ : ∃ h9, MW G s0.heap.size h9 H ∧ hat h9 o (eO 6 [.int 0, .int 0, .long 0, .ref q1, .ref q2, .ref q3, .ref q4, .ref q5, .ref q6, .ref q7, .ref q8, .null, .null, .null, .null, .null, .null]) ∧ hat h9 q1 (eI G 10 (fun _ => 0)) ∧ hat h9 q2 (eI G 10 (fun _ => 0)) ∧ hat h9 q3 (eI G 10 (fun _ => 0)) ∧ hat h9 q4 (eI G 1200 (fun _ => 0)) ∧ hat h9 q5 (eI G 10 (fun _ => 0)) ∧ hat h9 q6 (eL G 1200 (fun _ => 0)) ∧ hat h9 q7 (eI G 480 (fun _ => 0)) ∧ hat h9 q8 (eI G 60 (fun _ => 0)) ∧ hat h9 q9 (eI G 60 (fun _ => 0)) ∧ nFr h0 o h9 := ⟨_, hM, hat_new_ne hX_o hq, hat_new_ne hX_q1 hq, hat_new_ne hX_q2 hq, hat_new_ne hX_q3 hq, hat_new_ne hX_q4 hq, hat_new_ne hX_q5 hq, hat_new_ne hX_q6 hq, hat_new_ne hX_q7 hq, hat_new_ne hX_q8 hq, hat_new, hFr.new hq _⟩
  refine m_putF Z C hM hS hX_o K_X6 11 (by decide) fl_X6_35 (v := .ref q9) rfl rfl rfl rfl (fs' := [.int 0, .int 0, .long 0, .ref q1, .ref q2, .ref q3, .ref q4, .ref q5, .ref q6, .ref q7, .ref q8, .ref q9, .null, .null, .null, .null, .null]) rfl (Nat.le_of_ble_eq_true rfl) dX6_init_76 (fun H locs hM hS => ?_)
  obtain ⟨h, hM, hX_o, hX_q1, hX_q2, hX_q3, hX_q4, hX_q5, hX_q6, hX_q7, hX_q8, hX_q9, hFr⟩ : ∃ h9, MW G s0.heap.size h9 H ∧ hat h9 o (eO 6 [.int 0, .int 0, .long 0, .ref q1, .ref q2, .ref q3, .ref q4, .ref q5, .ref q6, .ref q7, .ref q8, .ref q9, .null, .null, .null, .null, .null]) ∧ hat h9 q1 (eI G 10 (fun _ => 0)) ∧ hat h9 q2 (eI G 10 (fun _ => 0)) ∧ hat h9 q3 (eI G 10 (fun _ => 0)) ∧ hat h9 q4 (eI G 1200 (fun _ => 0)) ∧ hat h9 q5 (eI G 10 (fun _ => 0)) ∧ hat h9 q6 (eL G 1200 (fun _ => 0)) ∧ hat h9 q7 (eI G 480 (fun _ => 0)) ∧ hat h9 q8 (eI G 60 (fun _ => 0)) ∧ hat h9 q9 (eI G 60 (fun _ => 0)) ∧ nFr h0 o h9 := ⟨_, hM, hat_put hX_o, hat_put_ne hX_q1 (fun z => hO_q1 (z ▸ ho.1)), hat_put_ne hX_q2 (fun z => hO_q2 (z ▸ ho.1)), hat_put_ne hX_q3 (fun z => hO_q3 (z ▸ ho.1)), hat_put_ne hX_q4 (fun z => hO_q4 (z ▸ ho.1)), hat_put_ne hX_q5 (fun z => hO_q5 (z ▸ ho.1)), hat_put_ne hX_q6 (fun z => hO_q6 (z ▸ ho.1)), hat_put_ne hX_q7 (fun z => hO_q7 (z ▸ ho.1)), hat_put_ne hX_q8 (fun z => hO_q8 (z ▸ ho.1)), hat_put_ne hX_q9 (fun z => hO_q9 (z ▸ ho.1)), hFr.put _⟩
  refine lv_aload_n hx hb dX6_init_79 rfl (lv_at hl 0 rfl) ?_
  refine lv_bipush (v := nI 10) hx hb dX6_init_80 (by decide) ?_
  refine m_newI Z C hM hS 10 (by decide) rfl (by decide) (Nat.le_of_ble_eq_true rfl) (Nat.le_of_ble_eq_true rfl) dX6_init_82 (fun q10 H hq hM hS => ?_)
  have hO_q10 := hFr.out hX_o hq
  have hN_q1_q10 : q1 ≠ q10 := fun z => hq (z ▸ hX_q1.1)
  have hN_q2_q10 : q2 ≠ q10 := fun z => hq (z ▸ hX_q2.1)
  have hN_q3_q10 : q3 ≠ q10 := fun z => hq (z ▸ hX_q3.1)
  have hN_q4_q10 : q4 ≠ q10 := fun z => hq (z ▸ hX_q4.1)
  have hN_q5_q10 : q5 ≠ q10 := fun z => hq (z ▸ hX_q5.1)
  have hN_q6_q10 : q6 ≠ q10 := fun z => hq (z ▸ hX_q6.1)
  have hN_q7_q10 : q7 ≠ q10 := fun z => hq (z ▸ hX_q7.1)
  have hN_q8_q10 : q8 ≠ q10 := fun z => hq (z ▸ hX_q8.1)
  have hN_q9_q10 : q9 ≠ q10 := fun z => hq (z ▸ hX_q9.1)
  obtain ⟨h, hM, hX_o, hX_q1, hX_q2, hX_q3, hX_q4, hX_q5, hX_q6, hX_q7, hX_q8, hX_q9, hX_q10, hFr⟩ : ∃ h9, MW G s0.heap.size h9 H ∧ hat h9 o (eO 6 [.int 0, .int 0, .long 0, .ref q1, .ref q2, .ref q3, .ref q4, .ref q5, .ref q6, .ref q7, .ref q8, .ref q9, .null, .null, .null, .null, .null]) ∧ hat h9 q1 (eI G 10 (fun _ => 0)) ∧ hat h9 q2 (eI G 10 (fun _ => 0)) ∧ hat h9 q3 (eI G 10 (fun _ => 0)) ∧ hat h9 q4 (eI G 1200 (fun _ => 0)) ∧ hat h9 q5 (eI G 10 (fun _ => 0)) ∧ hat h9 q6 (eL G 1200 (fun _ => 0)) ∧ hat h9 q7 (eI G 480 (fun _ => 0)) ∧ hat h9 q8 (eI G 60 (fun _ => 0)) ∧ hat h9 q9 (eI G 60 (fun _ => 0)) ∧ hat h9 q10 (eI G 10 (fun _ => 0)) ∧ nFr h0 o h9 := ⟨_, hM, hat_new_ne hX_o hq, hat_new_ne hX_q1 hq, hat_new_ne hX_q2 hq, hat_new_ne hX_q3 hq, hat_new_ne hX_q4 hq, hat_new_ne hX_q5 hq, hat_new_ne hX_q6 hq, hat_new_ne hX_q7 hq, hat_new_ne hX_q8 hq, hat_new_ne hX_q9 hq, hat_new, hFr.new hq _⟩
  refine m_putF Z C hM hS hX_o K_X6 12 (by decide) fl_X6_38 (v := .ref q10) rfl rfl rfl rfl (fs' := [.int 0, .int 0, .long 0, .ref q1, .ref q2, .ref q3, .ref q4, .ref q5, .ref q6, .ref q7, .ref q8, .ref q9, .ref q10, .null, .null, .null, .null]) rfl (Nat.le_of_ble_eq_true rfl) dX6_init_84 (fun H locs hM hS => ?_)
  obtain ⟨h, hM, hX_o, hX_q1, hX_q2, hX_q3, hX_q4, hX_q5, hX_q6, hX_q7, hX_q8, hX_q9, hX_q10, hFr⟩ : ∃ h9, MW G s0.heap.size h9 H ∧ hat h9 o (eO 6 [.int 0, .int 0, .long 0, .ref q1, .ref q2, .ref q3, .ref q4, .ref q5, .ref q6, .ref q7, .ref q8, .ref q9, .ref q10, .null, .null, .null, .null]) ∧ hat h9 q1 (eI G 10 (fun _ => 0)) ∧ hat h9 q2 (eI G 10 (fun _ => 0)) ∧ hat h9 q3 (eI G 10 (fun _ => 0)) ∧ hat h9 q4 (eI G 1200 (fun _ => 0)) ∧ hat h9 q5 (eI G 10 (fun _ => 0)) ∧ hat h9 q6 (eL G 1200 (fun _ => 0)) ∧ hat h9 q7 (eI G 480 (fun _ => 0)) ∧ hat h9 q8 (eI G 60 (fun _ => 0)) ∧ hat h9 q9 (eI G 60 (fun _ => 0)) ∧ hat h9 q10 (eI G 10 (fun _ => 0)) ∧ nFr h0 o h9 := ⟨_, hM, hat_put hX_o, hat_put_ne hX_q1 (fun z => hO_q1 (z ▸ ho.1)), hat_put_ne hX_q2 (fun z => hO_q2 (z ▸ ho.1)), hat_put_ne hX_q3 (fun z => hO_q3 (z ▸ ho.1)), hat_put_ne hX_q4 (fun z => hO_q4 (z ▸ ho.1)), hat_put_ne hX_q5 (fun z => hO_q5 (z ▸ ho.1)), hat_put_ne hX_q6 (fun z => hO_q6 (z ▸ ho.1)), hat_put_ne hX_q7 (fun z => hO_q7 (z ▸ ho.1)), hat_put_ne hX_q8 (fun z => hO_q8 (z ▸ ho.1)), hat_put_ne hX_q9 (fun z => hO_q9 (z ▸ ho.1)), hat_put_ne hX_q10 (fun z => hO_q10 (z ▸ ho.1)), hFr.put _⟩
  refine lv_aload_n hx hb dX6_init_87 rfl (lv_at hl 0 rfl) ?_
  refine lv_bipush (v := nI 10) hx hb dX6_init_88 (by decide) ?_
  refine m_newI Z C hM hS 10 (by decide) rfl (by decide) (Nat.le_of_ble_eq_true rfl) (Nat.le_of_ble_eq_true rfl) dX6_init_90 (fun q11 H hq hM hS => ?_)
  have hO_q11 := hFr.out hX_o hq
  have hN_q1_q11 : q1 ≠ q11 := fun z => hq (z ▸ hX_q1.1)
  have hN_q2_q11 : q2 ≠ q11 := fun z => hq (z ▸ hX_q2.1)
  have hN_q3_q11 : q3 ≠ q11 := fun z => hq (z ▸ hX_q3.1)
  have hN_q4_q11 : q4 ≠ q11 := fun z => hq (z ▸ hX_q4.1)
  have hN_q5_q11 : q5 ≠ q11 := fun z => hq (z ▸ hX_q5.1)
  have hN_q6_q11 : q6 ≠ q11 := fun z => hq (z ▸ hX_q6.1)
  have hN_q7_q11 : q7 ≠ q11 := fun z => hq (z ▸ hX_q7.1)
  have hN_q8_q11 : q8 ≠ q11 := fun z => hq (z ▸ hX_q8.1)
  have hN_q9_q11 : q9 ≠ q11 := fun z => hq (z ▸ hX_q9.1)
  have hN_q10_q11 : q10 ≠ q11 := fun z => hq (z ▸ hX_q10.1)
  obtain ⟨h, hM, hX_o, hX_q1, hX_q2, hX_q3, hX_q4, hX_q5, hX_q6, hX_q7, hX_q8, hX_q9, hX_q10, hX_q11, hFr⟩ : ∃ h9, MW G s0.heap.size h9 H ∧ hat h9 o (eO 6 [.int 0, .int 0, .long 0, .ref q1, .ref q2, .ref q3, .ref q4, .ref q5, .ref q6, .ref q7, .ref q8, .ref q9, .ref q10, .null, .null, .null, .null]) ∧ hat h9 q1 (eI G 10 (fun _ => 0)) ∧ hat h9 q2 (eI G 10 (fun _ => 0)) ∧ hat h9 q3 (eI G 10 (fun _ => 0)) ∧ hat h9 q4 (eI G 1200 (fun _ => 0)) ∧ hat h9 q5 (eI G 10 (fun _ => 0)) ∧ hat h9 q6 (eL G 1200 (fun _ => 0)) ∧ hat h9 q7 (eI G 480 (fun _ => 0)) ∧ hat h9 q8 (eI G 60 (fun _ => 0)) ∧ hat h9 q9 (eI G 60 (fun _ => 0)) ∧ hat h9 q10 (eI G 10 (fun _ => 0)) ∧ hat h9 q11 (eI G 10 (fun _ => 0)) ∧ nFr h0 o h9 := ⟨_, hM, hat_new_ne hX_o hq, hat_new_ne hX_q1 hq, hat_new_ne hX_q2 hq, hat_new_ne hX_q3 hq, hat_new_ne hX_q4 hq, hat_new_ne hX_q5 hq, hat_new_ne hX_q6 hq, hat_new_ne hX_q7 hq, hat_new_ne hX_q8 hq, hat_new_ne hX_q9 hq, hat_new_ne hX_q10 hq, hat_new, hFr.new hq _⟩
  refine m_putF Z C hM hS hX_o K_X6 13 (by decide) fl_X6_41 (v := .ref q11) rfl rfl rfl rfl (fs' := [.int 0, .int 0, .long 0, .ref q1, .ref q2, .ref q3, .ref q4, .ref q5, .ref q6, .ref q7, .ref q8, .ref q9, .ref q10, .ref q11, .null, .null, .null]) rfl (Nat.le_of_ble_eq_true rfl) dX6_init_92 (fun H locs hM hS => ?_)
  obtain ⟨h, hM, hX_o, hX_q1, hX_q2, hX_q3, hX_q4, hX_q5, hX_q6, hX_q7, hX_q8, hX_q9, hX_q10, hX_q11, hFr⟩ : ∃ h9, MW G s0.heap.size h9 H ∧ hat h9 o (eO 6 [.int 0, .int 0, .long 0, .ref q1, .ref q2, .ref q3, .ref q4, .ref q5, .ref q6, .ref q7, .ref q8, .ref q9, .ref q10, .ref q11, .null, .null, .null]) ∧ hat h9 q1 (eI G 10 (fun _ => 0)) ∧ hat h9 q2 (eI G 10 (fun _ => 0)) ∧ hat h9 q3 (eI G 10 (fun _ => 0)) ∧ hat h9 q4 (eI G 1200 (fun _ => 0)) ∧ hat h9 q5 (eI G 10 (fun _ => 0)) ∧ hat h9 q6 (eL G 1200 (fun _ => 0)) ∧ hat h9 q7 (eI G 480 (fun _ => 0)) ∧ hat h9 q8 (eI G 60 (fun _ => 0)) ∧ hat h9 q9 (eI G 60 (fun _ => 0)) ∧ hat h9 q10 (eI G 10 (fun _ => 0)) ∧ hat h9 q11 (eI G 10 (fun _ => 0)) ∧ nFr h0 o h9 := ⟨_, hM, hat_put hX_o, hat_put_ne hX_q1 (fun z => hO_q1 (z ▸ ho.1)), hat_put_ne hX_q2 (fun z => hO_q2 (z ▸ ho.1)), hat_put_ne hX_q3 (fun z => hO_q3 (z ▸ ho.1)), hat_put_ne hX_q4 (fun z => hO_q4 (z ▸ ho.1)), hat_put_ne hX_q5 (fun z => hO_q5 (z ▸ ho.1)), hat_put_ne hX_q6 (fun z => hO_q6 (z ▸ ho.1)), hat_put_ne hX_q7 (fun z => hO_q7 (z ▸ ho.1)), hat_put_ne hX_q8 (fun z => hO_q8 (z ▸ ho.1)), hat_put_ne hX_q9 (fun z => hO_q9 (z ▸ ho.1)), hat_put_ne hX_q10 (fun z => hO_q10 (z ▸ ho.1)), hat_put_ne hX_q11 (fun z => hO_q11 (z ▸ ho.1)), hFr.put _⟩
  refine lv_aload_n hx hb dX6_init_95 rfl (lv_at hl 0 rfl) ?_
  refine lv_bipush (v := nI 10) hx hb dX6_init_96 (by decide) ?_
  refine m_newI Z C hM hS 10 (by decide) rfl (by decide) (Nat.le_of_ble_eq_true rfl) (Nat.le_of_ble_eq_true rfl) dX6_init_98 (fun q12 H hq hM hS => ?_)
  have hO_q12 := hFr.out hX_o hq
  have hN_q1_q12 : q1 ≠ q12 := fun z => hq (z ▸ hX_q1.1)
  have hN_q2_q12 : q2 ≠ q12 := fun z => hq (z ▸ hX_q2.1)
  have hN_q3_q12 : q3 ≠ q12 := fun z => hq (z ▸ hX_q3.1)
  have hN_q4_q12 : q4 ≠ q12 := fun z => hq (z ▸ hX_q4.1)
  have hN_q5_q12 : q5 ≠ q12 := fun z => hq (z ▸ hX_q5.1)
  have hN_q6_q12 : q6 ≠ q12 := fun z => hq (z ▸ hX_q6.1)
  have hN_q7_q12 : q7 ≠ q12 := fun z => hq (z ▸ hX_q7.1)
  have hN_q8_q12 : q8 ≠ q12 := fun z => hq (z ▸ hX_q8.1)
  have hN_q9_q12 : q9 ≠ q12 := fun z => hq (z ▸ hX_q9.1)
  have hN_q10_q12 : q10 ≠ q12 := fun z => hq (z ▸ hX_q10.1)
  have hN_q11_q12 : q11 ≠ q12 := fun z => hq (z ▸ hX_q11.1)
  obtain ⟨h, hM, hX_o, hX_q1, hX_q2, hX_q3, hX_q4, hX_q5, hX_q6, hX_q7, hX_q8, hX_q9, hX_q10, hX_q11, hX_q12, hFr⟩ : ∃ h9, MW G s0.heap.size h9 H ∧ hat h9 o (eO 6 [.int 0, .int 0, .long 0, .ref q1, .ref q2, .ref q3, .ref q4, .ref q5, .ref q6, .ref q7, .ref q8, .ref q9, .ref q10, .ref q11, .null, .null, .null]) ∧ hat h9 q1 (eI G 10 (fun _ => 0)) ∧ hat h9 q2 (eI G 10 (fun _ => 0)) ∧ hat h9 q3 (eI G 10 (fun _ => 0)) ∧ hat h9 q4 (eI G 1200 (fun _ => 0)) ∧ hat h9 q5 (eI G 10 (fun _ => 0)) ∧ hat h9 q6 (eL G 1200 (fun _ => 0)) ∧ hat h9 q7 (eI G 480 (fun _ => 0)) ∧ hat h9 q8 (eI G 60 (fun _ => 0)) ∧ hat h9 q9 (eI G 60 (fun _ => 0)) ∧ hat h9 q10 (eI G 10 (fun _ => 0)) ∧ hat h9 q11 (eI G 10 (fun _ => 0)) ∧ hat h9 q12 (eI G 10 (fun _ => 0)) ∧ nFr h0 o h9 := ⟨_, hM, hat_new_ne hX_o hq, hat_new_ne hX_q1 hq, hat_new_ne hX_q2 hq, hat_new_ne hX_q3 hq, hat_new_ne hX_q4 hq, hat_new_ne hX_q5 hq, hat_new_ne hX_q6 hq, hat_new_ne hX_q7 hq, hat_new_ne hX_q8 hq, hat_new_ne hX_q9 hq, hat_new_ne hX_q10 hq, hat_new_ne hX_q11 hq, hat_new, hFr.new hq _⟩
  refine m_putF Z C hM hS hX_o K_X6 14 (by decide) fl_X6_44 (v := .ref q12) rfl rfl rfl rfl (fs' := [.int 0, .int 0, .long 0, .ref q1, .ref q2, .ref q3, .ref q4, .ref q5, .ref q6, .ref q7, .ref q8, .ref q9, .ref q10, .ref q11, .ref q12, .null, .null]) rfl (Nat.le_of_ble_eq_true rfl) dX6_init_100 (fun H locs hM hS => ?_)
  obtain ⟨h, hM, hX_o, hX_q1, hX_q2, hX_q3, hX_q4, hX_q5, hX_q6, hX_q7, hX_q8, hX_q9, hX_q10, hX_q11, hX_q12, hFr⟩ : ∃ h9, MW G s0.heap.size h9 H ∧ hat h9 o (eO 6 [.int 0, .int 0, .long 0, .ref q1, .ref q2, .ref q3, .ref q4, .ref q5, .ref q6, .ref q7, .ref q8, .ref q9, .ref q10, .ref q11, .ref q12, .null, .null]) ∧ hat h9 q1 (eI G 10 (fun _ => 0)) ∧ hat h9 q2 (eI G 10 (fun _ => 0)) ∧ hat h9 q3 (eI G 10 (fun _ => 0)) ∧ hat h9 q4 (eI G 1200 (fun _ => 0)) ∧ hat h9 q5 (eI G 10 (fun _ => 0)) ∧ hat h9 q6 (eL G 1200 (fun _ => 0)) ∧ hat h9 q7 (eI G 480 (fun _ => 0)) ∧ hat h9 q8 (eI G 60 (fun _ => 0)) ∧ hat h9 q9 (eI G 60 (fun _ => 0)) ∧ hat h9 q10 (eI G 10 (fun _ => 0)) ∧ hat h9 q11 (eI G 10 (fun _ => 0)) ∧ hat h9 q12 (eI G 10 (fun _ => 0)) ∧ nFr h0 o h9 := ⟨_, hM, hat_put hX_o, hat_put_ne hX_q1 (fun z => hO_q1 (z ▸ ho.1)), hat_put_ne hX_q2 (fun z => hO_q2 (z ▸ ho.1)), hat_put_ne hX_q3 (fun z => hO_q3 (z ▸ ho.1)), hat_put_ne hX_q4 (fun z => hO_q4 (z ▸ ho.1)), hat_put_ne hX_q5 (fun z => hO_q5 (z ▸ ho.1)), hat_put_ne hX_q6 (fun z => hO_q6 (z ▸ ho.1)), hat_put_ne hX_q7 (fun z => hO_q7 (z ▸ ho.1)), hat_put_ne hX_q8 (fun z => hO_q8 (z ▸ ho.1)), hat_put_ne hX_q9 (fun z => hO_q9 (z ▸ ho.1)), hat_put_ne hX_q10 (fun z => hO_q10 (z ▸ ho.1)), hat_put_ne hX_q11 (fun z => hO_q11 (z ▸ ho.1)), hat_put_ne hX_q12 (fun z => hO_q12 (z ▸ ho.1)), hFr.put _⟩
  refine lv_aload_n hx hb dX6_init_103 rfl (lv_at hl 0 rfl) ?_
  refine lv_bipush (v := nI 10) hx hb dX6_init_104 (by decide) ?_
  refine m_newI Z C hM hS 10 (by decide) rfl (by decide) (Nat.le_of_ble_eq_true rfl) (Nat.le_of_ble_eq_true rfl) dX6_init_106 (fun q13 H hq hM hS => ?_)
  have hO_q13 := hFr.out hX_o hq
  have hN_q1_q13 : q1 ≠ q13 := fun z => hq (z ▸ hX_q1.1)
  have hN_q2_q13 : q2 ≠ q13 := fun z => hq (z ▸ hX_q2.1)
  have hN_q3_q13 : q3 ≠ q13 := fun z => hq (z ▸ hX_q3.1)
  have hN_q4_q13 : q4 ≠ q13 := fun z => hq (z ▸ hX_q4.1)
  have hN_q5_q13 : q5 ≠ q13 := fun z => hq (z ▸ hX_q5.1)
  have hN_q6_q13 : q6 ≠ q13 := fun z => hq (z ▸ hX_q6.1)
  have hN_q7_q13 : q7 ≠ q13 := fun z => hq (z ▸ hX_q7.1)
  have hN_q8_q13 : q8 ≠ q13 := fun z => hq (z ▸ hX_q8.1)
  have hN_q9_q13 : q9 ≠ q13 := fun z => hq (z ▸ hX_q9.1)
  have hN_q10_q13 : q10 ≠ q13 := fun z => hq (z ▸ hX_q10.1)
  have hN_q11_q13 : q11 ≠ q13 := fun z => hq (z ▸ hX_q11.1)
  have hN_q12_q13 : q12 ≠ q13 := fun z => hq (z ▸ hX_q12.1)
  obtain ⟨h, hM, hX_o, hX_q1, hX_q2, hX_q3, hX_q4, hX_q5, hX_q6, hX_q7, hX_q8, hX_q9, hX_q10, hX_q11, hX_q12, hX_q13, hFr⟩ : ∃ h9, MW G s0.heap.size h9 H ∧ hat h9 o (eO 6 [.int 0, .int 0, .long 0, .ref q1, .ref q2, .ref q3, .ref q4, .ref q5, .ref q6, .ref q7, .ref q8, .ref q9, .ref q10, .ref q11, .ref q12, .null, .null]) ∧ hat h9 q1 (eI G 10 (fun _ => 0)) ∧ hat h9 q2 (eI G 10 (fun _ => 0)) ∧ hat h9 q3 (eI G 10 (fun _ => 0)) ∧ hat h9 q4 (eI G 1200 (fun _ => 0)) ∧ hat h9 q5 (eI G 10 (fun _ => 0)) ∧ hat h9 q6 (eL G 1200 (fun _ => 0)) ∧ hat h9 q7 (eI G 480 (fun _ => 0)) ∧ hat h9 q8 (eI G 60 (fun _ => 0)) ∧ hat h9 q9 (eI G 60 (fun _ => 0)) ∧ hat h9 q10 (eI G 10 (fun _ => 0)) ∧ hat h9 q11 (eI G 10 (fun _ => 0)) ∧ hat h9 q12 (eI G 10 (fun _ => 0)) ∧ hat h9 q13 (eI G 10 (fun _ => 0)) ∧ nFr h0 o h9 := ⟨_, hM, hat_new_ne hX_o hq, hat_new_ne hX_q1 hq, hat_new_ne hX_q2 hq, hat_new_ne hX_q3 hq, hat_new_ne hX_q4 hq, hat_new_ne hX_q5 hq, hat_new_ne hX_q6 hq, hat_new_ne hX_q7 hq, hat_new_ne hX_q8 hq, hat_new_ne hX_q9 hq, hat_new_ne hX_q10 hq, hat_new_ne hX_q11 hq, hat_new_ne hX_q12 hq, hat_new, hFr.new hq _⟩
  refine m_putF Z C hM hS hX_o K_X6 15 (by decide) fl_X6_47 (v := .ref q13) rfl rfl rfl rfl (fs' := [.int 0, .int 0, .long 0, .ref q1, .ref q2, .ref q3, .ref q4, .ref q5, .ref q6, .ref q7, .ref q8, .ref q9, .ref q10, .ref q11, .ref q12, .ref q13, .null]) rfl (Nat.le_of_ble_eq_true rfl) dX6_init_108 (fun H locs hM hS => ?_)
  obtain ⟨h, hM, hX_o, hX_q1, hX_q2, hX_q3, hX_q4, hX_q5, hX_q6, hX_q7, hX_q8, hX_q9, hX_q10, hX_q11, hX_q12, hX_q13, hFr⟩ : ∃ h9, MW G s0.heap.size h9 H ∧ hat h9 o (eO 6 [.int 0, .int 0, .long 0, .ref q1, .ref q2, .ref q3, .ref q4, .ref q5, .ref q6, .ref q7, .ref q8, .ref q9, .ref q10, .ref q11, .ref q12, .ref q13, .null]) ∧ hat h9 q1 (eI G 10 (fun _ => 0)) ∧ hat h9 q2 (eI G 10 (fun _ => 0)) ∧ hat h9 q3 (eI G 10 (fun _ => 0)) ∧ hat h9 q4 (eI G 1200 (fun _ => 0)) ∧ hat h9 q5 (eI G 10 (fun _ => 0)) ∧ hat h9 q6 (eL G 1200 (fun _ => 0)) ∧ hat h9 q7 (eI G 480 (fun _ => 0)) ∧ hat h9 q8 (eI G 60 (fun _ => 0)) ∧ hat h9 q9 (eI G 60 (fun _ => 0)) ∧ hat h9 q10 (eI G 10 (fun _ => 0)) ∧ hat h9 q11 (eI G 10 (fun _ => 0)) ∧ hat h9 q12 (eI G 10 (fun _ => 0)) ∧ hat h9 q13 (eI G 10 (fun _ => 0)) ∧ nFr h0 o h9 := ⟨_, hM, hat_put hX_o, hat_put_ne hX_q1 (fun z => hO_q1 (z ▸ ho.1)), hat_put_ne hX_q2 (fun z => hO_q2 (z ▸ ho.1)), hat_put_ne hX_q3 (fun z => hO_q3 (z ▸ ho.1)), hat_put_ne hX_q4 (fun z => hO_q4 (z ▸ ho.1)), hat_put_ne hX_q5 (fun z => hO_q5 (z ▸ ho.1)), hat_put_ne hX_q6 (fun z => hO_q6 (z ▸ ho.1)), hat_put_ne hX_q7 (fun z => hO_q7 (z ▸ ho.1)), hat_put_ne hX_q8 (fun z => hO_q8 (z ▸ ho.1)), hat_put_ne hX_q9 (fun z => hO_q9 (z ▸ ho.1)), hat_put_ne hX_q10 (fun z => hO_q10 (z ▸ ho.1)), hat_put_ne hX_q11 (fun z => hO_q11 (z ▸ ho.1)), hat_put_ne hX_q12 (fun z => hO_q12 (z ▸ ho.1)), hat_put_ne hX_q13 (fun z => hO_q13 (z ▸ ho.1)), hFr.put _⟩
  refine lv_aload_n hx hb dX6_init_111 rfl (lv_at hl 0 rfl) ?_
  refine lv_bipush (v := nI 10) hx hb dX6_init_112 (by decide) ?_
  refine m_newL Z C hM hS 10 (by decide) rfl (by decide) (Nat.le_of_ble_eq_true rfl) (Nat.le_of_ble_eq_true rfl) dX6_init_114 (fun q14 H hq hM hS => ?_)
  have hO_q14 := hFr.out hX_o hq
  have hN_q1_q14 : q1 ≠ q14 := fun z => hq (z ▸ hX_q1.1)
  have hN_q2_q14 : q2 ≠ q14 := fun z => hq (z ▸ hX_q2.1)
  have hN_q3_q14 : q3 ≠ q14 := fun z => hq (z ▸ hX_q3.1)
  have hN_q4_q14 : q4 ≠ q14 := fun z => hq (z ▸ hX_q4.1)
  have hN_q5_q14 : q5 ≠ q14 := fun z => hq (z ▸ hX_q5.1)
  have hN_q6_q14 : q6 ≠ q14 := fun z => hq (z ▸ hX_q6.1)
  have hN_q7_q14 : q7 ≠ q14 := fun z => hq (z ▸ hX_q7.1)
  have hN_q8_q14 : q8 ≠ q14 := fun z => hq (z ▸ hX_q8.1)
  have hN_q9_q14 : q9 ≠ q14 := fun z => hq (z ▸ hX_q9.1)
  have hN_q10_q14 : q10 ≠ q14 := fun z => hq (z ▸ hX_q10.1)
  have hN_q11_q14 : q11 ≠ q14 := fun z => hq (z ▸ hX_q11.1)
  have hN_q12_q14 : q12 ≠ q14 := fun z => hq (z ▸ hX_q12.1)
  have hN_q13_q14 : q13 ≠ q14 := fun z => hq (z ▸ hX_q13.1)
  obtain ⟨h, hM, hX_o, hX_q1, hX_q2, hX_q3, hX_q4, hX_q5, hX_q6, hX_q7, hX_q8, hX_q9, hX_q10, hX_q11, hX_q12, hX_q13, hX_q14, hFr⟩ : ∃ h9, MW G s0.heap.size h9 H ∧ hat h9 o (eO 6 [.int 0, .int 0, .long 0, .ref q1, .ref q2, .ref q3, .ref q4, .ref q5, .ref q6, .ref q7, .ref q8, .ref q9, .ref q10, .ref q11, .ref q12, .ref q13, .null]) ∧ hat h9 q1 (eI G 10 (fun _ => 0)) ∧ hat h9 q2 (eI G 10 (fun _ => 0)) ∧ hat h9 q3 (eI G 10 (fun _ => 0)) ∧ hat h9 q4 (eI G 1200 (fun _ => 0)) ∧ hat h9 q5 (eI G 10 (fun _ => 0)) ∧ hat h9 q6 (eL G 1200 (fun _ => 0)) ∧ hat h9 q7 (eI G 480 (fun _ => 0)) ∧ hat h9 q8 (eI G 60 (fun _ => 0)) ∧ hat h9 q9 (eI G 60 (fun _ => 0)) ∧ hat h9 q10 (eI G 10 (fun _ => 0)) ∧ hat h9 q11 (eI G 10 (fun _ => 0)) ∧ hat h9 q12 (eI G 10 (fun _ => 0)) ∧ hat h9 q13 (eI G 10 (fun _ => 0)) ∧ hat h9 q14 (eL G 10 (fun _ => 0)) ∧ nFr h0 o h9 := ⟨_, hM, hat_new_ne hX_o hq, hat_new_ne hX_q1 hq, hat_new_ne hX_q2 hq, hat_new_ne hX_q3 hq, hat_new_ne hX_q4 hq, hat_new_ne hX_q5 hq, hat_new_ne hX_q6 hq, hat_new_ne hX_q7 hq, hat_new_ne hX_q8 hq, hat_new_ne hX_q9 hq, hat_new_ne hX_q10 hq, hat_new_ne hX_q11 hq, hat_new_ne hX_q12 hq, hat_new_ne hX_q13 hq, hat_new, hFr.new hq _⟩
  refine m_putF Z C hM hS hX_o K_X6 16 (by decide) fl_X6_50 (v := .ref q14) rfl rfl rfl rfl (fs' := [.int 0, .int 0, .long 0, .ref q1, .ref q2, .ref q3, .ref q4, .ref q5, .ref q6, .ref q7, .ref q8, .ref q9, .ref q10, .ref q11, .ref q12, .ref q13, .ref q14]) rfl (Nat.le_of_ble_eq_true rfl) dX6_init_116 (fun H locs hM hS => ?_)
  obtain ⟨h, hM, hX_o, hX_q1, hX_q2, hX_q3, hX_q4, hX_q5, hX_q6, hX_q7, hX_q8, hX_q9, hX_q10, hX_q11, hX_q12, hX_q13, hX_q14, hFr⟩ : ∃ h9, MW G s0.heap.size h9 H ∧ hat h9 o (eO 6 [.int 0, .int 0, .long 0, .ref q1, .ref q2, .ref q3, .ref q4, .ref q5, .ref q6, .ref q7, .ref q8, .ref q9, .ref q10, .ref q11, .ref q12, .ref q13, .ref q14]) ∧ hat h9 q1 (eI G 10 (fun _ => 0)) ∧ hat h9 q2 (eI G 10 (fun _ => 0)) ∧ hat h9 q3 (eI G 10 (fun _ => 0)) ∧ hat h9 q4 (eI G 1200 (fun _ => 0)) ∧ hat h9 q5 (eI G 10 (fun _ => 0)) ∧ hat h9 q6 (eL G 1200 (fun _ => 0)) ∧ hat h9 q7 (eI G 480 (fun _ => 0)) ∧ hat h9 q8 (eI G 60 (fun _ => 0)) ∧ hat h9 q9 (eI G 60 (fun _ => 0)) ∧ hat h9 q10 (eI G 10 (fun _ => 0)) ∧ hat h9 q11 (eI G 10 (fun _ => 0)) ∧ hat h9 q12 (eI G 10 (fun _ => 0)) ∧ hat h9 q13 (eI G 10 (fun _ => 0)) ∧ hat h9 q14 (eL G 10 (fun _ => 0)) ∧ nFr h0 o h9 := ⟨_, hM, hat_put hX_o, hat_put_ne hX_q1 (fun z => hO_q1 (z ▸ ho.1)), hat_put_ne hX_q2 (fun z => hO_q2 (z ▸ ho.1)), hat_put_ne hX_q3 (fun z => hO_q3 (z ▸ ho.1)), hat_put_ne hX_q4 (fun z => hO_q4 (z ▸ ho.1)), hat_put_ne hX_q5 (fun z => hO_q5 (z ▸ ho.1)), hat_put_ne hX_q6 (fun z => hO_q6 (z ▸ ho.1)), hat_put_ne hX_q7 (fun z => hO_q7 (z ▸ ho.1)), hat_put_ne hX_q8 (fun z => hO_q8 (z ▸ ho.1)), hat_put_ne hX_q9 (fun z => hO_q9 (z ▸ ho.1)), hat_put_ne hX_q10 (fun z => hO_q10 (z ▸ ho.1)), hat_put_ne hX_q11 (fun z => hO_q11 (z ▸ ho.1)), hat_put_ne hX_q12 (fun z => hO_q12 (z ▸ ho.1)), hat_put_ne hX_q13 (fun z => hO_q13 (z ▸ ho.1)), hat_put_ne hX_q14 (fun z => hO_q14 (z ▸ ho.1)), hFr.put _⟩
  exact m_vret C hM hS (Nat.le_of_ble_eq_true rfl) (Nat.le_of_ble_eq_true rfl) dX6_init_119 ⟨rfl, q1, q2, q3, q4, q5, q6, q7, q8, q9, q10, q11, q12, q13, q14, hX_o, hX_q1, hX_q2, hX_q3, hX_q4, hX_q5, hX_q6, hX_q7, hX_q8, hX_q9, hX_q10, hX_q11, hX_q12, hX_q13, hX_q14, hO_q1, hO_q2, hO_q3, hO_q4, hO_q5, hO_q6, hO_q7, hO_q8, hO_q9, hO_q10, hO_q11, hO_q12, hO_q13, hO_q14, hN_q1_q2, hN_q1_q3, hN_q2_q3, hN_q1_q4, hN_q2_q4, hN_q3_q4, hN_q1_q5, hN_q2_q5, hN_q3_q5, hN_q4_q5, hN_q1_q6, hN_q2_q6, hN_q3_q6, hN_q4_q6, hN_q5_q6, hN_q1_q7, hN_q2_q7, hN_q3_q7, hN_q4_q7, hN_q5_q7, hN_q6_q7, hN_q1_q8, hN_q2_q8, hN_q3_q8, hN_q4_q8, hN_q5_q8, hN_q6_q8, hN_q7_q8, hN_q1_q9, hN_q2_q9, hN_q3_q9, hN_q4_q9, hN_q5_q9, hN_q6_q9, hN_q7_q9, hN_q8_q9, hN_q1_q10, hN_q2_q10, hN_q3_q10, hN_q4_q10, hN_q5_q10, hN_q6_q10, hN_q7_q10, hN_q8_q10, hN_q9_q10, hN_q1_q11, hN_q2_q11, hN_q3_q11, hN_q4_q11, hN_q5_q11, hN_q6_q11, hN_q7_q11, hN_q8_q11, hN_q9_q11, hN_q10_q11, hN_q1_q12, hN_q2_q12, hN_q3_q12, hN_q4_q12, hN_q5_q12, hN_q6_q12, hN_q7_q12, hN_q8_q12, hN_q9_q12, hN_q10_q12, hN_q11_q12, hN_q1_q13, hN_q2_q13, hN_q3_q13, hN_q4_q13, hN_q5_q13, hN_q6_q13, hN_q7_q13, hN_q8_q13, hN_q9_q13, hN_q10_q13, hN_q11_q13, hN_q12_q13, hN_q1_q14, hN_q2_q14, hN_q3_q14, hN_q4_q14, hN_q5_q14, hN_q6_q14, hN_q7_q14, hN_q8_q14, hN_q9_q14, hN_q10_q14, hN_q11_q14, hN_q12_q14, hN_q13_q14, hFr⟩
