set_option maxRecDepth 100000 in
set_option maxHeartbeats 4000000 in
theorem c_X5_init {l : Launch} {G : mG} {a0 : Array Value} {s0 : State} (Z : mZ l G a0 s0) (h0 : Hp) (o : Nat) (ho : hat h0 o (eO 5 [.null, .null, .int 0, .long 0])) : mM l G s0 yX5_init cX5_init 1 none 2 44 2 13 h0 [.ref o] (fun v9 h9 => v9 = none ∧ ∃ q1 : Nat, ∃ q2 : Nat, hat h9 o (eO 5 [.ref q1, .ref q2, .int (nI 0), .long (lN 0)]) ∧ hat h9 q1 (eS G 10 (fun _ => none)) ∧ hat h9 q2 (eO 4 [.int 0, .long 0, .int 0]) ∧ q1 ∉ h0.1 ∧ q2 ∉ h0.1 ∧ nFr h0 o h9) := by
  refine mM_in RX5 "<init>" rfl rfl (by decide +kernel) (Nat.le_of_ble_eq_true rfl) ?_
  intro p e s mt below meth c H locs C hM hS ls hl
  have hx := C.1
  have hb := C.2.1
  have hown := C.2.2.2.1
  have hE := C.2.2.2.2.2.2.1
  have hl : lv_has ls 1 [(0, .ref o)] := hl
  obtain ⟨h, hM, hX_o, hFr⟩ : ∃ h9, MW G s0.heap.size h9 H ∧ hat h9 o (eO 5 [.null, .null, .int 0, .long 0]) ∧ nFr h0 o h9 := ⟨_, hM, ho, nFr.rf⟩
  refine lv_aload_n hx hb dX5_init_0 rfl (lv_at hl 0 rfl) ?_
  refine m_objInit Z C ml_X5_1 hl.1 dX5_init_1 ⟨Nat.le_of_ble_eq_true rfl, Nat.le_of_ble_eq_true rfl⟩ ?_
  refine W.eq (g2 := F0 mt 4 ls []) rfl ?_
  refine lv_aload_n hx hb dX5_init_4 rfl (lv_at hl 0 rfl) ?_
  refine lv_bipush (v := nI 10) hx hb dX5_init_5 (by decide) ?_
  refine m_newq Z C hM hS 3 rfl cl_X5_9 wo_S 10 (by decide) rfl (by decide) (Nat.le_of_ble_eq_true rfl) (Nat.le_of_ble_eq_true rfl) dX5_init_7 (fun q1 H hq hM hS => ?_)
  have hO_q1 := hFr.out hX_o hq
  obtain ⟨h, hM, hX_o, hX_q1, hFr⟩ : ∃ h9, MW G s0.heap.size h9 H ∧ hat h9 o (eO 5 [.null, .null, .int 0, .long 0]) ∧ hat h9 q1 (eS G 10 (fun _ => none)) ∧ nFr h0 o h9 := ⟨_, hM, hat_new_ne hX_o hq, hat_new, hFr.new hq _⟩
  refine m_putF Z C hM hS hX_o K_X5 0 (by decide) fl_X5_11 (v := .ref q1) rfl rfl rfl rfl (fs' := [.ref q1, .null, .int 0, .long 0]) rfl (Nat.le_of_ble_eq_true rfl) dX5_init_10 (fun H locs hM hS => ?_)
  obtain ⟨h, hM, hX_o, hX_q1, hFr⟩ : ∃ h9, MW G s0.heap.size h9 H ∧ hat h9 o (eO 5 [.ref q1, .null, .int 0, .long 0]) ∧ hat h9 q1 (eS G 10 (fun _ => none)) ∧ nFr h0 o h9 := ⟨_, hM, hat_put hX_o, hat_put_ne hX_q1 (fun z => hO_q1 (z ▸ ho.1)), hFr.put _⟩
  refine lv_aload_n hx hb dX5_init_13 rfl (lv_at hl 0 rfl) ?_
  refine m_new Z C hM hS K_X4 cl_X5_15 ci_X4 cn_X4 (fs := [.int 0, .long 0, .int 0]) (fun j hj => match j, hj with | 0, _ => rfl | 1, _ => rfl | 2, _ => rfl | n + 3, z => absurd z (by omega)) (Nat.le_of_ble_eq_true rfl) (Nat.le_of_ble_eq_true rfl) dX5_init_14 (fun q2 H hq hM hS => ?_)
  have hO_q2 := hFr.out hX_o hq
  have hN_q1_q2 : q1 ≠ q2 := fun z => hq (z ▸ hX_q1.1)
  obtain ⟨h, hM, hX_o, hX_q1, hX_q2, hFr⟩ : ∃ h9, MW G s0.heap.size h9 H ∧ hat h9 o (eO 5 [.ref q1, .null, .int 0, .long 0]) ∧ hat h9 q1 (eS G 10 (fun _ => none)) ∧ hat h9 q2 (eO 4 [.int 0, .long 0, .int 0]) ∧ nFr h0 o h9 := ⟨_, hM, hat_new_ne hX_o hq, hat_new_ne hX_q1 hq, hat_new, hFr.new hq _⟩
  refine lv_dup hx hb dX5_init_17 rfl ?_
  refine m_callIN Z C hM hS (As := []) (rest := [.ref q2, .ref o]) (c_X4_init Z h q2 hX_q2) yi_X4_init mn_X5_17 ⟨Nat.le_of_ble_eq_true rfl, Nat.le_of_ble_eq_true rfl⟩ (Nat.le_of_ble_eq_true rfl) hl.1 rfl rfl dX5_init_18 ⟨Nat.le_of_ble_eq_true rfl, Nat.le_of_ble_eq_true rfl⟩ (fun v h9 H locs hv hM hS => ?_)
  obtain ⟨hv, hY_o, hFr9⟩ := hv
  subst hv
  refine W.eq (g2 := F0 mt 21 ls [.ref q2, .ref o]) rfl ?_
  obtain ⟨h, hM, hX_o, hX_q1, hX_q2, hFr⟩ : ∃ h9, MW G s0.heap.size h9 H ∧ hat h9 o (eO 5 [.ref q1, .null, .int 0, .long 0]) ∧ hat h9 q1 (eS G 10 (fun _ => none)) ∧ hat h9 q2 (eO 4 [.int 0, .long 0, .int 0]) ∧ nFr h0 o h9 := ⟨_, hM, hFr9 _ _ (fun z => hO_q2 (z ▸ ho.1)) hX_o, hFr9 _ _ (fun z => hN_q1_q2 z) hX_q1, hY_o, (fun b e n w => hFr9 b e (fun z => hO_q2 (z ▸ w.1)) (hFr b e n w))⟩
  refine m_putF Z C hM hS hX_o K_X5 1 (by decide) fl_X5_18 (v := .ref q2) rfl rfl rfl rfl (fs' := [.ref q1, .ref q2, .int 0, .long 0]) rfl (Nat.le_of_ble_eq_true rfl) dX5_init_21 (fun H locs hM hS => ?_)
  obtain ⟨h, hM, hX_o, hX_q1, hX_q2, hFr⟩ : ∃ h9, MW G s0.heap.size h9 H ∧ hat h9 o (eO 5 [.ref q1, .ref q2, .int 0, .long 0]) ∧ hat h9 q1 (eS G 10 (fun _ => none)) ∧ hat h9 q2 (eO 4 [.int 0, .long 0, .int 0]) ∧ nFr h0 o h9 := ⟨_, hM, hat_put hX_o, hat_put_ne hX_q1 (fun z => hO_q1 (z ▸ ho.1)), hat_put_ne hX_q2 (fun z => hO_q2 (z ▸ ho.1)), hFr.put _⟩
  refine lv_aload_n hx hb dX5_init_24 rfl (lv_at hl 0 rfl) ?_
  refine lv_iconst (v := nI 0) hx hb dX5_init_25 (by decide) ?_
  refine m_put Z C hM hS hX_o K_X5 2 (by decide) fl_X5_22 (v := .int (nI 0)) rfl rfl rfl (fs' := [.ref q1, .ref q2, .int (nI 0), .long 0]) rfl (Nat.le_of_ble_eq_true rfl) dX5_init_26 (fun H locs hM hS => ?_)
  obtain ⟨h, hM, hX_o, hX_q1, hX_q2, hFr⟩ : ∃ h9, MW G s0.heap.size h9 H ∧ hat h9 o (eO 5 [.ref q1, .ref q2, .int (nI 0), .long 0]) ∧ hat h9 q1 (eS G 10 (fun _ => none)) ∧ hat h9 q2 (eO 4 [.int 0, .long 0, .int 0]) ∧ nFr h0 o h9 := ⟨_, hM, hat_put hX_o, hat_put_ne hX_q1 (fun z => hO_q1 (z ▸ ho.1)), hat_put_ne hX_q2 (fun z => hO_q2 (z ▸ ho.1)), hFr.put _⟩
  refine lv_aload_n hx hb dX5_init_29 rfl (lv_at hl 0 rfl) ?_
  refine lv_lconst (v := lN 0) hx hb dX5_init_30 (by decide) ?_
  refine m_put Z C hM hS hX_o K_X5 3 (by decide) fl_X5_26 (v := .long (lN 0)) rfl rfl rfl (fs' := [.ref q1, .ref q2, .int (nI 0), .long (lN 0)]) rfl (Nat.le_of_ble_eq_true rfl) dX5_init_31 (fun H locs hM hS => ?_)
  obtain ⟨h, hM, hX_o, hX_q1, hX_q2, hFr⟩ : ∃ h9, MW G s0.heap.size h9 H ∧ hat h9 o (eO 5 [.ref q1, .ref q2, .int (nI 0), .long (lN 0)]) ∧ hat h9 q1 (eS G 10 (fun _ => none)) ∧ hat h9 q2 (eO 4 [.int 0, .long 0, .int 0]) ∧ nFr h0 o h9 := ⟨_, hM, hat_put hX_o, hat_put_ne hX_q1 (fun z => hO_q1 (z ▸ ho.1)), hat_put_ne hX_q2 (fun z => hO_q2 (z ▸ ho.1)), hFr.put _⟩
  exact m_vret C hM hS (Nat.le_of_ble_eq_true rfl) (Nat.le_of_ble_eq_true rfl) dX5_init_34 ⟨rfl, q1, q2, hX_o, hX_q1, hX_q2, hO_q1, hO_q2, hFr⟩
