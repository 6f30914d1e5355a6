set_option maxRecDepth 100000 in
set_option maxHeartbeats 4000000 in
theorem c_X2_init {l : Launch} {G : mG} {a0 : Array Value} {s0 : State} (Z : mZ l G a0 s0) (h0 : Hp) (o : Nat) (a : Int32) (d : Int32) (ho : hat h0 o (eO 2 [.int 0, .int 0, .null, .null, .null, .null, .null, .int 0, .null])) : mM l G s0 yX2_init cX2_init 3 none 2 44 13 434 h0 [.ref o, .int a, .int d] (fun v9 h9 => v9 = none ∧ ∃ q1 : Nat, ∃ q2 : Nat, ∃ q3 : Nat, ∃ q4 : Nat, ∃ q5 : Nat, ∃ q6 : Nat, ∃ q7 : Nat, ∃ q8 : Nat, ∃ r : Nat → Nat, hat h9 o (eO 2 [.int a, .int d, .ref q1, .ref q2, .ref q3, .ref q4, .ref q5, .int (nI 0), .null]) ∧ hat h9 q1 (eL G 120 (fun _ => 0)) ∧ hat h9 q2 (eI G 120 (fun _ => 0)) ∧ hat h9 q3 (eI G 120 (fun _ => 0)) ∧ hat h9 q4 (eB G 15 (fun _ => none)) ∧ hat h9 q5 (eO 3 [.ref q6, .ref q7, .ref q8, .int (nI 0)]) ∧ hat h9 q6 (eA G 5 (fun i => if i < 5 then some (r i) else none)) ∧ hat h9 q7 (eI G 5 (fun _ => 0)) ∧ hat h9 q8 (eI G 5 (fun _ => 0)) ∧ (∀ i : Nat, i < 5 → hat h9 (r i) (eI G 8 (fun _ => 0))) ∧ (∀ i j : Nat, i < 5 → j < 5 → r i = r j → i = j) ∧ (∀ i : Nat, i < 5 → r i ∉ h0.1) ∧ q1 ∉ h0.1 ∧ q2 ∉ h0.1 ∧ q3 ∉ h0.1 ∧ q4 ∉ h0.1 ∧ q5 ∉ h0.1 ∧ q6 ∉ h0.1 ∧ q7 ∉ h0.1 ∧ q8 ∉ h0.1 ∧ q2 ≠ q3 ∧ q7 ≠ q8 ∧ nFr h0 o h9) := by
  refine mM_in RX2 "<init>" rfl rfl (by decide +kernel) (Nat.le_of_ble_eq_true rfl) ?_
  intro p e s mt below meth c H locs C hM hS ls hl
  have hx := C.1
  have hb := C.2.1
  have hown := C.2.2.2.1
  have hE := C.2.2.2.2.2.2.1
  have hl : lv_has ls 3 [(0, .ref o), (1, .int a), (2, .int d)] := hl
  obtain ⟨h, hM, hX_o, hFr⟩ : ∃ h9, MW G s0.heap.size h9 H ∧ hat h9 o (eO 2 [.int 0, .int 0, .null, .null, .null, .null, .null, .int 0, .null]) ∧ nFr h0 o h9 := ⟨_, hM, ho, nFr.rf⟩
  refine lv_aload_n hx hb dX2_init_0 rfl (lv_at hl 0 rfl) ?_
  refine m_objInit Z C ml_X2_3 hl.1 dX2_init_1 ⟨Nat.le_of_ble_eq_true rfl, Nat.le_of_ble_eq_true rfl⟩ ?_
  refine W.eq (g2 := F0 mt 4 ls []) rfl ?_
  refine lv_aload_n hx hb dX2_init_4 rfl (lv_at hl 0 rfl) ?_
  refine lv_iload_n hx hb dX2_init_5 rfl (lv_at hl 1 rfl) ?_
  refine m_putF Z C hM hS hX_o K_X2 0 (by decide) fl_X2_9 (v := .int a) rfl rfl rfl rfl (fs' := [.int a, .int 0, .null, .null, .null, .null, .null, .int 0, .null]) rfl (Nat.le_of_ble_eq_true rfl) dX2_init_6 (fun H locs hM hS => ?_)
  obtain ⟨h, hM, hX_o, hFr⟩ : ∃ h9, MW G s0.heap.size h9 H ∧ hat h9 o (eO 2 [.int a, .int 0, .null, .null, .null, .null, .null, .int 0, .null]) ∧ nFr h0 o h9 := ⟨_, hM, hat_put hX_o, hFr.put _⟩
  refine lv_aload_n hx hb dX2_init_9 rfl (lv_at hl 0 rfl) ?_
  refine lv_iload_n hx hb dX2_init_10 rfl (lv_at hl 2 rfl) ?_
  refine m_putF Z C hM hS hX_o K_X2 1 (by decide) fl_X2_15 (v := .int d) rfl rfl rfl rfl (fs' := [.int a, .int d, .null, .null, .null, .null, .null, .int 0, .null]) rfl (Nat.le_of_ble_eq_true rfl) dX2_init_11 (fun H locs hM hS => ?_)
  obtain ⟨h, hM, hX_o, hFr⟩ : ∃ h9, MW G s0.heap.size h9 H ∧ hat h9 o (eO 2 [.int a, .int d, .null, .null, .null, .null, .null, .int 0, .null]) ∧ nFr h0 o h9 := ⟨_, hM, hat_put hX_o, hFr.put _⟩
  refine lv_aload_n hx hb dX2_init_14 rfl (lv_at hl 0 rfl) ?_
  refine lv_bipush (v := nI 120) hx hb dX2_init_15 (by decide) ?_
  refine m_newL Z C hM hS 120 (by decide) rfl (by decide) (Nat.le_of_ble_eq_true rfl) (Nat.le_of_ble_eq_true rfl) dX2_init_17 (fun q1 H hq hM hS => ?_)
  have hO_q1 := hFr.out hX_o hq
  obtain ⟨h, hM, hX_o, hX_q1, hFr⟩ : ∃ h9, MW G s0.heap.size h9 H ∧ hat h9 o (eO 2 [.int a, .int d, .null, .null, .null, .null, .null, .int 0, .null]) ∧ hat h9 q1 (eL G 120 (fun _ => 0)) ∧ nFr h0 o h9 := ⟨_, hM, hat_new_ne hX_o hq, hat_new, hFr.new hq _⟩
  refine m_putF Z C hM hS hX_o K_X2 2 (by decide) fl_X2_18 (v := .ref q1) rfl rfl rfl rfl (fs' := [.int a, .int d, .ref q1, .null, .null, .null, .null, .int 0, .null]) rfl (Nat.le_of_ble_eq_true rfl) dX2_init_19 (fun H locs hM hS => ?_)
  obtain ⟨h, hM, hX_o, hX_q1, hFr⟩ : ∃ h9, MW G s0.heap.size h9 H ∧ hat h9 o (eO 2 [.int a, .int d, .ref q1, .null, .null, .null, .null, .int 0, .null]) ∧ hat h9 q1 (eL G 120 (fun _ => 0)) ∧ nFr h0 o h9 := ⟨_, hM, hat_put hX_o, hat_put_ne hX_q1 (fun z => hO_q1 (z ▸ ho.1)), hFr.put _⟩
  refine lv_aload_n hx hb dX2_init_22 rfl (lv_at hl 0 rfl) ?_
  refine lv_bipush (v := nI 120) hx hb dX2_init_23 (by decide) ?_
  refine m_newI Z C hM hS 120 (by decide) rfl (by decide) (Nat.le_of_ble_eq_true rfl) (Nat.le_of_ble_eq_true rfl) dX2_init_25 (fun q2 H hq hM hS => ?_)
  have hO_q2 := hFr.out hX_o hq
  have hN_q1_q2 : q1 ≠ q2 := fun z => hq (z ▸ hX_q1.1)
  obtain ⟨h, hM, hX_o, hX_q1, hX_q2, hFr⟩ : ∃ h9, MW G s0.heap.size h9 H ∧ hat h9 o (eO 2 [.int a, .int d, .ref q1, .null, .null, .null, .null, .int 0, .null]) ∧ hat h9 q1 (eL G 120 (fun _ => 0)) ∧ hat h9 q2 (eI G 120 (fun _ => 0)) ∧ nFr h0 o h9 := ⟨_, hM, hat_new_ne hX_o hq, hat_new_ne hX_q1 hq, hat_new, hFr.new hq _⟩
  refine m_putF Z C hM hS hX_o K_X2 3 (by decide) fl_X2_22 (v := .ref q2) rfl rfl rfl rfl (fs' := [.int a, .int d, .ref q1, .ref q2, .null, .null, .null, .int 0, .null]) rfl (Nat.le_of_ble_eq_true rfl) dX2_init_27 (fun H locs hM hS => ?_)
  obtain ⟨h, hM, hX_o, hX_q1, hX_q2, hFr⟩ : ∃ h9, MW G s0.heap.size h9 H ∧ hat h9 o (eO 2 [.int a, .int d, .ref q1, .ref q2, .null, .null, .null, .int 0, .null]) ∧ hat h9 q1 (eL G 120 (fun _ => 0)) ∧ hat h9 q2 (eI G 120 (fun _ => 0)) ∧ nFr h0 o h9 := ⟨_, hM, hat_put hX_o, hat_put_ne hX_q1 (fun z => hO_q1 (z ▸ ho.1)), hat_put_ne hX_q2 (fun z => hO_q2 (z ▸ ho.1)), hFr.put _⟩
  refine lv_aload_n hx hb dX2_init_30 rfl (lv_at hl 0 rfl) ?_
  refine lv_bipush (v := nI 120) hx hb dX2_init_31 (by decide) ?_
  refine m_newI Z C hM hS 120 (by decide) rfl (by decide) (Nat.le_of_ble_eq_true rfl) (Nat.le_of_ble_eq_true rfl) dX2_init_33 (fun q3 H hq hM hS => ?_)
  have hO_q3 := hFr.out hX_o hq
  have hN_q1_q3 : q1 ≠ q3 := fun z => hq (z ▸ hX_q1.1)
  have hN_q2_q3 : q2 ≠ q3 := fun z => hq (z ▸ hX_q2.1)
  obtain ⟨h, hM, hX_o, hX_q1, hX_q2, hX_q3, hFr⟩ : ∃ h9, MW G s0.heap.size h9 H ∧ hat h9 o (eO 2 [.int a, .int d, .ref q1, .ref q2, .null, .null, .null, .int 0, .null]) ∧ hat h9 q1 (eL G 120 (fun _ => 0)) ∧ hat h9 q2 (eI G 120 (fun _ => 0)) ∧ hat h9 q3 (eI G 120 (fun _ => 0)) ∧ nFr h0 o h9 := ⟨_, hM, hat_new_ne hX_o hq, hat_new_ne hX_q1 hq, hat_new_ne hX_q2 hq, hat_new, hFr.new hq _⟩
  refine m_putF Z C hM hS hX_o K_X2 4 (by decide) fl_X2_26 (v := .ref q3) rfl rfl rfl rfl (fs' := [.int a, .int d, .ref q1, .ref q2, .ref q3, .null, .null, .int 0, .null]) rfl (Nat.le_of_ble_eq_true rfl) dX2_init_35 (fun H locs hM hS => ?_)
  obtain ⟨h, hM, hX_o, hX_q1, hX_q2, hX_q3, hFr⟩ : ∃ h9, MW G s0.heap.size h9 H ∧ hat h9 o (eO 2 [.int a, .int d, .ref q1, .ref q2, .ref q3, .null, .null, .int 0, .null]) ∧ hat h9 q1 (eL G 120 (fun _ => 0)) ∧ hat h9 q2 (eI G 120 (fun _ => 0)) ∧ hat h9 q3 (eI G 120 (fun _ => 0)) ∧ nFr h0 o h9 := ⟨_, hM, hat_put hX_o, hat_put_ne hX_q1 (fun z => hO_q1 (z ▸ ho.1)), hat_put_ne hX_q2 (fun z => hO_q2 (z ▸ ho.1)), hat_put_ne hX_q3 (fun z => hO_q3 (z ▸ ho.1)), hFr.put _⟩
  refine lv_aload_n hx hb dX2_init_38 rfl (lv_at hl 0 rfl) ?_
  refine lv_bipush (v := nI 15) hx hb dX2_init_39 (by decide) ?_
  refine m_newq Z C hM hS 2 rfl cl_X2_29 wo_B 15 (by decide) rfl (by decide) (Nat.le_of_ble_eq_true rfl) (Nat.le_of_ble_eq_true rfl) dX2_init_41 (fun q4 H hq hM hS => ?_)
  have hO_q4 := hFr.out hX_o hq
  have hN_q1_q4 : q1 ≠ q4 := fun z => hq (z ▸ hX_q1.1)
  have hN_q2_q4 : q2 ≠ q4 := fun z => hq (z ▸ hX_q2.1)
  have hN_q3_q4 : q3 ≠ q4 := fun z => hq (z ▸ hX_q3.1)
  obtain ⟨h, hM, hX_o, hX_q1, hX_q2, hX_q3, hX_q4, hFr⟩ : ∃ h9, MW G s0.heap.size h9 H ∧ hat h9 o (eO 2 [.int a, .int d, .ref q1, .ref q2, .ref q3, .null, .null, .int 0, .null]) ∧ hat h9 q1 (eL G 120 (fun _ => 0)) ∧ hat h9 q2 (eI G 120 (fun _ => 0)) ∧ hat h9 q3 (eI G 120 (fun _ => 0)) ∧ hat h9 q4 (eB G 15 (fun _ => none)) ∧ nFr h0 o h9 := ⟨_, hM, hat_new_ne hX_o hq, hat_new_ne hX_q1 hq, hat_new_ne hX_q2 hq, hat_new_ne hX_q3 hq, hat_new, hFr.new hq _⟩
  refine m_putF Z C hM hS hX_o K_X2 5 (by decide) fl_X2_31 (v := .ref q4) rfl rfl rfl rfl (fs' := [.int a, .int d, .ref q1, .ref q2, .ref q3, .ref q4, .null, .int 0, .null]) rfl (Nat.le_of_ble_eq_true rfl) dX2_init_44 (fun H locs hM hS => ?_)
  obtain ⟨h, hM, hX_o, hX_q1, hX_q2, hX_q3, hX_q4, hFr⟩ : ∃ h9, MW G s0.heap.size h9 H ∧ hat h9 o (eO 2 [.int a, .int d, .ref q1, .ref q2, .ref q3, .ref q4, .null, .int 0, .null]) ∧ hat h9 q1 (eL G 120 (fun _ => 0)) ∧ hat h9 q2 (eI G 120 (fun _ => 0)) ∧ hat h9 q3 (eI G 120 (fun _ => 0)) ∧ hat h9 q4 (eB G 15 (fun _ => none)) ∧ nFr h0 o h9 := ⟨_, hM, hat_put hX_o, hat_put_ne hX_q1 (fun z => hO_q1 (z ▸ ho.1)), hat_put_ne hX_q2 (fun z => hO_q2 (z ▸ ho.1)), hat_put_ne hX_q3 (fun z => hO_q3 (z ▸ ho.1)), hat_put_ne hX_q4 (fun z => hO_q4 (z ▸ ho.1)), hFr.put _⟩
  refine lv_aload_n hx hb dX2_init_47 rfl (lv_at hl 0 rfl) ?_
  refine m_new Z C hM hS K_X3 cl_X2_35 ci_X3 cn_X3 (fs := [.null, .null, .null, .int 0]) (fun j hj => match j, hj with | 0, _ => rfl | 1, _ => rfl | 2, _ => rfl | 3, _ => rfl | n + 4, z => absurd z (by omega)) (Nat.le_of_ble_eq_true rfl) (Nat.le_of_ble_eq_true rfl) dX2_init_48 (fun q5 H hq hM hS => ?_)
  have hO_q5 := hFr.out hX_o hq
  have hN_q1_q5 : q1 ≠ q5 := fun z => hq (z ▸ hX_q1.1)
  have hN_q2_q5 : q2 ≠ q5 := fun z => hq (z ▸ hX_q2.1)
  have hN_q3_q5 : q3 ≠ q5 := fun z => hq (z ▸ hX_q3.1)
  have hN_q4_q5 : q4 ≠ q5 := fun z => hq (z ▸ hX_q4.1)
  obtain ⟨h, hM, hX_o, hX_q1, hX_q2, hX_q3, hX_q4, hX_q5, hFr⟩ : ∃ h9, MW G s0.heap.size h9 H ∧ hat h9 o (eO 2 [.int a, .int d, .ref q1, .ref q2, .ref q3, .ref q4, .null, .int 0, .null]) ∧ hat h9 q1 (eL G 120 (fun _ => 0)) ∧ hat h9 q2 (eI G 120 (fun _ => 0)) ∧ hat h9 q3 (eI G 120 (fun _ => 0)) ∧ hat h9 q4 (eB G 15 (fun _ => none)) ∧ hat h9 q5 (eO 3 [.null, .null, .null, .int 0]) ∧ nFr h0 o h9 := ⟨_, hM, hat_new_ne hX_o hq, hat_new_ne hX_q1 hq, hat_new_ne hX_q2 hq, hat_new_ne hX_q3 hq, hat_new_ne hX_q4 hq, hat_new, hFr.new hq _⟩
  refine lv_dup hx hb dX2_init_51 rfl ?_
  refine m_callIN Z C hM hS (As := []) (rest := [.ref q5, .ref o]) (c_X3_init Z h q5 hX_q5) yi_X3_init mn_X2_37 ⟨Nat.le_of_ble_eq_true rfl, Nat.le_of_ble_eq_true rfl⟩ (Nat.le_of_ble_eq_true rfl) hl.1 rfl rfl dX2_init_52 ⟨Nat.le_of_ble_eq_true rfl, Nat.le_of_ble_eq_true rfl⟩ (fun v h9 H locs hv hM hS => ?_)
  obtain ⟨hv, q6, q7, q8, r, hY_o, hY_1, hY_2, hY_3, hR9, hinj, hrr, hf1, hf2, hf3, hN_q7_q8, hFr9⟩ := hv
  subst hv
  have hO_q6 := hFr.out hX_o hf1
  have hN_q1_q6 : q1 ≠ q6 := fun z => hf1 (z ▸ hX_q1.1)
  have hN_q2_q6 : q2 ≠ q6 := fun z => hf1 (z ▸ hX_q2.1)
  have hN_q3_q6 : q3 ≠ q6 := fun z => hf1 (z ▸ hX_q3.1)
  have hN_q4_q6 : q4 ≠ q6 := fun z => hf1 (z ▸ hX_q4.1)
  have hN_q5_q6 : q5 ≠ q6 := fun z => hf1 (z ▸ hX_q5.1)
  have hO_q7 := hFr.out hX_o hf2
  have hN_q1_q7 : q1 ≠ q7 := fun z => hf2 (z ▸ hX_q1.1)
  have hN_q2_q7 : q2 ≠ q7 := fun z => hf2 (z ▸ hX_q2.1)
  have hN_q3_q7 : q3 ≠ q7 := fun z => hf2 (z ▸ hX_q3.1)
  have hN_q4_q7 : q4 ≠ q7 := fun z => hf2 (z ▸ hX_q4.1)
  have hN_q5_q7 : q5 ≠ q7 := fun z => hf2 (z ▸ hX_q5.1)
  have hO_q8 := hFr.out hX_o hf3
  have hN_q1_q8 : q1 ≠ q8 := fun z => hf3 (z ▸ hX_q1.1)
  have hN_q2_q8 : q2 ≠ q8 := fun z => hf3 (z ▸ hX_q2.1)
  have hN_q3_q8 : q3 ≠ q8 := fun z => hf3 (z ▸ hX_q3.1)
  have hN_q4_q8 : q4 ≠ q8 := fun z => hf3 (z ▸ hX_q4.1)
  have hN_q5_q8 : q5 ≠ q8 := fun z => hf3 (z ▸ hX_q5.1)
  have hO_r : ∀ i : Nat, i < 5 → r i ∉ h0.1 := fun i hi => hFr.out hX_o (hrr i hi).1
  have hN_r_q1 : ∀ i : Nat, i < 5 → r i ≠ q1 := fun i hi z => (hrr i hi).1 (z ▸ hX_q1.1)
  have hN_r_q2 : ∀ i : Nat, i < 5 → r i ≠ q2 := fun i hi z => (hrr i hi).1 (z ▸ hX_q2.1)
  have hN_r_q3 : ∀ i : Nat, i < 5 → r i ≠ q3 := fun i hi z => (hrr i hi).1 (z ▸ hX_q3.1)
  have hN_r_q4 : ∀ i : Nat, i < 5 → r i ≠ q4 := fun i hi z => (hrr i hi).1 (z ▸ hX_q4.1)
  have hN_r_q5 : ∀ i : Nat, i < 5 → r i ≠ q5 := fun i hi z => (hrr i hi).1 (z ▸ hX_q5.1)
  refine W.eq (g2 := F0 mt 55 ls [.ref q5, .ref o]) rfl ?_
  obtain ⟨h, hM, hX_o, hX_q1, hX_q2, hX_q3, hX_q4, hX_q5, hX_q6, hX_q7, hX_q8, hR_r, hFr⟩ : ∃ h9, MW G s0.heap.size h9 H ∧ hat h9 o (eO 2 [.int a, .int d, .ref q1, .ref q2, .ref q3, .ref q4, .null, .int 0, .null]) ∧ hat h9 q1 (eL G 120 (fun _ => 0)) ∧ hat h9 q2 (eI G 120 (fun _ => 0)) ∧ hat h9 q3 (eI G 120 (fun _ => 0)) ∧ hat h9 q4 (eB G 15 (fun _ => none)) ∧ hat h9 q5 (eO 3 [.ref q6, .ref q7, .ref q8, .int (nI 0)]) ∧ hat h9 q6 (eA G 5 (fun i => if i < 5 then some (r i) else none)) ∧ hat h9 q7 (eI G 5 (fun _ => 0)) ∧ hat h9 q8 (eI G 5 (fun _ => 0)) ∧ (∀ i : Nat, i < 5 → hat h9 (r i) (eI G 8 (fun _ => 0))) ∧ nFr h0 o h9 := ⟨_, hM, hFr9 _ _ (fun z => hO_q5 (z ▸ ho.1)) hX_o, hFr9 _ _ (fun z => hN_q1_q5 z) hX_q1, hFr9 _ _ (fun z => hN_q2_q5 z) hX_q2, hFr9 _ _ (fun z => hN_q3_q5 z) hX_q3, hFr9 _ _ (fun z => hN_q4_q5 z) hX_q4, hY_o, hY_1, hY_2, hY_3, hR9, (fun b e n w => hFr9 b e (fun z => hO_q5 (z ▸ w.1)) (hFr b e n w))⟩
  refine m_putF Z C hM hS hX_o K_X2 6 (by decide) fl_X2_38 (v := .ref q5) rfl rfl rfl rfl (fs' := [.int a, .int d, .ref q1, .ref q2, .ref q3, .ref q4, .ref q5, .int 0, .null]) rfl (Nat.le_of_ble_eq_true rfl) dX2_init_55 (fun H locs hM hS => ?_)
  obtain ⟨h, hM, hX_o, hX_q1, hX_q2, hX_q3, hX_q4, hX_q5, hX_q6, hX_q7, hX_q8, hR_r, hFr⟩ : ∃ h9, MW G s0.heap.size h9 H ∧ hat h9 o (eO 2 [.int a, .int d, .ref q1, .ref q2, .ref q3, .ref q4, .ref q5, .int 0, .null]) ∧ hat h9 q1 (eL G 120 (fun _ => 0)) ∧ hat h9 q2 (eI G 120 (fun _ => 0)) ∧ hat h9 q3 (eI G 120 (fun _ => 0)) ∧ hat h9 q4 (eB G 15 (fun _ => none)) ∧ hat h9 q5 (eO 3 [.ref q6, .ref q7, .ref q8, .int (nI 0)]) ∧ hat h9 q6 (eA G 5 (fun i => if i < 5 then some (r i) else none)) ∧ hat h9 q7 (eI G 5 (fun _ => 0)) ∧ hat h9 q8 (eI G 5 (fun _ => 0)) ∧ (∀ i : Nat, i < 5 → hat h9 (r i) (eI G 8 (fun _ => 0))) ∧ nFr h0 o h9 := ⟨_, hM, hat_put hX_o, hat_put_ne hX_q1 (fun z => hO_q1 (z ▸ ho.1)), hat_put_ne hX_q2 (fun z => hO_q2 (z ▸ ho.1)), hat_put_ne hX_q3 (fun z => hO_q3 (z ▸ ho.1)), hat_put_ne hX_q4 (fun z => hO_q4 (z ▸ ho.1)), hat_put_ne hX_q5 (fun z => hO_q5 (z ▸ ho.1)), hat_put_ne hX_q6 (fun z => hO_q6 (z ▸ ho.1)), hat_put_ne hX_q7 (fun z => hO_q7 (z ▸ ho.1)), hat_put_ne hX_q8 (fun z => hO_q8 (z ▸ ho.1)), (fun i hi => hat_put_ne (hR_r i hi) (fun z => hO_r i hi (z ▸ ho.1))), hFr.put _⟩
  refine lv_aload_n hx hb dX2_init_58 rfl (lv_at hl 0 rfl) ?_
  refine lv_iconst (v := nI 0) hx hb dX2_init_59 (by decide) ?_
  refine m_put Z C hM hS hX_o K_X2 7 (by decide) fl_X2_42 (v := .int (nI 0)) rfl rfl rfl (fs' := [.int a, .int d, .ref q1, .ref q2, .ref q3, .ref q4, .ref q5, .int (nI 0), .null]) rfl (Nat.le_of_ble_eq_true rfl) dX2_init_60 (fun H locs hM hS => ?_)
  obtain ⟨h, hM, hX_o, hX_q1, hX_q2, hX_q3, hX_q4, hX_q5, hX_q6, hX_q7, hX_q8, hR_r, hFr⟩ : ∃ h9, MW G s0.heap.size h9 H ∧ hat h9 o (eO 2 [.int a, .int d, .ref q1, .ref q2, .ref q3, .ref q4, .ref q5, .int (nI 0), .null]) ∧ hat h9 q1 (eL G 120 (fun _ => 0)) ∧ hat h9 q2 (eI G 120 (fun _ => 0)) ∧ hat h9 q3 (eI G 120 (fun _ => 0)) ∧ hat h9 q4 (eB G 15 (fun _ => none)) ∧ hat h9 q5 (eO 3 [.ref q6, .ref q7, .ref q8, .int (nI 0)]) ∧ hat h9 q6 (eA G 5 (fun i => if i < 5 then some (r i) else none)) ∧ hat h9 q7 (eI G 5 (fun _ => 0)) ∧ hat h9 q8 (eI G 5 (fun _ => 0)) ∧ (∀ i : Nat, i < 5 → hat h9 (r i) (eI G 8 (fun _ => 0))) ∧ nFr h0 o h9 := ⟨_, hM, hat_put hX_o, hat_put_ne hX_q1 (fun z => hO_q1 (z ▸ ho.1)), hat_put_ne hX_q2 (fun z => hO_q2 (z ▸ ho.1)), hat_put_ne hX_q3 (fun z => hO_q3 (z ▸ ho.1)), hat_put_ne hX_q4 (fun z => hO_q4 (z ▸ ho.1)), hat_put_ne hX_q5 (fun z => hO_q5 (z ▸ ho.1)), hat_put_ne hX_q6 (fun z => hO_q6 (z ▸ ho.1)), hat_put_ne hX_q7 (fun z => hO_q7 (z ▸ ho.1)), hat_put_ne hX_q8 (fun z => hO_q8 (z ▸ ho.1)), (fun i hi => hat_put_ne (hR_r i hi) (fun z => hO_r i hi (z ▸ ho.1))), hFr.put _⟩
  refine lv_aload_n hx hb dX2_init_63 rfl (lv_at hl 0 rfl) ?_
  refine lv_null hx hb dX2_init_64 ?_
  refine m_put Z C hM hS hX_o K_X2 8 (by decide) fl_X2_45 (v := .null) rfl rfl rfl (fs' := [.int a, .int d, .ref q1, .ref q2, .ref q3, .ref q4, .ref q5, .int (nI 0), .null]) rfl (Nat.le_of_ble_eq_true rfl) dX2_init_65 (fun H locs hM hS => ?_)
  obtain ⟨h, hM, hX_o, hX_q1, hX_q2, hX_q3, hX_q4, hX_q5, hX_q6, hX_q7, hX_q8, hR_r, hFr⟩ : ∃ h9, MW G s0.heap.size h9 H ∧ hat h9 o (eO 2 [.int a, .int d, .ref q1, .ref q2, .ref q3, .ref q4, .ref q5, .int (nI 0), .null]) ∧ hat h9 q1 (eL G 120 (fun _ => 0)) ∧ hat h9 q2 (eI G 120 (fun _ => 0)) ∧ hat h9 q3 (eI G 120 (fun _ => 0)) ∧ hat h9 q4 (eB G 15 (fun _ => none)) ∧ hat h9 q5 (eO 3 [.ref q6, .ref q7, .ref q8, .int (nI 0)]) ∧ hat h9 q6 (eA G 5 (fun i => if i < 5 then some (r i) else none)) ∧ hat h9 q7 (eI G 5 (fun _ => 0)) ∧ hat h9 q8 (eI G 5 (fun _ => 0)) ∧ (∀ i : Nat, i < 5 → hat h9 (r i) (eI G 8 (fun _ => 0))) ∧ nFr h0 o h9 := ⟨_, hM, hat_put hX_o, hat_put_ne hX_q1 (fun z => hO_q1 (z ▸ ho.1)), hat_put_ne hX_q2 (fun z => hO_q2 (z ▸ ho.1)), hat_put_ne hX_q3 (fun z => hO_q3 (z ▸ ho.1)), hat_put_ne hX_q4 (fun z => hO_q4 (z ▸ ho.1)), hat_put_ne hX_q5 (fun z => hO_q5 (z ▸ ho.1)), hat_put_ne hX_q6 (fun z => hO_q6 (z ▸ ho.1)), hat_put_ne hX_q7 (fun z => hO_q7 (z ▸ ho.1)), hat_put_ne hX_q8 (fun z => hO_q8 (z ▸ ho.1)), (fun i hi => hat_put_ne (hR_r i hi) (fun z => hO_r i hi (z ▸ ho.1))), hFr.put _⟩
  exact m_vret C hM hS (Nat.le_of_ble_eq_true rfl) (Nat.le_of_ble_eq_true rfl) dX2_init_68 ⟨rfl, q1, q2, q3, q4, q5, q6, q7, q8, r, hX_o, hX_q1, hX_q2, hX_q3, hX_q4, hX_q5, hX_q6, hX_q7, hX_q8, hR_r, hinj, hO_r, hO_q1, hO_q2, hO_q3, hO_q4, hO_q5, hO_q6, hO_q7, hO_q8, hN_q2_q3, hN_q7_q8, hFr⟩
