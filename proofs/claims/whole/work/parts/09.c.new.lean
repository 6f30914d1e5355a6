set_option maxRecDepth 100000 in
set_option maxHeartbeats 4000000 in
theorem c_X3_init {l : Launch} {G : mG} {a0 : Array Value} {s0 : State} (Z : mZ l G a0 s0) (h0 : Hp) (o : Nat) (ho : hat h0 o (eO 3 [.null, .null, .null, .int 0])) : mM l G s0 yX3_init cX3_init 1 none 1 24 8 55 h0 [.ref o] (fun v9 h9 => v9 = none ∧ ∃ q1 : Nat, ∃ q2 : Nat, ∃ q3 : Nat, ∃ r : Nat → Nat, hat h9 o (eO 3 [.ref q1, .ref q2, .ref q3, .int (nI 0)]) ∧ hat h9 q1 (eA G 5 (fun i => if i < 5 then some (r i) else none)) ∧ hat h9 q2 (eI G 5 (fun _ => 0)) ∧ hat h9 q3 (eI G 5 (fun _ => 0)) ∧ (∀ i : Nat, i < 5 → hat h9 (r i) (eI G 8 (fun _ => 0))) ∧ (∀ i j : Nat, i < 5 → j < 5 → r i = r j → i = j) ∧ (∀ i : Nat, i < 5 → r i ∉ h0.1 ∧ r i ≠ q2 ∧ r i ≠ q3) ∧ q1 ∉ h0.1 ∧ q2 ∉ h0.1 ∧ q3 ∉ h0.1 ∧ q2 ≠ q3 ∧ nFr h0 o h9) := by
  refine mM_in RX3 "<init>" rfl rfl (by decide +kernel) (Nat.le_of_ble_eq_true rfl) ?_
  intro p e s mt below meth c H locs C hM hS ls hl
  have hx := C.1
  have hb := C.2.1
  have hown := C.2.2.2.1
  have hE := C.2.2.2.2.2.2.1
  have hl : lv_has ls 1 [(0, .ref o)] := hl
  obtain ⟨h, hM, hX_o, hFr⟩ : ∃ h9, MW G s0.heap.size h9 H ∧ hat h9 o (eO 3 [.null, .null, .null, .int 0]) ∧ nFr h0 o h9 := ⟨_, hM, ho, nFr.rf⟩
  refine lv_aload_n hx hb dX3_init_0 rfl (lv_at hl 0 rfl) ?_
  refine m_objInit Z C ml_X3_3 hl.1 dX3_init_1 ⟨Nat.le_of_ble_eq_true rfl, Nat.le_of_ble_eq_true rfl⟩ ?_
  refine W.eq (g2 := F0 mt 4 ls []) rfl ?_
  refine lv_aload_n hx hb dX3_init_4 rfl (lv_at hl 0 rfl) ?_
  refine lv_iconst (v := nI 5) hx hb dX3_init_5 (by decide) ?_
  refine lv_bipush (v := nI 8) hx hb dX3_init_6 (by decide) ?_
  refine m_mna Z C hM hS cl_X3_9 wa_int wo_ii 5 8 (by decide) (by decide) rfl rfl (by decide) (by decide) (Nat.le_of_ble_eq_true rfl) (Nat.le_of_ble_eq_true rfl) dX3_init_8 (fun q1 r h9 H hinj hrn hqn hqr hX9 hR9 hkeep hM hS => ?_)
  have hO_q1 := hFr.out hX_o hqn
  have hO_r : ∀ i : Nat, i < 5 → r i ∉ h0.1 := fun i hi => hFr.out hX_o (hrn i hi)
  obtain ⟨h, hM, hX_o, hX_q1, hR_r, hFr⟩ : ∃ h9, MW G s0.heap.size h9 H ∧ hat h9 o (eO 3 [.null, .null, .null, .int 0]) ∧ hat h9 q1 (eA G 5 (fun i => if i < 5 then some (r i) else none)) ∧ (∀ i : Nat, i < 5 → hat h9 (r i) (eI G 8 (fun _ => 0))) ∧ nFr h0 o h9 := ⟨_, hM, hkeep _ _ hX_o, hX9, hR9, (fun b e n w => hkeep _ _ (hFr b e n w))⟩
  refine m_putF Z C hM hS hX_o K_X3 0 (by decide) fl_X3_11 (v := .ref q1) rfl rfl rfl rfl (fs' := [.ref q1, .null, .null, .int 0]) rfl (Nat.le_of_ble_eq_true rfl) dX3_init_12 (fun H locs hM hS => ?_)
  obtain ⟨h, hM, hX_o, hX_q1, hR_r, hFr⟩ : ∃ h9, MW G s0.heap.size h9 H ∧ hat h9 o (eO 3 [.ref q1, .null, .null, .int 0]) ∧ hat h9 q1 (eA G 5 (fun i => if i < 5 then some (r i) else none)) ∧ (∀ i : Nat, i < 5 → hat h9 (r i) (eI G 8 (fun _ => 0))) ∧ nFr h0 o h9 := ⟨_, hM, hat_put hX_o, hat_put_ne hX_q1 (fun z => hO_q1 (z ▸ ho.1)), (fun i hi => hat_put_ne (hR_r i hi) (fun z => hO_r i hi (z ▸ ho.1))), hFr.put _⟩
  refine lv_aload_n hx hb dX3_init_15 rfl (lv_at hl 0 rfl) ?_
  refine lv_iconst (v := nI 5) hx hb dX3_init_16 (by decide) ?_
  refine m_newI Z C hM hS 5 (by decide) rfl (by decide) (Nat.le_of_ble_eq_true rfl) (Nat.le_of_ble_eq_true rfl) dX3_init_17 (fun q2 H hq hM hS => ?_)
  have hO_q2 := hFr.out hX_o hq
  have hN_q1_q2 : q1 ≠ q2 := fun z => hq (z ▸ hX_q1.1)
  have hN_r_q2 : ∀ i : Nat, i < 5 → r i ≠ q2 := fun i hi z => hq (z ▸ (hR_r i hi).1)
  obtain ⟨h, hM, hX_o, hX_q1, hX_q2, hR_r, hFr⟩ : ∃ h9, MW G s0.heap.size h9 H ∧ hat h9 o (eO 3 [.ref q1, .null, .null, .int 0]) ∧ hat h9 q1 (eA G 5 (fun i => if i < 5 then some (r i) else none)) ∧ hat h9 q2 (eI G 5 (fun _ => 0)) ∧ (∀ i : Nat, i < 5 → hat h9 (r i) (eI G 8 (fun _ => 0))) ∧ nFr h0 o h9 := ⟨_, hM, hat_new_ne hX_o hq, hat_new_ne hX_q1 hq, hat_new, (fun i hi => hat_new_ne (hR_r i hi) hq), hFr.new hq _⟩
  refine m_putF Z C hM hS hX_o K_X3 1 (by decide) fl_X3_16 (v := .ref q2) rfl rfl rfl rfl (fs' := [.ref q1, .ref q2, .null, .int 0]) rfl (Nat.le_of_ble_eq_true rfl) dX3_init_19 (fun H locs hM hS => ?_)
  obtain ⟨h, hM, hX_o, hX_q1, hX_q2, hR_r, hFr⟩ : ∃ h9, MW G s0.heap.size h9 H ∧ hat h9 o (eO 3 [.ref q1, .ref q2, .null, .int 0]) ∧ hat h9 q1 (eA G 5 (fun i => if i < 5 then some (r i) else none)) ∧ hat h9 q2 (eI G 5 (fun _ => 0)) ∧ (∀ i : Nat, i < 5 → hat h9 (r i) (eI G 8 (fun _ => 0))) ∧ nFr h0 o h9 := ⟨_, hM, hat_put hX_o, hat_put_ne hX_q1 (fun z => hO_q1 (z ▸ ho.1)), hat_put_ne hX_q2 (fun z => hO_q2 (z ▸ ho.1)), (fun i hi => hat_put_ne (hR_r i hi) (fun z => hO_r i hi (z ▸ ho.1))), hFr.put _⟩
  refine lv_aload_n hx hb dX3_init_22 rfl (lv_at hl 0 rfl) ?_
  refine lv_iconst (v := nI 5) hx hb dX3_init_23 (by decide) ?_
  refine m_newI Z C hM hS 5 (by decide) rfl (by decide) (Nat.le_of_ble_eq_true rfl) (Nat.le_of_ble_eq_true rfl) dX3_init_24 (fun q3 H hq hM hS => ?_)
  have hO_q3 := hFr.out hX_o hq
  have hN_q1_q3 : q1 ≠ q3 := fun z => hq (z ▸ hX_q1.1)
  have hN_q2_q3 : q2 ≠ q3 := fun z => hq (z ▸ hX_q2.1)
  have hN_r_q3 : ∀ i : Nat, i < 5 → r i ≠ q3 := fun i hi z => hq (z ▸ (hR_r i hi).1)
  obtain ⟨h, hM, hX_o, hX_q1, hX_q2, hX_q3, hR_r, hFr⟩ : ∃ h9, MW G s0.heap.size h9 H ∧ hat h9 o (eO 3 [.ref q1, .ref q2, .null, .int 0]) ∧ hat h9 q1 (eA G 5 (fun i => if i < 5 then some (r i) else none)) ∧ hat h9 q2 (eI G 5 (fun _ => 0)) ∧ hat h9 q3 (eI G 5 (fun _ => 0)) ∧ (∀ i : Nat, i < 5 → hat h9 (r i) (eI G 8 (fun _ => 0))) ∧ nFr h0 o h9 := ⟨_, hM, hat_new_ne hX_o hq, hat_new_ne hX_q1 hq, hat_new_ne hX_q2 hq, hat_new, (fun i hi => hat_new_ne (hR_r i hi) hq), hFr.new hq _⟩
  refine m_putF Z C hM hS hX_o K_X3 2 (by decide) fl_X3_20 (v := .ref q3) rfl rfl rfl rfl (fs' := [.ref q1, .ref q2, .ref q3, .int 0]) rfl (Nat.le_of_ble_eq_true rfl) dX3_init_26 (fun H locs hM hS => ?_)
  obtain ⟨h, hM, hX_o, hX_q1, hX_q2, hX_q3, hR_r, hFr⟩ : ∃ h9, MW G s0.heap.size h9 H ∧ hat h9 o (eO 3 [.ref q1, .ref q2, .ref q3, .int 0]) ∧ hat h9 q1 (eA G 5 (fun i => if i < 5 then some (r i) else none)) ∧ hat h9 q2 (eI G 5 (fun _ => 0)) ∧ hat h9 q3 (eI G 5 (fun _ => 0)) ∧ (∀ i : Nat, i < 5 → hat h9 (r i) (eI G 8 (fun _ => 0))) ∧ nFr h0 o h9 := ⟨_, hM, hat_put hX_o, hat_put_ne hX_q1 (fun z => hO_q1 (z ▸ ho.1)), hat_put_ne hX_q2 (fun z => hO_q2 (z ▸ ho.1)), hat_put_ne hX_q3 (fun z => hO_q3 (z ▸ ho.1)), (fun i hi => hat_put_ne (hR_r i hi) (fun z => hO_r i hi (z ▸ ho.1))), hFr.put _⟩
  refine lv_aload_n hx hb dX3_init_29 rfl (lv_at hl 0 rfl) ?_
  refine lv_iconst (v := nI 0) hx hb dX3_init_30 (by decide) ?_
  refine m_put Z C hM hS hX_o K_X3 3 (by decide) fl_X3_23 (v := .int (nI 0)) rfl rfl rfl (fs' := [.ref q1, .ref q2, .ref q3, .int (nI 0)]) rfl (Nat.le_of_ble_eq_true rfl) dX3_init_31 (fun H locs hM hS => ?_)
  obtain ⟨h, hM, hX_o, hX_q1, hX_q2, hX_q3, hR_r, hFr⟩ : ∃ h9, MW G s0.heap.size h9 H ∧ hat h9 o (eO 3 [.ref q1, .ref q2, .ref q3, .int (nI 0)]) ∧ hat h9 q1 (eA G 5 (fun i => if i < 5 then some (r i) else none)) ∧ hat h9 q2 (eI G 5 (fun _ => 0)) ∧ hat h9 q3 (eI G 5 (fun _ => 0)) ∧ (∀ i : Nat, i < 5 → hat h9 (r i) (eI G 8 (fun _ => 0))) ∧ nFr h0 o h9 := ⟨_, hM, hat_put hX_o, hat_put_ne hX_q1 (fun z => hO_q1 (z ▸ ho.1)), hat_put_ne hX_q2 (fun z => hO_q2 (z ▸ ho.1)), hat_put_ne hX_q3 (fun z => hO_q3 (z ▸ ho.1)), (fun i hi => hat_put_ne (hR_r i hi) (fun z => hO_r i hi (z ▸ ho.1))), hFr.put _⟩
  exact m_vret C hM hS (Nat.le_of_ble_eq_true rfl) (Nat.le_of_ble_eq_true rfl) dX3_init_34 ⟨rfl, q1, q2, q3, r, hX_o, hX_q1, hX_q2, hX_q3, hR_r, hinj, fun i hi => ⟨hO_r i hi, hN_r_q2 i hi, hN_r_q3 i hi⟩, hO_q1, hO_q2, hO_q3, hN_q2_q3, hFr⟩
