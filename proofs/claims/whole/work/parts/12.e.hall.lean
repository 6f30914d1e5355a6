set_option maxRecDepth 100000 in
set_option maxHeartbeats 4000000 in
theorem c_X5_bitsOf {l : Launch} {G : mG} {a0 : Array Value} {s0 : State} (Z : mZ l G a0 s0) (h0 : Hp) (A : Cd → Nat) (tg : Nat → Cd) (st : Ms) (X : Nat → Xs) (fd : Nat) (tt : Int64) (gr : Int32) (hC : CW h0 A tg (clS G A (st_many st) (st_now st) X fd tt gr)) (hk : Iv st) (hR : ∀ k : Nat, k < st_many st → Rx st k (X k)) (x : Int32) (y : Int32) : mT l G s0 yX5_bitsOf cX5_bitsOf 4 (some .int) 7 112 2 12 h0 [.ref (A (cd 0 1 0)), .int x, .int y] (fun v9 h9 => (∃ k : Nat, ∃ j : Nat, (k < st_many st) ∧ (x = nI k) ∧ (j < z_nb st k) ∧ (y = nI j) ∧ v9 = some (.int (nI (z_bits st k j))) ∧ NW G h0 h9 A tg st)) (fun E h9 => (E = "java/util/NoSuchElementException" ∧ (∀ k : Nat, k < st_many st → x ≠ nI k) ∧ NW G h0 h9 A tg st) ∨ (∃ k : Nat, E = "java/lang/IndexOutOfBoundsException" ∧ (k < st_many st) ∧ (x = nI k) ∧ (∀ j : Nat, j < z_nb st k → y ≠ nI j) ∧ NW G h0 h9 A tg st)) := by
  refine mT_in RX5 "bitsOf" rfl rfl (by decide +kernel) (Nat.le_of_ble_eq_true rfl) ?_
  intro p e s mt below meth c H locs C ht hM hS ls hl
  have hx := C.1
  have hb := C.2.1
  have hown := C.2.2.2.1
  have hE := C.2.2.2.2.2.2.1
  have hl : lv_has ls 4 [(0, .ref (A (cd 0 1 0))), (1, .int x), (2, .int y)] := hl
  have hF : cFr h0 tg h0 tg := cFr.rf
  obtain ⟨h, hM, hC, hF, hh⟩ : ∃ h9, MW G s0.heap.size h9 H ∧ CW h9 A tg (clS G A (st_many st) (st_now st) X fd tt gr) ∧ cFr h0 tg h9 tg ∧ h9 = h0 := ⟨_, hM, hC, hF, rfl⟩
  refine lv_aload_n hx hb dX5_bitsOf_0 rfl (lv_at hl 0 rfl) ?_
  refine lv_iload_n hx hb dX5_bitsOf_1 rfl (lv_at hl 1 rfl) ?_
  refine m_xcallV Z C hM hS (As := [.int x]) (rest := []) (c_X5_rowOf Z h A tg st X fd tt gr hC hk hR x) yi_X5_rowOf ml_X5_57 (hC.at (clS_h)) rfl ⟨Nat.le_of_ble_eq_true rfl, Nat.le_of_ble_eq_true rfl⟩ (Nat.le_of_ble_eq_true rfl) hl.1 rfl rfl dX5_bitsOf_2 ⟨Nat.le_of_ble_eq_true rfl, Nat.le_of_ble_eq_true rfl⟩ (fun E ce q9 h9 H locs hv hM hS g1 g2 g3 => ?_) (fun v h9 H locs hv hM hS => ?_)
  · -- thrown at 2
    obtain ⟨hE, f_4, hh9⟩ := hv
    rw [hh9] at hM
    exact m_out C ht hM hS (Nat.le_of_ble_eq_true rfl) (Nat.le_of_ble_eq_true rfl) g1 g2 g3 (Or.inl ⟨hE, f_4, ⟨A, tg, X, _, _, _, rfl, hC, hF, hR⟩⟩)
  · -- back at 2
    obtain ⟨k_1, f_2, f_3, hv, hh9⟩ := hv
    subst hv
    rw [hh9] at hM
    obtain ⟨T, U, F, al, hXk, hRi⟩ := hR k_1 f_2
    have hn := hk.n f_2
    obtain ⟨hT, hU, hUr, hRw, hEr, hFs, hal⟩ := hRi
    have hTb : ∀ i : Nat, i < st_n st k_1 → T i < 1073741824 := fun i hi => by rw [hT i hi]; exact hk.T f_2 hi
    refine W.eq (g2 := F0 mt 5 ls [.ref (A (cd (k_1 + 1) 0 0))]) rfl ?_
    refine lv_iload_n hx hb dX5_bitsOf_5 rfl (lv_at hl 2 rfl) ?_
    refine m_callVN Z C hM hS (As := [.int y]) (rest := []) (c_X2_blockAt Z h A tg (clS G A (st_many st) (st_now st) X fd tt gr) hC k_1 y (st_nm st k_1) (st_ho st k_1) (st_n st k_1) (((x_av A k_1 al))) ((x_nb (st_n st k_1))) ((clS_at f_2 hXk srS_0)) ((clS_at f_2 hXk srS_4)) (by unfold x_nb; omega)) yi_X2_blockAt mn_X5_107 (hC.at ((clS_at f_2 hXk srS_0))) rfl ⟨Nat.le_of_ble_eq_true rfl, Nat.le_of_ble_eq_true rfl⟩ (Nat.le_of_ble_eq_true rfl) hl.1 rfl rfl dX5_bitsOf_6 ⟨Nat.le_of_ble_eq_true rfl, Nat.le_of_ble_eq_true rfl⟩ (fun v h9 H locs hv hM hS => ?_)
    rcases hv with ⟨j_5, f_6, f_7, hv, hh9⟩ | ⟨f_8, hv, hh9⟩
    · -- of 6
      subst hv
      rw [hh9] at hM
      refine W.eq (g2 := F0 mt 9 ls [.ref (A (cd (k_1 + 1) 14 j_5))]) rfl ?_
      refine lv_astore_n (lv' := [(3, .ref (A (cd (k_1 + 1) 14 j_5))), (0, .ref (A (cd 0 1 0))), (1, .int x), (2, .int y)]) hx hb dX5_bitsOf_9 rfl hl (by decide) rfl (fun ls hl => ?_)
      refine lv_aload_n hx hb dX5_bitsOf_10 rfl (lv_at hl 0 rfl) ?_
      refine lv_ifnonnull (tgt := 24) hx hb dX5_bitsOf_11 (by decide) ?_
      refine lv_aload_n hx hb dX5_bitsOf_24 rfl (lv_at hl 0 rfl) ?_
      refine m_getN Z C hM (hC.at ((clS_at f_2 hXk (srS_14 (show j_5 < x_nb (st_n st k_1) by first | omega | (unfold x_nb; omega)))))) K_X1 5 (by decide) fn_X5_116 (v := .int (nI (x_bb T U j_5 (x_sz (st_n st k_1) j_5 - 1)))) rfl dX5_bitsOf_25 ?_
      refine vx_ret ?_
      exact m_iret C hM hS (Nat.le_of_ble_eq_true rfl) (Nat.le_of_ble_eq_true rfl) dX5_bitsOf_28 ⟨k_1, j_5, f_2, f_3, f_6, f_7, (by rw [x_bits hT hU f_6]), ⟨A, tg, X, _, _, _, rfl, hC, hF, hR⟩⟩
    · -- of 6
      subst hv
      rw [hh9] at hM
      refine W.eq (g2 := F0 mt 9 ls [.null]) rfl ?_
      refine lv_astore_nN (lv' := [(3, .null), (0, .ref (A (cd 0 1 0))), (1, .int x), (2, .int y)]) hx hb dX5_bitsOf_9 rfl hl (by decide) rfl (fun ls hl => ?_)
      refine lv_aload_nN hx hb dX5_bitsOf_10 rfl (lv_at hl 0 rfl) ?_
      refine lv_ifnonnullN hx hb dX5_bitsOf_11 ?_
      exact m_throw Z C ht hM hS xy_X5_bitsOf_14 hl.1 dX5_bitsOf_14 dX5_bitsOf_17 dX5_bitsOf_18 dX5_bitsOf_20 dX5_bitsOf_23 ⟨Nat.le_of_ble_eq_true rfl, Nat.le_of_ble_eq_true rfl, Nat.le_of_ble_eq_true rfl, Nat.le_of_ble_eq_true rfl⟩ (Nat.le_of_ble_eq_true rfl) (Nat.le_of_ble_eq_true rfl) (Or.inr ⟨k_1, rfl, f_2, f_3, f_8, ⟨A, tg, X, _, _, _, rfl, hC, hF, hR⟩⟩)
set_option maxRecDepth 100000 in
set_option maxHeartbeats 4000000 in
theorem c_X5_blockOfSample {l : Launch} {G : mG} {a0 : Array Value} {s0 : State} (Z : mZ l G a0 s0) (h0 : Hp) (A : Cd → Nat) (tg : Nat → Cd) (st : Ms) (X : Nat → Xs) (fd : Nat) (tt : Int64) (gr : Int32) (hC : CW h0 A tg (clS G A (st_many st) (st_now st) X fd tt gr)) (hk : Iv st) (hR : ∀ k : Nat, k < st_many st → Rx st k (X k)) (k : Nat) (hk9 : k < st_many st) (y : Int32) : mT l G s0 yX5_blockOfSample cX5_blockOfSample 3 (some (.object "GaugeHall$Block")) 6 90 1 6 h0 [.ref (A (cd (k + 1) 0 0)), .int y] (fun v9 h9 => (∃ j : Nat, (j < st_n st k) ∧ (y = nI j) ∧ v9 = some (.ref (A (cd (k + 1) 14 (j / 8)))) ∧ h9 = h0)) (fun E h9 => (E = "java/lang/IndexOutOfBoundsException" ∧ (∀ j : Nat, j < st_n st k → y ≠ nI j) ∧ h9 = h0)) := by
  refine mT_in RX5 "blockOfSample" rfl rfl (by decide +kernel) (Nat.le_of_ble_eq_true rfl) ?_
  intro p e s mt below meth c H locs C ht hM hS ls hl
  have hx := C.1
  have hb := C.2.1
  have hown := C.2.2.2.1
  have hE := C.2.2.2.2.2.2.1
  have hl : lv_has ls 3 [(0, .ref (A (cd (k + 1) 0 0))), (1, .int y)] := hl
  have hF : cFr h0 tg h0 tg := cFr.rf
  obtain ⟨h, hM, hC, hF, hh⟩ : ∃ h9, MW G s0.heap.size h9 H ∧ CW h9 A tg (clS G A (st_many st) (st_now st) X fd tt gr) ∧ cFr h0 tg h9 tg ∧ h9 = h0 := ⟨_, hM, hC, hF, rfl⟩
  obtain ⟨T, U, F, al, hXk, hRi⟩ := hR k hk9
  have hn := hk.n hk9
  obtain ⟨hT, hU, hUr, hRw, hEr, hFs, hal⟩ := hRi
  have hTb : ∀ i : Nat, i < st_n st k → T i < 1073741824 := fun i hi => by rw [hT i hi]; exact hk.T hk9 hi
  refine lv_iload_n hx hb dX5_blockOfSample_0 rfl (lv_at hl 1 rfl) ?_
  refine lv_if_lt (tgt := 23) hx hb dX5_blockOfSample_1 (by decide) (fun c_1 => ?_) (fun c_1 => ?_)
  · -- 1 t
    refine lv_null hx hb dX5_blockOfSample_23 ?_
    refine lv_astore_nN (lv' := [(2, .null), (0, .ref (A (cd (k + 1) 0 0))), (1, .int y)]) hx hb dX5_blockOfSample_24 rfl hl (by decide) rfl (fun ls hl => ?_)
    refine lv_aload_nN hx hb dX5_blockOfSample_25 rfl (lv_at hl 0 rfl) ?_
    refine lv_ifnonnullN hx hb dX5_blockOfSample_26 ?_
    exact m_throw Z C ht hM hS xy_X5_blockOfSample_29 hl.1 dX5_blockOfSample_29 dX5_blockOfSample_32 dX5_blockOfSample_33 dX5_blockOfSample_35 dX5_blockOfSample_38 ⟨Nat.le_of_ble_eq_true rfl, Nat.le_of_ble_eq_true rfl, Nat.le_of_ble_eq_true rfl, Nat.le_of_ble_eq_true rfl⟩ (Nat.le_of_ble_eq_true rfl) (Nat.le_of_ble_eq_true rfl) ⟨rfl, (ix_neg c_1 (by omega)), hh⟩
  · -- 1 f
    refine lv_iload_n hx hb dX5_blockOfSample_4 rfl (lv_at hl 1 rfl) ?_
    refine lv_aload_n hx hb dX5_blockOfSample_5 rfl (lv_at hl 0 rfl) ?_
    refine m_getN Z C hM (hC.at ((clS_at hk9 hXk srS_0))) K_X2 7 (by decide) fn_X5_82 (v := .int (nI (st_n st k))) rfl dX5_blockOfSample_6 ?_
    refine lv_icmp_ge (tgt := 23) hx hb dX5_blockOfSample_9 (by decide) (fun c_3 => ?_) (fun c_3 => ?_)
    · -- 9 t
      refine lv_null hx hb dX5_blockOfSample_23 ?_
      refine lv_astore_nN (lv' := [(2, .null), (0, .ref (A (cd (k + 1) 0 0))), (1, .int y)]) hx hb dX5_blockOfSample_24 rfl hl (by decide) rfl (fun ls hl => ?_)
      refine lv_aload_nN hx hb dX5_blockOfSample_25 rfl (lv_at hl 0 rfl) ?_
      refine lv_ifnonnullN hx hb dX5_blockOfSample_26 ?_
      exact m_throw Z C ht hM hS xy_X5_blockOfSample_29 hl.1 dX5_blockOfSample_29 dX5_blockOfSample_32 dX5_blockOfSample_33 dX5_blockOfSample_35 dX5_blockOfSample_38 ⟨Nat.le_of_ble_eq_true rfl, Nat.le_of_ble_eq_true rfl, Nat.le_of_ble_eq_true rfl, Nat.le_of_ble_eq_true rfl⟩ (Nat.le_of_ble_eq_true rfl) (Nat.le_of_ble_eq_true rfl) ⟨rfl, (ix_ge c_3 (by omega) (Nat.le_refl _)), hh⟩
    · -- 9 f
      obtain ⟨j, hj, hyj⟩ := ix_lt c_1 c_3 (by omega)
      subst hyj
      refine lv_aload_n hx hb dX5_blockOfSample_12 rfl (lv_at hl 0 rfl) ?_
      refine lv_iload_n hx hb dX5_blockOfSample_13 rfl (lv_at hl 1 rfl) ?_
      refine lv_bipush (v := nI 8) hx hb dX5_blockOfSample_14 (by decide) ?_
      refine n_idiv hx hb (by omega) (by decide) (by decide) dX5_blockOfSample_16 ?_
      refine m_callVN Z C hM hS (As := [.int (nI (j / 8))]) (rest := []) (c_X2_blockAtJ Z h A tg (clS G A (st_many st) (st_now st) X fd tt gr) hC k (j / 8) (st_nm st k) (st_ho st k) (st_n st k) (((x_av A k al))) ((x_nb (st_n st k))) ((clS_at hk9 hXk srS_0)) ((clS_at hk9 hXk srS_4)) (by unfold x_nb; omega) (by unfold x_nb; omega)) yi_X2_blockAt mn_X5_107 (hC.at ((clS_at hk9 hXk srS_0))) rfl ⟨Nat.le_of_ble_eq_true rfl, Nat.le_of_ble_eq_true rfl⟩ (Nat.le_of_ble_eq_true rfl) hl.1 rfl rfl dX5_blockOfSample_17 ⟨Nat.le_of_ble_eq_true rfl, Nat.le_of_ble_eq_true rfl⟩ (fun v h9 H locs hv hM hS => ?_)
      obtain ⟨hv, hh9⟩ := hv
      subst hv
      rw [hh9] at hM
      refine W.eq (g2 := F0 mt 20 ls [.ref (A (cd (k + 1) 14 (j / 8)))]) rfl ?_
      refine lv_goto (tgt := 24) hx hb dX5_blockOfSample_20 (by decide) ?_
      refine lv_astore_n (lv' := [(2, .ref (A (cd (k + 1) 14 (j / 8)))), (0, .ref (A (cd (k + 1) 0 0))), (1, .int (nI j))]) hx hb dX5_blockOfSample_24 rfl hl (by decide) rfl (fun ls hl => ?_)
      refine lv_aload_n hx hb dX5_blockOfSample_25 rfl (lv_at hl 0 rfl) ?_
      refine lv_ifnonnull (tgt := 39) hx hb dX5_blockOfSample_26 (by decide) ?_
      refine lv_aload_n hx hb dX5_blockOfSample_39 rfl (lv_at hl 0 rfl) ?_
      refine vx_ret ?_
      exact m_aret C hM hS (Nat.le_of_ble_eq_true rfl) (Nat.le_of_ble_eq_true rfl) dX5_blockOfSample_40 ⟨j, hj, rfl, rfl, hh⟩
set_option maxRecDepth 100000 in
set_option maxHeartbeats 4000000 in
theorem c_X5_timeAt {l : Launch} {G : mG} {a0 : Array Value} {s0 : State} (Z : mZ l G a0 s0) (h0 : Hp) (A : Cd → Nat) (tg : Nat → Cd) (st : Ms) (X : Nat → Xs) (fd : Nat) (tt : Int64) (gr : Int32) (hC : CW h0 A tg (clS G A (st_many st) (st_now st) X fd tt gr)) (hk : Iv st) (hR : ∀ k : Nat, k < st_many st → Rx st k (X k)) (x : Int32) (y : Int32) : mT l G s0 yX5_timeAt cX5_timeAt 3 (some .long) 7 112 2 12 h0 [.ref (A (cd 0 1 0)), .int x, .int y] (fun v9 h9 => (∃ k : Nat, ∃ j : Nat, (k < st_many st) ∧ (x = nI k) ∧ (j < st_n st k) ∧ (y = nI j) ∧ v9 = some (.long (lN (st_T st (120 * k + j)))) ∧ NW G h0 h9 A tg st)) (fun E h9 => (E = "java/util/NoSuchElementException" ∧ (∀ k : Nat, k < st_many st → x ≠ nI k) ∧ NW G h0 h9 A tg st) ∨ (∃ k : Nat, E = "java/lang/IndexOutOfBoundsException" ∧ (k < st_many st) ∧ (x = nI k) ∧ (∀ j : Nat, j < st_n st k → y ≠ nI j) ∧ NW G h0 h9 A tg st)) := by
  refine mT_in RX5 "timeAt" rfl rfl (by decide +kernel) (Nat.le_of_ble_eq_true rfl) ?_
  intro p e s mt below meth c H locs C ht hM hS ls hl
  have hx := C.1
  have hb := C.2.1
  have hown := C.2.2.2.1
  have hE := C.2.2.2.2.2.2.1
  have hl : lv_has ls 3 [(0, .ref (A (cd 0 1 0))), (1, .int x), (2, .int y)] := hl
  have hF : cFr h0 tg h0 tg := cFr.rf
  obtain ⟨h, hM, hC, hF, hh⟩ : ∃ h9, MW G s0.heap.size h9 H ∧ CW h9 A tg (clS G A (st_many st) (st_now st) X fd tt gr) ∧ cFr h0 tg h9 tg ∧ h9 = h0 := ⟨_, hM, hC, hF, rfl⟩
  refine lv_aload_n hx hb dX5_timeAt_0 rfl (lv_at hl 0 rfl) ?_
  refine lv_iload_n hx hb dX5_timeAt_1 rfl (lv_at hl 1 rfl) ?_
  refine m_xcallV Z C hM hS (As := [.int x]) (rest := []) (c_X5_rowOf Z h A tg st X fd tt gr hC hk hR x) yi_X5_rowOf ml_X5_57 (hC.at (clS_h)) rfl ⟨Nat.le_of_ble_eq_true rfl, Nat.le_of_ble_eq_true rfl⟩ (Nat.le_of_ble_eq_true rfl) hl.1 rfl rfl dX5_timeAt_2 ⟨Nat.le_of_ble_eq_true rfl, Nat.le_of_ble_eq_true rfl⟩ (fun E ce q9 h9 H locs hv hM hS g1 g2 g3 => ?_) (fun v h9 H locs hv hM hS => ?_)
  · -- thrown at 2
    obtain ⟨hE, f_4, hh9⟩ := hv
    rw [hh9] at hM
    exact m_out C ht hM hS (Nat.le_of_ble_eq_true rfl) (Nat.le_of_ble_eq_true rfl) g1 g2 g3 (Or.inl ⟨hE, f_4, ⟨A, tg, X, _, _, _, rfl, hC, hF, hR⟩⟩)
  · -- back at 2
    obtain ⟨k_1, f_2, f_3, hv, hh9⟩ := hv
    subst hv
    rw [hh9] at hM
    obtain ⟨T, U, F, al, hXk, hRi⟩ := hR k_1 f_2
    have hn := hk.n f_2
    obtain ⟨hT, hU, hUr, hRw, hEr, hFs, hal⟩ := hRi
    have hTb : ∀ i : Nat, i < st_n st k_1 → T i < 1073741824 := fun i hi => by rw [hT i hi]; exact hk.T f_2 hi
    refine W.eq (g2 := F0 mt 5 ls [.ref (A (cd (k_1 + 1) 0 0))]) rfl ?_
    refine lv_iload_n hx hb dX5_timeAt_5 rfl (lv_at hl 2 rfl) ?_
    refine m_xcallS Z C hM hS (As := [.ref (A (cd (k_1 + 1) 0 0)), .int y]) (rest := []) (c_X5_blockOfSample Z h A tg st X fd tt gr hC hk hR k_1 f_2 y) yi_X5_blockOfSample ml_X5_121 ⟨Nat.le_of_ble_eq_true rfl, Nat.le_of_ble_eq_true rfl⟩ (Nat.le_of_ble_eq_true rfl) hl.1 rfl rfl dX5_timeAt_6 ⟨Nat.le_of_ble_eq_true rfl, Nat.le_of_ble_eq_true rfl⟩ (fun E ce q9 h9 H locs hv hM hS g1 g2 g3 => ?_) (fun v h9 H locs hv hM hS => ?_)
    · -- thrown at 6
      obtain ⟨hE, f_8, hh9⟩ := hv
      rw [hh9] at hM
      exact m_out C ht hM hS (Nat.le_of_ble_eq_true rfl) (Nat.le_of_ble_eq_true rfl) g1 g2 g3 (Or.inr ⟨k_1, hE, f_2, f_3, f_8, ⟨A, tg, X, _, _, _, rfl, hC, hF, hR⟩⟩)
    · -- back at 6
      obtain ⟨j_5, f_6, f_7, hv, hh9⟩ := hv
      subst hv
      rw [hh9] at hM
      subst f_7
      have htl := x_tell T U (st_n st k_1) j_5 f_6
      refine W.eq (g2 := F0 mt 9 ls [.ref (A (cd (k_1 + 1) 14 (j_5 / 8)))]) rfl ?_
      refine lv_iload_n hx hb dX5_timeAt_9 rfl (lv_at hl 2 rfl) ?_
      refine lv_bipush (v := nI 8) hx hb dX5_timeAt_10 (by decide) ?_
      refine n_irem hx hb (by omega) (by decide) (by decide) dX5_timeAt_12 ?_
      refine m_callVN Z C hM hS (As := [.int (nI (j_5 % 8))]) (rest := []) (c_X1_timeOfSample Z h A tg (clS G A (st_many st) (st_now st) X fd tt gr) hC k_1 (j_5 / 8) (j_5 % 8) (lN (T (8 * ((j_5 / 8))))) (U (8 * ((j_5 / 8)))) (x_sz (st_n st k_1) ((j_5 / 8))) (x_bb T U ((j_5 / 8)) (x_sz (st_n st k_1) ((j_5 / 8)) - 1)) (lN (T (8 * ((j_5 / 8)) + (x_sz (st_n st k_1) ((j_5 / 8)) - 1)))) (x_gp T ((j_5 / 8)) (x_sz (st_n st k_1) ((j_5 / 8)) - 1)) (U (8 * ((j_5 / 8)) + (x_sz (st_n st k_1) ((j_5 / 8)) - 1))) (x_ts T (st_n st k_1) ((j_5 / 8))) (x_vs U (st_n st k_1) ((j_5 / 8))) ((clS_at f_2 hXk (srS_14 (show (j_5 / 8) < x_nb (st_n st k_1) by first | omega | (unfold x_nb; omega))))) ((clS_at f_2 hXk (srS_15 (show (j_5 / 8) < x_nb (st_n st k_1) by first | omega | (unfold x_nb; omega))))) ((clS_at f_2 hXk (srS_16 (show (j_5 / 8) < x_nb (st_n st k_1) by first | omega | (unfold x_nb; omega))))) (Nat.mod_lt _ (by decide))) yi_X1_timeOfSample mn_X5_125 (hC.at ((clS_at f_2 hXk (srS_14 (show j_5 / 8 < x_nb (st_n st k_1) by first | omega | (unfold x_nb; omega)))))) rfl ⟨Nat.le_of_ble_eq_true rfl, Nat.le_of_ble_eq_true rfl⟩ (Nat.le_of_ble_eq_true rfl) hl.1 rfl rfl dX5_timeAt_13 ⟨Nat.le_of_ble_eq_true rfl, Nat.le_of_ble_eq_true rfl⟩ (fun v h9 H locs hv hM hS => ?_)
      obtain ⟨hv, hh9⟩ := hv
      subst hv
      rw [hh9] at hM
      refine W.eq (g2 := F0 mt 16 ls [.long (z_tm (x_ts T (st_n st k_1) ((j_5 / 8))) (lN (T (8 * ((j_5 / 8))))) ((j_5 % 8) + 1))]) rfl ?_
      refine vx_ret ?_
      exact m_lret C hM hS (Nat.le_of_ble_eq_true rfl) (Nat.le_of_ble_eq_true rfl) dX5_timeAt_16 ⟨k_1, j_5, f_2, f_3, f_6, rfl, (by rw [htl.2.1, hT _ f_6]), ⟨A, tg, X, _, _, _, rfl, hC, hF, hR⟩⟩
set_option maxRecDepth 100000 in
set_option maxHeartbeats 4000000 in
theorem c_X5_valueAt {l : Launch} {G : mG} {a0 : Array Value} {s0 : State} (Z : mZ l G a0 s0) (h0 : Hp) (A : Cd → Nat) (tg : Nat → Cd) (st : Ms) (X : Nat → Xs) (fd : Nat) (tt : Int64) (gr : Int32) (hC : CW h0 A tg (clS G A (st_many st) (st_now st) X fd tt gr)) (hk : Iv st) (hR : ∀ k : Nat, k < st_many st → Rx st k (X k)) (x : Int32) (y : Int32) : mT l G s0 yX5_valueAt cX5_valueAt 3 (some .int) 7 112 2 12 h0 [.ref (A (cd 0 1 0)), .int x, .int y] (fun v9 h9 => (∃ k : Nat, ∃ j : Nat, (k < st_many st) ∧ (x = nI k) ∧ (j < st_n st k) ∧ (y = nI j) ∧ v9 = some (.int (z_v st k j)) ∧ NW G h0 h9 A tg st)) (fun E h9 => (E = "java/util/NoSuchElementException" ∧ (∀ k : Nat, k < st_many st → x ≠ nI k) ∧ NW G h0 h9 A tg st) ∨ (∃ k : Nat, E = "java/lang/IndexOutOfBoundsException" ∧ (k < st_many st) ∧ (x = nI k) ∧ (∀ j : Nat, j < st_n st k → y ≠ nI j) ∧ NW G h0 h9 A tg st)) := by
  refine mT_in RX5 "valueAt" rfl rfl (by decide +kernel) (Nat.le_of_ble_eq_true rfl) ?_
  intro p e s mt below meth c H locs C ht hM hS ls hl
  have hx := C.1
  have hb := C.2.1
  have hown := C.2.2.2.1
  have hE := C.2.2.2.2.2.2.1
  have hl : lv_has ls 3 [(0, .ref (A (cd 0 1 0))), (1, .int x), (2, .int y)] := hl
  have hF : cFr h0 tg h0 tg := cFr.rf
  obtain ⟨h, hM, hC, hF, hh⟩ : ∃ h9, MW G s0.heap.size h9 H ∧ CW h9 A tg (clS G A (st_many st) (st_now st) X fd tt gr) ∧ cFr h0 tg h9 tg ∧ h9 = h0 := ⟨_, hM, hC, hF, rfl⟩
  refine lv_aload_n hx hb dX5_valueAt_0 rfl (lv_at hl 0 rfl) ?_
  refine lv_iload_n hx hb dX5_valueAt_1 rfl (lv_at hl 1 rfl) ?_
  refine m_xcallV Z C hM hS (As := [.int x]) (rest := []) (c_X5_rowOf Z h A tg st X fd tt gr hC hk hR x) yi_X5_rowOf ml_X5_57 (hC.at (clS_h)) rfl ⟨Nat.le_of_ble_eq_true rfl, Nat.le_of_ble_eq_true rfl⟩ (Nat.le_of_ble_eq_true rfl) hl.1 rfl rfl dX5_valueAt_2 ⟨Nat.le_of_ble_eq_true rfl, Nat.le_of_ble_eq_true rfl⟩ (fun E ce q9 h9 H locs hv hM hS g1 g2 g3 => ?_) (fun v h9 H locs hv hM hS => ?_)
  · -- thrown at 2
    obtain ⟨hE, f_4, hh9⟩ := hv
    rw [hh9] at hM
    exact m_out C ht hM hS (Nat.le_of_ble_eq_true rfl) (Nat.le_of_ble_eq_true rfl) g1 g2 g3 (Or.inl ⟨hE, f_4, ⟨A, tg, X, _, _, _, rfl, hC, hF, hR⟩⟩)
  · -- back at 2
    obtain ⟨k_1, f_2, f_3, hv, hh9⟩ := hv
    subst hv
    rw [hh9] at hM
    obtain ⟨T, U, F, al, hXk, hRi⟩ := hR k_1 f_2
    have hn := hk.n f_2
    obtain ⟨hT, hU, hUr, hRw, hEr, hFs, hal⟩ := hRi
    have hTb : ∀ i : Nat, i < st_n st k_1 → T i < 1073741824 := fun i hi => by rw [hT i hi]; exact hk.T f_2 hi
    refine W.eq (g2 := F0 mt 5 ls [.ref (A (cd (k_1 + 1) 0 0))]) rfl ?_
    refine lv_iload_n hx hb dX5_valueAt_5 rfl (lv_at hl 2 rfl) ?_
    refine m_xcallS Z C hM hS (As := [.ref (A (cd (k_1 + 1) 0 0)), .int y]) (rest := []) (c_X5_blockOfSample Z h A tg st X fd tt gr hC hk hR k_1 f_2 y) yi_X5_blockOfSample ml_X5_121 ⟨Nat.le_of_ble_eq_true rfl, Nat.le_of_ble_eq_true rfl⟩ (Nat.le_of_ble_eq_true rfl) hl.1 rfl rfl dX5_valueAt_6 ⟨Nat.le_of_ble_eq_true rfl, Nat.le_of_ble_eq_true rfl⟩ (fun E ce q9 h9 H locs hv hM hS g1 g2 g3 => ?_) (fun v h9 H locs hv hM hS => ?_)
    · -- thrown at 6
      obtain ⟨hE, f_8, hh9⟩ := hv
      rw [hh9] at hM
      exact m_out C ht hM hS (Nat.le_of_ble_eq_true rfl) (Nat.le_of_ble_eq_true rfl) g1 g2 g3 (Or.inr ⟨k_1, hE, f_2, f_3, f_8, ⟨A, tg, X, _, _, _, rfl, hC, hF, hR⟩⟩)
    · -- back at 6
      obtain ⟨j_5, f_6, f_7, hv, hh9⟩ := hv
      subst hv
      rw [hh9] at hM
      subst f_7
      have htl := x_tell T U (st_n st k_1) j_5 f_6
      refine W.eq (g2 := F0 mt 9 ls [.ref (A (cd (k_1 + 1) 14 (j_5 / 8)))]) rfl ?_
      refine lv_iload_n hx hb dX5_valueAt_9 rfl (lv_at hl 2 rfl) ?_
      refine lv_bipush (v := nI 8) hx hb dX5_valueAt_10 (by decide) ?_
      refine n_irem hx hb (by omega) (by decide) (by decide) dX5_valueAt_12 ?_
      refine m_callVN Z C hM hS (As := [.int (nI (j_5 % 8))]) (rest := []) (c_X1_valueOfSample Z h A tg (clS G A (st_many st) (st_now st) X fd tt gr) hC k_1 (j_5 / 8) (j_5 % 8) (lN (T (8 * ((j_5 / 8))))) (U (8 * ((j_5 / 8)))) (x_sz (st_n st k_1) ((j_5 / 8))) (x_bb T U ((j_5 / 8)) (x_sz (st_n st k_1) ((j_5 / 8)) - 1)) (lN (T (8 * ((j_5 / 8)) + (x_sz (st_n st k_1) ((j_5 / 8)) - 1)))) (x_gp T ((j_5 / 8)) (x_sz (st_n st k_1) ((j_5 / 8)) - 1)) (U (8 * ((j_5 / 8)) + (x_sz (st_n st k_1) ((j_5 / 8)) - 1))) (x_ts T (st_n st k_1) ((j_5 / 8))) (x_vs U (st_n st k_1) ((j_5 / 8))) ((clS_at f_2 hXk (srS_14 (show (j_5 / 8) < x_nb (st_n st k_1) by first | omega | (unfold x_nb; omega))))) ((clS_at f_2 hXk (srS_15 (show (j_5 / 8) < x_nb (st_n st k_1) by first | omega | (unfold x_nb; omega))))) ((clS_at f_2 hXk (srS_16 (show (j_5 / 8) < x_nb (st_n st k_1) by first | omega | (unfold x_nb; omega))))) (Nat.mod_lt _ (by decide))) yi_X1_valueOfSample mn_X5_129 (hC.at ((clS_at f_2 hXk (srS_14 (show j_5 / 8 < x_nb (st_n st k_1) by first | omega | (unfold x_nb; omega)))))) rfl ⟨Nat.le_of_ble_eq_true rfl, Nat.le_of_ble_eq_true rfl⟩ (Nat.le_of_ble_eq_true rfl) hl.1 rfl rfl dX5_valueAt_13 ⟨Nat.le_of_ble_eq_true rfl, Nat.le_of_ble_eq_true rfl⟩ (fun v h9 H locs hv hM hS => ?_)
      obtain ⟨hv, hh9⟩ := hv
      subst hv
      rw [hh9] at hM
      refine W.eq (g2 := F0 mt 16 ls [.int (z_vl (x_vs U (st_n st k_1) ((j_5 / 8))) (U (8 * ((j_5 / 8)))) ((j_5 % 8) + 1))]) rfl ?_
      refine vx_ret ?_
      exact m_iret C hM hS (Nat.le_of_ble_eq_true rfl) (Nat.le_of_ble_eq_true rfl) dX5_valueAt_16 ⟨k_1, j_5, f_2, f_3, f_6, rfl, (by rw [htl.2.2, hU _ f_6]), ⟨A, tg, X, _, _, _, rfl, hC, hF, hR⟩⟩
set_option maxRecDepth 100000 in
set_option maxHeartbeats 4000000 in
theorem c_X5_readBlocks {l : Launch} {G : mG} {a0 : Array Value} {s0 : State} (Z : mZ l G a0 s0) (h0 : Hp) (A : Cd → Nat) (tg : Nat → Cd) (st : Ms) (X : Nat → Xs) (fd : Nat) (tt : Int64) (gr : Int32) (hC : CW h0 A tg (clS G A (st_many st) (st_now st) X fd tt gr)) (hk : Iv st) (hR : ∀ k : Nat, k < st_many st → Rx st k (X k)) (x : Int32) (a : Int64) (d : Int64) : mT l G s0 yX5_readBlocks cX5_readBlocks 7 none 7 113 2 12 h0 [.ref (A (cd 0 1 0)), .int x, .long a, .long d] (fun v9 h9 => (∃ k : Nat, ∃ gr9 : Int32, (k < st_many st) ∧ (x = nI k) ∧ (¬ z_bad a d) ∧ (¬ z_ct (z_in st k a d) (st_n st k) = 0 → gr9 = z_mx (z_in st k a d) (z_v st k) (-20000) (st_n st k)) ∧ v9 = none ∧ CW h9 A tg (clS G A (st_many st) (st_now st) X (z_ct (z_in st k a d) (st_n st k)) (z_sm (z_in st k a d) (fun i => (z_v st k i).toInt64) (st_n st k)) gr9) ∧ cFr h0 tg h9 tg)) (fun E h9 => (E = "java/util/NoSuchElementException" ∧ (∀ k : Nat, k < st_many st → x ≠ nI k) ∧ h9 = h0) ∨ (∃ k : Nat, E = "java/lang/IllegalArgumentException" ∧ (k < st_many st) ∧ (x = nI k) ∧ (z_bad a d) ∧ h9 = h0)) := by
  refine mT_in RX5 "readBlocks" rfl rfl (by decide +kernel) (Nat.le_of_ble_eq_true rfl) ?_
  intro p e s mt below meth c H locs C ht hM hS ls hl
  have hx := C.1
  have hb := C.2.1
  have hown := C.2.2.2.1
  have hE := C.2.2.2.2.2.2.1
  have hl : lv_has ls 7 [(0, .ref (A (cd 0 1 0))), (1, .int x), (2, .long a), (4, .long d)] := hl
  have hF : cFr h0 tg h0 tg := cFr.rf
  obtain ⟨h, hM, hC, hF, hh⟩ : ∃ h9, MW G s0.heap.size h9 H ∧ CW h9 A tg (clS G A (st_many st) (st_now st) X fd tt gr) ∧ cFr h0 tg h9 tg ∧ h9 = h0 := ⟨_, hM, hC, hF, rfl⟩
  refine lv_aload_n hx hb dX5_readBlocks_0 rfl (lv_at hl 0 rfl) ?_
  refine lv_iload_n hx hb dX5_readBlocks_1 rfl (lv_at hl 1 rfl) ?_
  refine m_xcallV Z C hM hS (As := [.int x]) (rest := []) (c_X5_rowOf Z h A tg st X fd tt gr hC hk hR x) yi_X5_rowOf ml_X5_57 (hC.at (clS_h)) rfl ⟨Nat.le_of_ble_eq_true rfl, Nat.le_of_ble_eq_true rfl⟩ (Nat.le_of_ble_eq_true rfl) hl.1 rfl rfl dX5_readBlocks_2 ⟨Nat.le_of_ble_eq_true rfl, Nat.le_of_ble_eq_true rfl⟩ (fun E ce q9 h9 H locs hv hM hS g1 g2 g3 => ?_) (fun v h9 H locs hv hM hS => ?_)
  · -- thrown at 2
    obtain ⟨hE, f_4, hh9⟩ := hv
    rw [hh9] at hM
    exact m_out C ht hM hS (Nat.le_of_ble_eq_true rfl) (Nat.le_of_ble_eq_true rfl) g1 g2 g3 (Or.inl ⟨hE, f_4, hh⟩)
  · -- back at 2
    obtain ⟨k_1, f_2, f_3, hv, hh9⟩ := hv
    subst hv
    rw [hh9] at hM
    obtain ⟨T, U, F, al, hXk, hRi⟩ := hR k_1 f_2
    have hn := hk.n f_2
    obtain ⟨hT, hU, hUr, hRw, hEr, hFs, hal⟩ := hRi
    have hTb : ∀ i : Nat, i < st_n st k_1 → T i < 1073741824 := fun i hi => by rw [hT i hi]; exact hk.T f_2 hi
    refine W.eq (g2 := F0 mt 5 ls [.ref (A (cd (k_1 + 1) 0 0))]) rfl ?_
    refine lv_astore (lv' := [(6, .ref (A (cd (k_1 + 1) 0 0))), (0, .ref (A (cd 0 1 0))), (1, .int x), (2, .long a), (4, .long d)]) hx hb dX5_readBlocks_5 hl (by decide) rfl (fun ls hl => ?_)
    refine lv_lload_n hx hb dX5_readBlocks_7 rfl (lv_at hl 3 rfl) ?_
    refine lv_lload hx hb dX5_readBlocks_8 (lv_at hl 4 rfl) ?_
    refine m_xcallS Z C hM hS (As := [.long a, .long d]) (rest := []) (c_X5_refuseBadRange Z h a d) yi_X5_refuseBadRange ml_X5_147 ⟨Nat.le_of_ble_eq_true rfl, Nat.le_of_ble_eq_true rfl⟩ (Nat.le_of_ble_eq_true rfl) hl.1 rfl rfl dX5_readBlocks_10 ⟨Nat.le_of_ble_eq_true rfl, Nat.le_of_ble_eq_true rfl⟩ (fun E ce q9 h9 H locs hv hM hS g1 g2 g3 => ?_) (fun v h9 H locs hv hM hS => ?_)
    · -- thrown at 10
      obtain ⟨hE, f_6, hh9⟩ := hv
      rw [hh9] at hM
      exact m_out C ht hM hS (Nat.le_of_ble_eq_true rfl) (Nat.le_of_ble_eq_true rfl) g1 g2 g3 (Or.inr ⟨k_1, hE, f_2, f_3, f_6, hh⟩)
    · -- back at 10
      obtain ⟨f_5, hv, hh9⟩ := hv
      subst hv
      rw [hh9] at hM
      refine W.eq (g2 := F0 mt 13 ls []) rfl ?_
      refine lv_aload hx hb dX5_readBlocks_13 (lv_at hl 0 rfl) ?_
      refine lv_aload_n hx hb dX5_readBlocks_15 rfl (lv_at hl 1 rfl) ?_
      refine m_get Z C hM (hC.at (clS_h)) K_X5 1 (by decide) fl_X5_18 (v := .ref (A (cd 0 3 0))) rfl dX5_readBlocks_16 ?_
      refine lv_lload_n hx hb dX5_readBlocks_19 rfl (lv_at hl 3 rfl) ?_
      refine lv_lload hx hb dX5_readBlocks_20 (lv_at hl 4 rfl) ?_
      refine m_callVN Z C hM hS (As := [.ref (A (cd 0 3 0)), .long a, .long d]) (rest := []) (c_X2_readBlocks Z h A tg (clS G A (st_many st) (st_now st) X fd tt gr) hC k_1 a d (st_nm st k_1) (st_ho st k_1) (st_n st k_1) (((x_av A k_1 al))) (x_nb (st_n st k_1)) (fun j => lN (T (8 * j))) (fun j => U (8 * j)) (x_sz (st_n st k_1)) (fun j => x_bb T U j (x_sz (st_n st k_1) j - 1)) (fun j => lN (T (8 * j + (x_sz (st_n st k_1) j - 1)))) (fun j => x_gp T j (x_sz (st_n st k_1) j - 1)) (fun j => U (8 * j + (x_sz (st_n st k_1) j - 1))) (x_ts T (st_n st k_1)) (x_vs U (st_n st k_1)) fd tt gr ((clS_at f_2 hXk srS_0)) ((clS_at f_2 hXk srS_4)) (clS_t) (fun j hj => clS_at f_2 hXk (srS_14 hj)) (fun j hj => clS_at f_2 hXk (srS_15 hj)) (fun j hj => clS_at f_2 hXk (srS_16 hj)) (by unfold x_nb; omega) (fun j _ => by unfold x_sz; omega)) yi_X2_readBlocks mn_X5_249 (hC.at ((clS_at f_2 hXk srS_0))) rfl ⟨Nat.le_of_ble_eq_true rfl, Nat.le_of_ble_eq_true rfl⟩ (Nat.le_of_ble_eq_true rfl) hl.1 rfl rfl dX5_readBlocks_22 ⟨Nat.le_of_ble_eq_true rfl, Nat.le_of_ble_eq_true rfl⟩ (fun v h9 H locs hv hM hS => ?_)
      obtain ⟨hv, hC9, hF8⟩ := hv
      subst hv
      have hF := hF.trans hF8
      obtain ⟨h, hM, hC, hF⟩ : ∃ h8, MW G s0.heap.size h8 H ∧ CW h8 A tg (up3 (clS G A (st_many st) (st_now st) X fd tt gr) (cd 0 3 0) (some (eO 4 [.int (nI ((k_rb (x_ts T (st_n st k_1)) (x_vs U (st_n st k_1)) (fun j => lN (T (8 * j))) (fun j => U (8 * j)) (x_sz (st_n st k_1)) a d (x_nb (st_n st k_1))).1)), .long ((k_rb (x_ts T (st_n st k_1)) (x_vs U (st_n st k_1)) (fun j => lN (T (8 * j))) (fun j => U (8 * j)) (x_sz (st_n st k_1)) a d (x_nb (st_n st k_1))).2.1), .int ((k_rb (x_ts T (st_n st k_1)) (x_vs U (st_n st k_1)) (fun j => lN (T (8 * j))) (fun j => U (8 * j)) (x_sz (st_n st k_1)) a d (x_nb (st_n st k_1))).2.2)]))) ∧ cFr h0 tg h8 tg := ⟨_, hM, hC9, hF⟩
      refine W.eq (g2 := F0 mt 25 ls []) rfl ?_
      have hsm := sum_c (st := st) (k := k_1) ⟨hT, hU, hUr, hRw, hEr, hFs, hal⟩ a d
      refine vx_ret ?_
      exact m_vret C hM hS (Nat.le_of_ble_eq_true rfl) (Nat.le_of_ble_eq_true rfl) dX5_readBlocks_25 ⟨k_1, _, f_2, f_3, f_5, hsm.2.2, rfl, (by rw [clS_p3, x_rb, hsm.1, hsm.2.1] at hC; exact hC), hF⟩
set_option maxRecDepth 100000 in
set_option maxHeartbeats 4000000 in
theorem c_X5_readTouchingRollups {l : Launch} {G : mG} {a0 : Array Value} {s0 : State} (Z : mZ l G a0 s0) (h0 : Hp) (A : Cd → Nat) (tg : Nat → Cd) (st : Ms) (X : Nat → Xs) (fd : Nat) (tt : Int64) (gr : Int32) (hC : CW h0 A tg (clS G A (st_many st) (st_now st) X fd tt gr)) (hk : Iv st) (hR : ∀ k : Nat, k < st_many st → Rx st k (X k)) (x : Int32) (a : Int64) (d : Int64) : mT l G s0 yX5_readTouchingRollups cX5_readTouchingRollups 7 none 7 113 2 12 h0 [.ref (A (cd 0 1 0)), .int x, .long a, .long d] (fun v9 h9 => (∃ k : Nat, ∃ tt9 : Int64, ∃ gr9 : Int32, (k < st_many st) ∧ (x = nI k) ∧ (¬ z_bad a d) ∧ (¬ z_ct (z_hi st k a d) (st_n st k) = 0 → gr9 = z_mx (z_hi st k a d) (z_v st k) (-20000) (st_n st k)) ∧ v9 = none ∧ CW h9 A tg (clS G A (st_many st) (st_now st) X (z_ct (z_hi st k a d) (st_n st k)) tt9 gr9) ∧ cFr h0 tg h9 tg)) (fun E h9 => (E = "java/util/NoSuchElementException" ∧ (∀ k : Nat, k < st_many st → x ≠ nI k) ∧ h9 = h0) ∨ (∃ k : Nat, E = "java/lang/IllegalArgumentException" ∧ (k < st_many st) ∧ (x = nI k) ∧ (z_bad a d) ∧ h9 = h0)) := by
  refine mT_in RX5 "readTouchingRollups" rfl rfl (by decide +kernel) (Nat.le_of_ble_eq_true rfl) ?_
  intro p e s mt below meth c H locs C ht hM hS ls hl
  have hx := C.1
  have hb := C.2.1
  have hown := C.2.2.2.1
  have hE := C.2.2.2.2.2.2.1
  have hl : lv_has ls 7 [(0, .ref (A (cd 0 1 0))), (1, .int x), (2, .long a), (4, .long d)] := hl
  have hF : cFr h0 tg h0 tg := cFr.rf
  obtain ⟨h, hM, hC, hF, hh⟩ : ∃ h9, MW G s0.heap.size h9 H ∧ CW h9 A tg (clS G A (st_many st) (st_now st) X fd tt gr) ∧ cFr h0 tg h9 tg ∧ h9 = h0 := ⟨_, hM, hC, hF, rfl⟩
  refine lv_aload_n hx hb dX5_readTouchingRollups_0 rfl (lv_at hl 0 rfl) ?_
  refine lv_iload_n hx hb dX5_readTouchingRollups_1 rfl (lv_at hl 1 rfl) ?_
  refine m_xcallV Z C hM hS (As := [.int x]) (rest := []) (c_X5_rowOf Z h A tg st X fd tt gr hC hk hR x) yi_X5_rowOf ml_X5_57 (hC.at (clS_h)) rfl ⟨Nat.le_of_ble_eq_true rfl, Nat.le_of_ble_eq_true rfl⟩ (Nat.le_of_ble_eq_true rfl) hl.1 rfl rfl dX5_readTouchingRollups_2 ⟨Nat.le_of_ble_eq_true rfl, Nat.le_of_ble_eq_true rfl⟩ (fun E ce q9 h9 H locs hv hM hS g1 g2 g3 => ?_) (fun v h9 H locs hv hM hS => ?_)
  · -- thrown at 2
    obtain ⟨hE, f_4, hh9⟩ := hv
    rw [hh9] at hM
    exact m_out C ht hM hS (Nat.le_of_ble_eq_true rfl) (Nat.le_of_ble_eq_true rfl) g1 g2 g3 (Or.inl ⟨hE, f_4, hh⟩)
  · -- back at 2
    obtain ⟨k_1, f_2, f_3, hv, hh9⟩ := hv
    subst hv
    rw [hh9] at hM
    obtain ⟨T, U, F, al, hXk, hRi⟩ := hR k_1 f_2
    have hn := hk.n f_2
    obtain ⟨hT, hU, hUr, hRw, hEr, hFs, hal⟩ := hRi
    have hTb : ∀ i : Nat, i < st_n st k_1 → T i < 1073741824 := fun i hi => by rw [hT i hi]; exact hk.T f_2 hi
    refine W.eq (g2 := F0 mt 5 ls [.ref (A (cd (k_1 + 1) 0 0))]) rfl ?_
    refine lv_astore (lv' := [(6, .ref (A (cd (k_1 + 1) 0 0))), (0, .ref (A (cd 0 1 0))), (1, .int x), (2, .long a), (4, .long d)]) hx hb dX5_readTouchingRollups_5 hl (by decide) rfl (fun ls hl => ?_)
    refine lv_lload_n hx hb dX5_readTouchingRollups_7 rfl (lv_at hl 3 rfl) ?_
    refine lv_lload hx hb dX5_readTouchingRollups_8 (lv_at hl 4 rfl) ?_
    refine m_xcallS Z C hM hS (As := [.long a, .long d]) (rest := []) (c_X5_refuseBadRange Z h a d) yi_X5_refuseBadRange ml_X5_147 ⟨Nat.le_of_ble_eq_true rfl, Nat.le_of_ble_eq_true rfl⟩ (Nat.le_of_ble_eq_true rfl) hl.1 rfl rfl dX5_readTouchingRollups_10 ⟨Nat.le_of_ble_eq_true rfl, Nat.le_of_ble_eq_true rfl⟩ (fun E ce q9 h9 H locs hv hM hS g1 g2 g3 => ?_) (fun v h9 H locs hv hM hS => ?_)
    · -- thrown at 10
      obtain ⟨hE, f_6, hh9⟩ := hv
      rw [hh9] at hM
      exact m_out C ht hM hS (Nat.le_of_ble_eq_true rfl) (Nat.le_of_ble_eq_true rfl) g1 g2 g3 (Or.inr ⟨k_1, hE, f_2, f_3, f_6, hh⟩)
    · -- back at 10
      obtain ⟨f_5, hv, hh9⟩ := hv
      subst hv
      rw [hh9] at hM
      refine W.eq (g2 := F0 mt 13 ls []) rfl ?_
      refine lv_aload hx hb dX5_readTouchingRollups_13 (lv_at hl 0 rfl) ?_
      refine lv_aload_n hx hb dX5_readTouchingRollups_15 rfl (lv_at hl 1 rfl) ?_
      refine m_get Z C hM (hC.at (clS_h)) K_X5 1 (by decide) fl_X5_18 (v := .ref (A (cd 0 3 0))) rfl dX5_readTouchingRollups_16 ?_
      refine lv_lload_n hx hb dX5_readTouchingRollups_19 rfl (lv_at hl 3 rfl) ?_
      refine lv_lload hx hb dX5_readTouchingRollups_20 (lv_at hl 4 rfl) ?_
      refine m_callVN Z C hM hS (As := [.ref (A (cd 0 3 0)), .long a, .long d]) (rest := []) (c_X2_readRollupsTouching Z h A tg (clS G A (st_many st) (st_now st) X fd tt gr) hC k_1 a d (st_nm st k_1) (st_ho st k_1) (st_n st k_1) (((x_av A k_1 al))) T U fd tt gr ((clS_at f_2 hXk srS_0)) ((clS_at f_2 hXk srS_1)) ((clS_at f_2 hXk srS_2)) (clS_t) (by omega) hTb) yi_X2_readRollupsTouching mn_X5_251 (hC.at ((clS_at f_2 hXk srS_0))) rfl ⟨Nat.le_of_ble_eq_true rfl, Nat.le_of_ble_eq_true rfl⟩ (Nat.le_of_ble_eq_true rfl) hl.1 rfl rfl dX5_readTouchingRollups_22 ⟨Nat.le_of_ble_eq_true rfl, Nat.le_of_ble_eq_true rfl⟩ (fun v h9 H locs hv hM hS => ?_)
      obtain ⟨hv, hC9, hF8⟩ := hv
      subst hv
      have hF := hF.trans hF8
      obtain ⟨h, hM, hC, hF⟩ : ∃ h8, MW G s0.heap.size h8 H ∧ CW h8 A tg (up3 (clS G A (st_many st) (st_now st) X fd tt gr) (cd 0 3 0) (some (eO 4 [.int (nI ((z_rs (z_s3 T a d) U (0, lN 0, -10000) (st_n st k_1)).1)), .long ((z_rs (z_s3 T a d) U (0, lN 0, -10000) (st_n st k_1)).2.1), .int ((z_rs (z_s3 T a d) U (0, lN 0, -10000) (st_n st k_1)).2.2)]))) ∧ cFr h0 tg h8 tg := ⟨_, hM, hC9, hF⟩
      refine W.eq (g2 := F0 mt 25 ls []) rfl ?_
      have hsm := sum_hi (st := st) (k := k_1) ⟨hT, hU, hUr, hRw, hEr, hFs, hal⟩ a d
      refine vx_ret ?_
      exact m_vret C hM hS (Nat.le_of_ble_eq_true rfl) (Nat.le_of_ble_eq_true rfl) dX5_readTouchingRollups_25 ⟨k_1, _, _, f_2, f_3, f_5, hsm.2, rfl, (by rw [clS_p3, hsm.1] at hC; exact hC), hF⟩
set_option maxRecDepth 100000 in
set_option maxHeartbeats 4000000 in
theorem c_X5_count {l : Launch} {G : mG} {a0 : Array Value} {s0 : State} (Z : mZ l G a0 s0) (h0 : Hp) (A : Cd → Nat) (tg : Nat → Cd) (st : Ms) (X : Nat → Xs) (fd : Nat) (tt : Int64) (gr : Int32) (hC : CW h0 A tg (clS G A (st_many st) (st_now st) X fd tt gr)) (hk : Iv st) (hR : ∀ k : Nat, k < st_many st → Rx st k (X k)) (x : Int32) (a : Int64) (d : Int64) : mT l G s0 yX5_count cX5_count 6 (some .int) 8 139 2 12 h0 [.ref (A (cd 0 1 0)), .int x, .long a, .long d] (fun v9 h9 => (∃ k : Nat, (k < st_many st) ∧ (x = nI k) ∧ (¬ z_bad a d) ∧ v9 = some (.int (nI (z_ct (z_in st k a d) (st_n st k)))) ∧ NW G h0 h9 A tg st)) (fun E h9 => (E = "java/util/NoSuchElementException" ∧ (∀ k : Nat, k < st_many st → x ≠ nI k) ∧ NW G h0 h9 A tg st) ∨ (∃ k : Nat, E = "java/lang/IllegalArgumentException" ∧ (k < st_many st) ∧ (x = nI k) ∧ (z_bad a d) ∧ NW G h0 h9 A tg st)) := by
  refine mT_in RX5 "count" rfl rfl (by decide +kernel) (Nat.le_of_ble_eq_true rfl) ?_
  intro p e s mt below meth c H locs C ht hM hS ls hl
  have hx := C.1
  have hb := C.2.1
  have hown := C.2.2.2.1
  have hE := C.2.2.2.2.2.2.1
  have hl : lv_has ls 6 [(0, .ref (A (cd 0 1 0))), (1, .int x), (2, .long a), (4, .long d)] := hl
  have hF : cFr h0 tg h0 tg := cFr.rf
  obtain ⟨h, hM, hC, hF, hh⟩ : ∃ h9, MW G s0.heap.size h9 H ∧ CW h9 A tg (clS G A (st_many st) (st_now st) X fd tt gr) ∧ cFr h0 tg h9 tg ∧ h9 = h0 := ⟨_, hM, hC, hF, rfl⟩
  refine lv_aload_n hx hb dX5_count_0 rfl (lv_at hl 0 rfl) ?_
  refine lv_iload_n hx hb dX5_count_1 rfl (lv_at hl 1 rfl) ?_
  refine lv_lload_n hx hb dX5_count_2 rfl (lv_at hl 2 rfl) ?_
  refine lv_lload hx hb dX5_count_3 (lv_at hl 3 rfl) ?_
  refine m_xcallV Z C hM hS (As := [.int x, .long a, .long d]) (rest := []) (c_X5_readBlocks Z h A tg st X fd tt gr hC hk hR x a d) yi_X5_readBlocks ml_X5_137 (hC.at (clS_h)) rfl ⟨Nat.le_of_ble_eq_true rfl, Nat.le_of_ble_eq_true rfl⟩ (Nat.le_of_ble_eq_true rfl) hl.1 rfl rfl dX5_count_5 ⟨Nat.le_of_ble_eq_true rfl, Nat.le_of_ble_eq_true rfl⟩ (fun E ce q9 h9 H locs hv hM hS g1 g2 g3 => ?_) (fun v h9 H locs hv hM hS => ?_)
  · -- thrown at 5
    rcases hv with ⟨hE, f_7, hh9⟩ | ⟨k_8, hE, f_9, f_10, f_11, hh9⟩
    · -- java/util/NoSuchElementException
      rw [hh9] at hM
      exact m_out C ht hM hS (Nat.le_of_ble_eq_true rfl) (Nat.le_of_ble_eq_true rfl) g1 g2 g3 (Or.inl ⟨hE, f_7, ⟨A, tg, X, _, _, _, rfl, hC, hF, hR⟩⟩)
    · -- java/lang/IllegalArgumentException
      rw [hh9] at hM
      exact m_out C ht hM hS (Nat.le_of_ble_eq_true rfl) (Nat.le_of_ble_eq_true rfl) g1 g2 g3 (Or.inr ⟨k_8, hE, f_9, f_10, f_11, ⟨A, tg, X, _, _, _, rfl, hC, hF, hR⟩⟩)
  · -- back at 5
    obtain ⟨k_1, gr9_2, f_3, f_4, f_5, f_6, hv, hC, hF9⟩ := hv
    subst hv
    have hF := hF.trans hF9
    obtain ⟨h, hM, hC, hF⟩ : ∃ h8, MW G s0.heap.size h8 H ∧ CW h8 A tg (clS G A (st_many st) (st_now st) X (z_ct (z_in st k_1 a d) (st_n st k_1)) (z_sm (z_in st k_1 a d) (fun i => (z_v st k_1 i).toInt64) (st_n st k_1)) gr9_2) ∧ cFr h0 tg h8 tg := ⟨_, hM, hC, hF⟩
    refine W.eq (g2 := F0 mt 8 ls []) rfl ?_
    refine lv_aload_n hx hb dX5_count_8 rfl (lv_at hl 0 rfl) ?_
    refine m_get Z C hM (hC.at (clS_h)) K_X5 1 (by decide) fl_X5_18 (v := .ref (A (cd 0 3 0))) rfl dX5_count_9 ?_
    refine m_getN Z C hM (hC.at (clS_t)) K_X4 0 (by decide) fn_X5_141 (v := .int (nI (z_ct (z_in st k_1 a d) (st_n st k_1)))) rfl dX5_count_12 ?_
    refine vx_ret ?_
    exact m_iret C hM hS (Nat.le_of_ble_eq_true rfl) (Nat.le_of_ble_eq_true rfl) dX5_count_15 ⟨k_1, f_3, f_4, f_5, rfl, ⟨A, tg, X, _, _, _, rfl, hC, hF, hR⟩⟩
set_option maxRecDepth 100000 in
set_option maxHeartbeats 4000000 in
theorem c_X5_sum {l : Launch} {G : mG} {a0 : Array Value} {s0 : State} (Z : mZ l G a0 s0) (h0 : Hp) (A : Cd → Nat) (tg : Nat → Cd) (st : Ms) (X : Nat → Xs) (fd : Nat) (tt : Int64) (gr : Int32) (hC : CW h0 A tg (clS G A (st_many st) (st_now st) X fd tt gr)) (hk : Iv st) (hR : ∀ k : Nat, k < st_many st → Rx st k (X k)) (x : Int32) (a : Int64) (d : Int64) : mT l G s0 yX5_sum cX5_sum 6 (some .long) 8 139 2 12 h0 [.ref (A (cd 0 1 0)), .int x, .long a, .long d] (fun v9 h9 => (∃ k : Nat, (k < st_many st) ∧ (x = nI k) ∧ (¬ z_bad a d) ∧ v9 = some (.long (z_sm (z_in st k a d) (fun i => (z_v st k i).toInt64) (st_n st k))) ∧ NW G h0 h9 A tg st)) (fun E h9 => (E = "java/util/NoSuchElementException" ∧ (∀ k : Nat, k < st_many st → x ≠ nI k) ∧ NW G h0 h9 A tg st) ∨ (∃ k : Nat, E = "java/lang/IllegalArgumentException" ∧ (k < st_many st) ∧ (x = nI k) ∧ (z_bad a d) ∧ NW G h0 h9 A tg st)) := by
  refine mT_in RX5 "sum" rfl rfl (by decide +kernel) (Nat.le_of_ble_eq_true rfl) ?_
  intro p e s mt below meth c H locs C ht hM hS ls hl
  have hx := C.1
  have hb := C.2.1
  have hown := C.2.2.2.1
  have hE := C.2.2.2.2.2.2.1
  have hl : lv_has ls 6 [(0, .ref (A (cd 0 1 0))), (1, .int x), (2, .long a), (4, .long d)] := hl
  have hF : cFr h0 tg h0 tg := cFr.rf
  obtain ⟨h, hM, hC, hF, hh⟩ : ∃ h9, MW G s0.heap.size h9 H ∧ CW h9 A tg (clS G A (st_many st) (st_now st) X fd tt gr) ∧ cFr h0 tg h9 tg ∧ h9 = h0 := ⟨_, hM, hC, hF, rfl⟩
  refine lv_aload_n hx hb dX5_sum_0 rfl (lv_at hl 0 rfl) ?_
  refine lv_iload_n hx hb dX5_sum_1 rfl (lv_at hl 1 rfl) ?_
  refine lv_lload_n hx hb dX5_sum_2 rfl (lv_at hl 2 rfl) ?_
  refine lv_lload hx hb dX5_sum_3 (lv_at hl 3 rfl) ?_
  refine m_xcallV Z C hM hS (As := [.int x, .long a, .long d]) (rest := []) (c_X5_readBlocks Z h A tg st X fd tt gr hC hk hR x a d) yi_X5_readBlocks ml_X5_137 (hC.at (clS_h)) rfl ⟨Nat.le_of_ble_eq_true rfl, Nat.le_of_ble_eq_true rfl⟩ (Nat.le_of_ble_eq_true rfl) hl.1 rfl rfl dX5_sum_5 ⟨Nat.le_of_ble_eq_true rfl, Nat.le_of_ble_eq_true rfl⟩ (fun E ce q9 h9 H locs hv hM hS g1 g2 g3 => ?_) (fun v h9 H locs hv hM hS => ?_)
  · -- thrown at 5
    rcases hv with ⟨hE, f_7, hh9⟩ | ⟨k_8, hE, f_9, f_10, f_11, hh9⟩
    · -- java/util/NoSuchElementException
      rw [hh9] at hM
      exact m_out C ht hM hS (Nat.le_of_ble_eq_true rfl) (Nat.le_of_ble_eq_true rfl) g1 g2 g3 (Or.inl ⟨hE, f_7, ⟨A, tg, X, _, _, _, rfl, hC, hF, hR⟩⟩)
    · -- java/lang/IllegalArgumentException
      rw [hh9] at hM
      exact m_out C ht hM hS (Nat.le_of_ble_eq_true rfl) (Nat.le_of_ble_eq_true rfl) g1 g2 g3 (Or.inr ⟨k_8, hE, f_9, f_10, f_11, ⟨A, tg, X, _, _, _, rfl, hC, hF, hR⟩⟩)
  · -- back at 5
    obtain ⟨k_1, gr9_2, f_3, f_4, f_5, f_6, hv, hC, hF9⟩ := hv
    subst hv
    have hF := hF.trans hF9
    obtain ⟨h, hM, hC, hF⟩ : ∃ h8, MW G s0.heap.size h8 H ∧ CW h8 A tg (clS G A (st_many st) (st_now st) X (z_ct (z_in st k_1 a d) (st_n st k_1)) (z_sm (z_in st k_1 a d) (fun i => (z_v st k_1 i).toInt64) (st_n st k_1)) gr9_2) ∧ cFr h0 tg h8 tg := ⟨_, hM, hC, hF⟩
    refine W.eq (g2 := F0 mt 8 ls []) rfl ?_
    refine lv_aload_n hx hb dX5_sum_8 rfl (lv_at hl 0 rfl) ?_
    refine m_get Z C hM (hC.at (clS_h)) K_X5 1 (by decide) fl_X5_18 (v := .ref (A (cd 0 3 0))) rfl dX5_sum_9 ?_
    refine m_getN Z C hM (hC.at (clS_t)) K_X4 1 (by decide) fn_X5_144 (v := .long (z_sm (z_in st k_1 a d) (fun i => (z_v st k_1 i).toInt64) (st_n st k_1))) rfl dX5_sum_12 ?_
    refine vx_ret ?_
    exact m_lret C hM hS (Nat.le_of_ble_eq_true rfl) (Nat.le_of_ble_eq_true rfl) dX5_sum_15 ⟨k_1, f_3, f_4, f_5, rfl, ⟨A, tg, X, _, _, _, rfl, hC, hF, hR⟩⟩
set_option maxRecDepth 100000 in
set_option maxHeartbeats 4000000 in
theorem c_X5_countHigh {l : Launch} {G : mG} {a0 : Array Value} {s0 : State} (Z : mZ l G a0 s0) (h0 : Hp) (A : Cd → Nat) (tg : Nat → Cd) (st : Ms) (X : Nat → Xs) (fd : Nat) (tt : Int64) (gr : Int32) (hC : CW h0 A tg (clS G A (st_many st) (st_now st) X fd tt gr)) (hk : Iv st) (hR : ∀ k : Nat, k < st_many st → Rx st k (X k)) (x : Int32) (a : Int64) (d : Int64) : mT l G s0 yX5_countHigh cX5_countHigh 6 (some .int) 8 139 2 12 h0 [.ref (A (cd 0 1 0)), .int x, .long a, .long d] (fun v9 h9 => (∃ k : Nat, (k < st_many st) ∧ (x = nI k) ∧ (¬ z_bad a d) ∧ v9 = some (.int (nI (z_ct (z_hi st k a d) (st_n st k)))) ∧ NW G h0 h9 A tg st)) (fun E h9 => (E = "java/util/NoSuchElementException" ∧ (∀ k : Nat, k < st_many st → x ≠ nI k) ∧ NW G h0 h9 A tg st) ∨ (∃ k : Nat, E = "java/lang/IllegalArgumentException" ∧ (k < st_many st) ∧ (x = nI k) ∧ (z_bad a d) ∧ NW G h0 h9 A tg st)) := by
  refine mT_in RX5 "countHigh" rfl rfl (by decide +kernel) (Nat.le_of_ble_eq_true rfl) ?_
  intro p e s mt below meth c H locs C ht hM hS ls hl
  have hx := C.1
  have hb := C.2.1
  have hown := C.2.2.2.1
  have hE := C.2.2.2.2.2.2.1
  have hl : lv_has ls 6 [(0, .ref (A (cd 0 1 0))), (1, .int x), (2, .long a), (4, .long d)] := hl
  have hF : cFr h0 tg h0 tg := cFr.rf
  obtain ⟨h, hM, hC, hF, hh⟩ : ∃ h9, MW G s0.heap.size h9 H ∧ CW h9 A tg (clS G A (st_many st) (st_now st) X fd tt gr) ∧ cFr h0 tg h9 tg ∧ h9 = h0 := ⟨_, hM, hC, hF, rfl⟩
  refine lv_aload_n hx hb dX5_countHigh_0 rfl (lv_at hl 0 rfl) ?_
  refine lv_iload_n hx hb dX5_countHigh_1 rfl (lv_at hl 1 rfl) ?_
  refine lv_lload_n hx hb dX5_countHigh_2 rfl (lv_at hl 2 rfl) ?_
  refine lv_lload hx hb dX5_countHigh_3 (lv_at hl 3 rfl) ?_
  refine m_xcallV Z C hM hS (As := [.int x, .long a, .long d]) (rest := []) (c_X5_readTouchingRollups Z h A tg st X fd tt gr hC hk hR x a d) yi_X5_readTouchingRollups ml_X5_170 (hC.at (clS_h)) rfl ⟨Nat.le_of_ble_eq_true rfl, Nat.le_of_ble_eq_true rfl⟩ (Nat.le_of_ble_eq_true rfl) hl.1 rfl rfl dX5_countHigh_5 ⟨Nat.le_of_ble_eq_true rfl, Nat.le_of_ble_eq_true rfl⟩ (fun E ce q9 h9 H locs hv hM hS g1 g2 g3 => ?_) (fun v h9 H locs hv hM hS => ?_)
  · -- thrown at 5
    rcases hv with ⟨hE, f_8, hh9⟩ | ⟨k_9, hE, f_10, f_11, f_12, hh9⟩
    · -- java/util/NoSuchElementException
      rw [hh9] at hM
      exact m_out C ht hM hS (Nat.le_of_ble_eq_true rfl) (Nat.le_of_ble_eq_true rfl) g1 g2 g3 (Or.inl ⟨hE, f_8, ⟨A, tg, X, _, _, _, rfl, hC, hF, hR⟩⟩)
    · -- java/lang/IllegalArgumentException
      rw [hh9] at hM
      exact m_out C ht hM hS (Nat.le_of_ble_eq_true rfl) (Nat.le_of_ble_eq_true rfl) g1 g2 g3 (Or.inr ⟨k_9, hE, f_10, f_11, f_12, ⟨A, tg, X, _, _, _, rfl, hC, hF, hR⟩⟩)
  · -- back at 5
    obtain ⟨k_1, tt9_2, gr9_3, f_4, f_5, f_6, f_7, hv, hC, hF9⟩ := hv
    subst hv
    have hF := hF.trans hF9
    obtain ⟨h, hM, hC, hF⟩ : ∃ h8, MW G s0.heap.size h8 H ∧ CW h8 A tg (clS G A (st_many st) (st_now st) X (z_ct (z_hi st k_1 a d) (st_n st k_1)) tt9_2 gr9_3) ∧ cFr h0 tg h8 tg := ⟨_, hM, hC, hF⟩
    refine W.eq (g2 := F0 mt 8 ls []) rfl ?_
    refine lv_aload_n hx hb dX5_countHigh_8 rfl (lv_at hl 0 rfl) ?_
    refine m_get Z C hM (hC.at (clS_h)) K_X5 1 (by decide) fl_X5_18 (v := .ref (A (cd 0 3 0))) rfl dX5_countHigh_9 ?_
    refine m_getN Z C hM (hC.at (clS_t)) K_X4 0 (by decide) fn_X5_141 (v := .int (nI (z_ct (z_hi st k_1 a d) (st_n st k_1)))) rfl dX5_countHigh_12 ?_
    refine vx_ret ?_
    exact m_iret C hM hS (Nat.le_of_ble_eq_true rfl) (Nat.le_of_ble_eq_true rfl) dX5_countHigh_15 ⟨k_1, f_4, f_5, f_6, rfl, ⟨A, tg, X, _, _, _, rfl, hC, hF, hR⟩⟩
set_option maxRecDepth 100000 in
set_option maxHeartbeats 4000000 in
theorem c_X5_maximum {l : Launch} {G : mG} {a0 : Array Value} {s0 : State} (Z : mZ l G a0 s0) (h0 : Hp) (A : Cd → Nat) (tg : Nat → Cd) (st : Ms) (X : Nat → Xs) (fd : Nat) (tt : Int64) (gr : Int32) (hC : CW h0 A tg (clS G A (st_many st) (st_now st) X fd tt gr)) (hk : Iv st) (hR : ∀ k : Nat, k < st_many st → Rx st k (X k)) (x : Int32) (a : Int64) (d : Int64) : mT l G s0 yX5_maximum cX5_maximum 6 (some .int) 8 139 3 18 h0 [.ref (A (cd 0 1 0)), .int x, .long a, .long d] (fun v9 h9 => (∃ k : Nat, (k < st_many st) ∧ (x = nI k) ∧ (¬ z_bad a d) ∧ (¬ z_mx (z_in st k a d) (z_v st k) (-20000) (st_n st k) = -20000) ∧ v9 = some (.int (z_mx (z_in st k a d) (z_v st k) (-20000) (st_n st k))) ∧ NW G h0 h9 A tg st)) (fun E h9 => (E = "java/util/NoSuchElementException" ∧ (∀ k : Nat, k < st_many st → x ≠ nI k) ∧ NW G h0 h9 A tg st) ∨ (∃ k : Nat, E = "java/lang/IllegalArgumentException" ∧ (k < st_many st) ∧ (x = nI k) ∧ (z_bad a d) ∧ NW G h0 h9 A tg st) ∨ (∃ k : Nat, E = "java/lang/IllegalStateException" ∧ (k < st_many st) ∧ (x = nI k) ∧ (¬ z_bad a d) ∧ (z_mx (z_in st k a d) (z_v st k) (-20000) (st_n st k) = -20000) ∧ NW G h0 h9 A tg st)) := by
  refine mT_in RX5 "maximum" rfl rfl (by decide +kernel) (Nat.le_of_ble_eq_true rfl) ?_
  intro p e s mt below meth c H locs C ht hM hS ls hl
  have hx := C.1
  have hb := C.2.1
  have hown := C.2.2.2.1
  have hE := C.2.2.2.2.2.2.1
  have hl : lv_has ls 6 [(0, .ref (A (cd 0 1 0))), (1, .int x), (2, .long a), (4, .long d)] := hl
  have hF : cFr h0 tg h0 tg := cFr.rf
  obtain ⟨h, hM, hC, hF, hh⟩ : ∃ h9, MW G s0.heap.size h9 H ∧ CW h9 A tg (clS G A (st_many st) (st_now st) X fd tt gr) ∧ cFr h0 tg h9 tg ∧ h9 = h0 := ⟨_, hM, hC, hF, rfl⟩
  refine lv_aload_n hx hb dX5_maximum_0 rfl (lv_at hl 0 rfl) ?_
  refine lv_iload_n hx hb dX5_maximum_1 rfl (lv_at hl 1 rfl) ?_
  refine lv_lload_n hx hb dX5_maximum_2 rfl (lv_at hl 2 rfl) ?_
  refine lv_lload hx hb dX5_maximum_3 (lv_at hl 3 rfl) ?_
  refine m_xcallV Z C hM hS (As := [.int x, .long a, .long d]) (rest := []) (c_X5_readBlocks Z h A tg st X fd tt gr hC hk hR x a d) yi_X5_readBlocks ml_X5_137 (hC.at (clS_h)) rfl ⟨Nat.le_of_ble_eq_true rfl, Nat.le_of_ble_eq_true rfl⟩ (Nat.le_of_ble_eq_true rfl) hl.1 rfl rfl dX5_maximum_5 ⟨Nat.le_of_ble_eq_true rfl, Nat.le_of_ble_eq_true rfl⟩ (fun E ce q9 h9 H locs hv hM hS g1 g2 g3 => ?_) (fun v h9 H locs hv hM hS => ?_)
  · -- thrown at 5
    rcases hv with ⟨hE, f_7, hh9⟩ | ⟨k_8, hE, f_9, f_10, f_11, hh9⟩
    · -- java/util/NoSuchElementException
      rw [hh9] at hM
      exact m_out C ht hM hS (Nat.le_of_ble_eq_true rfl) (Nat.le_of_ble_eq_true rfl) g1 g2 g3 (Or.inl ⟨hE, f_7, ⟨A, tg, X, _, _, _, rfl, hC, hF, hR⟩⟩)
    · -- java/lang/IllegalArgumentException
      rw [hh9] at hM
      exact m_out C ht hM hS (Nat.le_of_ble_eq_true rfl) (Nat.le_of_ble_eq_true rfl) g1 g2 g3 (Or.inr (Or.inl ⟨k_8, hE, f_9, f_10, f_11, ⟨A, tg, X, _, _, _, rfl, hC, hF, hR⟩⟩))
  · -- back at 5
    obtain ⟨k_1, gr9_2, f_3, f_4, f_5, f_6, hv, hC, hF9⟩ := hv
    subst hv
    have hF := hF.trans hF9
    obtain ⟨h, hM, hC, hF⟩ : ∃ h8, MW G s0.heap.size h8 H ∧ CW h8 A tg (clS G A (st_many st) (st_now st) X (z_ct (z_in st k_1 a d) (st_n st k_1)) (z_sm (z_in st k_1 a d) (fun i => (z_v st k_1 i).toInt64) (st_n st k_1)) gr9_2) ∧ cFr h0 tg h8 tg := ⟨_, hM, hC, hF⟩
    refine W.eq (g2 := F0 mt 8 ls []) rfl ?_
    refine lv_aload_n hx hb dX5_maximum_8 rfl (lv_at hl 0 rfl) ?_
    refine m_get Z C hM (hC.at (clS_h)) K_X5 1 (by decide) fl_X5_18 (v := .ref (A (cd 0 3 0))) rfl dX5_maximum_9 ?_
    refine m_getN Z C hM (hC.at (clS_t)) K_X4 0 (by decide) fn_X5_141 (v := .int (nI (z_ct (z_in st k_1 a d) (st_n st k_1)))) rfl dX5_maximum_12 ?_
    have hn := hk.n f_3
    have hct : z_ct (z_in st k_1 a d) (st_n st k_1) ≤ 120 := Nat.le_trans (z_ct_le _ _) hn
    obtain ⟨T, U, F, al, hXk, hRi⟩ := hR k_1 f_3
    refine lv_if_ne (tgt := 28) hx hb dX5_maximum_15 (by decide) (fun c_12 => ?_) (fun c_12 => ?_)
    · -- 15 t
      have c_12 : ¬ z_ct (z_in st k_1 a d) (st_n st k_1) = 0 := fun q => c_12 ((nI_eq (by omega) (by decide)).mpr q)
      refine lv_aload_n hx hb dX5_maximum_28 rfl (lv_at hl 0 rfl) ?_
      refine m_get Z C hM (hC.at (clS_h)) K_X5 1 (by decide) fl_X5_18 (v := .ref (A (cd 0 3 0))) rfl dX5_maximum_29 ?_
      refine m_getN Z C hM (hC.at (clS_t)) K_X4 2 (by decide) fn_X5_157 (v := .int gr9_2) rfl dX5_maximum_32 ?_
      refine vx_ret ?_
      exact m_iret C hM hS (Nat.le_of_ble_eq_true rfl) (Nat.le_of_ble_eq_true rfl) dX5_maximum_35 ⟨k_1, f_3, f_4, f_5, (fun q => c_12 ((mx_ct hRi _).mp q)), (by rw [f_6 c_12]), ⟨A, tg, X, _, _, _, rfl, hC, hF, hR⟩⟩
    · -- 15 f
      have c_12 : z_ct (z_in st k_1 a d) (st_n st k_1) = 0 := (nI_eq (by omega) (by decide)).mp c_12
      exact m_throw Z C ht hM hS xy_X5_maximum_18 hl.1 dX5_maximum_18 dX5_maximum_21 dX5_maximum_22 dX5_maximum_24 dX5_maximum_27 ⟨Nat.le_of_ble_eq_true rfl, Nat.le_of_ble_eq_true rfl, Nat.le_of_ble_eq_true rfl, Nat.le_of_ble_eq_true rfl⟩ (Nat.le_of_ble_eq_true rfl) (Nat.le_of_ble_eq_true rfl) (Or.inr (Or.inr ⟨k_1, rfl, f_3, f_4, f_5, ((mx_ct hRi _).mpr c_12), ⟨A, tg, X, _, _, _, rfl, hC, hF, hR⟩⟩))
set_option maxRecDepth 100000 in
set_option maxHeartbeats 4000000 in
theorem c_X5_maximumHigh {l : Launch} {G : mG} {a0 : Array Value} {s0 : State} (Z : mZ l G a0 s0) (h0 : Hp) (A : Cd → Nat) (tg : Nat → Cd) (st : Ms) (X : Nat → Xs) (fd : Nat) (tt : Int64) (gr : Int32) (hC : CW h0 A tg (clS G A (st_many st) (st_now st) X fd tt gr)) (hk : Iv st) (hR : ∀ k : Nat, k < st_many st → Rx st k (X k)) (x : Int32) (a : Int64) (d : Int64) : mT l G s0 yX5_maximumHigh cX5_maximumHigh 6 (some .int) 8 139 3 18 h0 [.ref (A (cd 0 1 0)), .int x, .long a, .long d] (fun v9 h9 => (∃ k : Nat, (k < st_many st) ∧ (x = nI k) ∧ (¬ z_bad a d) ∧ (¬ z_mx (z_hi st k a d) (z_v st k) (-20000) (st_n st k) = -20000) ∧ v9 = some (.int (z_mx (z_hi st k a d) (z_v st k) (-20000) (st_n st k))) ∧ NW G h0 h9 A tg st)) (fun E h9 => (E = "java/util/NoSuchElementException" ∧ (∀ k : Nat, k < st_many st → x ≠ nI k) ∧ NW G h0 h9 A tg st) ∨ (∃ k : Nat, E = "java/lang/IllegalArgumentException" ∧ (k < st_many st) ∧ (x = nI k) ∧ (z_bad a d) ∧ NW G h0 h9 A tg st) ∨ (∃ k : Nat, E = "java/lang/IllegalStateException" ∧ (k < st_many st) ∧ (x = nI k) ∧ (¬ z_bad a d) ∧ (z_mx (z_hi st k a d) (z_v st k) (-20000) (st_n st k) = -20000) ∧ NW G h0 h9 A tg st)) := by
  refine mT_in RX5 "maximumHigh" rfl rfl (by decide +kernel) (Nat.le_of_ble_eq_true rfl) ?_
  intro p e s mt below meth c H locs C ht hM hS ls hl
  have hx := C.1
  have hb := C.2.1
  have hown := C.2.2.2.1
  have hE := C.2.2.2.2.2.2.1
  have hl : lv_has ls 6 [(0, .ref (A (cd 0 1 0))), (1, .int x), (2, .long a), (4, .long d)] := hl
  have hF : cFr h0 tg h0 tg := cFr.rf
  obtain ⟨h, hM, hC, hF, hh⟩ : ∃ h9, MW G s0.heap.size h9 H ∧ CW h9 A tg (clS G A (st_many st) (st_now st) X fd tt gr) ∧ cFr h0 tg h9 tg ∧ h9 = h0 := ⟨_, hM, hC, hF, rfl⟩
  refine lv_aload_n hx hb dX5_maximumHigh_0 rfl (lv_at hl 0 rfl) ?_
  refine lv_iload_n hx hb dX5_maximumHigh_1 rfl (lv_at hl 1 rfl) ?_
  refine lv_lload_n hx hb dX5_maximumHigh_2 rfl (lv_at hl 2 rfl) ?_
  refine lv_lload hx hb dX5_maximumHigh_3 (lv_at hl 3 rfl) ?_
  refine m_xcallV Z C hM hS (As := [.int x, .long a, .long d]) (rest := []) (c_X5_readTouchingRollups Z h A tg st X fd tt gr hC hk hR x a d) yi_X5_readTouchingRollups ml_X5_170 (hC.at (clS_h)) rfl ⟨Nat.le_of_ble_eq_true rfl, Nat.le_of_ble_eq_true rfl⟩ (Nat.le_of_ble_eq_true rfl) hl.1 rfl rfl dX5_maximumHigh_5 ⟨Nat.le_of_ble_eq_true rfl, Nat.le_of_ble_eq_true rfl⟩ (fun E ce q9 h9 H locs hv hM hS g1 g2 g3 => ?_) (fun v h9 H locs hv hM hS => ?_)
  · -- thrown at 5
    rcases hv with ⟨hE, f_8, hh9⟩ | ⟨k_9, hE, f_10, f_11, f_12, hh9⟩
    · -- java/util/NoSuchElementException
      rw [hh9] at hM
      exact m_out C ht hM hS (Nat.le_of_ble_eq_true rfl) (Nat.le_of_ble_eq_true rfl) g1 g2 g3 (Or.inl ⟨hE, f_8, ⟨A, tg, X, _, _, _, rfl, hC, hF, hR⟩⟩)
    · -- java/lang/IllegalArgumentException
      rw [hh9] at hM
      exact m_out C ht hM hS (Nat.le_of_ble_eq_true rfl) (Nat.le_of_ble_eq_true rfl) g1 g2 g3 (Or.inr (Or.inl ⟨k_9, hE, f_10, f_11, f_12, ⟨A, tg, X, _, _, _, rfl, hC, hF, hR⟩⟩))
  · -- back at 5
    obtain ⟨k_1, tt9_2, gr9_3, f_4, f_5, f_6, f_7, hv, hC, hF9⟩ := hv
    subst hv
    have hF := hF.trans hF9
    obtain ⟨h, hM, hC, hF⟩ : ∃ h8, MW G s0.heap.size h8 H ∧ CW h8 A tg (clS G A (st_many st) (st_now st) X (z_ct (z_hi st k_1 a d) (st_n st k_1)) tt9_2 gr9_3) ∧ cFr h0 tg h8 tg := ⟨_, hM, hC, hF⟩
    refine W.eq (g2 := F0 mt 8 ls []) rfl ?_
    refine lv_aload_n hx hb dX5_maximumHigh_8 rfl (lv_at hl 0 rfl) ?_
    refine m_get Z C hM (hC.at (clS_h)) K_X5 1 (by decide) fl_X5_18 (v := .ref (A (cd 0 3 0))) rfl dX5_maximumHigh_9 ?_
    refine m_getN Z C hM (hC.at (clS_t)) K_X4 0 (by decide) fn_X5_141 (v := .int (nI (z_ct (z_hi st k_1 a d) (st_n st k_1)))) rfl dX5_maximumHigh_12 ?_
    have hn := hk.n f_4
    have hct : z_ct (z_hi st k_1 a d) (st_n st k_1) ≤ 120 := Nat.le_trans (z_ct_le _ _) hn
    obtain ⟨T, U, F, al, hXk, hRi⟩ := hR k_1 f_4
    refine lv_if_ne (tgt := 28) hx hb dX5_maximumHigh_15 (by decide) (fun c_13 => ?_) (fun c_13 => ?_)
    · -- 15 t
      have c_13 : ¬ z_ct (z_hi st k_1 a d) (st_n st k_1) = 0 := fun q => c_13 ((nI_eq (by omega) (by decide)).mpr q)
      refine lv_aload_n hx hb dX5_maximumHigh_28 rfl (lv_at hl 0 rfl) ?_
      refine m_get Z C hM (hC.at (clS_h)) K_X5 1 (by decide) fl_X5_18 (v := .ref (A (cd 0 3 0))) rfl dX5_maximumHigh_29 ?_
      refine m_getN Z C hM (hC.at (clS_t)) K_X4 2 (by decide) fn_X5_157 (v := .int gr9_3) rfl dX5_maximumHigh_32 ?_
      refine vx_ret ?_
      exact m_iret C hM hS (Nat.le_of_ble_eq_true rfl) (Nat.le_of_ble_eq_true rfl) dX5_maximumHigh_35 ⟨k_1, f_4, f_5, f_6, (fun q => c_13 ((mx_ct hRi _).mp q)), (by rw [f_7 c_13]), ⟨A, tg, X, _, _, _, rfl, hC, hF, hR⟩⟩
    · -- 15 f
      have c_13 : z_ct (z_hi st k_1 a d) (st_n st k_1) = 0 := (nI_eq (by omega) (by decide)).mp c_13
      exact m_throw Z C ht hM hS xy_X5_maximumHigh_18 hl.1 dX5_maximumHigh_18 dX5_maximumHigh_21 dX5_maximumHigh_22 dX5_maximumHigh_24 dX5_maximumHigh_27 ⟨Nat.le_of_ble_eq_true rfl, Nat.le_of_ble_eq_true rfl, Nat.le_of_ble_eq_true rfl, Nat.le_of_ble_eq_true rfl⟩ (Nat.le_of_ble_eq_true rfl) (Nat.le_of_ble_eq_true rfl) (Or.inr (Or.inr ⟨k_1, rfl, f_4, f_5, f_6, ((mx_ct hRi _).mpr c_13), ⟨A, tg, X, _, _, _, rfl, hC, hF, hR⟩⟩))
set_option maxRecDepth 100000 in
set_option maxHeartbeats 4000000 in
theorem c_X5_mean {l : Launch} {G : mG} {a0 : Array Value} {s0 : State} (Z : mZ l G a0 s0) (h0 : Hp) (A : Cd → Nat) (tg : Nat → Cd) (st : Ms) (X : Nat → Xs) (fd : Nat) (tt : Int64) (gr : Int32) (hC : CW h0 A tg (clS G A (st_many st) (st_now st) X fd tt gr)) (hk : Iv st) (hR : ∀ k : Nat, k < st_many st → Rx st k (X k)) (x : Int32) (a : Int64) (d : Int64) : mT l G s0 yX5_mean cX5_mean 6 (some .double) 8 139 3 18 h0 [.ref (A (cd 0 1 0)), .int x, .long a, .long d] (fun v9 h9 => (∃ k : Nat, (k < st_many st) ∧ (x = nI k) ∧ (¬ z_bad a d) ∧ (¬ z_ct (z_in st k a d) (st_n st k) = 0) ∧ v9 = some (.double (FP.ddiv (FP.l2d (z_sm (z_in st k a d) (fun i => (z_v st k i).toInt64) (st_n st k))) (FP.i2d (nI (z_ct (z_in st k a d) (st_n st k)))))) ∧ NW G h0 h9 A tg st)) (fun E h9 => (E = "java/util/NoSuchElementException" ∧ (∀ k : Nat, k < st_many st → x ≠ nI k) ∧ NW G h0 h9 A tg st) ∨ (∃ k : Nat, E = "java/lang/IllegalArgumentException" ∧ (k < st_many st) ∧ (x = nI k) ∧ (z_bad a d) ∧ NW G h0 h9 A tg st) ∨ (∃ k : Nat, E = "java/lang/ArithmeticException" ∧ (k < st_many st) ∧ (x = nI k) ∧ (¬ z_bad a d) ∧ (z_ct (z_in st k a d) (st_n st k) = 0) ∧ NW G h0 h9 A tg st)) := by
  refine mT_in RX5 "mean" rfl rfl (by decide +kernel) (Nat.le_of_ble_eq_true rfl) ?_
  intro p e s mt below meth c H locs C ht hM hS ls hl
  have hx := C.1
  have hb := C.2.1
  have hown := C.2.2.2.1
  have hE := C.2.2.2.2.2.2.1
  have hl : lv_has ls 6 [(0, .ref (A (cd 0 1 0))), (1, .int x), (2, .long a), (4, .long d)] := hl
  have hF : cFr h0 tg h0 tg := cFr.rf
  obtain ⟨h, hM, hC, hF, hh⟩ : ∃ h9, MW G s0.heap.size h9 H ∧ CW h9 A tg (clS G A (st_many st) (st_now st) X fd tt gr) ∧ cFr h0 tg h9 tg ∧ h9 = h0 := ⟨_, hM, hC, hF, rfl⟩
  refine lv_aload_n hx hb dX5_mean_0 rfl (lv_at hl 0 rfl) ?_
  refine lv_iload_n hx hb dX5_mean_1 rfl (lv_at hl 1 rfl) ?_
  refine lv_lload_n hx hb dX5_mean_2 rfl (lv_at hl 2 rfl) ?_
  refine lv_lload hx hb dX5_mean_3 (lv_at hl 3 rfl) ?_
  refine m_xcallV Z C hM hS (As := [.int x, .long a, .long d]) (rest := []) (c_X5_readBlocks Z h A tg st X fd tt gr hC hk hR x a d) yi_X5_readBlocks ml_X5_137 (hC.at (clS_h)) rfl ⟨Nat.le_of_ble_eq_true rfl, Nat.le_of_ble_eq_true rfl⟩ (Nat.le_of_ble_eq_true rfl) hl.1 rfl rfl dX5_mean_5 ⟨Nat.le_of_ble_eq_true rfl, Nat.le_of_ble_eq_true rfl⟩ (fun E ce q9 h9 H locs hv hM hS g1 g2 g3 => ?_) (fun v h9 H locs hv hM hS => ?_)
  · -- thrown at 5
    rcases hv with ⟨hE, f_7, hh9⟩ | ⟨k_8, hE, f_9, f_10, f_11, hh9⟩
    · -- java/util/NoSuchElementException
      rw [hh9] at hM
      exact m_out C ht hM hS (Nat.le_of_ble_eq_true rfl) (Nat.le_of_ble_eq_true rfl) g1 g2 g3 (Or.inl ⟨hE, f_7, ⟨A, tg, X, _, _, _, rfl, hC, hF, hR⟩⟩)
    · -- java/lang/IllegalArgumentException
      rw [hh9] at hM
      exact m_out C ht hM hS (Nat.le_of_ble_eq_true rfl) (Nat.le_of_ble_eq_true rfl) g1 g2 g3 (Or.inr (Or.inl ⟨k_8, hE, f_9, f_10, f_11, ⟨A, tg, X, _, _, _, rfl, hC, hF, hR⟩⟩))
  · -- back at 5
    obtain ⟨k_1, gr9_2, f_3, f_4, f_5, f_6, hv, hC, hF9⟩ := hv
    subst hv
    have hF := hF.trans hF9
    obtain ⟨h, hM, hC, hF⟩ : ∃ h8, MW G s0.heap.size h8 H ∧ CW h8 A tg (clS G A (st_many st) (st_now st) X (z_ct (z_in st k_1 a d) (st_n st k_1)) (z_sm (z_in st k_1 a d) (fun i => (z_v st k_1 i).toInt64) (st_n st k_1)) gr9_2) ∧ cFr h0 tg h8 tg := ⟨_, hM, hC, hF⟩
    refine W.eq (g2 := F0 mt 8 ls []) rfl ?_
    refine lv_aload_n hx hb dX5_mean_8 rfl (lv_at hl 0 rfl) ?_
    refine m_get Z C hM (hC.at (clS_h)) K_X5 1 (by decide) fl_X5_18 (v := .ref (A (cd 0 3 0))) rfl dX5_mean_9 ?_
    refine m_getN Z C hM (hC.at (clS_t)) K_X4 0 (by decide) fn_X5_141 (v := .int (nI (z_ct (z_in st k_1 a d) (st_n st k_1)))) rfl dX5_mean_12 ?_
    have hn := hk.n f_3
    have hct : z_ct (z_in st k_1 a d) (st_n st k_1) ≤ 120 := Nat.le_trans (z_ct_le _ _) hn
    obtain ⟨T, U, F, al, hXk, hRi⟩ := hR k_1 f_3
    refine lv_if_ne (tgt := 28) hx hb dX5_mean_15 (by decide) (fun c_12 => ?_) (fun c_12 => ?_)
    · -- 15 t
      have c_12 : ¬ z_ct (z_in st k_1 a d) (st_n st k_1) = 0 := fun q => c_12 ((nI_eq (by omega) (by decide)).mpr q)
      refine lv_aload_n hx hb dX5_mean_28 rfl (lv_at hl 0 rfl) ?_
      refine m_get Z C hM (hC.at (clS_h)) K_X5 1 (by decide) fl_X5_18 (v := .ref (A (cd 0 3 0))) rfl dX5_mean_29 ?_
      refine m_getN Z C hM (hC.at (clS_t)) K_X4 1 (by decide) fn_X5_144 (v := .long (z_sm (z_in st k_1 a d) (fun i => (z_v st k_1 i).toInt64) (st_n st k_1))) rfl dX5_mean_32 ?_
      refine lv_l2d hx hb dX5_mean_35 ?_
      refine lv_aload_n hx hb dX5_mean_36 rfl (lv_at hl 0 rfl) ?_
      refine m_get Z C hM (hC.at (clS_h)) K_X5 1 (by decide) fl_X5_18 (v := .ref (A (cd 0 3 0))) rfl dX5_mean_37 ?_
      refine m_getN Z C hM (hC.at (clS_t)) K_X4 0 (by decide) fn_X5_141 (v := .int (nI (z_ct (z_in st k_1 a d) (st_n st k_1)))) rfl dX5_mean_40 ?_
      refine lv_i2d hx hb dX5_mean_43 ?_
      refine lv_ddiv hx hb dX5_mean_44 (d_div_ok _ (by omega) (by omega)) ?_
      refine vx_ret ?_
      exact m_dret C hM hS (Nat.le_of_ble_eq_true rfl) (Nat.le_of_ble_eq_true rfl) dX5_mean_45 ⟨k_1, f_3, f_4, f_5, c_12, rfl, ⟨A, tg, X, _, _, _, rfl, hC, hF, hR⟩⟩
    · -- 15 f
      have c_12 : z_ct (z_in st k_1 a d) (st_n st k_1) = 0 := (nI_eq (by omega) (by decide)).mp c_12
      exact m_throw Z C ht hM hS xy_X5_mean_18 hl.1 dX5_mean_18 dX5_mean_21 dX5_mean_22 dX5_mean_24 dX5_mean_27 ⟨Nat.le_of_ble_eq_true rfl, Nat.le_of_ble_eq_true rfl, Nat.le_of_ble_eq_true rfl, Nat.le_of_ble_eq_true rfl⟩ (Nat.le_of_ble_eq_true rfl) (Nat.le_of_ble_eq_true rfl) (Or.inr (Or.inr ⟨k_1, rfl, f_3, f_4, f_5, c_12, ⟨A, tg, X, _, _, _, rfl, hC, hF, hR⟩⟩))
set_option maxRecDepth 100000 in
set_option maxHeartbeats 4000000 in
theorem c_X5_sumByReading {l : Launch} {G : mG} {a0 : Array Value} {s0 : State} (Z : mZ l G a0 s0) (h0 : Hp) (A : Cd → Nat) (tg : Nat → Cd) (st : Ms) (X : Nat → Xs) (fd : Nat) (tt : Int64) (gr : Int32) (hC : CW h0 A tg (clS G A (st_many st) (st_now st) X fd tt gr)) (hk : Iv st) (hR : ∀ k : Nat, k < st_many st → Rx st k (X k)) (x : Int32) (a : Int64) (d : Int64) : mT l G s0 yX5_sumByReading cX5_sumByReading 7 (some .long) 7 113 2 12 h0 [.ref (A (cd 0 1 0)), .int x, .long a, .long d] (fun v9 h9 => (∃ k : Nat, (k < st_many st) ∧ (x = nI k) ∧ (¬ z_bad a d) ∧ v9 = some (.long (z_sm (z_in st k a d) (fun i => (z_v st k i).toInt64) (st_n st k))) ∧ NW G h0 h9 A tg st)) (fun E h9 => (E = "java/util/NoSuchElementException" ∧ (∀ k : Nat, k < st_many st → x ≠ nI k) ∧ NW G h0 h9 A tg st) ∨ (∃ k : Nat, E = "java/lang/IllegalArgumentException" ∧ (k < st_many st) ∧ (x = nI k) ∧ (z_bad a d) ∧ NW G h0 h9 A tg st)) := by
  refine mT_in RX5 "sumByReading" rfl rfl (by decide +kernel) (Nat.le_of_ble_eq_true rfl) ?_
  intro p e s mt below meth c H locs C ht hM hS ls hl
  have hx := C.1
  have hb := C.2.1
  have hown := C.2.2.2.1
  have hE := C.2.2.2.2.2.2.1
  have hl : lv_has ls 7 [(0, .ref (A (cd 0 1 0))), (1, .int x), (2, .long a), (4, .long d)] := hl
  have hF : cFr h0 tg h0 tg := cFr.rf
  obtain ⟨h, hM, hC, hF, hh⟩ : ∃ h9, MW G s0.heap.size h9 H ∧ CW h9 A tg (clS G A (st_many st) (st_now st) X fd tt gr) ∧ cFr h0 tg h9 tg ∧ h9 = h0 := ⟨_, hM, hC, hF, rfl⟩
  refine lv_aload_n hx hb dX5_sumByReading_0 rfl (lv_at hl 0 rfl) ?_
  refine lv_iload_n hx hb dX5_sumByReading_1 rfl (lv_at hl 1 rfl) ?_
  refine m_xcallV Z C hM hS (As := [.int x]) (rest := []) (c_X5_rowOf Z h A tg st X fd tt gr hC hk hR x) yi_X5_rowOf ml_X5_57 (hC.at (clS_h)) rfl ⟨Nat.le_of_ble_eq_true rfl, Nat.le_of_ble_eq_true rfl⟩ (Nat.le_of_ble_eq_true rfl) hl.1 rfl rfl dX5_sumByReading_2 ⟨Nat.le_of_ble_eq_true rfl, Nat.le_of_ble_eq_true rfl⟩ (fun E ce q9 h9 H locs hv hM hS g1 g2 g3 => ?_) (fun v h9 H locs hv hM hS => ?_)
  · -- thrown at 2
    obtain ⟨hE, f_4, hh9⟩ := hv
    rw [hh9] at hM
    exact m_out C ht hM hS (Nat.le_of_ble_eq_true rfl) (Nat.le_of_ble_eq_true rfl) g1 g2 g3 (Or.inl ⟨hE, f_4, ⟨A, tg, X, _, _, _, rfl, hC, hF, hR⟩⟩)
  · -- back at 2
    obtain ⟨k_1, f_2, f_3, hv, hh9⟩ := hv
    subst hv
    rw [hh9] at hM
    obtain ⟨T, U, F, al, hXk, hRi⟩ := hR k_1 f_2
    have hn := hk.n f_2
    obtain ⟨hT, hU, hUr, hRw, hEr, hFs, hal⟩ := hRi
    have hTb : ∀ i : Nat, i < st_n st k_1 → T i < 1073741824 := fun i hi => by rw [hT i hi]; exact hk.T f_2 hi
    refine W.eq (g2 := F0 mt 5 ls [.ref (A (cd (k_1 + 1) 0 0))]) rfl ?_
    refine lv_astore (lv' := [(6, .ref (A (cd (k_1 + 1) 0 0))), (0, .ref (A (cd 0 1 0))), (1, .int x), (2, .long a), (4, .long d)]) hx hb dX5_sumByReading_5 hl (by decide) rfl (fun ls hl => ?_)
    refine lv_lload_n hx hb dX5_sumByReading_7 rfl (lv_at hl 3 rfl) ?_
    refine lv_lload hx hb dX5_sumByReading_8 (lv_at hl 4 rfl) ?_
    refine m_xcallS Z C hM hS (As := [.long a, .long d]) (rest := []) (c_X5_refuseBadRange Z h a d) yi_X5_refuseBadRange ml_X5_147 ⟨Nat.le_of_ble_eq_true rfl, Nat.le_of_ble_eq_true rfl⟩ (Nat.le_of_ble_eq_true rfl) hl.1 rfl rfl dX5_sumByReading_10 ⟨Nat.le_of_ble_eq_true rfl, Nat.le_of_ble_eq_true rfl⟩ (fun E ce q9 h9 H locs hv hM hS g1 g2 g3 => ?_) (fun v h9 H locs hv hM hS => ?_)
    · -- thrown at 10
      obtain ⟨hE, f_6, hh9⟩ := hv
      rw [hh9] at hM
      exact m_out C ht hM hS (Nat.le_of_ble_eq_true rfl) (Nat.le_of_ble_eq_true rfl) g1 g2 g3 (Or.inr ⟨k_1, hE, f_2, f_3, f_6, ⟨A, tg, X, _, _, _, rfl, hC, hF, hR⟩⟩)
    · -- back at 10
      obtain ⟨f_5, hv, hh9⟩ := hv
      subst hv
      rw [hh9] at hM
      refine W.eq (g2 := F0 mt 13 ls []) rfl ?_
      refine lv_aload hx hb dX5_sumByReading_13 (lv_at hl 0 rfl) ?_
      refine lv_aload_n hx hb dX5_sumByReading_15 rfl (lv_at hl 1 rfl) ?_
      refine m_get Z C hM (hC.at (clS_h)) K_X5 1 (by decide) fl_X5_18 (v := .ref (A (cd 0 3 0))) rfl dX5_sumByReading_16 ?_
      refine lv_lload_n hx hb dX5_sumByReading_19 rfl (lv_at hl 3 rfl) ?_
      refine lv_lload hx hb dX5_sumByReading_20 (lv_at hl 4 rfl) ?_
      refine m_callVN Z C hM hS (As := [.ref (A (cd 0 3 0)), .long a, .long d]) (rest := []) (c_X2_readSamples Z h A tg (clS G A (st_many st) (st_now st) X fd tt gr) hC k_1 a d (st_nm st k_1) (st_ho st k_1) (st_n st k_1) (((x_av A k_1 al))) T U fd tt gr ((clS_at f_2 hXk srS_0)) ((clS_at f_2 hXk srS_1)) ((clS_at f_2 hXk srS_2)) (clS_t) (by omega) hTb) yi_X2_readSamples mn_X5_151 (hC.at ((clS_at f_2 hXk srS_0))) rfl ⟨Nat.le_of_ble_eq_true rfl, Nat.le_of_ble_eq_true rfl⟩ (Nat.le_of_ble_eq_true rfl) hl.1 rfl rfl dX5_sumByReading_22 ⟨Nat.le_of_ble_eq_true rfl, Nat.le_of_ble_eq_true rfl⟩ (fun v h9 H locs hv hM hS => ?_)
      obtain ⟨hv, hC9, hF8⟩ := hv
      subst hv
      have hF := hF.trans hF8
      obtain ⟨h, hM, hC, hF⟩ : ∃ h8, MW G s0.heap.size h8 H ∧ CW h8 A tg (up3 (clS G A (st_many st) (st_now st) X fd tt gr) (cd 0 3 0) (some (eO 4 [.int (nI ((z_rs (z_s1 T a d) U (0, lN 0, -10000) (st_n st k_1)).1)), .long ((z_rs (z_s1 T a d) U (0, lN 0, -10000) (st_n st k_1)).2.1), .int ((z_rs (z_s1 T a d) U (0, lN 0, -10000) (st_n st k_1)).2.2)]))) ∧ cFr h0 tg h8 tg := ⟨_, hM, hC9, hF⟩
      refine W.eq (g2 := F0 mt 25 ls []) rfl ?_
      have hsm := sum_c (st := st) (k := k_1) ⟨hT, hU, hUr, hRw, hEr, hFs, hal⟩ a d
      refine lv_aload_n hx hb dX5_sumByReading_25 rfl (lv_at hl 1 rfl) ?_
      refine m_get Z C hM (hC.at ((up3_ne _ _ (cd_r (by decide))).trans (clS_h))) K_X5 1 (by decide) fl_X5_18 (v := .ref (A (cd 0 3 0))) rfl dX5_sumByReading_26 ?_
      refine m_getN Z C hM (hC.at (up3_self _ _ _)) K_X4 1 (by decide) fn_X5_144 (v := .long ((z_rs (z_s1 T a d) U (0, lN 0, -10000) (st_n st k_1)).2.1)) rfl dX5_sumByReading_29 ?_
      refine vx_ret ?_
      exact m_lret C hM hS (Nat.le_of_ble_eq_true rfl) (Nat.le_of_ble_eq_true rfl) dX5_sumByReading_32 ⟨k_1, f_2, f_3, f_5, (by rw [hsm.2.1]), ⟨A, tg, X, _, _, _, rfl, (by rw [clS_p3] at hC; exact hC), hF, hR⟩⟩
set_option maxRecDepth 100000 in
set_option maxHeartbeats 4000000 in
theorem c_X5_countLow {l : Launch} {G : mG} {a0 : Array Value} {s0 : State} (Z : mZ l G a0 s0) (h0 : Hp) (A : Cd → Nat) (tg : Nat → Cd) (st : Ms) (X : Nat → Xs) (fd : Nat) (tt : Int64) (gr : Int32) (hC : CW h0 A tg (clS G A (st_many st) (st_now st) X fd tt gr)) (hk : Iv st) (hR : ∀ k : Nat, k < st_many st → Rx st k (X k)) (x : Int32) (a : Int64) (d : Int64) : mT l G s0 yX5_countLow cX5_countLow 7 (some .int) 7 113 2 12 h0 [.ref (A (cd 0 1 0)), .int x, .long a, .long d] (fun v9 h9 => (∃ k : Nat, (k < st_many st) ∧ (x = nI k) ∧ (¬ z_bad a d) ∧ v9 = some (.int (nI (z_ct (z_lo st k a d) (st_n st k)))) ∧ NW G h0 h9 A tg st)) (fun E h9 => (E = "java/util/NoSuchElementException" ∧ (∀ k : Nat, k < st_many st → x ≠ nI k) ∧ NW G h0 h9 A tg st) ∨ (∃ k : Nat, E = "java/lang/IllegalArgumentException" ∧ (k < st_many st) ∧ (x = nI k) ∧ (z_bad a d) ∧ NW G h0 h9 A tg st)) := by
  refine mT_in RX5 "countLow" rfl rfl (by decide +kernel) (Nat.le_of_ble_eq_true rfl) ?_
  intro p e s mt below meth c H locs C ht hM hS ls hl
  have hx := C.1
  have hb := C.2.1
  have hown := C.2.2.2.1
  have hE := C.2.2.2.2.2.2.1
  have hl : lv_has ls 7 [(0, .ref (A (cd 0 1 0))), (1, .int x), (2, .long a), (4, .long d)] := hl
  have hF : cFr h0 tg h0 tg := cFr.rf
  obtain ⟨h, hM, hC, hF, hh⟩ : ∃ h9, MW G s0.heap.size h9 H ∧ CW h9 A tg (clS G A (st_many st) (st_now st) X fd tt gr) ∧ cFr h0 tg h9 tg ∧ h9 = h0 := ⟨_, hM, hC, hF, rfl⟩
  refine lv_aload_n hx hb dX5_countLow_0 rfl (lv_at hl 0 rfl) ?_
  refine lv_iload_n hx hb dX5_countLow_1 rfl (lv_at hl 1 rfl) ?_
  refine m_xcallV Z C hM hS (As := [.int x]) (rest := []) (c_X5_rowOf Z h A tg st X fd tt gr hC hk hR x) yi_X5_rowOf ml_X5_57 (hC.at (clS_h)) rfl ⟨Nat.le_of_ble_eq_true rfl, Nat.le_of_ble_eq_true rfl⟩ (Nat.le_of_ble_eq_true rfl) hl.1 rfl rfl dX5_countLow_2 ⟨Nat.le_of_ble_eq_true rfl, Nat.le_of_ble_eq_true rfl⟩ (fun E ce q9 h9 H locs hv hM hS g1 g2 g3 => ?_) (fun v h9 H locs hv hM hS => ?_)
  · -- thrown at 2
    obtain ⟨hE, f_4, hh9⟩ := hv
    rw [hh9] at hM
    exact m_out C ht hM hS (Nat.le_of_ble_eq_true rfl) (Nat.le_of_ble_eq_true rfl) g1 g2 g3 (Or.inl ⟨hE, f_4, ⟨A, tg, X, _, _, _, rfl, hC, hF, hR⟩⟩)
  · -- back at 2
    obtain ⟨k_1, f_2, f_3, hv, hh9⟩ := hv
    subst hv
    rw [hh9] at hM
    obtain ⟨T, U, F, al, hXk, hRi⟩ := hR k_1 f_2
    have hn := hk.n f_2
    obtain ⟨hT, hU, hUr, hRw, hEr, hFs, hal⟩ := hRi
    have hTb : ∀ i : Nat, i < st_n st k_1 → T i < 1073741824 := fun i hi => by rw [hT i hi]; exact hk.T f_2 hi
    refine W.eq (g2 := F0 mt 5 ls [.ref (A (cd (k_1 + 1) 0 0))]) rfl ?_
    refine lv_astore (lv' := [(6, .ref (A (cd (k_1 + 1) 0 0))), (0, .ref (A (cd 0 1 0))), (1, .int x), (2, .long a), (4, .long d)]) hx hb dX5_countLow_5 hl (by decide) rfl (fun ls hl => ?_)
    refine lv_lload_n hx hb dX5_countLow_7 rfl (lv_at hl 3 rfl) ?_
    refine lv_lload hx hb dX5_countLow_8 (lv_at hl 4 rfl) ?_
    refine m_xcallS Z C hM hS (As := [.long a, .long d]) (rest := []) (c_X5_refuseBadRange Z h a d) yi_X5_refuseBadRange ml_X5_147 ⟨Nat.le_of_ble_eq_true rfl, Nat.le_of_ble_eq_true rfl⟩ (Nat.le_of_ble_eq_true rfl) hl.1 rfl rfl dX5_countLow_10 ⟨Nat.le_of_ble_eq_true rfl, Nat.le_of_ble_eq_true rfl⟩ (fun E ce q9 h9 H locs hv hM hS g1 g2 g3 => ?_) (fun v h9 H locs hv hM hS => ?_)
    · -- thrown at 10
      obtain ⟨hE, f_6, hh9⟩ := hv
      rw [hh9] at hM
      exact m_out C ht hM hS (Nat.le_of_ble_eq_true rfl) (Nat.le_of_ble_eq_true rfl) g1 g2 g3 (Or.inr ⟨k_1, hE, f_2, f_3, f_6, ⟨A, tg, X, _, _, _, rfl, hC, hF, hR⟩⟩)
    · -- back at 10
      obtain ⟨f_5, hv, hh9⟩ := hv
      subst hv
      rw [hh9] at hM
      refine W.eq (g2 := F0 mt 13 ls []) rfl ?_
      refine lv_aload hx hb dX5_countLow_13 (lv_at hl 0 rfl) ?_
      refine lv_aload_n hx hb dX5_countLow_15 rfl (lv_at hl 1 rfl) ?_
      refine m_get Z C hM (hC.at (clS_h)) K_X5 1 (by decide) fl_X5_18 (v := .ref (A (cd 0 3 0))) rfl dX5_countLow_16 ?_
      refine lv_lload_n hx hb dX5_countLow_19 rfl (lv_at hl 3 rfl) ?_
      refine lv_lload hx hb dX5_countLow_20 (lv_at hl 4 rfl) ?_
      refine m_callVN Z C hM hS (As := [.ref (A (cd 0 3 0)), .long a, .long d]) (rest := []) (c_X2_readRollupsInside Z h A tg (clS G A (st_many st) (st_now st) X fd tt gr) hC k_1 a d (st_nm st k_1) (st_ho st k_1) (st_n st k_1) (((x_av A k_1 al))) T U fd tt gr ((clS_at f_2 hXk srS_0)) ((clS_at f_2 hXk srS_1)) ((clS_at f_2 hXk srS_2)) (clS_t) (by omega) hTb) yi_X2_readRollupsInside mn_X5_167 (hC.at ((clS_at f_2 hXk srS_0))) rfl ⟨Nat.le_of_ble_eq_true rfl, Nat.le_of_ble_eq_true rfl⟩ (Nat.le_of_ble_eq_true rfl) hl.1 rfl rfl dX5_countLow_22 ⟨Nat.le_of_ble_eq_true rfl, Nat.le_of_ble_eq_true rfl⟩ (fun v h9 H locs hv hM hS => ?_)
      obtain ⟨hv, hC9, hF8⟩ := hv
      subst hv
      have hF := hF.trans hF8
      obtain ⟨h, hM, hC, hF⟩ : ∃ h8, MW G s0.heap.size h8 H ∧ CW h8 A tg (up3 (clS G A (st_many st) (st_now st) X fd tt gr) (cd 0 3 0) (some (eO 4 [.int (nI ((z_rs (z_s2 T a d) U (0, lN 0, -10000) (st_n st k_1)).1)), .long ((z_rs (z_s2 T a d) U (0, lN 0, -10000) (st_n st k_1)).2.1), .int ((z_rs (z_s2 T a d) U (0, lN 0, -10000) (st_n st k_1)).2.2)]))) ∧ cFr h0 tg h8 tg := ⟨_, hM, hC9, hF⟩
      refine W.eq (g2 := F0 mt 25 ls []) rfl ?_
      have hsm := sum_lo (st := st) (k := k_1) ⟨hT, hU, hUr, hRw, hEr, hFs, hal⟩ a d
      refine lv_aload_n hx hb dX5_countLow_25 rfl (lv_at hl 1 rfl) ?_
      refine m_get Z C hM (hC.at ((up3_ne _ _ (cd_r (by decide))).trans (clS_h))) K_X5 1 (by decide) fl_X5_18 (v := .ref (A (cd 0 3 0))) rfl dX5_countLow_26 ?_
      refine m_getN Z C hM (hC.at (up3_self _ _ _)) K_X4 0 (by decide) fn_X5_141 (v := .int (nI ((z_rs (z_s2 T a d) U (0, lN 0, -10000) (st_n st k_1)).1))) rfl dX5_countLow_29 ?_
      refine vx_ret ?_
      exact m_iret C hM hS (Nat.le_of_ble_eq_true rfl) (Nat.le_of_ble_eq_true rfl) dX5_countLow_32 ⟨k_1, f_2, f_3, f_5, (by rw [hsm]), ⟨A, tg, X, _, _, _, rfl, (by rw [clS_p3] at hC; exact hC), hF, hR⟩⟩
set_option maxRecDepth 100000 in
set_option maxHeartbeats 4000000 in
theorem c_X5_rollupCount {l : Launch} {G : mG} {a0 : Array Value} {s0 : State} (Z : mZ l G a0 s0) (h0 : Hp) (A : Cd → Nat) (tg : Nat → Cd) (st : Ms) (X : Nat → Xs) (fd : Nat) (tt : Int64) (gr : Int32) (hC : CW h0 A tg (clS G A (st_many st) (st_now st) X fd tt gr)) (hk : Iv st) (hR : ∀ k : Nat, k < st_many st → Rx st k (X k)) (x : Int32) (y : Int32) : mT l G s0 yX5_rollupCount cX5_rollupCount 6 (some .int) 7 112 2 12 h0 [.ref (A (cd 0 1 0)), .int x, .int y] (fun v9 h9 => (∃ k : Nat, (k < st_many st) ∧ (x = nI k) ∧ (¬ y < 0) ∧ v9 = some (.int (nI (z_ct (z_ro st k y) (st_n st k)))) ∧ NW G h0 h9 A tg st)) (fun E h9 => (E = "java/util/NoSuchElementException" ∧ (∀ k : Nat, k < st_many st → x ≠ nI k) ∧ NW G h0 h9 A tg st) ∨ (∃ k : Nat, E = "java/lang/IllegalArgumentException" ∧ (k < st_many st) ∧ (x = nI k) ∧ (y < 0) ∧ NW G h0 h9 A tg st)) := by
  refine mT_in RX5 "rollupCount" rfl rfl (by decide +kernel) (Nat.le_of_ble_eq_true rfl) ?_
  intro p e s mt below meth c H locs C ht hM hS ls hl
  have hx := C.1
  have hb := C.2.1
  have hown := C.2.2.2.1
  have hE := C.2.2.2.2.2.2.1
  have hl : lv_has ls 6 [(0, .ref (A (cd 0 1 0))), (1, .int x), (2, .int y)] := hl
  have hF : cFr h0 tg h0 tg := cFr.rf
  obtain ⟨h, hM, hC, hF, hh⟩ : ∃ h9, MW G s0.heap.size h9 H ∧ CW h9 A tg (clS G A (st_many st) (st_now st) X fd tt gr) ∧ cFr h0 tg h9 tg ∧ h9 = h0 := ⟨_, hM, hC, hF, rfl⟩
  refine lv_aload_n hx hb dX5_rollupCount_0 rfl (lv_at hl 0 rfl) ?_
  refine lv_iload_n hx hb dX5_rollupCount_1 rfl (lv_at hl 1 rfl) ?_
  refine m_xcallV Z C hM hS (As := [.int x]) (rest := []) (c_X5_rowOf Z h A tg st X fd tt gr hC hk hR x) yi_X5_rowOf ml_X5_57 (hC.at (clS_h)) rfl ⟨Nat.le_of_ble_eq_true rfl, Nat.le_of_ble_eq_true rfl⟩ (Nat.le_of_ble_eq_true rfl) hl.1 rfl rfl dX5_rollupCount_2 ⟨Nat.le_of_ble_eq_true rfl, Nat.le_of_ble_eq_true rfl⟩ (fun E ce q9 h9 H locs hv hM hS g1 g2 g3 => ?_) (fun v h9 H locs hv hM hS => ?_)
  · -- thrown at 2
    obtain ⟨hE, f_4, hh9⟩ := hv
    rw [hh9] at hM
    exact m_out C ht hM hS (Nat.le_of_ble_eq_true rfl) (Nat.le_of_ble_eq_true rfl) g1 g2 g3 (Or.inl ⟨hE, f_4, ⟨A, tg, X, _, _, _, rfl, hC, hF, hR⟩⟩)
  · -- back at 2
    obtain ⟨k_1, f_2, f_3, hv, hh9⟩ := hv
    subst hv
    rw [hh9] at hM
    obtain ⟨T, U, F, al, hXk, hRi⟩ := hR k_1 f_2
    have hn := hk.n f_2
    obtain ⟨hT, hU, hUr, hRw, hEr, hFs, hal⟩ := hRi
    have hTb : ∀ i : Nat, i < st_n st k_1 → T i < 1073741824 := fun i hi => by rw [hT i hi]; exact hk.T f_2 hi
    refine W.eq (g2 := F0 mt 5 ls [.ref (A (cd (k_1 + 1) 0 0))]) rfl ?_
    refine lv_astore_n (lv' := [(3, .ref (A (cd (k_1 + 1) 0 0))), (0, .ref (A (cd 0 1 0))), (1, .int x), (2, .int y)]) hx hb dX5_rollupCount_5 rfl hl (by decide) rfl (fun ls hl => ?_)
    refine lv_iload_n hx hb dX5_rollupCount_6 rfl (lv_at hl 3 rfl) ?_
    refine lv_if_ge (tgt := 20) hx hb dX5_rollupCount_7 (by decide) (fun c_5 => ?_) (fun c_5 => ?_)
    · -- 7 t
      obtain ⟨j, hj, hyj⟩ := nI_of (x := y) (fun q => i_ltn q c_5)
      subst hyj
      refine lv_iload_n hx hb dX5_rollupCount_20 rfl (lv_at hl 3 rfl) ?_
      refine n_i2l hx hb (by omega) dX5_rollupCount_21 ?_
      refine lv_ldc2 (v := lN 10) hx hb hown (hE.good Z kl_X5_165 _) dX5_rollupCount_22 ?_
      refine n_lmul hx hb dX5_rollupCount_25 ?_
      refine lv_lstore (lv' := [(4, .long (lN (j * 10))), (3, .ref (A (cd (k_1 + 1) 0 0))), (0, .ref (A (cd 0 1 0))), (1, .int x), (2, .int (nI j))]) hx hb dX5_rollupCount_26 hl (by decide) rfl (fun ls hl => ?_)
      refine lv_aload_n hx hb dX5_rollupCount_28 rfl (lv_at hl 1 rfl) ?_
      refine lv_aload_n hx hb dX5_rollupCount_29 rfl (lv_at hl 2 rfl) ?_
      refine m_get Z C hM (hC.at (clS_h)) K_X5 1 (by decide) fl_X5_18 (v := .ref (A (cd 0 3 0))) rfl dX5_rollupCount_30 ?_
      refine lv_lload hx hb dX5_rollupCount_33 (lv_at hl 0 rfl) ?_
      refine lv_lload hx hb dX5_rollupCount_35 (lv_at hl 0 rfl) ?_
      refine lv_ldc2 (v := lN 10) hx hb hown (hE.good Z kl_X5_165 _) dX5_rollupCount_37 ?_
      refine n_ladd hx hb dX5_rollupCount_40 ?_
      refine lv_lconst (v := lN 1) hx hb dX5_rollupCount_41 (by decide) ?_
      refine n_lsub hx hb (by omega) dX5_rollupCount_42 ?_
      refine m_callVN Z C hM hS (As := [.ref (A (cd 0 3 0)), .long (lN (j * 10)), .long (lN ((j * 10 + 10) - 1))]) (rest := []) (c_X2_readSamples Z h A tg (clS G A (st_many st) (st_now st) X fd tt gr) hC k_1 (lN (j * 10)) (lN ((j * 10 + 10) - 1)) (st_nm st k_1) (st_ho st k_1) (st_n st k_1) (((x_av A k_1 al))) T U fd tt gr ((clS_at f_2 hXk srS_0)) ((clS_at f_2 hXk srS_1)) ((clS_at f_2 hXk srS_2)) (clS_t) (by omega) hTb) yi_X2_readSamples mn_X5_151 (hC.at ((clS_at f_2 hXk srS_0))) rfl ⟨Nat.le_of_ble_eq_true rfl, Nat.le_of_ble_eq_true rfl⟩ (Nat.le_of_ble_eq_true rfl) hl.1 rfl rfl dX5_rollupCount_43 ⟨Nat.le_of_ble_eq_true rfl, Nat.le_of_ble_eq_true rfl⟩ (fun v h9 H locs hv hM hS => ?_)
      obtain ⟨hv, hC9, hF8⟩ := hv
      subst hv
      have hF := hF.trans hF8
      obtain ⟨h, hM, hC, hF⟩ : ∃ h8, MW G s0.heap.size h8 H ∧ CW h8 A tg (up3 (clS G A (st_many st) (st_now st) X fd tt gr) (cd 0 3 0) (some (eO 4 [.int (nI ((z_rs (z_s1 T (lN (j * 10)) (lN ((j * 10 + 10) - 1))) U (0, lN 0, -10000) (st_n st k_1)).1)), .long ((z_rs (z_s1 T (lN (j * 10)) (lN ((j * 10 + 10) - 1))) U (0, lN 0, -10000) (st_n st k_1)).2.1), .int ((z_rs (z_s1 T (lN (j * 10)) (lN ((j * 10 + 10) - 1))) U (0, lN 0, -10000) (st_n st k_1)).2.2)]))) ∧ cFr h0 tg h8 tg := ⟨_, hM, hC9, hF⟩
      refine W.eq (g2 := F0 mt 46 ls []) rfl ?_
      refine lv_aload_n hx hb dX5_rollupCount_46 rfl (lv_at hl 2 rfl) ?_
      refine m_get Z C hM (hC.at ((up3_ne _ _ (cd_r (by decide))).trans (clS_h))) K_X5 1 (by decide) fl_X5_18 (v := .ref (A (cd 0 3 0))) rfl dX5_rollupCount_47 ?_
      refine m_getN Z C hM (hC.at (up3_self _ _ _)) K_X4 0 (by decide) fn_X5_141 (v := .int (nI ((z_rs (z_s1 T (lN (j * 10)) (lN ((j * 10 + 10) - 1))) U (0, lN 0, -10000) (st_n st k_1)).1))) rfl dX5_rollupCount_50 ?_
      refine vx_ret ?_
      exact m_iret C hM hS (Nat.le_of_ble_eq_true rfl) (Nat.le_of_ble_eq_true rfl) dX5_rollupCount_53 ⟨k_1, f_2, f_3, (nI_pos hj), (by rw [rs_1 _ (ro_c hT hTb j hj)]), ⟨A, tg, X, _, _, _, rfl, (by rw [clS_p3] at hC; exact hC), hF, hR⟩⟩
    · -- 7 f
      exact m_throw Z C ht hM hS xy_X5_rollupCount_10 hl.1 dX5_rollupCount_10 dX5_rollupCount_13 dX5_rollupCount_14 dX5_rollupCount_16 dX5_rollupCount_19 ⟨Nat.le_of_ble_eq_true rfl, Nat.le_of_ble_eq_true rfl, Nat.le_of_ble_eq_true rfl, Nat.le_of_ble_eq_true rfl⟩ (Nat.le_of_ble_eq_true rfl) (Nat.le_of_ble_eq_true rfl) (Or.inr ⟨k_1, rfl, f_2, f_3, (i_nle c_5), ⟨A, tg, X, _, _, _, rfl, hC, hF, hR⟩⟩)
set_option maxRecDepth 100000 in
set_option maxHeartbeats 4000000 in
theorem c_X5_quantile {l : Launch} {G : mG} {a0 : Array Value} {s0 : State} (Z : mZ l G a0 s0) (h0 : Hp) (A : Cd → Nat) (tg : Nat → Cd) (st : Ms) (X : Nat → Xs) (fd : Nat) (tt : Int64) (gr : Int32) (hC : CW h0 A tg (clS G A (st_many st) (st_now st) X fd tt gr)) (hk : Iv st) (hR : ∀ k : Nat, k < st_many st → Rx st k (X k)) (x : Int32) (y : Int32) : mT l G s0 yX5_quantile cX5_quantile 4 (some .int) 8 135 3 18 h0 [.ref (A (cd 0 1 0)), .int x, .int y] (fun v9 h9 => (∃ k : Nat, ∃ d : Nat, (k < st_many st) ∧ (x = nI k) ∧ (1 ≤ d ∧ d ≤ 100) ∧ (y = nI d) ∧ (0 < st_n st k) ∧ v9 = some (.int (z_sq st k d)) ∧ NW G h0 h9 A tg st)) (fun E h9 => (E = "java/util/NoSuchElementException" ∧ (∀ k : Nat, k < st_many st → x ≠ nI k) ∧ NW G h0 h9 A tg st) ∨ (∃ k : Nat, E = "java/lang/IllegalArgumentException" ∧ (k < st_many st) ∧ (x = nI k) ∧ (∀ d : Nat, 1 ≤ d → d ≤ 100 → y ≠ nI d) ∧ NW G h0 h9 A tg st) ∨ (∃ k : Nat, E = "java/lang/IllegalStateException" ∧ (k < st_many st) ∧ (x = nI k) ∧ (∃ d : Nat, (1 ≤ d ∧ d ≤ 100) ∧ y = nI d) ∧ (st_n st k = 0) ∧ NW G h0 h9 A tg st)) := by
  refine mT_in RX5 "quantile" rfl rfl (by decide +kernel) (Nat.le_of_ble_eq_true rfl) ?_
  intro p e s mt below meth c H locs C ht hM hS ls hl
  have hx := C.1
  have hb := C.2.1
  have hown := C.2.2.2.1
  have hE := C.2.2.2.2.2.2.1
  have hl : lv_has ls 4 [(0, .ref (A (cd 0 1 0))), (1, .int x), (2, .int y)] := hl
  have hF : cFr h0 tg h0 tg := cFr.rf
  obtain ⟨h, hM, hC, hF, hh⟩ : ∃ h9, MW G s0.heap.size h9 H ∧ CW h9 A tg (clS G A (st_many st) (st_now st) X fd tt gr) ∧ cFr h0 tg h9 tg ∧ h9 = h0 := ⟨_, hM, hC, hF, rfl⟩
  refine lv_aload_n hx hb dX5_quantile_0 rfl (lv_at hl 0 rfl) ?_
  refine lv_iload_n hx hb dX5_quantile_1 rfl (lv_at hl 1 rfl) ?_
  refine lv_iload_n hx hb dX5_quantile_2 rfl (lv_at hl 2 rfl) ?_
  refine m_xcallV Z C hM hS (As := [.int x, .int y]) (rest := []) (c_X5_rowForQuantile Z h A tg st X fd tt gr hC hk hR x y) yi_X5_rowForQuantile ml_X5_175 (hC.at (clS_h)) rfl ⟨Nat.le_of_ble_eq_true rfl, Nat.le_of_ble_eq_true rfl⟩ (Nat.le_of_ble_eq_true rfl) hl.1 rfl rfl dX5_quantile_3 ⟨Nat.le_of_ble_eq_true rfl, Nat.le_of_ble_eq_true rfl⟩ (fun E ce q9 h9 H locs hv hM hS g1 g2 g3 => ?_) (fun v h9 H locs hv hM hS => ?_)
  · -- thrown at 3
    rcases hv with ⟨hE, f_8, hh9⟩ | ⟨k_9, hE, f_10, f_11, f_12, hh9⟩ | ⟨k_13, hE, f_14, f_15, f_16, f_17, hh9⟩
    · -- java/util/NoSuchElementException
      rw [hh9] at hM
      exact m_out C ht hM hS (Nat.le_of_ble_eq_true rfl) (Nat.le_of_ble_eq_true rfl) g1 g2 g3 (Or.inl ⟨hE, f_8, ⟨A, tg, X, _, _, _, rfl, hC, hF, hR⟩⟩)
    · -- java/lang/IllegalArgumentException
      rw [hh9] at hM
      exact m_out C ht hM hS (Nat.le_of_ble_eq_true rfl) (Nat.le_of_ble_eq_true rfl) g1 g2 g3 (Or.inr (Or.inl ⟨k_9, hE, f_10, f_11, f_12, ⟨A, tg, X, _, _, _, rfl, hC, hF, hR⟩⟩))
    · -- java/lang/IllegalStateException
      rw [hh9] at hM
      exact m_out C ht hM hS (Nat.le_of_ble_eq_true rfl) (Nat.le_of_ble_eq_true rfl) g1 g2 g3 (Or.inr (Or.inr ⟨k_13, hE, f_14, f_15, f_16, f_17, ⟨A, tg, X, _, _, _, rfl, hC, hF, hR⟩⟩))
  · -- back at 3
    obtain ⟨k_1, d_2, f_3, f_4, f_5, f_6, f_7, hv, hh9⟩ := hv
    subst hv
    rw [hh9] at hM
    obtain ⟨T, U, F, al, hXk, hRi⟩ := hR k_1 f_3
    have hn := hk.n f_3
    obtain ⟨hT, hU, hUr, hRw, hEr, hFs, hal⟩ := hRi
    have hTb : ∀ i : Nat, i < st_n st k_1 → T i < 1073741824 := fun i hi => by rw [hT i hi]; exact hk.T f_3 hi
    subst f_6
    have htg := tg_in f_7 f_5.1 f_5.2
    refine W.eq (g2 := F0 mt 6 ls [.ref (A (cd (k_1 + 1) 0 0))]) rfl ?_
    refine lv_astore_n (lv' := [(3, .ref (A (cd (k_1 + 1) 0 0))), (0, .ref (A (cd 0 1 0))), (1, .int x), (2, .int (nI d_2))]) hx hb dX5_quantile_6 rfl hl (by decide) rfl (fun ls hl => ?_)
    refine lv_aload_n hx hb dX5_quantile_7 rfl (lv_at hl 0 rfl) ?_
    refine m_getN Z C hM (hC.at ((clS_at f_3 hXk srS_0))) K_X2 6 (by decide) fn_X5_179 (v := .ref (A (cd (k_1 + 1) 5 0))) rfl dX5_quantile_8 ?_
    refine lv_aload_n hx hb dX5_quantile_11 rfl (lv_at hl 0 rfl) ?_
    refine lv_iload_n hx hb dX5_quantile_12 rfl (lv_at hl 3 rfl) ?_
    refine m_callVN Z C hM hS (As := [.int (nI d_2)]) (rest := [.ref (A (cd (k_1 + 1) 5 0))]) (c_X2_targetOf Z h A tg (clS G A (st_many st) (st_now st) X fd tt gr) hC k_1 d_2 (st_nm st k_1) (st_ho st k_1) (st_n st k_1) (((x_av A k_1 al))) ((clS_at f_3 hXk srS_0)) (show (st_n st k_1) ≤ 120 by omega) (show d_2 ≤ 100 by omega)) yi_X2_targetOf mn_X5_183 (hC.at ((clS_at f_3 hXk srS_0))) rfl ⟨Nat.le_of_ble_eq_true rfl, Nat.le_of_ble_eq_true rfl⟩ (Nat.le_of_ble_eq_true rfl) hl.1 rfl rfl dX5_quantile_13 ⟨Nat.le_of_ble_eq_true rfl, Nat.le_of_ble_eq_true rfl⟩ (fun v h9 H locs hv hM hS => ?_)
    obtain ⟨hv, hh9⟩ := hv
    subst hv
    rw [hh9] at hM
    refine W.eq (g2 := F0 mt 16 ls [.int (nI ((d_2 * (st_n st k_1) + 99) / 100)), .ref (A (cd (k_1 + 1) 5 0))]) rfl ?_
    have hRi9 : Ri st k_1 T U F al := ⟨hT, hU, hUr, hRw, hEr, hFs, hal⟩
    have hC0 := hC
    rw [← clS_sk f_3 hXk] at hC
    refine m_callVN Z C hM hS (As := [.int (nI ((d_2 * (st_n st k_1) + 99) / 100))]) (rest := []) (c_X3_leastReaching Z h A tg (clS G A (st_many st) (st_now st) X fd tt gr) k_1 F (SZ (st_n st k_1)) (HV (st_n st k_1)) (BD (st_n st k_1)) hC ((d_2 * (st_n st k_1) + 99) / 100) (fun i hi => Nat.le_of_lt (SZ_8 _ hn i hi)) (by omega)) yi_X3_leastReaching mn_X5_186 (hC.at (skS_5)) rfl ⟨Nat.le_of_ble_eq_true rfl, Nat.le_of_ble_eq_true rfl⟩ (Nat.le_of_ble_eq_true rfl) hl.1 rfl rfl dX5_quantile_16 ⟨Nat.le_of_ble_eq_true rfl, Nat.le_of_ble_eq_true rfl⟩ (fun v h9 H locs hv hM hS => ?_)
    obtain ⟨hv, hh9⟩ := hv
    subst hv
    rw [hh9] at hM
    refine W.eq (g2 := F0 mt 19 ls [.int (k_lo F (SZ (st_n st k_1)) ((d_2 * (st_n st k_1) + 99) / 100) 5)]) rfl ?_
    refine vx_ret ?_
    exact m_iret C hM hS (Nat.le_of_ble_eq_true rfl) (Nat.le_of_ble_eq_true rfl) dX5_quantile_19 ⟨k_1, d_2, f_3, f_4, f_5, rfl, f_7, (by rw [lo_sq hk f_3 hRi9 f_7 f_5.1 f_5.2]), ⟨A, tg, X, _, _, _, rfl, hC0, hF, hR⟩⟩
set_option maxRecDepth 100000 in
set_option maxHeartbeats 4000000 in
theorem c_X5_exactQuantile {l : Launch} {G : mG} {a0 : Array Value} {s0 : State} (Z : mZ l G a0 s0) (h0 : Hp) (A : Cd → Nat) (tg : Nat → Cd) (st : Ms) (X : Nat → Xs) (fd : Nat) (tt : Int64) (gr : Int32) (hC : CW h0 A tg (clS G A (st_many st) (st_now st) X fd tt gr)) (hk : Iv st) (hR : ∀ k : Nat, k < st_many st → Rx st k (X k)) (x : Int32) (y : Int32) : mT l G s0 yX5_exactQuantile cX5_exactQuantile 4 (some .int) 8 135 3 18 h0 [.ref (A (cd 0 1 0)), .int x, .int y] (fun v9 h9 => (∃ k : Nat, ∃ d : Nat, (k < st_many st) ∧ (x = nI k) ∧ (1 ≤ d ∧ d ≤ 100) ∧ (y = nI d) ∧ (0 < st_n st k) ∧ v9 = some (.int (z_eq st k (z_tg st k d) (st_n st k))) ∧ NW G h0 h9 A tg st)) (fun E h9 => (E = "java/util/NoSuchElementException" ∧ (∀ k : Nat, k < st_many st → x ≠ nI k) ∧ NW G h0 h9 A tg st) ∨ (∃ k : Nat, E = "java/lang/IllegalArgumentException" ∧ (k < st_many st) ∧ (x = nI k) ∧ (∀ d : Nat, 1 ≤ d → d ≤ 100 → y ≠ nI d) ∧ NW G h0 h9 A tg st) ∨ (∃ k : Nat, E = "java/lang/IllegalStateException" ∧ (k < st_many st) ∧ (x = nI k) ∧ (∃ d : Nat, (1 ≤ d ∧ d ≤ 100) ∧ y = nI d) ∧ (st_n st k = 0) ∧ NW G h0 h9 A tg st)) := by
  refine mT_in RX5 "exactQuantile" rfl rfl (by decide +kernel) (Nat.le_of_ble_eq_true rfl) ?_
  intro p e s mt below meth c H locs C ht hM hS ls hl
  have hx := C.1
  have hb := C.2.1
  have hown := C.2.2.2.1
  have hE := C.2.2.2.2.2.2.1
  have hl : lv_has ls 4 [(0, .ref (A (cd 0 1 0))), (1, .int x), (2, .int y)] := hl
  have hF : cFr h0 tg h0 tg := cFr.rf
  obtain ⟨h, hM, hC, hF, hh⟩ : ∃ h9, MW G s0.heap.size h9 H ∧ CW h9 A tg (clS G A (st_many st) (st_now st) X fd tt gr) ∧ cFr h0 tg h9 tg ∧ h9 = h0 := ⟨_, hM, hC, hF, rfl⟩
  refine lv_aload_n hx hb dX5_exactQuantile_0 rfl (lv_at hl 0 rfl) ?_
  refine lv_iload_n hx hb dX5_exactQuantile_1 rfl (lv_at hl 1 rfl) ?_
  refine lv_iload_n hx hb dX5_exactQuantile_2 rfl (lv_at hl 2 rfl) ?_
  refine m_xcallV Z C hM hS (As := [.int x, .int y]) (rest := []) (c_X5_rowForQuantile Z h A tg st X fd tt gr hC hk hR x y) yi_X5_rowForQuantile ml_X5_175 (hC.at (clS_h)) rfl ⟨Nat.le_of_ble_eq_true rfl, Nat.le_of_ble_eq_true rfl⟩ (Nat.le_of_ble_eq_true rfl) hl.1 rfl rfl dX5_exactQuantile_3 ⟨Nat.le_of_ble_eq_true rfl, Nat.le_of_ble_eq_true rfl⟩ (fun E ce q9 h9 H locs hv hM hS g1 g2 g3 => ?_) (fun v h9 H locs hv hM hS => ?_)
  · -- thrown at 3
    rcases hv with ⟨hE, f_8, hh9⟩ | ⟨k_9, hE, f_10, f_11, f_12, hh9⟩ | ⟨k_13, hE, f_14, f_15, f_16, f_17, hh9⟩
    · -- java/util/NoSuchElementException
      rw [hh9] at hM
      exact m_out C ht hM hS (Nat.le_of_ble_eq_true rfl) (Nat.le_of_ble_eq_true rfl) g1 g2 g3 (Or.inl ⟨hE, f_8, ⟨A, tg, X, _, _, _, rfl, hC, hF, hR⟩⟩)
    · -- java/lang/IllegalArgumentException
      rw [hh9] at hM
      exact m_out C ht hM hS (Nat.le_of_ble_eq_true rfl) (Nat.le_of_ble_eq_true rfl) g1 g2 g3 (Or.inr (Or.inl ⟨k_9, hE, f_10, f_11, f_12, ⟨A, tg, X, _, _, _, rfl, hC, hF, hR⟩⟩))
    · -- java/lang/IllegalStateException
      rw [hh9] at hM
      exact m_out C ht hM hS (Nat.le_of_ble_eq_true rfl) (Nat.le_of_ble_eq_true rfl) g1 g2 g3 (Or.inr (Or.inr ⟨k_13, hE, f_14, f_15, f_16, f_17, ⟨A, tg, X, _, _, _, rfl, hC, hF, hR⟩⟩))
  · -- back at 3
    obtain ⟨k_1, d_2, f_3, f_4, f_5, f_6, f_7, hv, hh9⟩ := hv
    subst hv
    rw [hh9] at hM
    obtain ⟨T, U, F, al, hXk, hRi⟩ := hR k_1 f_3
    have hn := hk.n f_3
    obtain ⟨hT, hU, hUr, hRw, hEr, hFs, hal⟩ := hRi
    have hTb : ∀ i : Nat, i < st_n st k_1 → T i < 1073741824 := fun i hi => by rw [hT i hi]; exact hk.T f_3 hi
    subst f_6
    have htg := tg_in f_7 f_5.1 f_5.2
    refine W.eq (g2 := F0 mt 6 ls [.ref (A (cd (k_1 + 1) 0 0))]) rfl ?_
    refine lv_astore_n (lv' := [(3, .ref (A (cd (k_1 + 1) 0 0))), (0, .ref (A (cd 0 1 0))), (1, .int x), (2, .int (nI d_2))]) hx hb dX5_exactQuantile_6 rfl hl (by decide) rfl (fun ls hl => ?_)
    refine lv_aload_n hx hb dX5_exactQuantile_7 rfl (lv_at hl 0 rfl) ?_
    refine lv_aload_n hx hb dX5_exactQuantile_8 rfl (lv_at hl 0 rfl) ?_
    refine lv_iload_n hx hb dX5_exactQuantile_9 rfl (lv_at hl 3 rfl) ?_
    refine m_callVN Z C hM hS (As := [.int (nI d_2)]) (rest := [.ref (A (cd (k_1 + 1) 0 0))]) (c_X2_targetOf Z h A tg (clS G A (st_many st) (st_now st) X fd tt gr) hC k_1 d_2 (st_nm st k_1) (st_ho st k_1) (st_n st k_1) (((x_av A k_1 al))) ((clS_at f_3 hXk srS_0)) hn f_5.2) yi_X2_targetOf mn_X5_183 (hC.at ((clS_at f_3 hXk srS_0))) rfl ⟨Nat.le_of_ble_eq_true rfl, Nat.le_of_ble_eq_true rfl⟩ (Nat.le_of_ble_eq_true rfl) hl.1 rfl rfl dX5_exactQuantile_10 ⟨Nat.le_of_ble_eq_true rfl, Nat.le_of_ble_eq_true rfl⟩ (fun v h9 H locs hv hM hS => ?_)
    obtain ⟨hv, hh9⟩ := hv
    subst hv
    rw [hh9] at hM
    refine W.eq (g2 := F0 mt 13 ls [.int (nI ((d_2 * (st_n st k_1) + 99) / 100)), .ref (A (cd (k_1 + 1) 0 0))]) rfl ?_
    refine m_callVN Z C hM hS (As := [.int (nI ((d_2 * (st_n st k_1) + 99) / 100))]) (rest := []) (c_X2_leastReaching Z h A tg (clS G A (st_many st) (st_now st) X fd tt gr) hC k_1 ((d_2 * (st_n st k_1) + 99) / 100) (st_nm st k_1) (st_ho st k_1) (st_n st k_1) (((x_av A k_1 al))) (x_so U (st_n st k_1)) ((clS_at f_3 hXk srS_0)) ((clS_at f_3 hXk srS_3)) htg.1 (by omega)) yi_X2_leastReaching mn_X5_191 (hC.at ((clS_at f_3 hXk srS_0))) rfl ⟨Nat.le_of_ble_eq_true rfl, Nat.le_of_ble_eq_true rfl⟩ (Nat.le_of_ble_eq_true rfl) hl.1 rfl rfl dX5_exactQuantile_13 ⟨Nat.le_of_ble_eq_true rfl, Nat.le_of_ble_eq_true rfl⟩ (fun v h9 H locs hv hM hS => ?_)
    obtain ⟨hv, hh9⟩ := hv
    subst hv
    rw [hh9] at hM
    refine W.eq (g2 := F0 mt 16 ls [.int ((x_so U (st_n st k_1)) (((d_2 * (st_n st k_1) + 99) / 100) - 1))]) rfl ?_
    refine vx_ret ?_
    exact m_iret C hM hS (Nat.le_of_ble_eq_true rfl) (Nat.le_of_ble_eq_true rfl) dX5_exactQuantile_16 ⟨k_1, d_2, f_3, f_4, f_5, rfl, f_7, (by rw [eq_so (st := st) (k := k_1) ⟨hT, hU, hUr, hRw, hEr, hFs, hal⟩ f_7 f_5.1 f_5.2]), ⟨A, tg, X, _, _, _, rfl, hC, hF, hR⟩⟩
set_option maxRecDepth 100000 in
set_option maxHeartbeats 4000000 in
theorem c_X5_isWithin {l : Launch} {G : mG} {a0 : Array Value} {s0 : State} (Z : mZ l G a0 s0) (h0 : Hp) (A : Cd → Nat) (tg : Nat → Cd) (st : Ms) (X : Nat → Xs) (fd : Nat) (tt : Int64) (gr : Int32) (hC : CW h0 A tg (clS G A (st_many st) (st_now st) X fd tt gr)) (hk : Iv st) (hR : ∀ k : Nat, k < st_many st → Rx st k (X k)) (x : Int32) (y : Int32) : mT l G s0 yX5_isWithin cX5_isWithin 3 (some .boolean) 8 135 3 18 h0 [.ref (A (cd 0 1 0)), .int x, .int y] (fun v9 h9 => (∃ k : Nat, ∃ d : Nat, (k < st_many st) ∧ (x = nI k) ∧ (1 ≤ d ∧ d ≤ 100) ∧ (y = nI d) ∧ (0 < st_n st k) ∧ v9 = some (.int (b2 (z_wi st k d))) ∧ NW G h0 h9 A tg st)) (fun E h9 => (E = "java/util/NoSuchElementException" ∧ (∀ k : Nat, k < st_many st → x ≠ nI k) ∧ NW G h0 h9 A tg st) ∨ (∃ k : Nat, E = "java/lang/IllegalArgumentException" ∧ (k < st_many st) ∧ (x = nI k) ∧ (∀ d : Nat, 1 ≤ d → d ≤ 100 → y ≠ nI d) ∧ NW G h0 h9 A tg st) ∨ (∃ k : Nat, E = "java/lang/IllegalStateException" ∧ (k < st_many st) ∧ (x = nI k) ∧ (∃ d : Nat, (1 ≤ d ∧ d ≤ 100) ∧ y = nI d) ∧ (st_n st k = 0) ∧ NW G h0 h9 A tg st)) := by
  refine mT_in RX5 "isWithin" rfl rfl (by decide +kernel) (Nat.le_of_ble_eq_true rfl) ?_
  intro p e s mt below meth c H locs C ht hM hS ls hl
  have hx := C.1
  have hb := C.2.1
  have hown := C.2.2.2.1
  have hE := C.2.2.2.2.2.2.1
  have hl : lv_has ls 3 [(0, .ref (A (cd 0 1 0))), (1, .int x), (2, .int y)] := hl
  have hF : cFr h0 tg h0 tg := cFr.rf
  obtain ⟨h, hM, hC, hF, hh⟩ : ∃ h9, MW G s0.heap.size h9 H ∧ CW h9 A tg (clS G A (st_many st) (st_now st) X fd tt gr) ∧ cFr h0 tg h9 tg ∧ h9 = h0 := ⟨_, hM, hC, hF, rfl⟩
  refine lv_aload_n hx hb dX5_isWithin_0 rfl (lv_at hl 0 rfl) ?_
  refine lv_iload_n hx hb dX5_isWithin_1 rfl (lv_at hl 1 rfl) ?_
  refine lv_iload_n hx hb dX5_isWithin_2 rfl (lv_at hl 2 rfl) ?_
  refine m_xcallV Z C hM hS (As := [.int x, .int y]) (rest := []) (c_X5_rowForQuantile Z h A tg st X fd tt gr hC hk hR x y) yi_X5_rowForQuantile ml_X5_175 (hC.at (clS_h)) rfl ⟨Nat.le_of_ble_eq_true rfl, Nat.le_of_ble_eq_true rfl⟩ (Nat.le_of_ble_eq_true rfl) hl.1 rfl rfl dX5_isWithin_3 ⟨Nat.le_of_ble_eq_true rfl, Nat.le_of_ble_eq_true rfl⟩ (fun E ce q9 h9 H locs hv hM hS g1 g2 g3 => ?_) (fun v h9 H locs hv hM hS => ?_)
  · -- thrown at 3
    rcases hv with ⟨hE, f_8, hh9⟩ | ⟨k_9, hE, f_10, f_11, f_12, hh9⟩ | ⟨k_13, hE, f_14, f_15, f_16, f_17, hh9⟩
    · -- java/util/NoSuchElementException
      rw [hh9] at hM
      exact m_out C ht hM hS (Nat.le_of_ble_eq_true rfl) (Nat.le_of_ble_eq_true rfl) g1 g2 g3 (Or.inl ⟨hE, f_8, ⟨A, tg, X, _, _, _, rfl, hC, hF, hR⟩⟩)
    · -- java/lang/IllegalArgumentException
      rw [hh9] at hM
      exact m_out C ht hM hS (Nat.le_of_ble_eq_true rfl) (Nat.le_of_ble_eq_true rfl) g1 g2 g3 (Or.inr (Or.inl ⟨k_9, hE, f_10, f_11, f_12, ⟨A, tg, X, _, _, _, rfl, hC, hF, hR⟩⟩))
    · -- java/lang/IllegalStateException
      rw [hh9] at hM
      exact m_out C ht hM hS (Nat.le_of_ble_eq_true rfl) (Nat.le_of_ble_eq_true rfl) g1 g2 g3 (Or.inr (Or.inr ⟨k_13, hE, f_14, f_15, f_16, f_17, ⟨A, tg, X, _, _, _, rfl, hC, hF, hR⟩⟩))
  · -- back at 3
    obtain ⟨k_1, d_2, f_3, f_4, f_5, f_6, f_7, hv, hh9⟩ := hv
    subst hv
    rw [hh9] at hM
    obtain ⟨T, U, F, al, hXk, hRi⟩ := hR k_1 f_3
    have hn := hk.n f_3
    obtain ⟨hT, hU, hUr, hRw, hEr, hFs, hal⟩ := hRi
    have hTb : ∀ i : Nat, i < st_n st k_1 → T i < 1073741824 := fun i hi => by rw [hT i hi]; exact hk.T f_3 hi
    subst f_6
    have htg := tg_in f_7 f_5.1 f_5.2
    refine W.eq (g2 := F0 mt 6 ls [.ref (A (cd (k_1 + 1) 0 0))]) rfl ?_
    refine lv_iload_n hx hb dX5_isWithin_6 rfl (lv_at hl 2 rfl) ?_
    have hRi9 : Ri st k_1 T U F al := ⟨hT, hU, hUr, hRw, hEr, hFs, hal⟩
    have hbd9 := BD_le _ hn
    have hC0 := hC
    rw [← clS_sk f_3 hXk] at hC
    refine m_callVN Z C hM hS (As := [.int (nI d_2)]) (rest := []) (c_X2_sketchIsWithin Z h A tg (clS G A (st_many st) (st_now st) X fd tt gr) k_1 F (SZ (st_n st k_1)) (HV (st_n st k_1)) (BD (st_n st k_1)) hC d_2 (st_nm st k_1) (st_ho st k_1) (st_n st k_1) (((x_av A k_1 al))) (x_so U (st_n st k_1)) ((clS_at f_3 hXk srS_0)) ((clS_at f_3 hXk srS_3)) hn f_5.2 (fun i hi => Nat.le_of_lt (SZ_8 _ hn i hi)) (by omega)) yi_X2_sketchIsWithin mn_X5_198 (hC.at ((skS_ne (by simp [cd])).trans ((clS_at f_3 hXk srS_0)))) rfl ⟨Nat.le_of_ble_eq_true rfl, Nat.le_of_ble_eq_true rfl⟩ (Nat.le_of_ble_eq_true rfl) hl.1 rfl rfl dX5_isWithin_7 ⟨Nat.le_of_ble_eq_true rfl, Nat.le_of_ble_eq_true rfl⟩ (fun v h9 H locs hv hM hS => ?_)
    obtain ⟨hv, hh9⟩ := hv
    rcases Decidable.em (nI ((d_2 * (st_n st k_1) + 99) / 100) - nI (BD (st_n st k_1)) ≤ nI (z_fr (fun i => ¬ (x_so U (st_n st k_1)) i ≤ k_lo F (SZ (st_n st k_1)) ((d_2 * (st_n st k_1) + 99) / 100) 5) (st_n st k_1)) ∧ z_fr (fun i => ¬ (x_so U (st_n st k_1)) i ≤ k_lo F (SZ (st_n st k_1)) ((d_2 * (st_n st k_1) + 99) / 100) 5 - nI 1) (st_n st k_1) < (d_2 * (st_n st k_1) + 99) / 100 + (BD (st_n st k_1))) with g_18 | g_18
    · -- of 7: True
      replace hv : v = some (.int (b2 (nI ((d_2 * (st_n st k_1) + 99) / 100) - nI (BD (st_n st k_1)) ≤ nI (z_fr (fun i => ¬ (x_so U (st_n st k_1)) i ≤ k_lo F (SZ (st_n st k_1)) ((d_2 * (st_n st k_1) + 99) / 100) 5) (st_n st k_1)) ∧ z_fr (fun i => ¬ (x_so U (st_n st k_1)) i ≤ k_lo F (SZ (st_n st k_1)) ((d_2 * (st_n st k_1) + 99) / 100) 5 - nI 1) (st_n st k_1) < (d_2 * (st_n st k_1) + 99) / 100 + (BD (st_n st k_1))))) := hv
      rw [b2_t g_18] at hv
      subst hv
      rw [hh9] at hM
      refine W.eq (g2 := F0 mt 10 ls [.int (nI 1)]) rfl ?_
      refine vx_ret ?_
      exact m_zret C hM hS (Nat.le_of_ble_eq_true rfl) (Nat.le_of_ble_eq_true rfl) rfl dX5_isWithin_10 ⟨k_1, d_2, f_3, f_4, f_5, rfl, f_7, (by rw [b2_t ((wi_c hk f_3 hRi9 f_7 f_5.1 f_5.2).mp g_18)]), ⟨A, tg, X, _, _, _, rfl, hC0, hF, hR⟩⟩
    · -- of 7: False
      replace hv : v = some (.int (b2 (nI ((d_2 * (st_n st k_1) + 99) / 100) - nI (BD (st_n st k_1)) ≤ nI (z_fr (fun i => ¬ (x_so U (st_n st k_1)) i ≤ k_lo F (SZ (st_n st k_1)) ((d_2 * (st_n st k_1) + 99) / 100) 5) (st_n st k_1)) ∧ z_fr (fun i => ¬ (x_so U (st_n st k_1)) i ≤ k_lo F (SZ (st_n st k_1)) ((d_2 * (st_n st k_1) + 99) / 100) 5 - nI 1) (st_n st k_1) < (d_2 * (st_n st k_1) + 99) / 100 + (BD (st_n st k_1))))) := hv
      rw [b2_f g_18] at hv
      subst hv
      rw [hh9] at hM
      refine W.eq (g2 := F0 mt 10 ls [.int (nI 0)]) rfl ?_
      refine vx_ret ?_
      exact m_zret C hM hS (Nat.le_of_ble_eq_true rfl) (Nat.le_of_ble_eq_true rfl) rfl dX5_isWithin_10 ⟨k_1, d_2, f_3, f_4, f_5, rfl, f_7, (by rw [b2_f (fun q => g_18 ((wi_c hk f_3 hRi9 f_7 f_5.1 f_5.2).mpr q))]), ⟨A, tg, X, _, _, _, rfl, hC0, hF, hR⟩⟩
