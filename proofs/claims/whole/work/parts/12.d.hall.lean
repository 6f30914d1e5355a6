set_option maxRecDepth 100000 in
set_option maxHeartbeats 4000000 in
theorem c_X2_blockAt {l : Launch} {G : mG} {a0 : Array Value} {s0 : State} (Z : mZ l G a0 s0) (h0 : Hp) (A : Cd → Nat) (tg : Nat → Cd) (sg : Cd → Option va_E) (hC : CW h0 A tg sg) (k : Nat) (y : Int32) (nm : Int32) (ho : Int32) (n : Nat) (av : Value) (nb : Nat) (hs0 : sg (cd (k + 1) 0 0) = some (eO 2 [.int nm, .int ho, .ref (A (cd (k + 1) 1 0)), .ref (A (cd (k + 1) 2 0)), .ref (A (cd (k + 1) 3 0)), .ref (A (cd (k + 1) 4 0)), .ref (A (cd (k + 1) 5 0)), .int (nI n), av])) (hch : sg (cd (k + 1) 4 0) = some (eB G 15 (chL A k nb))) (hnb : nb ≤ 15) : mM l G s0 yX2_blockAt cX2_blockAt 2 (some (.object "GaugeHall$Block")) 0 0 0 0 h0 [.ref (A (cd (k + 1) 0 0)), .int y] (fun v9 h9 => (∃ j : Nat, (j < nb) ∧ (y = nI j) ∧ v9 = some (.ref (A (cd (k + 1) 14 j))) ∧ h9 = h0) ∨ ((∀ j : Nat, j < nb → y ≠ nI j) ∧ v9 = some (.null) ∧ h9 = h0)) := by
  refine mM_in RX2 "blockAt" rfl rfl (by decide +kernel) (Nat.le_of_ble_eq_true rfl) ?_
  intro p e s mt below meth c H locs C hM hS ls hl
  have hx := C.1
  have hb := C.2.1
  have hown := C.2.2.2.1
  have hE := C.2.2.2.2.2.2.1
  have hl : lv_has ls 2 [(0, .ref (A (cd (k + 1) 0 0))), (1, .int y)] := hl
  obtain ⟨h, hh⟩ : ∃ z, z = h0 := ⟨_, rfl⟩
  rw [← hh] at hM hC
  refine lv_iload_n hx hb dX2_blockAt_0 rfl (lv_at hl 1 rfl) ?_
  refine lv_if_lt (tgt := 22) hx hb dX2_blockAt_1 (by decide) (fun c_1 => ?_) (fun c_1 => ?_)
  · -- 1 t
    refine lv_null hx hb dX2_blockAt_22 ?_
    exact m_aretN C hM hS (Nat.le_of_ble_eq_true rfl) (Nat.le_of_ble_eq_true rfl) dX2_blockAt_23 (Or.inr ⟨(ix_neg c_1 (by omega)), rfl, hh⟩)
  · -- 1 f
    refine lv_iload_n hx hb dX2_blockAt_4 rfl (lv_at hl 1 rfl) ?_
    refine lv_aload_n hx hb dX2_blockAt_5 rfl (lv_at hl 0 rfl) ?_
    refine m_get Z C hM (hC.at (hs0)) K_X2 5 (by decide) fl_X2_31 (v := .ref (A (cd (k + 1) 4 0))) rfl dX2_blockAt_6 ?_
    refine m_alen (t0 := 2) Z C hM rfl (hC.at (hch)) dX2_blockAt_9 ?_
    refine W.eq (g2 := F0 mt 10 ls [.int (nI 15), .int y]) rfl ?_
    refine lv_icmp_ge (tgt := 22) hx hb dX2_blockAt_10 (by decide) (fun c_2 => ?_) (fun c_2 => ?_)
    · -- 10 t
      refine lv_null hx hb dX2_blockAt_22 ?_
      exact m_aretN C hM hS (Nat.le_of_ble_eq_true rfl) (Nat.le_of_ble_eq_true rfl) dX2_blockAt_23 (Or.inr ⟨(ix_ge c_2 (by decide) hnb), rfl, hh⟩)
    · -- 10 f
      obtain ⟨j, hj10, hyj⟩ := ix_lt c_1 c_2 (by decide)
      subst hyj
      rcases Nat.lt_or_ge j nb with hjm | hjm
      · -- lt
        refine lv_aload_n hx hb dX2_blockAt_13 rfl (lv_at hl 0 rfl) ?_
        refine m_get Z C hM (hC.at (hs0)) K_X2 5 (by decide) fl_X2_31 (v := .ref (A (cd (k + 1) 4 0))) rfl dX2_blockAt_14 ?_
        refine lv_iload_n hx hb dX2_blockAt_17 rfl (lv_at hl 1 rfl) ?_
        refine m_bald Z C hM (hC.at (hch)) j rfl (by omega) (by decide) (v := .ref (A (cd (k + 1) 14 j))) (chL_at (by omega)) dX2_blockAt_18 ?_
        refine lv_goto (tgt := 23) hx hb dX2_blockAt_19 (by decide) ?_
        exact m_aret C hM hS (Nat.le_of_ble_eq_true rfl) (Nat.le_of_ble_eq_true rfl) dX2_blockAt_23 (Or.inl ⟨j, hjm, rfl, rfl, hh⟩)
      · -- ge
        refine lv_aload_n hx hb dX2_blockAt_13 rfl (lv_at hl 0 rfl) ?_
        refine m_get Z C hM (hC.at (hs0)) K_X2 5 (by decide) fl_X2_31 (v := .ref (A (cd (k + 1) 4 0))) rfl dX2_blockAt_14 ?_
        refine lv_iload_n hx hb dX2_blockAt_17 rfl (lv_at hl 1 rfl) ?_
        refine m_bald Z C hM (hC.at (hch)) j rfl (by omega) (by decide) (v := .null) (chL_no (by omega)) dX2_blockAt_18 ?_
        refine lv_goto (tgt := 23) hx hb dX2_blockAt_19 (by decide) ?_
        exact m_aretN C hM hS (Nat.le_of_ble_eq_true rfl) (Nat.le_of_ble_eq_true rfl) dX2_blockAt_23 (Or.inr ⟨(ix_ne (by omega) (by omega) (by omega)), rfl, hh⟩)
set_option maxRecDepth 100000 in
set_option maxHeartbeats 4000000 in
theorem c_X5_nameOf {l : Launch} {G : mG} {a0 : Array Value} {s0 : State} (Z : mZ l G a0 s0) (h0 : Hp) (A : Cd → Nat) (tg : Nat → Cd) (st : Ms) (X : Nat → Xs) (fd : Nat) (tt : Int64) (gr : Int32) (hC : CW h0 A tg (clS G A (st_many st) (st_now st) X fd tt gr)) (hk : Iv st) (hR : ∀ k : Nat, k < st_many st → Rx st k (X k)) (x : Int32) : mT l G s0 yX5_nameOf cX5_nameOf 2 (some .int) 7 112 1 6 h0 [.ref (A (cd 0 1 0)), .int x] (fun v9 h9 => (∃ k : Nat, (k < st_many st) ∧ (x = nI k) ∧ v9 = some (.int (st_nm st k)) ∧ NW G h0 h9 A tg st)) (fun E h9 => (E = "java/util/NoSuchElementException" ∧ (∀ k : Nat, k < st_many st → x ≠ nI k) ∧ NW G h0 h9 A tg st)) := by
  refine mT_in RX5 "nameOf" rfl rfl (by decide +kernel) (Nat.le_of_ble_eq_true rfl) ?_
  intro p e s mt below meth c H locs C ht hM hS ls hl
  have hx := C.1
  have hb := C.2.1
  have hown := C.2.2.2.1
  have hE := C.2.2.2.2.2.2.1
  have hl : lv_has ls 2 [(0, .ref (A (cd 0 1 0))), (1, .int x)] := hl
  have hF : cFr h0 tg h0 tg := cFr.rf
  obtain ⟨h, hM, hC, hF, hh⟩ : ∃ h9, MW G s0.heap.size h9 H ∧ CW h9 A tg (clS G A (st_many st) (st_now st) X fd tt gr) ∧ cFr h0 tg h9 tg ∧ h9 = h0 := ⟨_, hM, hC, hF, rfl⟩
  refine lv_aload_n hx hb dX5_nameOf_0 rfl (lv_at hl 0 rfl) ?_
  refine lv_iload_n hx hb dX5_nameOf_1 rfl (lv_at hl 1 rfl) ?_
  refine m_xcallV Z C hM hS (As := [.int x]) (rest := []) (c_X5_rowOf Z h A tg st X fd tt gr hC hk hR x) yi_X5_rowOf ml_X5_57 (hC.at (clS_h)) rfl ⟨Nat.le_of_ble_eq_true rfl, Nat.le_of_ble_eq_true rfl⟩ (Nat.le_of_ble_eq_true rfl) hl.1 rfl rfl dX5_nameOf_2 ⟨Nat.le_of_ble_eq_true rfl, Nat.le_of_ble_eq_true rfl⟩ (fun E ce q9 h9 H locs hv hM hS g1 g2 g3 => ?_) (fun v h9 H locs hv hM hS => ?_)
  · -- thrown at 2
    obtain ⟨hE, f_4, hh9⟩ := hv
    rw [hh9] at hM
    exact m_out C ht hM hS (Nat.le_of_ble_eq_true rfl) (Nat.le_of_ble_eq_true rfl) g1 g2 g3 ⟨hE, f_4, ⟨A, tg, X, _, _, _, rfl, hC, hF, hR⟩⟩
  · -- back at 2
    obtain ⟨k_1, f_2, f_3, hv, hh9⟩ := hv
    subst hv
    rw [hh9] at hM
    obtain ⟨T, U, F, al, hXk, hRi⟩ := hR k_1 f_2
    have hn := hk.n f_2
    obtain ⟨hT, hU, hUr, hRw, hEr, hFs, hal⟩ := hRi
    have hTb : ∀ i : Nat, i < st_n st k_1 → T i < 1073741824 := fun i hi => by rw [hT i hi]; exact hk.T f_2 hi
    refine W.eq (g2 := F0 mt 5 ls [.ref (A (cd (k_1 + 1) 0 0))]) rfl ?_
    refine m_getN Z C hM (hC.at ((clS_at f_2 hXk srS_0))) K_X2 0 (by decide) fn_X5_90 (v := .int (st_nm st k_1)) rfl dX5_nameOf_5 ?_
    refine vx_ret ?_
    exact m_iret C hM hS (Nat.le_of_ble_eq_true rfl) (Nat.le_of_ble_eq_true rfl) dX5_nameOf_8 ⟨k_1, f_2, f_3, rfl, ⟨A, tg, X, _, _, _, rfl, hC, hF, hR⟩⟩
set_option maxRecDepth 100000 in
set_option maxHeartbeats 4000000 in
theorem c_X5_hostOf {l : Launch} {G : mG} {a0 : Array Value} {s0 : State} (Z : mZ l G a0 s0) (h0 : Hp) (A : Cd → Nat) (tg : Nat → Cd) (st : Ms) (X : Nat → Xs) (fd : Nat) (tt : Int64) (gr : Int32) (hC : CW h0 A tg (clS G A (st_many st) (st_now st) X fd tt gr)) (hk : Iv st) (hR : ∀ k : Nat, k < st_many st → Rx st k (X k)) (x : Int32) : mT l G s0 yX5_hostOf cX5_hostOf 2 (some .int) 7 112 1 6 h0 [.ref (A (cd 0 1 0)), .int x] (fun v9 h9 => (∃ k : Nat, (k < st_many st) ∧ (x = nI k) ∧ v9 = some (.int (st_ho st k)) ∧ NW G h0 h9 A tg st)) (fun E h9 => (E = "java/util/NoSuchElementException" ∧ (∀ k : Nat, k < st_many st → x ≠ nI k) ∧ NW G h0 h9 A tg st)) := by
  refine mT_in RX5 "hostOf" rfl rfl (by decide +kernel) (Nat.le_of_ble_eq_true rfl) ?_
  intro p e s mt below meth c H locs C ht hM hS ls hl
  have hx := C.1
  have hb := C.2.1
  have hown := C.2.2.2.1
  have hE := C.2.2.2.2.2.2.1
  have hl : lv_has ls 2 [(0, .ref (A (cd 0 1 0))), (1, .int x)] := hl
  have hF : cFr h0 tg h0 tg := cFr.rf
  obtain ⟨h, hM, hC, hF, hh⟩ : ∃ h9, MW G s0.heap.size h9 H ∧ CW h9 A tg (clS G A (st_many st) (st_now st) X fd tt gr) ∧ cFr h0 tg h9 tg ∧ h9 = h0 := ⟨_, hM, hC, hF, rfl⟩
  refine lv_aload_n hx hb dX5_hostOf_0 rfl (lv_at hl 0 rfl) ?_
  refine lv_iload_n hx hb dX5_hostOf_1 rfl (lv_at hl 1 rfl) ?_
  refine m_xcallV Z C hM hS (As := [.int x]) (rest := []) (c_X5_rowOf Z h A tg st X fd tt gr hC hk hR x) yi_X5_rowOf ml_X5_57 (hC.at (clS_h)) rfl ⟨Nat.le_of_ble_eq_true rfl, Nat.le_of_ble_eq_true rfl⟩ (Nat.le_of_ble_eq_true rfl) hl.1 rfl rfl dX5_hostOf_2 ⟨Nat.le_of_ble_eq_true rfl, Nat.le_of_ble_eq_true rfl⟩ (fun E ce q9 h9 H locs hv hM hS g1 g2 g3 => ?_) (fun v h9 H locs hv hM hS => ?_)
  · -- thrown at 2
    obtain ⟨hE, f_4, hh9⟩ := hv
    rw [hh9] at hM
    exact m_out C ht hM hS (Nat.le_of_ble_eq_true rfl) (Nat.le_of_ble_eq_true rfl) g1 g2 g3 ⟨hE, f_4, ⟨A, tg, X, _, _, _, rfl, hC, hF, hR⟩⟩
  · -- back at 2
    obtain ⟨k_1, f_2, f_3, hv, hh9⟩ := hv
    subst hv
    rw [hh9] at hM
    obtain ⟨T, U, F, al, hXk, hRi⟩ := hR k_1 f_2
    have hn := hk.n f_2
    obtain ⟨hT, hU, hUr, hRw, hEr, hFs, hal⟩ := hRi
    have hTb : ∀ i : Nat, i < st_n st k_1 → T i < 1073741824 := fun i hi => by rw [hT i hi]; exact hk.T f_2 hi
    refine W.eq (g2 := F0 mt 5 ls [.ref (A (cd (k_1 + 1) 0 0))]) rfl ?_
    refine m_getN Z C hM (hC.at ((clS_at f_2 hXk srS_0))) K_X2 1 (by decide) fn_X5_93 (v := .int (st_ho st k_1)) rfl dX5_hostOf_5 ?_
    refine vx_ret ?_
    exact m_iret C hM hS (Nat.le_of_ble_eq_true rfl) (Nat.le_of_ble_eq_true rfl) dX5_hostOf_8 ⟨k_1, f_2, f_3, rfl, ⟨A, tg, X, _, _, _, rfl, hC, hF, hR⟩⟩
set_option maxRecDepth 100000 in
set_option maxHeartbeats 4000000 in
theorem c_X5_samples {l : Launch} {G : mG} {a0 : Array Value} {s0 : State} (Z : mZ l G a0 s0) (h0 : Hp) (A : Cd → Nat) (tg : Nat → Cd) (st : Ms) (X : Nat → Xs) (fd : Nat) (tt : Int64) (gr : Int32) (hC : CW h0 A tg (clS G A (st_many st) (st_now st) X fd tt gr)) (hk : Iv st) (hR : ∀ k : Nat, k < st_many st → Rx st k (X k)) (x : Int32) : mT l G s0 yX5_samples cX5_samples 2 (some .int) 7 112 1 6 h0 [.ref (A (cd 0 1 0)), .int x] (fun v9 h9 => (∃ k : Nat, (k < st_many st) ∧ (x = nI k) ∧ v9 = some (.int (nI (st_n st k))) ∧ NW G h0 h9 A tg st)) (fun E h9 => (E = "java/util/NoSuchElementException" ∧ (∀ k : Nat, k < st_many st → x ≠ nI k) ∧ NW G h0 h9 A tg st)) := by
  refine mT_in RX5 "samples" rfl rfl (by decide +kernel) (Nat.le_of_ble_eq_true rfl) ?_
  intro p e s mt below meth c H locs C ht hM hS ls hl
  have hx := C.1
  have hb := C.2.1
  have hown := C.2.2.2.1
  have hE := C.2.2.2.2.2.2.1
  have hl : lv_has ls 2 [(0, .ref (A (cd 0 1 0))), (1, .int x)] := hl
  have hF : cFr h0 tg h0 tg := cFr.rf
  obtain ⟨h, hM, hC, hF, hh⟩ : ∃ h9, MW G s0.heap.size h9 H ∧ CW h9 A tg (clS G A (st_many st) (st_now st) X fd tt gr) ∧ cFr h0 tg h9 tg ∧ h9 = h0 := ⟨_, hM, hC, hF, rfl⟩
  refine lv_aload_n hx hb dX5_samples_0 rfl (lv_at hl 0 rfl) ?_
  refine lv_iload_n hx hb dX5_samples_1 rfl (lv_at hl 1 rfl) ?_
  refine m_xcallV Z C hM hS (As := [.int x]) (rest := []) (c_X5_rowOf Z h A tg st X fd tt gr hC hk hR x) yi_X5_rowOf ml_X5_57 (hC.at (clS_h)) rfl ⟨Nat.le_of_ble_eq_true rfl, Nat.le_of_ble_eq_true rfl⟩ (Nat.le_of_ble_eq_true rfl) hl.1 rfl rfl dX5_samples_2 ⟨Nat.le_of_ble_eq_true rfl, Nat.le_of_ble_eq_true rfl⟩ (fun E ce q9 h9 H locs hv hM hS g1 g2 g3 => ?_) (fun v h9 H locs hv hM hS => ?_)
  · -- thrown at 2
    obtain ⟨hE, f_4, hh9⟩ := hv
    rw [hh9] at hM
    exact m_out C ht hM hS (Nat.le_of_ble_eq_true rfl) (Nat.le_of_ble_eq_true rfl) g1 g2 g3 ⟨hE, f_4, ⟨A, tg, X, _, _, _, rfl, hC, hF, hR⟩⟩
  · -- back at 2
    obtain ⟨k_1, f_2, f_3, hv, hh9⟩ := hv
    subst hv
    rw [hh9] at hM
    obtain ⟨T, U, F, al, hXk, hRi⟩ := hR k_1 f_2
    have hn := hk.n f_2
    obtain ⟨hT, hU, hUr, hRw, hEr, hFs, hal⟩ := hRi
    have hTb : ∀ i : Nat, i < st_n st k_1 → T i < 1073741824 := fun i hi => by rw [hT i hi]; exact hk.T f_2 hi
    refine W.eq (g2 := F0 mt 5 ls [.ref (A (cd (k_1 + 1) 0 0))]) rfl ?_
    refine m_getN Z C hM (hC.at ((clS_at f_2 hXk srS_0))) K_X2 7 (by decide) fn_X5_82 (v := .int (nI (st_n st k_1))) rfl dX5_samples_5 ?_
    refine vx_ret ?_
    exact m_iret C hM hS (Nat.le_of_ble_eq_true rfl) (Nat.le_of_ble_eq_true rfl) dX5_samples_8 ⟨k_1, f_2, f_3, rfl, ⟨A, tg, X, _, _, _, rfl, hC, hF, hR⟩⟩
set_option maxRecDepth 100000 in
set_option maxHeartbeats 4000000 in
theorem c_X5_blocks {l : Launch} {G : mG} {a0 : Array Value} {s0 : State} (Z : mZ l G a0 s0) (h0 : Hp) (A : Cd → Nat) (tg : Nat → Cd) (st : Ms) (X : Nat → Xs) (fd : Nat) (tt : Int64) (gr : Int32) (hC : CW h0 A tg (clS G A (st_many st) (st_now st) X fd tt gr)) (hk : Iv st) (hR : ∀ k : Nat, k < st_many st → Rx st k (X k)) (x : Int32) : mT l G s0 yX5_blocks cX5_blocks 2 (some .int) 7 112 1 6 h0 [.ref (A (cd 0 1 0)), .int x] (fun v9 h9 => (∃ k : Nat, (k < st_many st) ∧ (x = nI k) ∧ v9 = some (.int (nI (z_nb st k))) ∧ NW G h0 h9 A tg st)) (fun E h9 => (E = "java/util/NoSuchElementException" ∧ (∀ k : Nat, k < st_many st → x ≠ nI k) ∧ NW G h0 h9 A tg st)) := by
  refine mT_in RX5 "blocks" rfl rfl (by decide +kernel) (Nat.le_of_ble_eq_true rfl) ?_
  intro p e s mt below meth c H locs C ht hM hS ls hl
  have hx := C.1
  have hb := C.2.1
  have hown := C.2.2.2.1
  have hE := C.2.2.2.2.2.2.1
  have hl : lv_has ls 2 [(0, .ref (A (cd 0 1 0))), (1, .int x)] := hl
  have hF : cFr h0 tg h0 tg := cFr.rf
  obtain ⟨h, hM, hC, hF, hh⟩ : ∃ h9, MW G s0.heap.size h9 H ∧ CW h9 A tg (clS G A (st_many st) (st_now st) X fd tt gr) ∧ cFr h0 tg h9 tg ∧ h9 = h0 := ⟨_, hM, hC, hF, rfl⟩
  refine lv_aload_n hx hb dX5_blocks_0 rfl (lv_at hl 0 rfl) ?_
  refine lv_iload_n hx hb dX5_blocks_1 rfl (lv_at hl 1 rfl) ?_
  refine m_xcallV Z C hM hS (As := [.int x]) (rest := []) (c_X5_rowOf Z h A tg st X fd tt gr hC hk hR x) yi_X5_rowOf ml_X5_57 (hC.at (clS_h)) rfl ⟨Nat.le_of_ble_eq_true rfl, Nat.le_of_ble_eq_true rfl⟩ (Nat.le_of_ble_eq_true rfl) hl.1 rfl rfl dX5_blocks_2 ⟨Nat.le_of_ble_eq_true rfl, Nat.le_of_ble_eq_true rfl⟩ (fun E ce q9 h9 H locs hv hM hS g1 g2 g3 => ?_) (fun v h9 H locs hv hM hS => ?_)
  · -- thrown at 2
    obtain ⟨hE, f_4, hh9⟩ := hv
    rw [hh9] at hM
    exact m_out C ht hM hS (Nat.le_of_ble_eq_true rfl) (Nat.le_of_ble_eq_true rfl) g1 g2 g3 ⟨hE, f_4, ⟨A, tg, X, _, _, _, rfl, hC, hF, hR⟩⟩
  · -- back at 2
    obtain ⟨k_1, f_2, f_3, hv, hh9⟩ := hv
    subst hv
    rw [hh9] at hM
    obtain ⟨T, U, F, al, hXk, hRi⟩ := hR k_1 f_2
    have hn := hk.n f_2
    obtain ⟨hT, hU, hUr, hRw, hEr, hFs, hal⟩ := hRi
    have hTb : ∀ i : Nat, i < st_n st k_1 → T i < 1073741824 := fun i hi => by rw [hT i hi]; exact hk.T f_2 hi
    refine W.eq (g2 := F0 mt 5 ls [.ref (A (cd (k_1 + 1) 0 0))]) rfl ?_
    refine m_callVN Z C hM hS (As := []) (rest := []) (c_X2_blockCount Z h A tg (clS G A (st_many st) (st_now st) X fd tt gr) hC k_1 (st_nm st k_1) (st_ho st k_1) (st_n st k_1) (((x_av A k_1 al))) ((clS_at f_2 hXk srS_0)) (show (st_n st k_1) ≤ 120 by omega)) yi_X2_blockCount mn_X5_104 (hC.at ((clS_at f_2 hXk srS_0))) rfl ⟨Nat.le_of_ble_eq_true rfl, Nat.le_of_ble_eq_true rfl⟩ (Nat.le_of_ble_eq_true rfl) hl.1 rfl rfl dX5_blocks_5 ⟨Nat.le_of_ble_eq_true rfl, Nat.le_of_ble_eq_true rfl⟩ (fun v h9 H locs hv hM hS => ?_)
    obtain ⟨hv, hh9⟩ := hv
    subst hv
    rw [hh9] at hM
    refine W.eq (g2 := F0 mt 8 ls [.int (nI (((st_n st k_1) + 8 - 1) / 8))]) rfl ?_
    refine vx_ret ?_
    exact m_iret C hM hS (Nat.le_of_ble_eq_true rfl) (Nat.le_of_ble_eq_true rfl) dX5_blocks_8 ⟨k_1, f_2, f_3, rfl, ⟨A, tg, X, _, _, _, rfl, hC, hF, hR⟩⟩
set_option maxRecDepth 100000 in
set_option maxHeartbeats 4000000 in
theorem c_X5_bound {l : Launch} {G : mG} {a0 : Array Value} {s0 : State} (Z : mZ l G a0 s0) (h0 : Hp) (A : Cd → Nat) (tg : Nat → Cd) (st : Ms) (X : Nat → Xs) (fd : Nat) (tt : Int64) (gr : Int32) (hC : CW h0 A tg (clS G A (st_many st) (st_now st) X fd tt gr)) (hk : Iv st) (hR : ∀ k : Nat, k < st_many st → Rx st k (X k)) (x : Int32) : mT l G s0 yX5_bound cX5_bound 2 (some .int) 7 112 1 6 h0 [.ref (A (cd 0 1 0)), .int x] (fun v9 h9 => (∃ k : Nat, (k < st_many st) ∧ (x = nI k) ∧ v9 = some (.int (nI (st_bd st k))) ∧ NW G h0 h9 A tg st)) (fun E h9 => (E = "java/util/NoSuchElementException" ∧ (∀ k : Nat, k < st_many st → x ≠ nI k) ∧ NW G h0 h9 A tg st)) := by
  refine mT_in RX5 "bound" rfl rfl (by decide +kernel) (Nat.le_of_ble_eq_true rfl) ?_
  intro p e s mt below meth c H locs C ht hM hS ls hl
  have hx := C.1
  have hb := C.2.1
  have hown := C.2.2.2.1
  have hE := C.2.2.2.2.2.2.1
  have hl : lv_has ls 2 [(0, .ref (A (cd 0 1 0))), (1, .int x)] := hl
  have hF : cFr h0 tg h0 tg := cFr.rf
  obtain ⟨h, hM, hC, hF, hh⟩ : ∃ h9, MW G s0.heap.size h9 H ∧ CW h9 A tg (clS G A (st_many st) (st_now st) X fd tt gr) ∧ cFr h0 tg h9 tg ∧ h9 = h0 := ⟨_, hM, hC, hF, rfl⟩
  refine lv_aload_n hx hb dX5_bound_0 rfl (lv_at hl 0 rfl) ?_
  refine lv_iload_n hx hb dX5_bound_1 rfl (lv_at hl 1 rfl) ?_
  refine m_xcallV Z C hM hS (As := [.int x]) (rest := []) (c_X5_rowOf Z h A tg st X fd tt gr hC hk hR x) yi_X5_rowOf ml_X5_57 (hC.at (clS_h)) rfl ⟨Nat.le_of_ble_eq_true rfl, Nat.le_of_ble_eq_true rfl⟩ (Nat.le_of_ble_eq_true rfl) hl.1 rfl rfl dX5_bound_2 ⟨Nat.le_of_ble_eq_true rfl, Nat.le_of_ble_eq_true rfl⟩ (fun E ce q9 h9 H locs hv hM hS g1 g2 g3 => ?_) (fun v h9 H locs hv hM hS => ?_)
  · -- thrown at 2
    obtain ⟨hE, f_4, hh9⟩ := hv
    rw [hh9] at hM
    exact m_out C ht hM hS (Nat.le_of_ble_eq_true rfl) (Nat.le_of_ble_eq_true rfl) g1 g2 g3 ⟨hE, f_4, ⟨A, tg, X, _, _, _, rfl, hC, hF, hR⟩⟩
  · -- back at 2
    obtain ⟨k_1, f_2, f_3, hv, hh9⟩ := hv
    subst hv
    rw [hh9] at hM
    obtain ⟨T, U, F, al, hXk, hRi⟩ := hR k_1 f_2
    have hn := hk.n f_2
    obtain ⟨hT, hU, hUr, hRw, hEr, hFs, hal⟩ := hRi
    have hTb : ∀ i : Nat, i < st_n st k_1 → T i < 1073741824 := fun i hi => by rw [hT i hi]; exact hk.T f_2 hi
    refine W.eq (g2 := F0 mt 5 ls [.ref (A (cd (k_1 + 1) 0 0))]) rfl ?_
    refine m_getN Z C hM (hC.at ((clS_at f_2 hXk srS_0))) K_X2 6 (by decide) fn_X5_179 (v := .ref (A (cd (k_1 + 1) 5 0))) rfl dX5_bound_5 ?_
    refine m_getN Z C hM (hC.at ((clS_at f_2 hXk srS_5))) K_X3 3 (by decide) fn_X5_192 (v := .int (nI (BD (st_n st k_1)))) rfl dX5_bound_8 ?_
    refine vx_ret ?_
    exact m_iret C hM hS (Nat.le_of_ble_eq_true rfl) (Nat.le_of_ble_eq_true rfl) dX5_bound_11 ⟨k_1, f_2, f_3, (by rw [hk.b f_2]), ⟨A, tg, X, _, _, _, rfl, hC, hF, hR⟩⟩
set_option maxRecDepth 100000 in
set_option maxHeartbeats 4000000 in
theorem c_X5_held {l : Launch} {G : mG} {a0 : Array Value} {s0 : State} (Z : mZ l G a0 s0) (h0 : Hp) (A : Cd → Nat) (tg : Nat → Cd) (st : Ms) (X : Nat → Xs) (fd : Nat) (tt : Int64) (gr : Int32) (hC : CW h0 A tg (clS G A (st_many st) (st_now st) X fd tt gr)) (hk : Iv st) (hR : ∀ k : Nat, k < st_many st → Rx st k (X k)) (x : Int32) : mT l G s0 yX5_held cX5_held 2 (some .int) 7 112 1 6 h0 [.ref (A (cd 0 1 0)), .int x] (fun v9 h9 => (∃ k : Nat, (k < st_many st) ∧ (x = nI k) ∧ v9 = some (.int (nI (z_held st k))) ∧ NW G h0 h9 A tg st)) (fun E h9 => (E = "java/util/NoSuchElementException" ∧ (∀ k : Nat, k < st_many st → x ≠ nI k) ∧ NW G h0 h9 A tg st)) := by
  refine mT_in RX5 "held" rfl rfl (by decide +kernel) (Nat.le_of_ble_eq_true rfl) ?_
  intro p e s mt below meth c H locs C ht hM hS ls hl
  have hx := C.1
  have hb := C.2.1
  have hown := C.2.2.2.1
  have hE := C.2.2.2.2.2.2.1
  have hl : lv_has ls 2 [(0, .ref (A (cd 0 1 0))), (1, .int x)] := hl
  have hF : cFr h0 tg h0 tg := cFr.rf
  obtain ⟨h, hM, hC, hF, hh⟩ : ∃ h9, MW G s0.heap.size h9 H ∧ CW h9 A tg (clS G A (st_many st) (st_now st) X fd tt gr) ∧ cFr h0 tg h9 tg ∧ h9 = h0 := ⟨_, hM, hC, hF, rfl⟩
  refine lv_aload_n hx hb dX5_held_0 rfl (lv_at hl 0 rfl) ?_
  refine lv_iload_n hx hb dX5_held_1 rfl (lv_at hl 1 rfl) ?_
  refine m_xcallV Z C hM hS (As := [.int x]) (rest := []) (c_X5_rowOf Z h A tg st X fd tt gr hC hk hR x) yi_X5_rowOf ml_X5_57 (hC.at (clS_h)) rfl ⟨Nat.le_of_ble_eq_true rfl, Nat.le_of_ble_eq_true rfl⟩ (Nat.le_of_ble_eq_true rfl) hl.1 rfl rfl dX5_held_2 ⟨Nat.le_of_ble_eq_true rfl, Nat.le_of_ble_eq_true rfl⟩ (fun E ce q9 h9 H locs hv hM hS g1 g2 g3 => ?_) (fun v h9 H locs hv hM hS => ?_)
  · -- thrown at 2
    obtain ⟨hE, f_4, hh9⟩ := hv
    rw [hh9] at hM
    exact m_out C ht hM hS (Nat.le_of_ble_eq_true rfl) (Nat.le_of_ble_eq_true rfl) g1 g2 g3 ⟨hE, f_4, ⟨A, tg, X, _, _, _, rfl, hC, hF, hR⟩⟩
  · -- back at 2
    obtain ⟨k_1, f_2, f_3, hv, hh9⟩ := hv
    subst hv
    rw [hh9] at hM
    obtain ⟨T, U, F, al, hXk, hRi⟩ := hR k_1 f_2
    have hn := hk.n f_2
    obtain ⟨hT, hU, hUr, hRw, hEr, hFs, hal⟩ := hRi
    have hTb : ∀ i : Nat, i < st_n st k_1 → T i < 1073741824 := fun i hi => by rw [hT i hi]; exact hk.T f_2 hi
    refine W.eq (g2 := F0 mt 5 ls [.ref (A (cd (k_1 + 1) 0 0))]) rfl ?_
    have hC0 := hC
    rw [← clS_sk f_2 hXk] at hC
    refine m_getN Z C hM (hC.at ((skS_ne (by simp [cd])).trans ((clS_at f_2 hXk srS_0)))) K_X2 6 (by decide) fn_X5_179 (v := .ref (A (cd (k_1 + 1) 5 0))) rfl dX5_held_5 ?_
    refine m_callVN Z C hM hS (As := []) (rest := []) (c_X3_heldValues Z h A tg (clS G A (st_many st) (st_now st) X fd tt gr) k_1 F (SZ (st_n st k_1)) (HV (st_n st k_1)) (BD (st_n st k_1)) hC ) yi_X3_heldValues mn_X5_195 (hC.at (skS_5)) rfl ⟨Nat.le_of_ble_eq_true rfl, Nat.le_of_ble_eq_true rfl⟩ (Nat.le_of_ble_eq_true rfl) hl.1 rfl rfl dX5_held_8 ⟨Nat.le_of_ble_eq_true rfl, Nat.le_of_ble_eq_true rfl⟩ (fun v h9 H locs hv hM hS => ?_)
    obtain ⟨hv, hh9⟩ := hv
    subst hv
    rw [hh9] at hM
    refine W.eq (g2 := F0 mt 11 ls [.int (nI (z_su (SZ (st_n st k_1)) 5))]) rfl ?_
    refine vx_ret ?_
    exact m_iret C hM hS (Nat.le_of_ble_eq_true rfl) (Nat.le_of_ble_eq_true rfl) dX5_held_11 ⟨k_1, f_2, f_3, (by rw [held_c hk f_2]), ⟨A, tg, X, _, _, _, rfl, hC0, hF, hR⟩⟩
set_option maxRecDepth 100000 in
set_option maxHeartbeats 4000000 in
theorem c_X5_latest {l : Launch} {G : mG} {a0 : Array Value} {s0 : State} (Z : mZ l G a0 s0) (h0 : Hp) (A : Cd → Nat) (tg : Nat → Cd) (st : Ms) (X : Nat → Xs) (fd : Nat) (tt : Int64) (gr : Int32) (hC : CW h0 A tg (clS G A (st_many st) (st_now st) X fd tt gr)) (hk : Iv st) (hR : ∀ k : Nat, k < st_many st → Rx st k (X k)) (x : Int32) : mT l G s0 yX5_latest cX5_latest 3 (some .int) 7 112 2 12 h0 [.ref (A (cd 0 1 0)), .int x] (fun v9 h9 => (∃ k : Nat, (k < st_many st) ∧ (x = nI k) ∧ (0 < st_n st k) ∧ v9 = some (.int (z_la st k)) ∧ NW G h0 h9 A tg st)) (fun E h9 => (E = "java/util/NoSuchElementException" ∧ (∀ k : Nat, k < st_many st → x ≠ nI k) ∧ NW G h0 h9 A tg st) ∨ (∃ k : Nat, E = "java/lang/IllegalStateException" ∧ (k < st_many st) ∧ (x = nI k) ∧ (st_n st k = 0) ∧ NW G h0 h9 A tg st)) := by
  refine mT_in RX5 "latest" rfl rfl (by decide +kernel) (Nat.le_of_ble_eq_true rfl) ?_
  intro p e s mt below meth c H locs C ht hM hS ls hl
  have hx := C.1
  have hb := C.2.1
  have hown := C.2.2.2.1
  have hE := C.2.2.2.2.2.2.1
  have hl : lv_has ls 3 [(0, .ref (A (cd 0 1 0))), (1, .int x)] := hl
  have hF : cFr h0 tg h0 tg := cFr.rf
  obtain ⟨h, hM, hC, hF, hh⟩ : ∃ h9, MW G s0.heap.size h9 H ∧ CW h9 A tg (clS G A (st_many st) (st_now st) X fd tt gr) ∧ cFr h0 tg h9 tg ∧ h9 = h0 := ⟨_, hM, hC, hF, rfl⟩
  refine lv_aload_n hx hb dX5_latest_0 rfl (lv_at hl 0 rfl) ?_
  refine lv_iload_n hx hb dX5_latest_1 rfl (lv_at hl 1 rfl) ?_
  refine m_xcallV Z C hM hS (As := [.int x]) (rest := []) (c_X5_rowOf Z h A tg st X fd tt gr hC hk hR x) yi_X5_rowOf ml_X5_57 (hC.at (clS_h)) rfl ⟨Nat.le_of_ble_eq_true rfl, Nat.le_of_ble_eq_true rfl⟩ (Nat.le_of_ble_eq_true rfl) hl.1 rfl rfl dX5_latest_2 ⟨Nat.le_of_ble_eq_true rfl, Nat.le_of_ble_eq_true rfl⟩ (fun E ce q9 h9 H locs hv hM hS g1 g2 g3 => ?_) (fun v h9 H locs hv hM hS => ?_)
  · -- thrown at 2
    obtain ⟨hE, f_4, hh9⟩ := hv
    rw [hh9] at hM
    exact m_out C ht hM hS (Nat.le_of_ble_eq_true rfl) (Nat.le_of_ble_eq_true rfl) g1 g2 g3 (Or.inl ⟨hE, f_4, ⟨A, tg, X, _, _, _, rfl, hC, hF, hR⟩⟩)
  · -- back at 2
    obtain ⟨k_1, f_2, f_3, hv, hh9⟩ := hv
    subst hv
    rw [hh9] at hM
    obtain ⟨T, U, F, al, hXk, hRi⟩ := hR k_1 f_2
    have hn := hk.n f_2
    obtain ⟨hT, hU, hUr, hRw, hEr, hFs, hal⟩ := hRi
    have hTb : ∀ i : Nat, i < st_n st k_1 → T i < 1073741824 := fun i hi => by rw [hT i hi]; exact hk.T f_2 hi
    refine W.eq (g2 := F0 mt 5 ls [.ref (A (cd (k_1 + 1) 0 0))]) rfl ?_
    refine lv_astore_n (lv' := [(2, .ref (A (cd (k_1 + 1) 0 0))), (0, .ref (A (cd 0 1 0))), (1, .int x)]) hx hb dX5_latest_5 rfl hl (by decide) rfl (fun ls hl => ?_)
    refine lv_aload_n hx hb dX5_latest_6 rfl (lv_at hl 0 rfl) ?_
    refine m_xcallS Z C hM hS (As := [.ref (A (cd (k_1 + 1) 0 0))]) (rest := []) (c_X5_refuseEmpty Z h A tg st X fd tt gr hC hk hR k_1 f_2) yi_X5_refuseEmpty ml_X5_96 ⟨Nat.le_of_ble_eq_true rfl, Nat.le_of_ble_eq_true rfl⟩ (Nat.le_of_ble_eq_true rfl) hl.1 rfl rfl dX5_latest_7 ⟨Nat.le_of_ble_eq_true rfl, Nat.le_of_ble_eq_true rfl⟩ (fun E ce q9 h9 H locs hv hM hS g1 g2 g3 => ?_) (fun v h9 H locs hv hM hS => ?_)
    · -- thrown at 7
      obtain ⟨hE, f_6, hh9⟩ := hv
      rw [hh9] at hM
      exact m_out C ht hM hS (Nat.le_of_ble_eq_true rfl) (Nat.le_of_ble_eq_true rfl) g1 g2 g3 (Or.inr ⟨k_1, hE, f_2, f_3, f_6, ⟨A, tg, X, _, _, _, rfl, hC, hF, hR⟩⟩)
    · -- back at 7
      obtain ⟨f_5, hv, hh9⟩ := hv
      subst hv
      rw [hh9] at hM
      refine W.eq (g2 := F0 mt 10 ls []) rfl ?_
      refine lv_aload_n hx hb dX5_latest_10 rfl (lv_at hl 0 rfl) ?_
      refine m_callVN Z C hM hS (As := []) (rest := []) (c_X2_newestValue Z h A tg (clS G A (st_many st) (st_now st) X fd tt gr) hC k_1 (st_nm st k_1) (st_ho st k_1) (st_n st k_1) (((x_av A k_1 al))) U ((clS_at f_2 hXk srS_0)) ((clS_at f_2 hXk srS_2)) (by omega) (by omega)) yi_X2_newestValue mn_X5_100 (hC.at ((clS_at f_2 hXk srS_0))) rfl ⟨Nat.le_of_ble_eq_true rfl, Nat.le_of_ble_eq_true rfl⟩ (Nat.le_of_ble_eq_true rfl) hl.1 rfl rfl dX5_latest_11 ⟨Nat.le_of_ble_eq_true rfl, Nat.le_of_ble_eq_true rfl⟩ (fun v h9 H locs hv hM hS => ?_)
      obtain ⟨hv, hh9⟩ := hv
      subst hv
      rw [hh9] at hM
      refine W.eq (g2 := F0 mt 14 ls [.int (U ((st_n st k_1) - 1))]) rfl ?_
      refine vx_ret ?_
      exact m_iret C hM hS (Nat.le_of_ble_eq_true rfl) (Nat.le_of_ble_eq_true rfl) dX5_latest_14 ⟨k_1, f_2, f_3, f_5, (by rw [hU _ (by omega)]), ⟨A, tg, X, _, _, _, rfl, hC, hF, hR⟩⟩
set_option maxRecDepth 100000 in
set_option maxHeartbeats 4000000 in
theorem c_X5_rowForQuantile {l : Launch} {G : mG} {a0 : Array Value} {s0 : State} (Z : mZ l G a0 s0) (h0 : Hp) (A : Cd → Nat) (tg : Nat → Cd) (st : Ms) (X : Nat → Xs) (fd : Nat) (tt : Int64) (gr : Int32) (hC : CW h0 A tg (clS G A (st_many st) (st_now st) X fd tt gr)) (hk : Iv st) (hR : ∀ k : Nat, k < st_many st → Rx st k (X k)) (x : Int32) (y : Int32) : mT l G s0 yX5_rowForQuantile cX5_rowForQuantile 4 (some (.object "GaugeHall$Series")) 7 112 3 18 h0 [.ref (A (cd 0 1 0)), .int x, .int y] (fun v9 h9 => (∃ k : Nat, ∃ d : Nat, (k < st_many st) ∧ (x = nI k) ∧ (1 ≤ d ∧ d ≤ 100) ∧ (y = nI d) ∧ (0 < st_n st k) ∧ v9 = some (.ref (A (cd (k + 1) 0 0))) ∧ h9 = h0)) (fun E h9 => (E = "java/util/NoSuchElementException" ∧ (∀ k : Nat, k < st_many st → x ≠ nI k) ∧ h9 = h0) ∨ (∃ k : Nat, E = "java/lang/IllegalArgumentException" ∧ (k < st_many st) ∧ (x = nI k) ∧ (∀ d : Nat, 1 ≤ d → d ≤ 100 → y ≠ nI d) ∧ h9 = h0) ∨ (∃ k : Nat, E = "java/lang/IllegalStateException" ∧ (k < st_many st) ∧ (x = nI k) ∧ (∃ d : Nat, (1 ≤ d ∧ d ≤ 100) ∧ y = nI d) ∧ (st_n st k = 0) ∧ h9 = h0)) := by
  refine mT_in RX5 "rowForQuantile" rfl rfl (by decide +kernel) (Nat.le_of_ble_eq_true rfl) ?_
  intro p e s mt below meth c H locs C ht hM hS ls hl
  have hx := C.1
  have hb := C.2.1
  have hown := C.2.2.2.1
  have hE := C.2.2.2.2.2.2.1
  have hl : lv_has ls 4 [(0, .ref (A (cd 0 1 0))), (1, .int x), (2, .int y)] := hl
  have hF : cFr h0 tg h0 tg := cFr.rf
  obtain ⟨h, hM, hC, hF, hh⟩ : ∃ h9, MW G s0.heap.size h9 H ∧ CW h9 A tg (clS G A (st_many st) (st_now st) X fd tt gr) ∧ cFr h0 tg h9 tg ∧ h9 = h0 := ⟨_, hM, hC, hF, rfl⟩
  refine lv_aload_n hx hb dX5_rowForQuantile_0 rfl (lv_at hl 0 rfl) ?_
  refine lv_iload_n hx hb dX5_rowForQuantile_1 rfl (lv_at hl 1 rfl) ?_
  refine m_xcallV Z C hM hS (As := [.int x]) (rest := []) (c_X5_rowOf Z h A tg st X fd tt gr hC hk hR x) yi_X5_rowOf ml_X5_57 (hC.at (clS_h)) rfl ⟨Nat.le_of_ble_eq_true rfl, Nat.le_of_ble_eq_true rfl⟩ (Nat.le_of_ble_eq_true rfl) hl.1 rfl rfl dX5_rowForQuantile_2 ⟨Nat.le_of_ble_eq_true rfl, Nat.le_of_ble_eq_true rfl⟩ (fun E ce q9 h9 H locs hv hM hS g1 g2 g3 => ?_) (fun v h9 H locs hv hM hS => ?_)
  · -- thrown at 2
    obtain ⟨hE, f_4, hh9⟩ := hv
    rw [hh9] at hM
    exact m_out C ht hM hS (Nat.le_of_ble_eq_true rfl) (Nat.le_of_ble_eq_true rfl) g1 g2 g3 (Or.inl ⟨hE, f_4, hh⟩)
  · -- back at 2
    obtain ⟨k_1, f_2, f_3, hv, hh9⟩ := hv
    subst hv
    rw [hh9] at hM
    obtain ⟨T, U, F, al, hXk, hRi⟩ := hR k_1 f_2
    have hn := hk.n f_2
    obtain ⟨hT, hU, hUr, hRw, hEr, hFs, hal⟩ := hRi
    have hTb : ∀ i : Nat, i < st_n st k_1 → T i < 1073741824 := fun i hi => by rw [hT i hi]; exact hk.T f_2 hi
    refine W.eq (g2 := F0 mt 5 ls [.ref (A (cd (k_1 + 1) 0 0))]) rfl ?_
    refine lv_astore_n (lv' := [(3, .ref (A (cd (k_1 + 1) 0 0))), (0, .ref (A (cd 0 1 0))), (1, .int x), (2, .int y)]) hx hb dX5_rowForQuantile_5 rfl hl (by decide) rfl (fun ls hl => ?_)
    refine lv_iload_n hx hb dX5_rowForQuantile_6 rfl (lv_at hl 3 rfl) ?_
    refine lv_iconst (v := nI 1) hx hb dX5_rowForQuantile_7 (by decide) ?_
    refine lv_icmp_lt (tgt := 17) hx hb dX5_rowForQuantile_8 (by decide) (fun c_5 => ?_) (fun c_5 => ?_)
    · -- 8 t
      exact m_throw Z C ht hM hS xy_X5_rowForQuantile_17 hl.1 dX5_rowForQuantile_17 dX5_rowForQuantile_20 dX5_rowForQuantile_21 dX5_rowForQuantile_23 dX5_rowForQuantile_26 ⟨Nat.le_of_ble_eq_true rfl, Nat.le_of_ble_eq_true rfl, Nat.le_of_ble_eq_true rfl, Nat.le_of_ble_eq_true rfl⟩ (Nat.le_of_ble_eq_true rfl) (Nat.le_of_ble_eq_true rfl) (Or.inr (Or.inl ⟨k_1, rfl, f_2, f_3, (fun d h1 h2 q => i_len ((nI_leI (by decide) (by omega)).mpr h1) (q ▸ c_5)), hh⟩))
    · -- 8 f
      refine lv_iload_n hx hb dX5_rowForQuantile_11 rfl (lv_at hl 3 rfl) ?_
      refine lv_bipush (v := nI 100) hx hb dX5_rowForQuantile_12 (by decide) ?_
      refine lv_icmp_le (tgt := 27) hx hb dX5_rowForQuantile_14 (by decide) (fun c_6 => ?_) (fun c_6 => ?_)
      · -- 14 t
        obtain ⟨d, hd1, hd2, hyd⟩ := (isIn_b (by decide) (by decide) y).mp ⟨i_nlt c_5, c_6⟩
        refine lv_aload_n hx hb dX5_rowForQuantile_27 rfl (lv_at hl 0 rfl) ?_
        refine m_xcallS Z C hM hS (As := [.ref (A (cd (k_1 + 1) 0 0))]) (rest := []) (c_X5_refuseEmpty Z h A tg st X fd tt gr hC hk hR k_1 f_2) yi_X5_refuseEmpty ml_X5_96 ⟨Nat.le_of_ble_eq_true rfl, Nat.le_of_ble_eq_true rfl⟩ (Nat.le_of_ble_eq_true rfl) hl.1 rfl rfl dX5_rowForQuantile_28 ⟨Nat.le_of_ble_eq_true rfl, Nat.le_of_ble_eq_true rfl⟩ (fun E ce q9 h9 H locs hv hM hS g1 g2 g3 => ?_) (fun v h9 H locs hv hM hS => ?_)
        · -- thrown at 28
          obtain ⟨hE, f_8, hh9⟩ := hv
          rw [hh9] at hM
          exact m_out C ht hM hS (Nat.le_of_ble_eq_true rfl) (Nat.le_of_ble_eq_true rfl) g1 g2 g3 (Or.inr (Or.inr ⟨k_1, hE, f_2, f_3, ⟨d, ⟨hd1, hd2⟩, hyd⟩, f_8, hh⟩))
        · -- back at 28
          obtain ⟨f_7, hv, hh9⟩ := hv
          subst hv
          rw [hh9] at hM
          refine W.eq (g2 := F0 mt 31 ls []) rfl ?_
          refine lv_aload_n hx hb dX5_rowForQuantile_31 rfl (lv_at hl 0 rfl) ?_
          refine vx_ret ?_
          exact m_aret C hM hS (Nat.le_of_ble_eq_true rfl) (Nat.le_of_ble_eq_true rfl) dX5_rowForQuantile_32 ⟨k_1, d, f_2, f_3, ⟨hd1, hd2⟩, hyd, f_7, rfl, hh⟩
      · -- 14 f
        exact m_throw Z C ht hM hS xy_X5_rowForQuantile_17 hl.1 dX5_rowForQuantile_17 dX5_rowForQuantile_20 dX5_rowForQuantile_21 dX5_rowForQuantile_23 dX5_rowForQuantile_26 ⟨Nat.le_of_ble_eq_true rfl, Nat.le_of_ble_eq_true rfl, Nat.le_of_ble_eq_true rfl, Nat.le_of_ble_eq_true rfl⟩ (Nat.le_of_ble_eq_true rfl) (Nat.le_of_ble_eq_true rfl) (Or.inr (Or.inl ⟨k_1, rfl, f_2, f_3, (fun d h1 h2 q => i_ltn (i_nle c_6) (q ▸ (nI_leI (by omega) (by decide)).mpr h2)), hh⟩))
