set_option maxRecDepth 100000 in
set_option maxHeartbeats 4000000 in
theorem c_X2_isFull {l : Launch} {G : mG} {a0 : Array Value} {s0 : State} (Z : mZ l G a0 s0) (h0 : Hp) (A : Cd → Nat) (tg : Nat → Cd) (sg : Cd → Option va_E) (hC : CW h0 A tg sg) (k : Nat) (nm : Int32) (ho : Int32) (n : Nat) (av : Value) (hs0 : sg (cd (k + 1) 0 0) = some (eO 2 [.int nm, .int ho, .ref (A (cd (k + 1) 1 0)), .ref (A (cd (k + 1) 2 0)), .ref (A (cd (k + 1) 3 0)), .ref (A (cd (k + 1) 4 0)), .ref (A (cd (k + 1) 5 0)), .int (nI n), av])) (hn : n ≤ 120) : mM l G s0 yX2_isFull cX2_isFull 1 (some .boolean) 0 0 0 0 h0 [.ref (A (cd (k + 1) 0 0))] (fun v h9 => (v = some (.int (b2 (120 ≤ n))) ∧ h9 = h0)) := by
  refine mM_in RX2 "isFull" rfl rfl (by decide +kernel) (Nat.le_of_ble_eq_true rfl) ?_
  intro p e s mt below meth c H locs C hM hS ls hl
  have hx := C.1
  have hb := C.2.1
  have hown := C.2.2.2.1
  have hE := C.2.2.2.2.2.2.1
  have hl : lv_has ls 1 [(0, .ref (A (cd (k + 1) 0 0)))] := hl
  obtain ⟨h, hh⟩ : ∃ z, z = h0 := ⟨_, rfl⟩
  rw [← hh] at hM hC
  refine lv_aload_n hx hb dX2_isFull_0 rfl (lv_at hl 0 rfl) ?_
  refine m_get Z C hM (hC.at (hs0)) K_X2 7 (by decide) fl_X2_42 (v := .int (nI n)) rfl dX2_isFull_1 ?_
  refine lv_bipush (v := nI 120) hx hb dX2_isFull_4 (by decide) ?_
  refine lv_icmp_lt (tgt := 13) hx hb dX2_isFull_6 (by decide) (fun c_1 => ?_) (fun c_1 => ?_)
  · -- 6 t
    have c_1 : n < 120 := (nI_ltI (by omega) (by decide)).mp c_1
    refine lv_iconst (v := nI 0) hx hb dX2_isFull_13 (by decide) ?_
    exact m_zret C hM hS (Nat.le_of_ble_eq_true rfl) (Nat.le_of_ble_eq_true rfl) rfl dX2_isFull_14 ⟨by rw [b2_f (by omega)], hh⟩
  · -- 6 f
    have c_1 : ¬ n < 120 := fun q => c_1 ((nI_ltI (by omega) (by decide)).mpr q)
    refine lv_iconst (v := nI 1) hx hb dX2_isFull_9 (by decide) ?_
    refine lv_goto (tgt := 14) hx hb dX2_isFull_10 (by decide) ?_
    exact m_zret C hM hS (Nat.le_of_ble_eq_true rfl) (Nat.le_of_ble_eq_true rfl) rfl dX2_isFull_14 ⟨by rw [b2_t (by omega)], hh⟩
set_option maxRecDepth 100000 in
set_option maxHeartbeats 4000000 in
theorem c_X2_blockCount {l : Launch} {G : mG} {a0 : Array Value} {s0 : State} (Z : mZ l G a0 s0) (h0 : Hp) (A : Cd → Nat) (tg : Nat → Cd) (sg : Cd → Option va_E) (hC : CW h0 A tg sg) (k : Nat) (nm : Int32) (ho : Int32) (n : Nat) (av : Value) (hs0 : sg (cd (k + 1) 0 0) = some (eO 2 [.int nm, .int ho, .ref (A (cd (k + 1) 1 0)), .ref (A (cd (k + 1) 2 0)), .ref (A (cd (k + 1) 3 0)), .ref (A (cd (k + 1) 4 0)), .ref (A (cd (k + 1) 5 0)), .int (nI n), av])) (hn : n ≤ 120) : mM l G s0 yX2_blockCount cX2_blockCount 1 (some .int) 0 0 0 0 h0 [.ref (A (cd (k + 1) 0 0))] (fun v h9 => (v = some (.int (nI ((n + 8 - 1) / 8))) ∧ h9 = h0)) := by
  refine mM_in RX2 "blockCount" rfl rfl (by decide +kernel) (Nat.le_of_ble_eq_true rfl) ?_
  intro p e s mt below meth c H locs C hM hS ls hl
  have hx := C.1
  have hb := C.2.1
  have hown := C.2.2.2.1
  have hE := C.2.2.2.2.2.2.1
  have hl : lv_has ls 1 [(0, .ref (A (cd (k + 1) 0 0)))] := hl
  obtain ⟨h, hh⟩ : ∃ z, z = h0 := ⟨_, rfl⟩
  rw [← hh] at hM hC
  refine lv_aload_n hx hb dX2_blockCount_0 rfl (lv_at hl 0 rfl) ?_
  refine m_get Z C hM (hC.at (hs0)) K_X2 7 (by decide) fl_X2_42 (v := .int (nI n)) rfl dX2_blockCount_1 ?_
  refine lv_bipush (v := nI 8) hx hb dX2_blockCount_4 (by decide) ?_
  refine n_iadd hx hb dX2_blockCount_6 ?_
  refine lv_iconst (v := nI 1) hx hb dX2_blockCount_7 (by decide) ?_
  refine n_isub hx hb (by omega) dX2_blockCount_8 ?_
  refine lv_bipush (v := nI 8) hx hb dX2_blockCount_9 (by decide) ?_
  refine n_idiv hx hb (by omega) (by decide) (by decide) dX2_blockCount_11 ?_
  exact m_iret C hM hS (Nat.le_of_ble_eq_true rfl) (Nat.le_of_ble_eq_true rfl) dX2_blockCount_12 ⟨rfl, hh⟩
set_option maxRecDepth 100000 in
set_option maxHeartbeats 4000000 in
theorem c_X2_targetOf {l : Launch} {G : mG} {a0 : Array Value} {s0 : State} (Z : mZ l G a0 s0) (h0 : Hp) (A : Cd → Nat) (tg : Nat → Cd) (sg : Cd → Option va_E) (hC : CW h0 A tg sg) (k : Nat) (d9 : Nat) (nm : Int32) (ho : Int32) (n : Nat) (av : Value) (hs0 : sg (cd (k + 1) 0 0) = some (eO 2 [.int nm, .int ho, .ref (A (cd (k + 1) 1 0)), .ref (A (cd (k + 1) 2 0)), .ref (A (cd (k + 1) 3 0)), .ref (A (cd (k + 1) 4 0)), .ref (A (cd (k + 1) 5 0)), .int (nI n), av])) (hn : n ≤ 120) (hd : d9 ≤ 100) : mM l G s0 yX2_targetOf cX2_targetOf 2 (some .int) 0 0 0 0 h0 [.ref (A (cd (k + 1) 0 0)), .int (nI d9)] (fun v h9 => (v = some (.int (nI ((d9 * n + 99) / 100))) ∧ h9 = h0)) := by
  refine mM_in RX2 "targetOf" rfl rfl (by decide +kernel) (Nat.le_of_ble_eq_true rfl) ?_
  intro p e s mt below meth c H locs C hM hS ls hl
  have hx := C.1
  have hb := C.2.1
  have hown := C.2.2.2.1
  have hE := C.2.2.2.2.2.2.1
  have hl : lv_has ls 2 [(0, .ref (A (cd (k + 1) 0 0))), (1, .int (nI d9))] := hl
  obtain ⟨h, hh⟩ : ∃ z, z = h0 := ⟨_, rfl⟩
  rw [← hh] at hM hC
  have hmul : d9 * n ≤ 100 * 120 := Nat.mul_le_mul hd hn
  refine lv_iload_n hx hb dX2_targetOf_0 rfl (lv_at hl 1 rfl) ?_
  refine lv_aload_n hx hb dX2_targetOf_1 rfl (lv_at hl 0 rfl) ?_
  refine m_get Z C hM (hC.at (hs0)) K_X2 7 (by decide) fl_X2_42 (v := .int (nI n)) rfl dX2_targetOf_2 ?_
  refine n_imul hx hb dX2_targetOf_5 ?_
  refine lv_bipush (v := nI 99) hx hb dX2_targetOf_6 (by decide) ?_
  refine n_iadd hx hb dX2_targetOf_8 ?_
  refine lv_bipush (v := nI 100) hx hb dX2_targetOf_9 (by decide) ?_
  refine n_idiv hx hb (by omega) (by decide) (by decide) dX2_targetOf_11 ?_
  exact m_iret C hM hS (Nat.le_of_ble_eq_true rfl) (Nat.le_of_ble_eq_true rfl) dX2_targetOf_12 ⟨rfl, hh⟩
set_option maxRecDepth 100000 in
set_option maxHeartbeats 4000000 in
theorem c_X2_newestValue {l : Launch} {G : mG} {a0 : Array Value} {s0 : State} (Z : mZ l G a0 s0) (h0 : Hp) (A : Cd → Nat) (tg : Nat → Cd) (sg : Cd → Option va_E) (hC : CW h0 A tg sg) (k : Nat) (nm : Int32) (ho : Int32) (n : Nat) (av : Value) (U : Nat → Int32) (hs0 : sg (cd (k + 1) 0 0) = some (eO 2 [.int nm, .int ho, .ref (A (cd (k + 1) 1 0)), .ref (A (cd (k + 1) 2 0)), .ref (A (cd (k + 1) 3 0)), .ref (A (cd (k + 1) 4 0)), .ref (A (cd (k + 1) 5 0)), .int (nI n), av])) (hv0 : sg (cd (k + 1) 2 0) = some (eI G 120 (U))) (hn : n ≤ 120) (h1 : 0 < n) : mM l G s0 yX2_newestValue cX2_newestValue 1 (some .int) 0 0 0 0 h0 [.ref (A (cd (k + 1) 0 0))] (fun v h9 => (v = some (.int (U (n - 1))) ∧ h9 = h0)) := by
  refine mM_in RX2 "newestValue" rfl rfl (by decide +kernel) (Nat.le_of_ble_eq_true rfl) ?_
  intro p e s mt below meth c H locs C hM hS ls hl
  have hx := C.1
  have hb := C.2.1
  have hown := C.2.2.2.1
  have hE := C.2.2.2.2.2.2.1
  have hl : lv_has ls 1 [(0, .ref (A (cd (k + 1) 0 0)))] := hl
  obtain ⟨h, hh⟩ : ∃ z, z = h0 := ⟨_, rfl⟩
  rw [← hh] at hM hC
  refine lv_aload_n hx hb dX2_newestValue_0 rfl (lv_at hl 0 rfl) ?_
  refine m_get Z C hM (hC.at (hs0)) K_X2 7 (by decide) fl_X2_42 (v := .int (nI n)) rfl dX2_newestValue_1 ?_
  refine lv_if_le (tgt := 33) hx hb dX2_newestValue_4 (by decide) (fun c_1 => ?_) (fun c_1 => ?_)
  · -- 4 t
    have c_1 : n ≤ 0 := (nI_leI (by omega) (by decide)).mp c_1
    exact absurd h1 (by omega)
  · -- 4 f
    have c_1 : ¬ n ≤ 0 := fun q => c_1 ((nI_leI (by omega) (by decide)).mpr q)
    refine lv_aload_n hx hb dX2_newestValue_7 rfl (lv_at hl 0 rfl) ?_
    refine m_get Z C hM (hC.at (hs0)) K_X2 7 (by decide) fl_X2_42 (v := .int (nI n)) rfl dX2_newestValue_8 ?_
    refine lv_aload_n hx hb dX2_newestValue_11 rfl (lv_at hl 0 rfl) ?_
    refine m_get Z C hM (hC.at (hs0)) K_X2 3 (by decide) fl_X2_22 (v := .ref (A (cd (k + 1) 2 0))) rfl dX2_newestValue_12 ?_
    refine m_alen (t0 := 0) Z C hM rfl (hC.at (hv0)) dX2_newestValue_15 ?_
    refine W.eq (g2 := F0 mt 16 ls [.int (nI 120), .int (nI n)]) rfl ?_
    refine lv_icmp_gt (tgt := 33) hx hb dX2_newestValue_16 (by decide) (fun c_2 => ?_) (fun c_2 => ?_)
    · -- 16 t
      have c_2 : 120 < n := (nI_ltI (by decide) (by omega)).mp c_2
      exact absurd hn (by omega)
    · -- 16 f
      have c_2 : ¬ 120 < n := fun q => c_2 ((nI_ltI (by decide) (by omega)).mpr q)
      refine lv_aload_n hx hb dX2_newestValue_19 rfl (lv_at hl 0 rfl) ?_
      refine m_get Z C hM (hC.at (hs0)) K_X2 3 (by decide) fl_X2_22 (v := .ref (A (cd (k + 1) 2 0))) rfl dX2_newestValue_20 ?_
      refine lv_aload_n hx hb dX2_newestValue_23 rfl (lv_at hl 0 rfl) ?_
      refine m_get Z C hM (hC.at (hs0)) K_X2 7 (by decide) fl_X2_42 (v := .int (nI n)) rfl dX2_newestValue_24 ?_
      refine lv_iconst (v := nI 1) hx hb dX2_newestValue_27 (by decide) ?_
      refine n_isub hx hb (by omega) dX2_newestValue_28 ?_
      refine m_iald Z C hM (f := U) (hC.at (hv0)) (n - 1) rfl (by omega) (by decide) dX2_newestValue_29 ?_
      refine lv_goto (tgt := 34) hx hb dX2_newestValue_30 (by decide) ?_
      exact m_iret C hM hS (Nat.le_of_ble_eq_true rfl) (Nat.le_of_ble_eq_true rfl) dX2_newestValue_34 ⟨rfl, hh⟩
set_option maxRecDepth 100000 in
set_option maxHeartbeats 4000000 in
theorem c_X2_hasSampleAt {l : Launch} {G : mG} {a0 : Array Value} {s0 : State} (Z : mZ l G a0 s0) (h0 : Hp) (A : Cd → Nat) (tg : Nat → Cd) (sg : Cd → Option va_E) (hC : CW h0 A tg sg) (k : Nat) (ti : Nat) (nm : Int32) (ho : Int32) (n : Nat) (av : Value) (T : Nat → Nat) (hs0 : sg (cd (k + 1) 0 0) = some (eO 2 [.int nm, .int ho, .ref (A (cd (k + 1) 1 0)), .ref (A (cd (k + 1) 2 0)), .ref (A (cd (k + 1) 3 0)), .ref (A (cd (k + 1) 4 0)), .ref (A (cd (k + 1) 5 0)), .int (nI n), av])) (ht0 : sg (cd (k + 1) 1 0) = some (eL G 120 (fun k => lN (T k)))) (hn : n ≤ 120) (hT : ∀ i : Nat, i < n → T i < 1073741824) (hti : ti < 1073741824) : mM l G s0 yX2_hasSampleAt cX2_hasSampleAt 3 (some .boolean) 0 0 0 0 h0 [.ref (A (cd (k + 1) 0 0)), .long (lN ti)] (fun v h9 => (v = some (.int (b2 (0 < n ∧ T (n - 1) = ti))) ∧ h9 = h0)) := by
  refine mM_in RX2 "hasSampleAt" rfl rfl (by decide +kernel) (Nat.le_of_ble_eq_true rfl) ?_
  intro p e s mt below meth c H locs C hM hS ls hl
  have hx := C.1
  have hb := C.2.1
  have hown := C.2.2.2.1
  have hE := C.2.2.2.2.2.2.1
  have hl : lv_has ls 3 [(0, .ref (A (cd (k + 1) 0 0))), (1, .long (lN ti))] := hl
  obtain ⟨h, hh⟩ : ∃ z, z = h0 := ⟨_, rfl⟩
  rw [← hh] at hM hC
  refine lv_aload_n hx hb dX2_hasSampleAt_0 rfl (lv_at hl 0 rfl) ?_
  refine m_get Z C hM (hC.at (hs0)) K_X2 7 (by decide) fl_X2_42 (v := .int (nI n)) rfl dX2_hasSampleAt_1 ?_
  refine lv_if_le (tgt := 39) hx hb dX2_hasSampleAt_4 (by decide) (fun c_1 => ?_) (fun c_1 => ?_)
  · -- 4 t
    have c_1 : n ≤ 0 := (nI_leI (by omega) (by decide)).mp c_1
    refine lv_iconst (v := nI 0) hx hb dX2_hasSampleAt_39 (by decide) ?_
    exact m_zret C hM hS (Nat.le_of_ble_eq_true rfl) (Nat.le_of_ble_eq_true rfl) rfl dX2_hasSampleAt_40 ⟨by rw [b2_f (by omega)], hh⟩
  · -- 4 f
    have c_1 : ¬ n ≤ 0 := fun q => c_1 ((nI_leI (by omega) (by decide)).mpr q)
    have hTn := hT (n - 1) (by omega)
    refine lv_aload_n hx hb dX2_hasSampleAt_7 rfl (lv_at hl 0 rfl) ?_
    refine m_get Z C hM (hC.at (hs0)) K_X2 7 (by decide) fl_X2_42 (v := .int (nI n)) rfl dX2_hasSampleAt_8 ?_
    refine lv_aload_n hx hb dX2_hasSampleAt_11 rfl (lv_at hl 0 rfl) ?_
    refine m_get Z C hM (hC.at (hs0)) K_X2 2 (by decide) fl_X2_18 (v := .ref (A (cd (k + 1) 1 0))) rfl dX2_hasSampleAt_12 ?_
    refine m_alen (t0 := 1) Z C hM rfl (hC.at (ht0)) dX2_hasSampleAt_15 ?_
    refine W.eq (g2 := F0 mt 16 ls [.int (nI 120), .int (nI n)]) rfl ?_
    refine lv_icmp_gt (tgt := 39) hx hb dX2_hasSampleAt_16 (by decide) (fun c_2 => ?_) (fun c_2 => ?_)
    · -- 16 t
      have c_2 : 120 < n := (nI_ltI (by decide) (by omega)).mp c_2
      exact absurd hn (by omega)
    · -- 16 f
      have c_2 : ¬ 120 < n := fun q => c_2 ((nI_ltI (by decide) (by omega)).mpr q)
      refine lv_aload_n hx hb dX2_hasSampleAt_19 rfl (lv_at hl 0 rfl) ?_
      refine m_get Z C hM (hC.at (hs0)) K_X2 2 (by decide) fl_X2_18 (v := .ref (A (cd (k + 1) 1 0))) rfl dX2_hasSampleAt_20 ?_
      refine lv_aload_n hx hb dX2_hasSampleAt_23 rfl (lv_at hl 0 rfl) ?_
      refine m_get Z C hM (hC.at (hs0)) K_X2 7 (by decide) fl_X2_42 (v := .int (nI n)) rfl dX2_hasSampleAt_24 ?_
      refine lv_iconst (v := nI 1) hx hb dX2_hasSampleAt_27 (by decide) ?_
      refine n_isub hx hb (by omega) dX2_hasSampleAt_28 ?_
      refine m_lald Z C hM (f := fun k => lN (T k)) (hC.at (ht0)) (n - 1) rfl (by omega) (by decide) dX2_hasSampleAt_29 ?_
      refine lv_lload_n hx hb dX2_hasSampleAt_30 rfl (lv_at hl 1 rfl) ?_
      refine W.lcmp hx hb dX2_hasSampleAt_31 ?_
      refine n_lc_ne (tgt := 39) hx hb dX2_hasSampleAt_32 (by decide) (fun c_3 => ?_) (fun c_3 => ?_)
      · -- 32 t
        have c_3 : ¬ T (n - 1) = ti := fun q => c_3 ((lN_eq (by omega) (by omega)).mpr q)
        refine lv_iconst (v := nI 0) hx hb dX2_hasSampleAt_39 (by decide) ?_
        exact m_zret C hM hS (Nat.le_of_ble_eq_true rfl) (Nat.le_of_ble_eq_true rfl) rfl dX2_hasSampleAt_40 ⟨by rw [b2_f (by omega)], hh⟩
      · -- 32 f
        have c_3 : T (n - 1) = ti := (lN_eq (by omega) (by omega)).mp c_3
        refine lv_iconst (v := nI 1) hx hb dX2_hasSampleAt_35 (by decide) ?_
        refine lv_goto (tgt := 40) hx hb dX2_hasSampleAt_36 (by decide) ?_
        exact m_zret C hM hS (Nat.le_of_ble_eq_true rfl) (Nat.le_of_ble_eq_true rfl) rfl dX2_hasSampleAt_40 ⟨by rw [b2_t (by omega)], hh⟩
set_option maxRecDepth 100000 in
set_option maxHeartbeats 4000000 in
theorem c_X2_leastReaching {l : Launch} {G : mG} {a0 : Array Value} {s0 : State} (Z : mZ l G a0 s0) (h0 : Hp) (A : Cd → Nat) (tg : Nat → Cd) (sg : Cd → Option va_E) (hC : CW h0 A tg sg) (k : Nat) (t9 : Nat) (nm : Int32) (ho : Int32) (n : Nat) (av : Value) (S : Nat → Int32) (hs0 : sg (cd (k + 1) 0 0) = some (eO 2 [.int nm, .int ho, .ref (A (cd (k + 1) 1 0)), .ref (A (cd (k + 1) 2 0)), .ref (A (cd (k + 1) 3 0)), .ref (A (cd (k + 1) 4 0)), .ref (A (cd (k + 1) 5 0)), .int (nI n), av])) (hso : sg (cd (k + 1) 3 0) = some (eI G 120 (S))) (h1 : 1 ≤ t9) (h2 : t9 ≤ 120) : mM l G s0 yX2_leastReaching cX2_leastReaching 2 (some .int) 0 0 0 0 h0 [.ref (A (cd (k + 1) 0 0)), .int (nI t9)] (fun v h9 => (v = some (.int (S (t9 - 1))) ∧ h9 = h0)) := by
  refine mM_in RX2 "leastReaching" rfl rfl (by decide +kernel) (Nat.le_of_ble_eq_true rfl) ?_
  intro p e s mt below meth c H locs C hM hS ls hl
  have hx := C.1
  have hb := C.2.1
  have hown := C.2.2.2.1
  have hE := C.2.2.2.2.2.2.1
  have hl : lv_has ls 2 [(0, .ref (A (cd (k + 1) 0 0))), (1, .int (nI t9))] := hl
  obtain ⟨h, hh⟩ : ∃ z, z = h0 := ⟨_, rfl⟩
  rw [← hh] at hM hC
  refine lv_iload_n hx hb dX2_leastReaching_0 rfl (lv_at hl 1 rfl) ?_
  refine lv_iconst (v := nI 1) hx hb dX2_leastReaching_1 (by decide) ?_
  refine lv_icmp_lt (tgt := 25) hx hb dX2_leastReaching_2 (by decide) (fun c_1 => ?_) (fun c_1 => ?_)
  · -- 2 t
    have c_1 : t9 < 1 := (nI_ltI (by omega) (by decide)).mp c_1
    exact absurd h1 (by omega)
  · -- 2 f
    have c_1 : ¬ t9 < 1 := fun q => c_1 ((nI_ltI (by omega) (by decide)).mpr q)
    refine lv_iload_n hx hb dX2_leastReaching_5 rfl (lv_at hl 1 rfl) ?_
    refine lv_aload_n hx hb dX2_leastReaching_6 rfl (lv_at hl 0 rfl) ?_
    refine m_get Z C hM (hC.at (hs0)) K_X2 4 (by decide) fl_X2_26 (v := .ref (A (cd (k + 1) 3 0))) rfl dX2_leastReaching_7 ?_
    refine m_alen (t0 := 0) Z C hM rfl (hC.at (hso)) dX2_leastReaching_10 ?_
    refine W.eq (g2 := F0 mt 11 ls [.int (nI 120), .int (nI t9)]) rfl ?_
    refine lv_icmp_gt (tgt := 25) hx hb dX2_leastReaching_11 (by decide) (fun c_2 => ?_) (fun c_2 => ?_)
    · -- 11 t
      have c_2 : 120 < t9 := (nI_ltI (by decide) (by omega)).mp c_2
      exact absurd h2 (by omega)
    · -- 11 f
      have c_2 : ¬ 120 < t9 := fun q => c_2 ((nI_ltI (by decide) (by omega)).mpr q)
      refine lv_aload_n hx hb dX2_leastReaching_14 rfl (lv_at hl 0 rfl) ?_
      refine m_get Z C hM (hC.at (hs0)) K_X2 4 (by decide) fl_X2_26 (v := .ref (A (cd (k + 1) 3 0))) rfl dX2_leastReaching_15 ?_
      refine lv_iload_n hx hb dX2_leastReaching_18 rfl (lv_at hl 1 rfl) ?_
      refine lv_iconst (v := nI 1) hx hb dX2_leastReaching_19 (by decide) ?_
      refine n_isub hx hb (by omega) dX2_leastReaching_20 ?_
      refine m_iald Z C hM (f := S) (hC.at (hso)) (t9 - 1) rfl (by omega) (by decide) dX2_leastReaching_21 ?_
      refine lv_goto (tgt := 26) hx hb dX2_leastReaching_22 (by decide) ?_
      exact m_iret C hM hS (Nat.le_of_ble_eq_true rfl) (Nat.le_of_ble_eq_true rfl) dX2_leastReaching_26 ⟨rfl, hh⟩
set_option maxRecDepth 100000 in
set_option maxHeartbeats 4000000 in
theorem c_X2_rollupStart {l : Launch} {G : mG} {a0 : Array Value} {s0 : State} (Z : mZ l G a0 s0) (h0 : Hp) (x : Nat) (hx9 : x < 1073741824) : mM l G s0 yX2_rollupStart cX2_rollupStart 2 (some .long) 0 0 0 0 h0 [.long (lN x)] (fun v h9 => (v = some (.long (lN (x - x % 10))) ∧ h9 = h0)) := by
  refine mM_in RX2 "rollupStart" rfl rfl (by decide +kernel) (Nat.le_of_ble_eq_true rfl) ?_
  intro p e s mt below meth c H locs C hM hS ls hl
  have hx := C.1
  have hb := C.2.1
  have hown := C.2.2.2.1
  have hE := C.2.2.2.2.2.2.1
  have hl : lv_has ls 2 [(0, .long (lN x))] := hl
  obtain ⟨h, hh⟩ : ∃ z, z = h0 := ⟨_, rfl⟩
  rw [← hh] at hM
  refine lv_lload_n hx hb dX2_rollupStart_0 rfl (lv_at hl 0 rfl) ?_
  refine lv_lload_n hx hb dX2_rollupStart_1 rfl (lv_at hl 0 rfl) ?_
  refine lv_ldc2 (v := lN 10) hx hb hown (hE.good Z kl_X2_91 _) dX2_rollupStart_2 ?_
  refine n_lrem hx hb (by omega) (by decide) (by decide) dX2_rollupStart_5 ?_
  refine n_lsub hx hb (Nat.mod_le _ _) dX2_rollupStart_6 ?_
  exact m_lret C hM hS (Nat.le_of_ble_eq_true rfl) (Nat.le_of_ble_eq_true rfl) dX2_rollupStart_7 ⟨rfl, hh⟩
set_option maxRecDepth 100000 in
set_option maxHeartbeats 4000000 in
theorem c_X2_samplesUpTo {l : Launch} {G : mG} {a0 : Array Value} {s0 : State} (Z : mZ l G a0 s0) (h0 : Hp) (A : Cd → Nat) (tg : Nat → Cd) (sg : Cd → Option va_E) (hC : CW h0 A tg sg) (k : Nat) (x : Int32) (nm : Int32) (ho : Int32) (n : Nat) (av : Value) (S : Nat → Int32) (hs0 : sg (cd (k + 1) 0 0) = some (eO 2 [.int nm, .int ho, .ref (A (cd (k + 1) 1 0)), .ref (A (cd (k + 1) 2 0)), .ref (A (cd (k + 1) 3 0)), .ref (A (cd (k + 1) 4 0)), .ref (A (cd (k + 1) 5 0)), .int (nI n), av])) (hso : sg (cd (k + 1) 3 0) = some (eI G 120 (S))) (hn : n ≤ 120) : mM l G s0 yX2_samplesUpTo cX2_samplesUpTo 3 (some .int) 0 0 0 0 h0 [.ref (A (cd (k + 1) 0 0)), .int x] (fun v h9 => (∃ r : Nat, (r ≤ n) ∧ (∀ i : Nat, i < r → S i ≤ x) ∧ (r < n → ¬ S r ≤ x) ∧ v = some (.int (nI r)) ∧ h9 = h0)) := by
  refine mM_in RX2 "samplesUpTo" rfl rfl (by decide +kernel) (Nat.le_of_ble_eq_true rfl) ?_
  intro p e s mt below meth c H locs C hM hS ls hl
  have hx := C.1
  have hb := C.2.1
  have hown := C.2.2.2.1
  have hE := C.2.2.2.2.2.2.1
  have hl : lv_has ls 3 [(0, .ref (A (cd (k + 1) 0 0))), (1, .int x)] := hl
  obtain ⟨h, hh⟩ : ∃ z, z = h0 := ⟨_, rfl⟩
  rw [← hh] at hM hC
  refine lv_iconst (v := nI 0) hx hb dX2_samplesUpTo_0 (by decide) ?_
  refine lv_istore_n (lv' := [(2, .int (nI 0)), (0, .ref (A (cd (k + 1) 0 0))), (1, .int x)]) hx hb dX2_samplesUpTo_1 rfl hl (by decide) rfl (fun ls hl => ?_)
  have lp_1 : ∀ (fu : Nat) (r : Nat), n < r + fu → r ≤ n → (∀ i : Nat, i < r → S i ≤ x) → ∀ (H : Heap) (locs : List Loc), MW G s0.heap.size h H → va_S (fun q => s0.heap.size ≤ q) s.heap H locs → ∀ ls : Array Slot, lv_has ls 3 [(2, .int (nI r)), (0, .ref (A (cd (k + 1) 0 0))), (1, .int x)] → W p l e (mRm 0 0 0 0) s mt ([.ref (A (cd (k + 1) 0 0)), .int x] : List Value).toArray below meth c H locs 0 0 (MQ below (mQc G s0 (fun v h9 => (∃ r : Nat, (r ≤ n) ∧ (∀ i : Nat, i < r → S i ≤ x) ∧ (r < n → ¬ S r ≤ x) ∧ v = some (.int (nI r)) ∧ h9 = h0))) ([.ref (A (cd (k + 1) 0 0)), .int x] : List Value).toArray s 0 0 (fun q => s0.heap.size ≤ q)) (F0 mt 2 ls []) := by
    intro fu
    induction fu with
    | zero => intro r hfu _ _; exact absurd hfu (by omega)
    | succ fu ih =>
      intro r hfu hr hle H locs hM hS ls hl
      refine lv_iload_n hx hb dX2_samplesUpTo_2 rfl (lv_at hl 0 rfl) ?_
      refine lv_aload_n hx hb dX2_samplesUpTo_3 rfl (lv_at hl 1 rfl) ?_
      refine m_get Z C hM (hC.at (hs0)) K_X2 7 (by decide) fl_X2_42 (v := .int (nI n)) rfl dX2_samplesUpTo_4 ?_
      refine lv_icmp_ge (tgt := 35) hx hb dX2_samplesUpTo_7 (by decide) (fun c_2 => ?_) (fun c_2 => ?_)
      · -- 7 t
        have c_2 : n ≤ r := (nI_leI (by omega) (by omega)).mp c_2
        refine lv_iload_n hx hb dX2_samplesUpTo_35 rfl (lv_at hl 0 rfl) ?_
        exact m_iret C hM hS (Nat.le_of_ble_eq_true rfl) (Nat.le_of_ble_eq_true rfl) dX2_samplesUpTo_36 ⟨r, hr, hle, (fun q => absurd q (by omega)), rfl, hh⟩
      · -- 7 f
        have c_2 : ¬ n ≤ r := fun q => c_2 ((nI_leI (by omega) (by omega)).mpr q)
        refine lv_iload_n hx hb dX2_samplesUpTo_10 rfl (lv_at hl 0 rfl) ?_
        refine lv_aload_n hx hb dX2_samplesUpTo_11 rfl (lv_at hl 1 rfl) ?_
        refine m_get Z C hM (hC.at (hs0)) K_X2 4 (by decide) fl_X2_26 (v := .ref (A (cd (k + 1) 3 0))) rfl dX2_samplesUpTo_12 ?_
        refine m_alen (t0 := 0) Z C hM rfl (hC.at (hso)) dX2_samplesUpTo_15 ?_
        refine W.eq (g2 := F0 mt 16 ls [.int (nI 120), .int (nI r)]) rfl ?_
        refine lv_icmp_ge (tgt := 35) hx hb dX2_samplesUpTo_16 (by decide) (fun c_3 => ?_) (fun c_3 => ?_)
        · -- 16 t
          have c_3 : 120 ≤ r := (nI_leI (by decide) (by omega)).mp c_3
          refine lv_iload_n hx hb dX2_samplesUpTo_35 rfl (lv_at hl 0 rfl) ?_
          exact m_iret C hM hS (Nat.le_of_ble_eq_true rfl) (Nat.le_of_ble_eq_true rfl) dX2_samplesUpTo_36 ⟨r, hr, hle, (fun q => absurd q (by omega)), rfl, hh⟩
        · -- 16 f
          have c_3 : ¬ 120 ≤ r := fun q => c_3 ((nI_leI (by decide) (by omega)).mpr q)
          refine lv_aload_n hx hb dX2_samplesUpTo_19 rfl (lv_at hl 1 rfl) ?_
          refine m_get Z C hM (hC.at (hs0)) K_X2 4 (by decide) fl_X2_26 (v := .ref (A (cd (k + 1) 3 0))) rfl dX2_samplesUpTo_20 ?_
          refine lv_iload_n hx hb dX2_samplesUpTo_23 rfl (lv_at hl 0 rfl) ?_
          refine m_iald Z C hM (f := S) (hC.at (hso)) r rfl (by omega) (by decide) dX2_samplesUpTo_24 ?_
          refine lv_iload_n hx hb dX2_samplesUpTo_25 rfl (lv_at hl 2 rfl) ?_
          refine lv_icmp_gt (tgt := 35) hx hb dX2_samplesUpTo_26 (by decide) (fun c_4 => ?_) (fun c_4 => ?_)
          · -- 26 t
            refine lv_iload_n hx hb dX2_samplesUpTo_35 rfl (lv_at hl 0 rfl) ?_
            exact m_iret C hM hS (Nat.le_of_ble_eq_true rfl) (Nat.le_of_ble_eq_true rfl) dX2_samplesUpTo_36 ⟨r, hr, hle, (fun _ => i_ltn c_4), rfl, hh⟩
          · -- 26 f
            refine lv_iinc (v := nI (r + 1)) (lv' := [(2, .int (nI (r + 1))), (0, .ref (A (cd (k + 1) 0 0))), (1, .int x)]) hx hb dX2_samplesUpTo_29 hl (k := 0) rfl (nI_add _ _) (by decide) rfl (fun ls hl => ?_)
            refine lv_goto (tgt := 2) hx hb dX2_samplesUpTo_32 (by decide) ?_
            exact ih (r + 1) (by omega) (by omega) (lt_s hle (i_nlt c_4)) H locs hM hS ls (lv_sub hl [0, 1, 2] rfl)
  exact lp_1 (n + 1) 0 (by omega) (by omega) (fun i hi => absurd hi (Nat.not_lt_zero i)) H locs hM hS ls (lv_sub hl [0, 1, 2] rfl)
