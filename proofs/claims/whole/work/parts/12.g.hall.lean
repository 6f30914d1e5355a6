set_option maxRecDepth 100000 in
set_option maxHeartbeats 4000000 in
theorem c_X5_numberWith {l : Launch} {G : mG} {a0 : Array Value} {s0 : State} (Z : mZ l G a0 s0) (h0 : Hp) (A : Cd → Nat) (tg : Nat → Cd) (st : Ms) (X : Nat → Xs) (fd : Nat) (tt : Int64) (gr : Int32) (hC : CW h0 A tg (clS G A (st_many st) (st_now st) X fd tt gr)) (hk : Iv st) (hR : ∀ k : Nat, k < st_many st → Rx st k (X k)) (a : Int32) (d : Int32) : mM l G s0 yX5_numberWith cX5_numberWith 5 (some .int) 0 0 0 0 h0 [.ref (A (cd 0 1 0)), .int a, .int d] (fun v9 h9 => (∃ k : Nat, (k < st_many st) ∧ (st_nm st k = a ∧ st_ho st k = d) ∧ (∀ j : Nat, j < k → ¬ (st_nm st j = a ∧ st_ho st j = d)) ∧ v9 = some (.int (nI k)) ∧ h9 = h0) ∨ ((∀ j : Nat, j < st_many st → ¬ (st_nm st j = a ∧ st_ho st j = d)) ∧ v9 = some (.int ((-1))) ∧ h9 = h0)) := by
  refine mM_in RX5 "numberWith" rfl rfl (by decide +kernel) (Nat.le_of_ble_eq_true rfl) ?_
  intro p e s mt below meth c H locs C hM hS ls hl
  have hx := C.1
  have hb := C.2.1
  have hown := C.2.2.2.1
  have hE := C.2.2.2.2.2.2.1
  have hl : lv_has ls 5 [(0, .ref (A (cd 0 1 0))), (1, .int a), (2, .int d)] := hl
  have hF : cFr h0 tg h0 tg := cFr.rf
  obtain ⟨h, hM, hC, hF, hh⟩ : ∃ h9, MW G s0.heap.size h9 H ∧ CW h9 A tg (clS G A (st_many st) (st_now st) X fd tt gr) ∧ cFr h0 tg h9 tg ∧ h9 = h0 := ⟨_, hM, hC, hF, rfl⟩
  have hm10 := hk.m10
  refine lv_iconst (v := nI 0) hx hb dX5_numberWith_0 (by decide) ?_
  refine lv_istore_n (lv' := [(3, .int (nI 0)), (0, .ref (A (cd 0 1 0))), (1, .int a), (2, .int d)]) hx hb dX5_numberWith_1 rfl hl (by decide) rfl (fun ls hl => ?_)
  have lp_1 : ∀ (fu : Nat) (y : Nat), 10 < y + fu → y ≤ 10 → (∀ j : Nat, j < y → j < st_many st → ¬ (st_nm st j = a ∧ st_ho st j = d)) → ∀ (H : Heap) (locs : List Loc), MW G s0.heap.size h H → va_S (fun q => s0.heap.size ≤ q) s.heap H locs → ∀ ls : Array Slot, lv_has ls 5 [(3, .int (nI y)), (0, .ref (A (cd 0 1 0))), (1, .int a), (2, .int d)] → W p l e (mRm 0 0 0 0) s mt ([.ref (A (cd 0 1 0)), .int a, .int d] : List Value).toArray below meth c H locs 0 0 (MQ below (mQc G s0 (fun v9 h9 => (∃ k : Nat, (k < st_many st) ∧ (st_nm st k = a ∧ st_ho st k = d) ∧ (∀ j : Nat, j < k → ¬ (st_nm st j = a ∧ st_ho st j = d)) ∧ v9 = some (.int (nI k)) ∧ h9 = h0) ∨ ((∀ j : Nat, j < st_many st → ¬ (st_nm st j = a ∧ st_ho st j = d)) ∧ v9 = some (.int ((-1))) ∧ h9 = h0))) ([.ref (A (cd 0 1 0)), .int a, .int d] : List Value).toArray s 0 0 (fun q => s0.heap.size ≤ q)) (F0 mt 2 ls []) := by
    intro fu
    induction fu with
    | zero => intro y hfu _ _; exact absurd hfu (by omega)
    | succ fu ih =>
      intro y hfu hy hno H locs hM hS ls hl
      refine lv_iload_n hx hb dX5_numberWith_2 rfl (lv_at hl 0 rfl) ?_
      refine lv_aload_n hx hb dX5_numberWith_3 rfl (lv_at hl 1 rfl) ?_
      refine m_get Z C hM (hC.at (clS_h)) K_X5 0 (by decide) fl_X5_11 (v := .ref (A (cd 0 2 0))) rfl dX5_numberWith_4 ?_
      refine m_alen (t0 := 3) Z C hM rfl (hC.at (clS_r)) dX5_numberWith_7 ?_
      refine W.eq (g2 := F0 mt 8 ls [.int (nI 10), .int (nI y)]) rfl ?_
      refine lv_icmp_ge (tgt := 50) hx hb dX5_numberWith_8 (by decide) (fun c_2 => ?_) (fun c_2 => ?_)
      · -- 8 t
        have c_2 : 10 ≤ y := (nI_leI (by decide) (by omega)).mp c_2
        refine lv_iconst (v := -1) hx hb dX5_numberWith_50 (by decide) ?_
        exact m_iret C hM hS (Nat.le_of_ble_eq_true rfl) (Nat.le_of_ble_eq_true rfl) dX5_numberWith_51 (Or.inr ⟨(fun j hj => hno j (by omega) hj), rfl, hh⟩)
      · -- 8 f
        have c_2 : ¬ 10 ≤ y := fun q => c_2 ((nI_leI (by decide) (by omega)).mpr q)
        rcases Nat.lt_or_ge y (st_many st) with hyn | hyn
        · -- lt
          obtain ⟨T, U, F, al, hXk, hRi⟩ := hR y hyn
          have hn := hk.n hyn
          obtain ⟨hT, hU, hUr, hRw, hEr, hFs, hal⟩ := hRi
          have hTb : ∀ i : Nat, i < st_n st y → T i < 1073741824 := fun i hi => by rw [hT i hi]; exact hk.T hyn hi
          refine lv_aload_n hx hb dX5_numberWith_11 rfl (lv_at hl 1 rfl) ?_
          refine m_get Z C hM (hC.at (clS_h)) K_X5 0 (by decide) fl_X5_11 (v := .ref (A (cd 0 2 0))) rfl dX5_numberWith_12 ?_
          refine lv_iload_n hx hb dX5_numberWith_15 rfl (lv_at hl 0 rfl) ?_
          refine m_sald Z C hM (hC.at (clS_r)) y rfl (by omega) (by decide) (v := .ref (A (cd (y + 1) 0 0))) (rwL_at (by omega)) dX5_numberWith_16 ?_
          refine lv_astore (lv' := [(4, .ref (A (cd (y + 1) 0 0))), (3, .int (nI y)), (0, .ref (A (cd 0 1 0))), (1, .int a), (2, .int d)]) hx hb dX5_numberWith_17 hl (by decide) rfl (fun ls hl => ?_)
          refine lv_aload hx hb dX5_numberWith_19 (lv_at hl 0 rfl) ?_
          refine lv_ifnull hx hb dX5_numberWith_21 ?_
          refine lv_aload hx hb dX5_numberWith_24 (lv_at hl 0 rfl) ?_
          refine m_getN Z C hM (hC.at ((clS_at hyn hXk srS_0))) K_X2 0 (by decide) fn_X5_90 (v := .int (st_nm st y)) rfl dX5_numberWith_26 ?_
          refine lv_iload_n hx hb dX5_numberWith_29 rfl (lv_at hl 3 rfl) ?_
          refine lv_icmp_ne (tgt := 44) hx hb dX5_numberWith_30 (by decide) (fun c_4 => ?_) (fun c_4 => ?_)
          · -- 30 t
            refine lv_iinc (v := nI (y + 1)) (lv' := [(3, .int (nI (y + 1))), (4, .ref (A (cd (y + 1) 0 0))), (0, .ref (A (cd 0 1 0))), (1, .int a), (2, .int d)]) hx hb dX5_numberWith_44 hl (k := 1) rfl (nI_add _ _) (by decide) rfl (fun ls hl => ?_)
            refine lv_goto (tgt := 2) hx hb dX5_numberWith_47 (by decide) ?_
            exact ih (y + 1) (by omega) (by omega) (lt_s hno (fun _ q => c_4 q.1)) H locs hM hS ls (lv_sub hl [0, 2, 3, 4] rfl)
          · -- 30 f
            refine lv_aload hx hb dX5_numberWith_33 (lv_at hl 0 rfl) ?_
            refine m_getN Z C hM (hC.at ((clS_at hyn hXk srS_0))) K_X2 1 (by decide) fn_X5_93 (v := .int (st_ho st y)) rfl dX5_numberWith_35 ?_
            refine lv_iload_n hx hb dX5_numberWith_38 rfl (lv_at hl 4 rfl) ?_
            refine lv_icmp_ne (tgt := 44) hx hb dX5_numberWith_39 (by decide) (fun c_5 => ?_) (fun c_5 => ?_)
            · -- 39 t
              refine lv_iinc (v := nI (y + 1)) (lv' := [(3, .int (nI (y + 1))), (4, .ref (A (cd (y + 1) 0 0))), (0, .ref (A (cd 0 1 0))), (1, .int a), (2, .int d)]) hx hb dX5_numberWith_44 hl (k := 1) rfl (nI_add _ _) (by decide) rfl (fun ls hl => ?_)
              refine lv_goto (tgt := 2) hx hb dX5_numberWith_47 (by decide) ?_
              exact ih (y + 1) (by omega) (by omega) (lt_s hno (fun _ q => c_5 q.2)) H locs hM hS ls (lv_sub hl [0, 2, 3, 4] rfl)
            · -- 39 f
              refine lv_iload_n hx hb dX5_numberWith_42 rfl (lv_at hl 1 rfl) ?_
              exact m_iret C hM hS (Nat.le_of_ble_eq_true rfl) (Nat.le_of_ble_eq_true rfl) dX5_numberWith_43 (Or.inl ⟨y, hyn, ⟨c_4, c_5⟩, (fun j hj => hno j hj (by omega)), rfl, hh⟩)
        · -- ge
          refine lv_aload_n hx hb dX5_numberWith_11 rfl (lv_at hl 1 rfl) ?_
          refine m_get Z C hM (hC.at (clS_h)) K_X5 0 (by decide) fl_X5_11 (v := .ref (A (cd 0 2 0))) rfl dX5_numberWith_12 ?_
          refine lv_iload_n hx hb dX5_numberWith_15 rfl (lv_at hl 0 rfl) ?_
          refine m_sald Z C hM (hC.at (clS_r)) y rfl (by omega) (by decide) (v := .null) (rwL_no (by omega)) dX5_numberWith_16 ?_
          refine lv_astoreN (lv' := [(4, .null), (3, .int (nI y)), (0, .ref (A (cd 0 1 0))), (1, .int a), (2, .int d)]) hx hb dX5_numberWith_17 hl (by decide) rfl (fun ls hl => ?_)
          refine lv_aloadN hx hb dX5_numberWith_19 (lv_at hl 0 rfl) ?_
          refine lv_ifnullN (tgt := 44) hx hb dX5_numberWith_21 (by decide) ?_
          refine lv_iinc (v := nI (y + 1)) (lv' := [(3, .int (nI (y + 1))), (4, .null), (0, .ref (A (cd 0 1 0))), (1, .int a), (2, .int d)]) hx hb dX5_numberWith_44 hl (k := 1) rfl (nI_add _ _) (by decide) rfl (fun ls hl => ?_)
          refine lv_goto (tgt := 2) hx hb dX5_numberWith_47 (by decide) ?_
          exact ih (y + 1) (by omega) (by omega) (lt_s hno (fun q => absurd q (by omega))) H locs hM hS ls (lv_sub hl [0, 2, 3, 4] rfl)
  exact lp_1 11 0 (by omega) (by omega) (fun j hj => absurd hj (Nat.not_lt_zero j)) H locs hM hS ls (lv_sub hl [0, 1, 2, 3] rfl)
set_option maxRecDepth 100000 in
set_option maxHeartbeats 4000000 in
theorem c_X5_find {l : Launch} {G : mG} {a0 : Array Value} {s0 : State} (Z : mZ l G a0 s0) (h0 : Hp) (A : Cd → Nat) (tg : Nat → Cd) (st : Ms) (X : Nat → Xs) (fd : Nat) (tt : Int64) (gr : Int32) (hC : CW h0 A tg (clS G A (st_many st) (st_now st) X fd tt gr)) (hk : Iv st) (hR : ∀ k : Nat, k < st_many st → Rx st k (X k)) (a : Int32) (d : Int32) : mT l G s0 yX5_find cX5_find 4 (some .int) 6 90 1 6 h0 [.ref (A (cd 0 1 0)), .int a, .int d] (fun v9 h9 => (∃ k : Nat, (k < st_many st) ∧ (st_nm st k = a ∧ st_ho st k = d) ∧ (∀ j : Nat, j < k → ¬ (st_nm st j = a ∧ st_ho st j = d)) ∧ v9 = some (.int (nI k)) ∧ NW G h0 h9 A tg st)) (fun E h9 => (E = "java/util/NoSuchElementException" ∧ (∀ j : Nat, j < st_many st → ¬ (st_nm st j = a ∧ st_ho st j = d)) ∧ NW G h0 h9 A tg st)) := by
  refine mT_in RX5 "find" rfl rfl (by decide +kernel) (Nat.le_of_ble_eq_true rfl) ?_
  intro p e s mt below meth c H locs C ht hM hS ls hl
  have hx := C.1
  have hb := C.2.1
  have hown := C.2.2.2.1
  have hE := C.2.2.2.2.2.2.1
  have hl : lv_has ls 4 [(0, .ref (A (cd 0 1 0))), (1, .int a), (2, .int d)] := hl
  have hF : cFr h0 tg h0 tg := cFr.rf
  obtain ⟨h, hM, hC, hF, hh⟩ : ∃ h9, MW G s0.heap.size h9 H ∧ CW h9 A tg (clS G A (st_many st) (st_now st) X fd tt gr) ∧ cFr h0 tg h9 tg ∧ h9 = h0 := ⟨_, hM, hC, hF, rfl⟩
  have hm10 := hk.m10
  refine lv_aload_n hx hb dX5_find_0 rfl (lv_at hl 0 rfl) ?_
  refine lv_iload_n hx hb dX5_find_1 rfl (lv_at hl 1 rfl) ?_
  refine lv_iload_n hx hb dX5_find_2 rfl (lv_at hl 2 rfl) ?_
  refine m_callV Z C hM hS (As := [.int a, .int d]) (rest := []) (c_X5_numberWith Z h A tg st X fd tt gr hC hk hR a d) yi_X5_numberWith ml_X5_41 (hC.at (clS_h)) rfl ⟨Nat.le_of_ble_eq_true rfl, Nat.le_of_ble_eq_true rfl⟩ (Nat.le_of_ble_eq_true rfl) hl.1 rfl rfl dX5_find_3 ⟨Nat.le_of_ble_eq_true rfl, Nat.le_of_ble_eq_true rfl⟩ (fun v h9 H locs hv hM hS => ?_)
  rcases hv with ⟨k_1, f_2, f_3, f_4, hv, hh9⟩ | ⟨f_5, hv, hh9⟩
  · -- of 3
    subst hv
    rw [hh9] at hM
    refine W.eq (g2 := F0 mt 6 ls [.int (nI k_1)]) rfl ?_
    refine lv_istore_n (lv' := [(3, .int (nI k_1)), (0, .ref (A (cd 0 1 0))), (1, .int a), (2, .int d)]) hx hb dX5_find_6 rfl hl (by decide) rfl (fun ls hl => ?_)
    refine lv_iload_n hx hb dX5_find_7 rfl (lv_at hl 0 rfl) ?_
    refine lv_if_ge (tgt := 21) hx hb dX5_find_8 (by decide) (fun _ => ?_) (fun q => absurd (nI_pos' (by omega)) q)
    refine lv_iload_n hx hb dX5_find_21 rfl (lv_at hl 0 rfl) ?_
    refine vx_ret ?_
    exact m_iret C hM hS (Nat.le_of_ble_eq_true rfl) (Nat.le_of_ble_eq_true rfl) dX5_find_22 ⟨k_1, f_2, f_3, f_4, rfl, ⟨A, tg, X, _, _, _, rfl, hC, hF, hR⟩⟩
  · -- of 3
    subst hv
    rw [hh9] at hM
    refine W.eq (g2 := F0 mt 6 ls [.int ((-1))]) rfl ?_
    refine lv_istore_n (lv' := [(3, .int ((-1))), (0, .ref (A (cd 0 1 0))), (1, .int a), (2, .int d)]) hx hb dX5_find_6 rfl hl (by decide) rfl (fun ls hl => ?_)
    refine lv_iload_n hx hb dX5_find_7 rfl (lv_at hl 0 rfl) ?_
    refine lv_if_ge (tgt := 21) hx hb dX5_find_8 (by decide) (fun q => absurd q (by decide)) (fun _ => ?_)
    exact m_throwX Z C ht hM hS xy_X5_find_11 hl.1 dX5_find_11 dX5_find_14 dX5_find_15 dX5_find_17 dX5_find_20 ⟨Nat.le_of_ble_eq_true rfl, Nat.le_of_ble_eq_true rfl, Nat.le_of_ble_eq_true rfl, Nat.le_of_ble_eq_true rfl⟩ (Nat.le_of_ble_eq_true rfl) (Nat.le_of_ble_eq_true rfl) ⟨rfl, f_5, ⟨A, tg, X, _, _, _, rfl, hC, hF, hR⟩⟩
set_option maxRecDepth 100000 in
set_option maxHeartbeats 4000000 in
theorem c_X5_rowWithSamples {l : Launch} {G : mG} {a0 : Array Value} {s0 : State} (Z : mZ l G a0 s0) (h0 : Hp) (A : Cd → Nat) (tg : Nat → Cd) (st : Ms) (X : Nat → Xs) (fd : Nat) (tt : Int64) (gr : Int32) (hC : CW h0 A tg (clS G A (st_many st) (st_now st) X fd tt gr)) (hk : Iv st) (hR : ∀ k : Nat, k < st_many st → Rx st k (X k)) (a : Int32) (w : Nat) : mM l G s0 yX5_rowWithSamples cX5_rowWithSamples 5 (some (.object "GaugeHall$Series")) 1 24 0 0 h0 [.ref (A (cd 0 1 0)), .int a, .int (nI w)] (fun v9 h9 => (∃ k : Nat, (k < st_many st) ∧ (z_f st a (nI w) = k) ∧ (0 < st_n st k) ∧ v9 = some (.ref (A (cd (k + 1) 0 0))) ∧ h9 = h0) ∨ ((¬ (z_f st a (nI w) < st_many st ∧ 0 < st_n st (z_f st a (nI w)))) ∧ v9 = some (.null) ∧ h9 = h0)) := by
  refine mM_in RX5 "rowWithSamples" rfl rfl (by decide +kernel) (Nat.le_of_ble_eq_true rfl) ?_
  intro p e s mt below meth c H locs C hM hS ls hl
  have hx := C.1
  have hb := C.2.1
  have hown := C.2.2.2.1
  have hE := C.2.2.2.2.2.2.1
  have hl : lv_has ls 5 [(0, .ref (A (cd 0 1 0))), (1, .int a), (2, .int (nI w))] := hl
  have hF : cFr h0 tg h0 tg := cFr.rf
  obtain ⟨h, hM, hC, hF, hh⟩ : ∃ h9, MW G s0.heap.size h9 H ∧ CW h9 A tg (clS G A (st_many st) (st_now st) X fd tt gr) ∧ cFr h0 tg h9 tg ∧ h9 = h0 := ⟨_, hM, hC, hF, rfl⟩
  have hm10 := hk.m10
  refine lv_aload_n hx hb dX5_rowWithSamples_0 rfl (lv_at hl 0 rfl) ?_
  refine lv_iload_n hx hb dX5_rowWithSamples_1 rfl (lv_at hl 1 rfl) ?_
  refine lv_iload_n hx hb dX5_rowWithSamples_2 rfl (lv_at hl 2 rfl) ?_
  refine m_callV Z C hM hS (As := [.int a, .int (nI w)]) (rest := []) (c_X5_numberWith Z h A tg st X fd tt gr hC hk hR a (nI w)) yi_X5_numberWith ml_X5_41 (hC.at (clS_h)) rfl ⟨Nat.le_of_ble_eq_true rfl, Nat.le_of_ble_eq_true rfl⟩ (Nat.le_of_ble_eq_true rfl) hl.1 rfl rfl dX5_rowWithSamples_3 ⟨Nat.le_of_ble_eq_true rfl, Nat.le_of_ble_eq_true rfl⟩ (fun v h9 H locs hv hM hS => ?_)
  rcases hv with ⟨k_1, f_2, f_3, f_4, hv, hh9⟩ | ⟨f_5, hv, hh9⟩
  · -- of 3
    subst hv
    rw [hh9] at hM
    have hzf := f_at f_2 f_3 f_4
    obtain ⟨T, U, F, al, hXk, hRi⟩ := hR k_1 f_2
    have hn := hk.n f_2
    obtain ⟨hT, hU, hUr, hRw, hEr, hFs, hal⟩ := hRi
    have hTb : ∀ i : Nat, i < st_n st k_1 → T i < 1073741824 := fun i hi => by rw [hT i hi]; exact hk.T f_2 hi
    have hn9 := f_2
    refine W.eq (g2 := F0 mt 6 ls [.int (nI k_1)]) rfl ?_
    refine lv_istore_n (lv' := [(3, .int (nI k_1)), (0, .ref (A (cd 0 1 0))), (1, .int a), (2, .int (nI w))]) hx hb dX5_rowWithSamples_6 rfl hl (by decide) rfl (fun ls hl => ?_)
    refine lv_iload_n hx hb dX5_rowWithSamples_7 rfl (lv_at hl 0 rfl) ?_
    refine lv_if_lt (tgt := 29) hx hb dX5_rowWithSamples_8 (by decide) (fun q => absurd q (nI_pos (by omega))) (fun _ => ?_)
    refine lv_iload_n hx hb dX5_rowWithSamples_11 rfl (lv_at hl 0 rfl) ?_
    refine lv_aload_n hx hb dX5_rowWithSamples_12 rfl (lv_at hl 1 rfl) ?_
    refine m_get Z C hM (hC.at (clS_h)) K_X5 0 (by decide) fl_X5_11 (v := .ref (A (cd 0 2 0))) rfl dX5_rowWithSamples_13 ?_
    refine m_alen (t0 := 3) Z C hM rfl (hC.at (clS_r)) dX5_rowWithSamples_16 ?_
    refine W.eq (g2 := F0 mt 17 ls [.int (nI 10), .int (nI k_1)]) rfl ?_
    refine lv_icmp_ge (tgt := 29) hx hb dX5_rowWithSamples_17 (by decide) (fun c_7 => ?_) (fun c_7 => ?_)
    · -- 17 t
      have c_7 : 10 ≤ k_1 := (nI_leI (by decide) (by omega)).mp c_7
      exact absurd hn9 (by omega)
    · -- 17 f
      have c_7 : ¬ 10 ≤ k_1 := fun q => c_7 ((nI_leI (by decide) (by omega)).mpr q)
      refine lv_aload_n hx hb dX5_rowWithSamples_20 rfl (lv_at hl 1 rfl) ?_
      refine m_get Z C hM (hC.at (clS_h)) K_X5 0 (by decide) fl_X5_11 (v := .ref (A (cd 0 2 0))) rfl dX5_rowWithSamples_21 ?_
      refine lv_iload_n hx hb dX5_rowWithSamples_24 rfl (lv_at hl 0 rfl) ?_
      refine m_sald Z C hM (hC.at (clS_r)) k_1 rfl (by omega) (by decide) (v := .ref (A (cd (k_1 + 1) 0 0))) (rwL_at (by omega)) dX5_rowWithSamples_25 ?_
      refine lv_goto (tgt := 30) hx hb dX5_rowWithSamples_26 (by decide) ?_
      refine lv_astore (lv' := [(4, .ref (A (cd (k_1 + 1) 0 0))), (3, .int (nI k_1)), (0, .ref (A (cd 0 1 0))), (1, .int a), (2, .int (nI w))]) hx hb dX5_rowWithSamples_30 hl (by decide) rfl (fun ls hl => ?_)
      refine lv_aload hx hb dX5_rowWithSamples_32 (lv_at hl 0 rfl) ?_
      refine lv_ifnull hx hb dX5_rowWithSamples_34 ?_
      refine lv_aload hx hb dX5_rowWithSamples_37 (lv_at hl 0 rfl) ?_
      refine m_getN Z C hM (hC.at ((clS_at f_2 hXk srS_0))) K_X2 7 (by decide) fn_X5_82 (v := .int (nI (st_n st k_1))) rfl dX5_rowWithSamples_39 ?_
      refine lv_if_le (tgt := 50) hx hb dX5_rowWithSamples_42 (by decide) (fun c_9 => ?_) (fun c_9 => ?_)
      · -- 42 t
        have c_9 : st_n st k_1 ≤ 0 := (nI_leI (by omega) (by decide)).mp c_9
        refine lv_null hx hb dX5_rowWithSamples_50 ?_
        exact m_aretN C hM hS (Nat.le_of_ble_eq_true rfl) (Nat.le_of_ble_eq_true rfl) dX5_rowWithSamples_51 (Or.inr ⟨(by rw [hzf]; omega), rfl, hh⟩)
      · -- 42 f
        have c_9 : ¬ st_n st k_1 ≤ 0 := fun q => c_9 ((nI_leI (by omega) (by decide)).mpr q)
        refine lv_aload hx hb dX5_rowWithSamples_45 (lv_at hl 0 rfl) ?_
        refine lv_goto (tgt := 51) hx hb dX5_rowWithSamples_47 (by decide) ?_
        exact m_aret C hM hS (Nat.le_of_ble_eq_true rfl) (Nat.le_of_ble_eq_true rfl) dX5_rowWithSamples_51 (Or.inl ⟨k_1, hn9, hzf, (by omega), rfl, hh⟩)
  · -- of 3
    subst hv
    rw [hh9] at hM
    have hzf := f_no f_5
    refine W.eq (g2 := F0 mt 6 ls [.int ((-1))]) rfl ?_
    refine lv_istore_n (lv' := [(3, .int ((-1))), (0, .ref (A (cd 0 1 0))), (1, .int a), (2, .int (nI w))]) hx hb dX5_rowWithSamples_6 rfl hl (by decide) rfl (fun ls hl => ?_)
    refine lv_iload_n hx hb dX5_rowWithSamples_7 rfl (lv_at hl 0 rfl) ?_
    refine lv_if_lt (tgt := 29) hx hb dX5_rowWithSamples_8 (by decide) (fun _ => ?_) (fun q => absurd (by decide) q)
    refine lv_null hx hb dX5_rowWithSamples_29 ?_
    refine lv_astoreN (lv' := [(4, .null), (3, .int ((-1))), (0, .ref (A (cd 0 1 0))), (1, .int a), (2, .int (nI w))]) hx hb dX5_rowWithSamples_30 hl (by decide) rfl (fun ls hl => ?_)
    refine lv_aloadN hx hb dX5_rowWithSamples_32 (lv_at hl 0 rfl) ?_
    refine lv_ifnullN (tgt := 50) hx hb dX5_rowWithSamples_34 (by decide) ?_
    refine lv_null hx hb dX5_rowWithSamples_50 ?_
    exact m_aretN C hM hS (Nat.le_of_ble_eq_true rfl) (Nat.le_of_ble_eq_true rfl) dX5_rowWithSamples_51 (Or.inr ⟨(by rw [hzf]; omega), rfl, hh⟩)
set_option maxRecDepth 100000 in
set_option maxHeartbeats 4000000 in
theorem c_X5_joinCount {l : Launch} {G : mG} {a0 : Array Value} {s0 : State} (Z : mZ l G a0 s0) (h0 : Hp) (A : Cd → Nat) (tg : Nat → Cd) (st : Ms) (X : Nat → Xs) (fd : Nat) (tt : Int64) (gr : Int32) (hC : CW h0 A tg (clS G A (st_many st) (st_now st) X fd tt gr)) (hk : Iv st) (hR : ∀ k : Nat, k < st_many st → Rx st k (X k)) (a : Int32) (d : Int32) : mT l G s0 yX5_joinCount cX5_joinCount 5 (some .int) 7 111 1 6 h0 [.ref (A (cd 0 1 0)), .int a, .int d] (fun v9 h9 => ((nI 0 ≤ a ∧ a ≤ nI 9) ∧ (nI 0 ≤ d ∧ d ≤ nI 9) ∧ v9 = some (.int (nI (z_ct (z_jp st a d) 10))) ∧ NW G h0 h9 A tg st)) (fun E h9 => (E = "java/lang/IllegalArgumentException" ∧ (¬ ((nI 0 ≤ a ∧ a ≤ nI 9) ∧ (nI 0 ≤ d ∧ d ≤ nI 9))) ∧ NW G h0 h9 A tg st)) := by
  refine mT_in RX5 "joinCount" rfl rfl (by decide +kernel) (Nat.le_of_ble_eq_true rfl) ?_
  intro p e s mt below meth c H locs C ht hM hS ls hl
  have hx := C.1
  have hb := C.2.1
  have hown := C.2.2.2.1
  have hE := C.2.2.2.2.2.2.1
  have hl : lv_has ls 5 [(0, .ref (A (cd 0 1 0))), (1, .int a), (2, .int d)] := hl
  have hF : cFr h0 tg h0 tg := cFr.rf
  obtain ⟨h, hM, hC, hF, hh⟩ : ∃ h9, MW G s0.heap.size h9 H ∧ CW h9 A tg (clS G A (st_many st) (st_now st) X fd tt gr) ∧ cFr h0 tg h9 tg ∧ h9 = h0 := ⟨_, hM, hC, hF, rfl⟩
  refine lv_iload_n hx hb dX5_joinCount_0 rfl (lv_at hl 1 rfl) ?_
  refine lv_iload_n hx hb dX5_joinCount_1 rfl (lv_at hl 2 rfl) ?_
  refine m_xcallS Z C hM hS (As := [.int a, .int d]) (rest := []) (c_X5_refuseBadNames Z h a d) yi_X5_refuseBadNames ml_X5_226 ⟨Nat.le_of_ble_eq_true rfl, Nat.le_of_ble_eq_true rfl⟩ (Nat.le_of_ble_eq_true rfl) hl.1 rfl rfl dX5_joinCount_2 ⟨Nat.le_of_ble_eq_true rfl, Nat.le_of_ble_eq_true rfl⟩ (fun E ce q9 h9 H locs hv hM hS g1 g2 g3 => ?_) (fun v h9 H locs hv hM hS => ?_)
  · -- thrown at 2
    obtain ⟨hE, f_2, hh9⟩ := hv
    rw [hh9] at hM
    exact m_out C ht hM hS (Nat.le_of_ble_eq_true rfl) (Nat.le_of_ble_eq_true rfl) g1 g2 g3 ⟨hE, f_2, ⟨A, tg, X, _, _, _, rfl, hC, hF, hR⟩⟩
  · -- back at 2
    obtain ⟨f_1, hv, hh9⟩ := hv
    subst hv
    rw [hh9] at hM
    refine W.eq (g2 := F0 mt 5 ls []) rfl ?_
    refine lv_iconst (v := nI 0) hx hb dX5_joinCount_5 (by decide) ?_
    refine lv_istore_n (lv' := [(3, .int (nI 0)), (0, .ref (A (cd 0 1 0))), (1, .int a), (2, .int d)]) hx hb dX5_joinCount_6 rfl hl (by decide) rfl (fun ls hl => ?_)
    refine lv_iconst (v := nI 0) hx hb dX5_joinCount_7 (by decide) ?_
    refine lv_istore (lv' := [(4, .int (nI 0)), (3, .int (nI 0)), (0, .ref (A (cd 0 1 0))), (1, .int a), (2, .int d)]) hx hb dX5_joinCount_8 hl (by decide) rfl (fun ls hl => ?_)
    have lp_3 : ∀ (fu : Nat) (w : Nat), 10 < w + fu → w ≤ 10 → ∀ (H : Heap) (locs : List Loc), MW G s0.heap.size h H → va_S (fun q => s0.heap.size ≤ q) s.heap H locs → ∀ ls : Array Slot, lv_has ls 5 [(4, .int (nI w)), (3, .int (nI (z_ct (z_jp st a d) w))), (0, .ref (A (cd 0 1 0))), (1, .int a), (2, .int d)] → W p l e (mRm 7 111 1 6) s mt ([.ref (A (cd 0 1 0)), .int a, .int d] : List Value).toArray below meth c H locs 1 6 (vx_MQ below (mQc G s0 (fun v9 h9 => ((nI 0 ≤ a ∧ a ≤ nI 9) ∧ (nI 0 ≤ d ∧ d ≤ nI 9) ∧ v9 = some (.int (nI (z_ct (z_jp st a d) 10))) ∧ NW G h0 h9 A tg st))) (mXc G s0 (fun E h9 => (E = "java/lang/IllegalArgumentException" ∧ (¬ ((nI 0 ≤ a ∧ a ≤ nI 9) ∧ (nI 0 ≤ d ∧ d ≤ nI 9))) ∧ NW G h0 h9 A tg st))) ([.ref (A (cd 0 1 0)), .int a, .int d] : List Value).toArray s 1 6 (fun q => s0.heap.size ≤ q)) (F0 mt 10 ls []) := by
      intro fu
      induction fu with
      | zero => intro w hfu _; exact absurd hfu (by omega)
      | succ fu ih =>
        intro w hfu hw H locs hM hS ls hl
        refine lv_iload hx hb dX5_joinCount_10 (lv_at hl 0 rfl) ?_
        refine lv_bipush (v := nI 10) hx hb dX5_joinCount_12 (by decide) ?_
        refine lv_icmp_ge (tgt := 46) hx hb dX5_joinCount_14 (by decide) (fun c_4 => ?_) (fun c_4 => ?_)
        · -- 14 t
          have c_4 : 10 ≤ w := (nI_leI (by decide) (by omega)).mp c_4
          refine lv_iload_n hx hb dX5_joinCount_46 rfl (lv_at hl 1 rfl) ?_
          refine vx_ret ?_
          exact m_iret C hM hS (Nat.le_of_ble_eq_true rfl) (Nat.le_of_ble_eq_true rfl) dX5_joinCount_47 ⟨f_1.1, f_1.2, (by rw [show 10 = w by omega]), ⟨A, tg, X, _, _, _, rfl, hC, hF, hR⟩⟩
        · -- 14 f
          have c_4 : ¬ 10 ≤ w := fun q => c_4 ((nI_leI (by decide) (by omega)).mpr q)
          refine lv_aload_n hx hb dX5_joinCount_17 rfl (lv_at hl 2 rfl) ?_
          refine lv_iload_n hx hb dX5_joinCount_18 rfl (lv_at hl 3 rfl) ?_
          refine lv_iload hx hb dX5_joinCount_19 (lv_at hl 0 rfl) ?_
          refine m_callV Z C hM hS (As := [.int a, .int (nI w)]) (rest := []) (c_X5_rowWithSamples Z h A tg st X fd tt gr hC hk hR a w) yi_X5_rowWithSamples ml_X5_229 (hC.at (clS_h)) rfl ⟨Nat.le_of_ble_eq_true rfl, Nat.le_of_ble_eq_true rfl⟩ (Nat.le_of_ble_eq_true rfl) hl.1 rfl rfl dX5_joinCount_21 ⟨Nat.le_of_ble_eq_true rfl, Nat.le_of_ble_eq_true rfl⟩ (fun v h9 H locs hv hM hS => ?_)
          rcases hv with ⟨k_5, f_6, f_7, f_8, hv, hh9⟩ | ⟨f_9, hv, hh9⟩
          · -- of 21
            subst hv
            rw [hh9] at hM
            refine W.eq (g2 := F0 mt 24 ls [.ref (A (cd (k_5 + 1) 0 0))]) rfl ?_
            refine lv_ifnull hx hb dX5_joinCount_24 ?_
            refine lv_aload_n hx hb dX5_joinCount_27 rfl (lv_at hl 2 rfl) ?_
            refine lv_iload_n hx hb dX5_joinCount_28 rfl (lv_at hl 4 rfl) ?_
            refine lv_iload hx hb dX5_joinCount_29 (lv_at hl 0 rfl) ?_
            refine m_callV Z C hM hS (As := [.int d, .int (nI w)]) (rest := []) (c_X5_rowWithSamples Z h A tg st X fd tt gr hC hk hR d w) yi_X5_rowWithSamples ml_X5_229 (hC.at (clS_h)) rfl ⟨Nat.le_of_ble_eq_true rfl, Nat.le_of_ble_eq_true rfl⟩ (Nat.le_of_ble_eq_true rfl) hl.1 rfl rfl dX5_joinCount_31 ⟨Nat.le_of_ble_eq_true rfl, Nat.le_of_ble_eq_true rfl⟩ (fun v h9 H locs hv hM hS => ?_)
            rcases hv with ⟨k_11, f_12, f_13, f_14, hv, hh9⟩ | ⟨f_15, hv, hh9⟩
            · -- of 31
              subst hv
              rw [hh9] at hM
              refine W.eq (g2 := F0 mt 34 ls [.ref (A (cd (k_11 + 1) 0 0))]) rfl ?_
              refine lv_ifnull hx hb dX5_joinCount_34 ?_
              refine lv_iinc (v := nI (z_ct (z_jp st a d) w + 1)) (lv' := [(3, .int (nI (z_ct (z_jp st a d) w + 1))), (4, .int (nI w)), (0, .ref (A (cd 0 1 0))), (1, .int a), (2, .int d)]) hx hb dX5_joinCount_37 hl (k := 1) rfl (nI_add _ _) (by decide) rfl (fun ls hl => ?_)
              refine lv_iinc (v := nI (w + 1)) (lv' := [(4, .int (nI (w + 1))), (3, .int (nI (z_ct (z_jp st a d) w + 1))), (0, .ref (A (cd 0 1 0))), (1, .int a), (2, .int d)]) hx hb dX5_joinCount_40 hl (k := 1) rfl (nI_add _ _) (by decide) rfl (fun ls hl => ?_)
              refine lv_goto (tgt := 10) hx hb dX5_joinCount_43 (by decide) ?_
              have e9 : z_ct (z_jp st a d) (w + 1) = z_ct (z_jp st a d) w + 1 := z_ct_t (show z_jp st a d w from ⟨by rw [f_7]; exact f_6, by rw [f_13]; exact f_12, by rw [f_7]; exact f_8, by rw [f_13]; exact f_14⟩)
              rw [← e9] at hl
              exact ih (w + 1) (by omega) (by omega) H locs hM hS ls (lv_sub hl [0, 1, 2, 3, 4] rfl)
            · -- of 31
              subst hv
              rw [hh9] at hM
              refine W.eq (g2 := F0 mt 34 ls [.null]) rfl ?_
              refine lv_ifnullN (tgt := 40) hx hb dX5_joinCount_34 (by decide) ?_
              refine lv_iinc (v := nI (w + 1)) (lv' := [(4, .int (nI (w + 1))), (3, .int (nI (z_ct (z_jp st a d) w))), (0, .ref (A (cd 0 1 0))), (1, .int a), (2, .int d)]) hx hb dX5_joinCount_40 hl (k := 0) rfl (nI_add _ _) (by decide) rfl (fun ls hl => ?_)
              refine lv_goto (tgt := 10) hx hb dX5_joinCount_43 (by decide) ?_
              have e9 : z_ct (z_jp st a d) (w + 1) = z_ct (z_jp st a d) w := z_ct_f (show ¬ z_jp st a d w from fun q => f_15 ⟨q.2.1, q.2.2.2⟩)
              rw [← e9] at hl
              exact ih (w + 1) (by omega) (by omega) H locs hM hS ls (lv_sub hl [0, 1, 2, 3, 4] rfl)
          · -- of 21
            subst hv
            rw [hh9] at hM
            refine W.eq (g2 := F0 mt 24 ls [.null]) rfl ?_
            refine lv_ifnullN (tgt := 40) hx hb dX5_joinCount_24 (by decide) ?_
            refine lv_iinc (v := nI (w + 1)) (lv' := [(4, .int (nI (w + 1))), (3, .int (nI (z_ct (z_jp st a d) w))), (0, .ref (A (cd 0 1 0))), (1, .int a), (2, .int d)]) hx hb dX5_joinCount_40 hl (k := 0) rfl (nI_add _ _) (by decide) rfl (fun ls hl => ?_)
            refine lv_goto (tgt := 10) hx hb dX5_joinCount_43 (by decide) ?_
            have e9 : z_ct (z_jp st a d) (w + 1) = z_ct (z_jp st a d) w := z_ct_f (show ¬ z_jp st a d w from fun q => f_9 ⟨q.1, q.2.2.1⟩)
            rw [← e9] at hl
            exact ih (w + 1) (by omega) (by omega) H locs hM hS ls (lv_sub hl [0, 1, 2, 3, 4] rfl)
    exact lp_3 11 0 (by omega) (by omega) H locs hM hS ls (lv_sub hl [0, 1, 2, 3, 4] rfl)
set_option maxRecDepth 100000 in
set_option maxHeartbeats 4000000 in
theorem c_X5_joinSum {l : Launch} {G : mG} {a0 : Array Value} {s0 : State} (Z : mZ l G a0 s0) (h0 : Hp) (A : Cd → Nat) (tg : Nat → Cd) (st : Ms) (X : Nat → Xs) (fd : Nat) (tt : Int64) (gr : Int32) (hC : CW h0 A tg (clS G A (st_many st) (st_now st) X fd tt gr)) (hk : Iv st) (hR : ∀ k : Nat, k < st_many st → Rx st k (X k)) (a : Int32) (d : Int32) : mT l G s0 yX5_joinSum cX5_joinSum 8 (some .long) 7 111 1 6 h0 [.ref (A (cd 0 1 0)), .int a, .int d] (fun v9 h9 => ((nI 0 ≤ a ∧ a ≤ nI 9) ∧ (nI 0 ≤ d ∧ d ≤ nI 9) ∧ v9 = some (.long (z_js st a d (fun u v => if 1 = 0 then lN 1 else (z_la st u).toInt64 * (z_la st v).toInt64) 10)) ∧ NW G h0 h9 A tg st)) (fun E h9 => (E = "java/lang/IllegalArgumentException" ∧ (¬ ((nI 0 ≤ a ∧ a ≤ nI 9) ∧ (nI 0 ≤ d ∧ d ≤ nI 9))) ∧ NW G h0 h9 A tg st)) := by
  refine mT_in RX5 "joinSum" rfl rfl (by decide +kernel) (Nat.le_of_ble_eq_true rfl) ?_
  intro p e s mt below meth c H locs C ht hM hS ls hl
  have hx := C.1
  have hb := C.2.1
  have hown := C.2.2.2.1
  have hE := C.2.2.2.2.2.2.1
  have hl : lv_has ls 8 [(0, .ref (A (cd 0 1 0))), (1, .int a), (2, .int d)] := hl
  have hF : cFr h0 tg h0 tg := cFr.rf
  obtain ⟨h, hM, hC, hF, hh⟩ : ∃ h9, MW G s0.heap.size h9 H ∧ CW h9 A tg (clS G A (st_many st) (st_now st) X fd tt gr) ∧ cFr h0 tg h9 tg ∧ h9 = h0 := ⟨_, hM, hC, hF, rfl⟩
  refine lv_iload_n hx hb dX5_joinSum_0 rfl (lv_at hl 1 rfl) ?_
  refine lv_iload_n hx hb dX5_joinSum_1 rfl (lv_at hl 2 rfl) ?_
  refine m_xcallS Z C hM hS (As := [.int a, .int d]) (rest := []) (c_X5_refuseBadNames Z h a d) yi_X5_refuseBadNames ml_X5_226 ⟨Nat.le_of_ble_eq_true rfl, Nat.le_of_ble_eq_true rfl⟩ (Nat.le_of_ble_eq_true rfl) hl.1 rfl rfl dX5_joinSum_2 ⟨Nat.le_of_ble_eq_true rfl, Nat.le_of_ble_eq_true rfl⟩ (fun E ce q9 h9 H locs hv hM hS g1 g2 g3 => ?_) (fun v h9 H locs hv hM hS => ?_)
  · -- thrown at 2
    obtain ⟨hE, f_2, hh9⟩ := hv
    rw [hh9] at hM
    exact m_out C ht hM hS (Nat.le_of_ble_eq_true rfl) (Nat.le_of_ble_eq_true rfl) g1 g2 g3 ⟨hE, f_2, ⟨A, tg, X, _, _, _, rfl, hC, hF, hR⟩⟩
  · -- back at 2
    obtain ⟨f_1, hv, hh9⟩ := hv
    subst hv
    rw [hh9] at hM
    refine W.eq (g2 := F0 mt 5 ls []) rfl ?_
    refine lv_lconst (v := lN 0) hx hb dX5_joinSum_5 (by decide) ?_
    refine lv_lstore_n (lv' := [(3, .long (lN 0)), (0, .ref (A (cd 0 1 0))), (1, .int a), (2, .int d)]) hx hb dX5_joinSum_6 rfl hl (by decide) rfl (fun ls hl => ?_)
    refine lv_iconst (v := nI 0) hx hb dX5_joinSum_7 (by decide) ?_
    refine lv_istore (lv' := [(5, .int (nI 0)), (3, .long (lN 0)), (0, .ref (A (cd 0 1 0))), (1, .int a), (2, .int d)]) hx hb dX5_joinSum_8 hl (by decide) rfl (fun ls hl => ?_)
    have lp_3 : ∀ (fu : Nat) (w : Nat), 10 < w + fu → w ≤ 10 → ∀ (H : Heap) (locs : List Loc), MW G s0.heap.size h H → va_S (fun q => s0.heap.size ≤ q) s.heap H locs → ∀ ls : Array Slot, lv_has ls 8 [(5, .int (nI w)), (3, .long (z_js st a d (fun u v => if 1 = 0 then lN 1 else (z_la st u).toInt64 * (z_la st v).toInt64) w)), (0, .ref (A (cd 0 1 0))), (1, .int a), (2, .int d)] → W p l e (mRm 7 111 1 6) s mt ([.ref (A (cd 0 1 0)), .int a, .int d] : List Value).toArray below meth c H locs 1 6 (vx_MQ below (mQc G s0 (fun v9 h9 => ((nI 0 ≤ a ∧ a ≤ nI 9) ∧ (nI 0 ≤ d ∧ d ≤ nI 9) ∧ v9 = some (.long (z_js st a d (fun u v => if 1 = 0 then lN 1 else (z_la st u).toInt64 * (z_la st v).toInt64) 10)) ∧ NW G h0 h9 A tg st))) (mXc G s0 (fun E h9 => (E = "java/lang/IllegalArgumentException" ∧ (¬ ((nI 0 ≤ a ∧ a ≤ nI 9) ∧ (nI 0 ≤ d ∧ d ≤ nI 9))) ∧ NW G h0 h9 A tg st))) ([.ref (A (cd 0 1 0)), .int a, .int d] : List Value).toArray s 1 6 (fun q => s0.heap.size ≤ q)) (F0 mt 10 ls []) := by
      intro fu
      induction fu with
      | zero => intro w hfu _; exact absurd hfu (by omega)
      | succ fu ih =>
        intro w hfu hw H locs hM hS ls hl
        refine lv_iload hx hb dX5_joinSum_10 (lv_at hl 0 rfl) ?_
        refine lv_bipush (v := nI 10) hx hb dX5_joinSum_12 (by decide) ?_
        refine lv_icmp_ge (tgt := 67) hx hb dX5_joinSum_14 (by decide) (fun c_4 => ?_) (fun c_4 => ?_)
        · -- 14 t
          have c_4 : 10 ≤ w := (nI_leI (by decide) (by omega)).mp c_4
          refine lv_lload_n hx hb dX5_joinSum_67 rfl (lv_at hl 1 rfl) ?_
          refine vx_ret ?_
          exact m_lret C hM hS (Nat.le_of_ble_eq_true rfl) (Nat.le_of_ble_eq_true rfl) dX5_joinSum_68 ⟨f_1.1, f_1.2, (by rw [show 10 = w by omega]), ⟨A, tg, X, _, _, _, rfl, hC, hF, hR⟩⟩
        · -- 14 f
          have c_4 : ¬ 10 ≤ w := fun q => c_4 ((nI_leI (by decide) (by omega)).mpr q)
          refine lv_aload_n hx hb dX5_joinSum_17 rfl (lv_at hl 2 rfl) ?_
          refine lv_iload_n hx hb dX5_joinSum_18 rfl (lv_at hl 3 rfl) ?_
          refine lv_iload hx hb dX5_joinSum_19 (lv_at hl 0 rfl) ?_
          refine m_callV Z C hM hS (As := [.int a, .int (nI w)]) (rest := []) (c_X5_rowWithSamples Z h A tg st X fd tt gr hC hk hR a w) yi_X5_rowWithSamples ml_X5_229 (hC.at (clS_h)) rfl ⟨Nat.le_of_ble_eq_true rfl, Nat.le_of_ble_eq_true rfl⟩ (Nat.le_of_ble_eq_true rfl) hl.1 rfl rfl dX5_joinSum_21 ⟨Nat.le_of_ble_eq_true rfl, Nat.le_of_ble_eq_true rfl⟩ (fun v h9 H locs hv hM hS => ?_)
          rcases hv with ⟨k_5, f_6, f_7, f_8, hv, hh9⟩ | ⟨f_9, hv, hh9⟩
          · -- of 21
            subst hv
            rw [hh9] at hM
            obtain ⟨T, U, F, al, hXk, hRi⟩ := hR k_5 f_6
            have hn := hk.n f_6
            obtain ⟨hT, hU, hUr, hRw, hEr, hFs, hal⟩ := hRi
            have hTb : ∀ i : Nat, i < st_n st k_5 → T i < 1073741824 := fun i hi => by rw [hT i hi]; exact hk.T f_6 hi
            refine W.eq (g2 := F0 mt 24 ls [.ref (A (cd (k_5 + 1) 0 0))]) rfl ?_
            refine lv_astore (lv' := [(6, .ref (A (cd (k_5 + 1) 0 0))), (5, .int (nI w)), (3, .long (z_js st a d (fun u v => if 1 = 0 then lN 1 else (z_la st u).toInt64 * (z_la st v).toInt64) w)), (0, .ref (A (cd 0 1 0))), (1, .int a), (2, .int d)]) hx hb dX5_joinSum_24 hl (by decide) rfl (fun ls hl => ?_)
            refine lv_aload_n hx hb dX5_joinSum_26 rfl (lv_at hl 3 rfl) ?_
            refine lv_iload_n hx hb dX5_joinSum_27 rfl (lv_at hl 5 rfl) ?_
            refine lv_iload hx hb dX5_joinSum_28 (lv_at hl 1 rfl) ?_
            refine m_callV Z C hM hS (As := [.int d, .int (nI w)]) (rest := []) (c_X5_rowWithSamples Z h A tg st X fd tt gr hC hk hR d w) yi_X5_rowWithSamples ml_X5_229 (hC.at (clS_h)) rfl ⟨Nat.le_of_ble_eq_true rfl, Nat.le_of_ble_eq_true rfl⟩ (Nat.le_of_ble_eq_true rfl) hl.1 rfl rfl dX5_joinSum_30 ⟨Nat.le_of_ble_eq_true rfl, Nat.le_of_ble_eq_true rfl⟩ (fun v h9 H locs hv hM hS => ?_)
            rcases hv with ⟨k_10, f_11, f_12, f_13, hv, hh9⟩ | ⟨f_14, hv, hh9⟩
            · -- of 30
              subst hv
              rw [hh9] at hM
              obtain ⟨T2, U2, F2, al2, hXk2, hRi2⟩ := hR k_10 f_11
              have hn2 := hk.n f_11
              obtain ⟨hT2, hU2, hUr2, hRw2, hEr2, hFs2, hal2⟩ := hRi2
              have hTb2 : ∀ i : Nat, i < st_n st k_10 → T2 i < 1073741824 := fun i hi => by rw [hT2 i hi]; exact hk.T f_11 hi
              refine W.eq (g2 := F0 mt 33 ls [.ref (A (cd (k_10 + 1) 0 0))]) rfl ?_
              refine lv_astore (lv' := [(7, .ref (A (cd (k_10 + 1) 0 0))), (6, .ref (A (cd (k_5 + 1) 0 0))), (5, .int (nI w)), (3, .long (z_js st a d (fun u v => if 1 = 0 then lN 1 else (z_la st u).toInt64 * (z_la st v).toInt64) w)), (0, .ref (A (cd 0 1 0))), (1, .int a), (2, .int d)]) hx hb dX5_joinSum_33 hl (by decide) rfl (fun ls hl => ?_)
              refine lv_aload hx hb dX5_joinSum_35 (lv_at hl 1 rfl) ?_
              refine lv_ifnull hx hb dX5_joinSum_37 ?_
              refine lv_aload hx hb dX5_joinSum_40 (lv_at hl 0 rfl) ?_
              refine lv_ifnull hx hb dX5_joinSum_42 ?_
              refine lv_lload_n hx hb dX5_joinSum_45 rfl (lv_at hl 3 rfl) ?_
              refine lv_aload hx hb dX5_joinSum_46 (lv_at hl 1 rfl) ?_
              refine m_callVN Z C hM hS (As := []) (rest := [.long (z_js st a d (fun u v => if 1 = 0 then lN 1 else (z_la st u).toInt64 * (z_la st v).toInt64) w)]) (c_X2_newestValue Z h A tg (clS G A (st_many st) (st_now st) X fd tt gr) hC k_5 (st_nm st k_5) (st_ho st k_5) (st_n st k_5) (((x_av A k_5 al))) U ((clS_at f_6 hXk srS_0)) ((clS_at f_6 hXk srS_2)) (by omega) (by omega)) yi_X2_newestValue mn_X5_100 (hC.at ((clS_at f_6 hXk srS_0))) rfl ⟨Nat.le_of_ble_eq_true rfl, Nat.le_of_ble_eq_true rfl⟩ (Nat.le_of_ble_eq_true rfl) hl.1 rfl rfl dX5_joinSum_48 ⟨Nat.le_of_ble_eq_true rfl, Nat.le_of_ble_eq_true rfl⟩ (fun v h9 H locs hv hM hS => ?_)
              obtain ⟨hv, hh9⟩ := hv
              subst hv
              rw [hh9] at hM
              refine W.eq (g2 := F0 mt 51 ls [.int (U ((st_n st k_5) - 1)), .long (z_js st a d (fun u v => if 1 = 0 then lN 1 else (z_la st u).toInt64 * (z_la st v).toInt64) w)]) rfl ?_
              refine lv_i2l (v := (U ((st_n st k_5) - 1)).toInt64) hx hb dX5_joinSum_51 rfl ?_
              refine lv_aload hx hb dX5_joinSum_52 (lv_at hl 0 rfl) ?_
              refine m_callVN Z C hM hS (As := []) (rest := [.long ((U ((st_n st k_5) - 1)).toInt64), .long (z_js st a d (fun u v => if 1 = 0 then lN 1 else (z_la st u).toInt64 * (z_la st v).toInt64) w)]) (c_X2_newestValue Z h A tg (clS G A (st_many st) (st_now st) X fd tt gr) hC k_10 (st_nm st k_10) (st_ho st k_10) (st_n st k_10) (((x_av A k_10 al2))) U2 ((clS_at f_11 hXk2 srS_0)) ((clS_at f_11 hXk2 srS_2)) (by omega) (by omega)) yi_X2_newestValue mn_X5_100 (hC.at ((clS_at f_11 hXk2 srS_0))) rfl ⟨Nat.le_of_ble_eq_true rfl, Nat.le_of_ble_eq_true rfl⟩ (Nat.le_of_ble_eq_true rfl) hl.1 rfl rfl dX5_joinSum_54 ⟨Nat.le_of_ble_eq_true rfl, Nat.le_of_ble_eq_true rfl⟩ (fun v h9 H locs hv hM hS => ?_)
              obtain ⟨hv, hh9⟩ := hv
              subst hv
              rw [hh9] at hM
              refine W.eq (g2 := F0 mt 57 ls [.int (U2 ((st_n st k_10) - 1)), .long ((U ((st_n st k_5) - 1)).toInt64), .long (z_js st a d (fun u v => if 1 = 0 then lN 1 else (z_la st u).toInt64 * (z_la st v).toInt64) w)]) rfl ?_
              refine lv_i2l (v := (U2 ((st_n st k_10) - 1)).toInt64) hx hb dX5_joinSum_57 rfl ?_
              refine lv_lmul hx hb dX5_joinSum_58 ?_
              refine lv_ladd hx hb dX5_joinSum_59 ?_
              refine lv_lstore_n (lv' := [(3, .long ((z_js st a d (fun u v => if 1 = 0 then lN 1 else (z_la st u).toInt64 * (z_la st v).toInt64) w) + (((U ((st_n st k_5) - 1)).toInt64) * ((U2 ((st_n st k_10) - 1)).toInt64)))), (7, .ref (A (cd (k_10 + 1) 0 0))), (6, .ref (A (cd (k_5 + 1) 0 0))), (5, .int (nI w)), (0, .ref (A (cd 0 1 0))), (1, .int a), (2, .int d)]) hx hb dX5_joinSum_60 rfl hl (by decide) rfl (fun ls hl => ?_)
              refine lv_iinc (v := nI (w + 1)) (lv' := [(5, .int (nI (w + 1))), (3, .long ((z_js st a d (fun u v => if 1 = 0 then lN 1 else (z_la st u).toInt64 * (z_la st v).toInt64) w) + (((U ((st_n st k_5) - 1)).toInt64) * ((U2 ((st_n st k_10) - 1)).toInt64)))), (7, .ref (A (cd (k_10 + 1) 0 0))), (6, .ref (A (cd (k_5 + 1) 0 0))), (0, .ref (A (cd 0 1 0))), (1, .int a), (2, .int d)]) hx hb dX5_joinSum_61 hl (k := 3) rfl (nI_add _ _) (by decide) rfl (fun ls hl => ?_)
              refine lv_goto (tgt := 10) hx hb dX5_joinSum_64 (by decide) ?_
              have e9 : z_js st a d (fun u v => if 1 = 0 then lN 1 else (z_la st u).toInt64 * (z_la st v).toInt64) (w + 1) = _ := js_t (show z_jp st a d w from ⟨by rw [f_7]; exact f_6, by rw [f_12]; exact f_11, by rw [f_7]; exact f_8, by rw [f_12]; exact f_13⟩)
              replace e9 : z_js st a d (fun u v => if 1 = 0 then lN 1 else (z_la st u).toInt64 * (z_la st v).toInt64) (w + 1) = z_js st a d (fun u v => if 1 = 0 then lN 1 else (z_la st u).toInt64 * (z_la st v).toInt64) w + (z_la st (z_f st a (nI w))).toInt64 * (z_la st (z_f st d (nI w))).toInt64 := e9
              rw [f_7, f_12] at e9
              have eu : z_la st k_5 = U (st_n st k_5 - 1) := (hU _ (by omega)).symm
              have ev : z_la st k_10 = U2 (st_n st k_10 - 1) := (hU2 _ (by omega)).symm
              rw [eu, ev] at e9
              rw [← e9] at hl
              exact ih (w + 1) (by omega) (by omega) H locs hM hS ls (lv_sub hl [0, 1, 4, 5, 6] rfl)
            · -- of 30
              subst hv
              rw [hh9] at hM
              refine W.eq (g2 := F0 mt 33 ls [.null]) rfl ?_
              refine lv_astoreN (lv' := [(7, .null), (6, .ref (A (cd (k_5 + 1) 0 0))), (5, .int (nI w)), (3, .long (z_js st a d (fun u v => if 1 = 0 then lN 1 else (z_la st u).toInt64 * (z_la st v).toInt64) w)), (0, .ref (A (cd 0 1 0))), (1, .int a), (2, .int d)]) hx hb dX5_joinSum_33 hl (by decide) rfl (fun ls hl => ?_)
              refine lv_aload hx hb dX5_joinSum_35 (lv_at hl 1 rfl) ?_
              refine lv_ifnull hx hb dX5_joinSum_37 ?_
              refine lv_aloadN hx hb dX5_joinSum_40 (lv_at hl 0 rfl) ?_
              refine lv_ifnullN (tgt := 61) hx hb dX5_joinSum_42 (by decide) ?_
              refine lv_iinc (v := nI (w + 1)) (lv' := [(5, .int (nI (w + 1))), (7, .null), (6, .ref (A (cd (k_5 + 1) 0 0))), (3, .long (z_js st a d (fun u v => if 1 = 0 then lN 1 else (z_la st u).toInt64 * (z_la st v).toInt64) w)), (0, .ref (A (cd 0 1 0))), (1, .int a), (2, .int d)]) hx hb dX5_joinSum_61 hl (k := 2) rfl (nI_add _ _) (by decide) rfl (fun ls hl => ?_)
              refine lv_goto (tgt := 10) hx hb dX5_joinSum_64 (by decide) ?_
              have e9 : z_js st a d (fun u v => if 1 = 0 then lN 1 else (z_la st u).toInt64 * (z_la st v).toInt64) (w + 1) = _ := js_f (show ¬ z_jp st a d w from fun q => f_14 ⟨q.2.1, q.2.2.2⟩)
              rw [← e9] at hl
              exact ih (w + 1) (by omega) (by omega) H locs hM hS ls (lv_sub hl [0, 3, 4, 5, 6] rfl)
          · -- of 21
            subst hv
            rw [hh9] at hM
            refine W.eq (g2 := F0 mt 24 ls [.null]) rfl ?_
            refine lv_astoreN (lv' := [(6, .null), (5, .int (nI w)), (3, .long (z_js st a d (fun u v => if 1 = 0 then lN 1 else (z_la st u).toInt64 * (z_la st v).toInt64) w)), (0, .ref (A (cd 0 1 0))), (1, .int a), (2, .int d)]) hx hb dX5_joinSum_24 hl (by decide) rfl (fun ls hl => ?_)
            refine lv_aload_n hx hb dX5_joinSum_26 rfl (lv_at hl 3 rfl) ?_
            refine lv_iload_n hx hb dX5_joinSum_27 rfl (lv_at hl 5 rfl) ?_
            refine lv_iload hx hb dX5_joinSum_28 (lv_at hl 1 rfl) ?_
            refine m_callV Z C hM hS (As := [.int d, .int (nI w)]) (rest := []) (c_X5_rowWithSamples Z h A tg st X fd tt gr hC hk hR d w) yi_X5_rowWithSamples ml_X5_229 (hC.at (clS_h)) rfl ⟨Nat.le_of_ble_eq_true rfl, Nat.le_of_ble_eq_true rfl⟩ (Nat.le_of_ble_eq_true rfl) hl.1 rfl rfl dX5_joinSum_30 ⟨Nat.le_of_ble_eq_true rfl, Nat.le_of_ble_eq_true rfl⟩ (fun v h9 H locs hv hM hS => ?_)
            rcases hv with ⟨k_19, f_20, f_21, f_22, hv, hh9⟩ | ⟨f_23, hv, hh9⟩
            · -- of 30
              subst hv
              rw [hh9] at hM
              obtain ⟨T2, U2, F2, al2, hXk2, hRi2⟩ := hR k_19 f_20
              have hn2 := hk.n f_20
              obtain ⟨hT2, hU2, hUr2, hRw2, hEr2, hFs2, hal2⟩ := hRi2
              have hTb2 : ∀ i : Nat, i < st_n st k_19 → T2 i < 1073741824 := fun i hi => by rw [hT2 i hi]; exact hk.T f_20 hi
              refine W.eq (g2 := F0 mt 33 ls [.ref (A (cd (k_19 + 1) 0 0))]) rfl ?_
              refine lv_astore (lv' := [(7, .ref (A (cd (k_19 + 1) 0 0))), (6, .null), (5, .int (nI w)), (3, .long (z_js st a d (fun u v => if 1 = 0 then lN 1 else (z_la st u).toInt64 * (z_la st v).toInt64) w)), (0, .ref (A (cd 0 1 0))), (1, .int a), (2, .int d)]) hx hb dX5_joinSum_33 hl (by decide) rfl (fun ls hl => ?_)
              refine lv_aloadN hx hb dX5_joinSum_35 (lv_at hl 1 rfl) ?_
              refine lv_ifnullN (tgt := 61) hx hb dX5_joinSum_37 (by decide) ?_
              refine lv_iinc (v := nI (w + 1)) (lv' := [(5, .int (nI (w + 1))), (7, .ref (A (cd (k_19 + 1) 0 0))), (6, .null), (3, .long (z_js st a d (fun u v => if 1 = 0 then lN 1 else (z_la st u).toInt64 * (z_la st v).toInt64) w)), (0, .ref (A (cd 0 1 0))), (1, .int a), (2, .int d)]) hx hb dX5_joinSum_61 hl (k := 2) rfl (nI_add _ _) (by decide) rfl (fun ls hl => ?_)
              refine lv_goto (tgt := 10) hx hb dX5_joinSum_64 (by decide) ?_
              have e9 : z_js st a d (fun u v => if 1 = 0 then lN 1 else (z_la st u).toInt64 * (z_la st v).toInt64) (w + 1) = _ := js_f (show ¬ z_jp st a d w from fun q => f_9 ⟨q.1, q.2.2.1⟩)
              rw [← e9] at hl
              exact ih (w + 1) (by omega) (by omega) H locs hM hS ls (lv_sub hl [0, 3, 4, 5, 6] rfl)
            · -- of 30
              subst hv
              rw [hh9] at hM
              refine W.eq (g2 := F0 mt 33 ls [.null]) rfl ?_
              refine lv_astoreN (lv' := [(7, .null), (6, .null), (5, .int (nI w)), (3, .long (z_js st a d (fun u v => if 1 = 0 then lN 1 else (z_la st u).toInt64 * (z_la st v).toInt64) w)), (0, .ref (A (cd 0 1 0))), (1, .int a), (2, .int d)]) hx hb dX5_joinSum_33 hl (by decide) rfl (fun ls hl => ?_)
              refine lv_aloadN hx hb dX5_joinSum_35 (lv_at hl 1 rfl) ?_
              refine lv_ifnullN (tgt := 61) hx hb dX5_joinSum_37 (by decide) ?_
              refine lv_iinc (v := nI (w + 1)) (lv' := [(5, .int (nI (w + 1))), (7, .null), (6, .null), (3, .long (z_js st a d (fun u v => if 1 = 0 then lN 1 else (z_la st u).toInt64 * (z_la st v).toInt64) w)), (0, .ref (A (cd 0 1 0))), (1, .int a), (2, .int d)]) hx hb dX5_joinSum_61 hl (k := 2) rfl (nI_add _ _) (by decide) rfl (fun ls hl => ?_)
              refine lv_goto (tgt := 10) hx hb dX5_joinSum_64 (by decide) ?_
              have e9 : z_js st a d (fun u v => if 1 = 0 then lN 1 else (z_la st u).toInt64 * (z_la st v).toInt64) (w + 1) = _ := js_f (show ¬ z_jp st a d w from fun q => f_9 ⟨q.1, q.2.2.1⟩)
              rw [← e9] at hl
              exact ih (w + 1) (by omega) (by omega) H locs hM hS ls (lv_sub hl [0, 3, 4, 5, 6] rfl)
    exact lp_3 11 0 (by omega) (by omega) H locs hM hS ls (lv_sub hl [0, 1, 2, 3, 4] rfl)
set_option maxRecDepth 100000 in
set_option maxHeartbeats 4000000 in
theorem c_X5_allBits {l : Launch} {G : mG} {a0 : Array Value} {s0 : State} (Z : mZ l G a0 s0) (h0 : Hp) (A : Cd → Nat) (tg : Nat → Cd) (st : Ms) (X : Nat → Xs) (fd : Nat) (tt : Int64) (gr : Int32) (hC : CW h0 A tg (clS G A (st_many st) (st_now st) X fd tt gr)) (hk : Iv st) (hR : ∀ k : Nat, k < st_many st → Rx st k (X k)) : mM l G s0 yX5_allBits cX5_allBits 7 (some .long) 1 26 0 0 h0 [.ref (A (cd 0 1 0))] (fun v9 h9 => (v9 = some (.long (lN (z_all st (st_many st)))) ∧ NW G h0 h9 A tg st)) := by
  refine mM_in RX5 "allBits" rfl rfl (by decide +kernel) (Nat.le_of_ble_eq_true rfl) ?_
  intro p e s mt below meth c H locs C hM hS ls hl
  have hx := C.1
  have hb := C.2.1
  have hown := C.2.2.2.1
  have hE := C.2.2.2.2.2.2.1
  have hl : lv_has ls 7 [(0, .ref (A (cd 0 1 0)))] := hl
  have hF : cFr h0 tg h0 tg := cFr.rf
  obtain ⟨h, hM, hC, hF, hh⟩ : ∃ h9, MW G s0.heap.size h9 H ∧ CW h9 A tg (clS G A (st_many st) (st_now st) X fd tt gr) ∧ cFr h0 tg h9 tg ∧ h9 = h0 := ⟨_, hM, hC, hF, rfl⟩
  have hm10 := hk.m10
  refine lv_lconst (v := lN 0) hx hb dX5_allBits_0 (by decide) ?_
  refine lv_lstore_n (lv' := [(1, .long (lN 0)), (0, .ref (A (cd 0 1 0)))]) hx hb dX5_allBits_1 rfl hl (by decide) rfl (fun ls hl => ?_)
  refine lv_aload_n hx hb dX5_allBits_2 rfl (lv_at hl 1 rfl) ?_
  refine m_get Z C hM (hC.at (clS_h)) K_X5 0 (by decide) fl_X5_11 (v := .ref (A (cd 0 2 0))) rfl dX5_allBits_3 ?_
  refine lv_astore_n (lv' := [(3, .ref (A (cd 0 2 0))), (1, .long (lN 0)), (0, .ref (A (cd 0 1 0)))]) hx hb dX5_allBits_6 rfl hl (by decide) rfl (fun ls hl => ?_)
  refine lv_aload_n hx hb dX5_allBits_7 rfl (lv_at hl 0 rfl) ?_
  refine m_alen (t0 := 3) Z C hM rfl (hC.at (clS_r)) dX5_allBits_8 ?_
  refine W.eq (g2 := F0 mt 9 ls [.int (nI 10)]) rfl ?_
  refine lv_istore (lv' := [(4, .int (nI 10)), (3, .ref (A (cd 0 2 0))), (1, .long (lN 0)), (0, .ref (A (cd 0 1 0)))]) hx hb dX5_allBits_9 hl (by decide) rfl (fun ls hl => ?_)
  refine lv_iconst (v := nI 0) hx hb dX5_allBits_11 (by decide) ?_
  refine lv_istore (lv' := [(5, .int (nI 0)), (4, .int (nI 10)), (3, .ref (A (cd 0 2 0))), (1, .long (lN 0)), (0, .ref (A (cd 0 1 0)))]) hx hb dX5_allBits_12 hl (by decide) rfl (fun ls hl => ?_)
  have lp_1 : ∀ (fu : Nat) (y : Nat), 10 < y + fu → y ≤ 10 → ∀ (H : Heap) (locs : List Loc), MW G s0.heap.size h H → va_S (fun q => s0.heap.size ≤ q) s.heap H locs → ∀ ls : Array Slot, lv_has ls 7 [(5, .int (nI y)), (4, .int (nI 10)), (3, .ref (A (cd 0 2 0))), (1, .long (lN (z_all st (min y (st_many st))))), (0, .ref (A (cd 0 1 0)))] → W p l e (mRm 1 26 0 0) s mt ([.ref (A (cd 0 1 0))] : List Value).toArray below meth c H locs 0 0 (MQ below (mQc G s0 (fun v9 h9 => (v9 = some (.long (lN (z_all st (st_many st)))) ∧ NW G h0 h9 A tg st))) ([.ref (A (cd 0 1 0))] : List Value).toArray s 0 0 (fun q => s0.heap.size ≤ q)) (F0 mt 14 ls []) := by
    intro fu
    induction fu with
    | zero => intro y hfu _; exact absurd hfu (by omega)
    | succ fu ih =>
      intro y hfu hy H locs hM hS ls hl
      refine lv_iload hx hb dX5_allBits_14 (lv_at hl 0 rfl) ?_
      refine lv_iload hx hb dX5_allBits_16 (lv_at hl 1 rfl) ?_
      refine lv_icmp_ge (tgt := 46) hx hb dX5_allBits_18 (by decide) (fun c_2 => ?_) (fun c_2 => ?_)
      · -- 18 t
        have c_2 : 10 ≤ y := (nI_leI (by decide) (by omega)).mp c_2
        refine lv_lload_n hx hb dX5_allBits_46 rfl (lv_at hl 3 rfl) ?_
        exact m_lret C hM hS (Nat.le_of_ble_eq_true rfl) (Nat.le_of_ble_eq_true rfl) dX5_allBits_47 ⟨(by rw [show min y (st_many st) = st_many st by omega]), ⟨A, tg, X, _, _, _, rfl, hC, hF, hR⟩⟩
      · -- 18 f
        have c_2 : ¬ 10 ≤ y := fun q => c_2 ((nI_leI (by decide) (by omega)).mpr q)
        rcases Nat.lt_or_ge y (st_many st) with hyn | hyn
        · -- lt
          obtain ⟨T, U, F, al, hXk, hRi⟩ := hR y hyn
          have hn := hk.n hyn
          obtain ⟨hT, hU, hUr, hRw, hEr, hFs, hal⟩ := hRi
          have hTb : ∀ i : Nat, i < st_n st y → T i < 1073741824 := fun i hi => by rw [hT i hi]; exact hk.T hyn hi
          refine lv_aload_n hx hb dX5_allBits_21 rfl (lv_at hl 2 rfl) ?_
          refine lv_iload hx hb dX5_allBits_22 (lv_at hl 0 rfl) ?_
          refine m_sald Z C hM (hC.at (clS_r)) y rfl (by omega) (by decide) (v := .ref (A (cd (y + 1) 0 0))) (rwL_at (by omega)) dX5_allBits_24 ?_
          refine lv_astore (lv' := [(6, .ref (A (cd (y + 1) 0 0))), (5, .int (nI y)), (4, .int (nI 10)), (3, .ref (A (cd 0 2 0))), (1, .long (lN (z_all st (min y (st_many st))))), (0, .ref (A (cd 0 1 0)))]) hx hb dX5_allBits_25 hl (by decide) rfl (fun ls hl => ?_)
          refine lv_aload hx hb dX5_allBits_27 (lv_at hl 0 rfl) ?_
          refine lv_ifnull hx hb dX5_allBits_29 ?_
          refine lv_lload_n hx hb dX5_allBits_32 rfl (lv_at hl 4 rfl) ?_
          refine lv_aload hx hb dX5_allBits_33 (lv_at hl 0 rfl) ?_
          refine m_callVN Z C hM hS (As := []) (rest := [.long (lN (z_all st (min y (st_many st))))]) (c_X2_blockBits Z h A tg (clS G A (st_many st) (st_now st) X fd tt gr) hC y (st_nm st y) (st_ho st y) (st_n st y) (((x_av A y al))) (x_nb (st_n st y)) (fun j => lN (T (8 * j))) (fun j => U (8 * j)) (x_sz (st_n st y)) (fun j => x_bb T U j (x_sz (st_n st y) j - 1)) (fun j => lN (T (8 * j + (x_sz (st_n st y) j - 1)))) (fun j => x_gp T j (x_sz (st_n st y) j - 1)) (fun j => U (8 * j + (x_sz (st_n st y) j - 1))) (x_ts T (st_n st y)) (x_vs U (st_n st y)) ((clS_at hyn hXk srS_0)) ((clS_at hyn hXk srS_4)) (fun j hj => clS_at hyn hXk (srS_14 hj)) (fun j hj => clS_at hyn hXk (srS_15 hj)) (fun j hj => clS_at hyn hXk (srS_16 hj)) (by unfold x_nb; omega) (fun j hj => by show x_bb T U j (x_sz (st_n st y) j - 1) < 1000000; rw [x_bits hT hU hj]; exact Nat.lt_of_le_of_lt (z_bits_le st y j) (by decide))) yi_X2_blockBits mn_X5_133 (hC.at ((clS_at hyn hXk srS_0))) rfl ⟨Nat.le_of_ble_eq_true rfl, Nat.le_of_ble_eq_true rfl⟩ (Nat.le_of_ble_eq_true rfl) hl.1 rfl rfl dX5_allBits_35 ⟨Nat.le_of_ble_eq_true rfl, Nat.le_of_ble_eq_true rfl⟩ (fun v h9 H locs hv hM hS => ?_)
          obtain ⟨hv, hh9⟩ := hv
          subst hv
          rw [hh9] at hM
          refine W.eq (g2 := F0 mt 38 ls [.long (lN (z_su (fun j => x_bb T U j (x_sz (st_n st y) j - 1)) (x_nb (st_n st y)))), .long (lN (z_all st (min y (st_many st))))]) rfl ?_
          refine n_ladd hx hb dX5_allBits_38 ?_
          refine lv_lstore_n (lv' := [(1, .long (lN (z_all st (min y (st_many st)) + (z_su (fun j => x_bb T U j (x_sz (st_n st y) j - 1)) (x_nb (st_n st y)))))), (6, .ref (A (cd (y + 1) 0 0))), (5, .int (nI y)), (4, .int (nI 10)), (3, .ref (A (cd 0 2 0))), (0, .ref (A (cd 0 1 0)))]) hx hb dX5_allBits_39 rfl hl (by decide) rfl (fun ls hl => ?_)
          refine lv_iinc (v := nI (y + 1)) (lv' := [(5, .int (nI (y + 1))), (1, .long (lN (z_all st (min y (st_many st)) + (z_su (fun j => x_bb T U j (x_sz (st_n st y) j - 1)) (x_nb (st_n st y)))))), (6, .ref (A (cd (y + 1) 0 0))), (4, .int (nI 10)), (3, .ref (A (cd 0 2 0))), (0, .ref (A (cd 0 1 0)))]) hx hb dX5_allBits_40 hl (k := 2) rfl (nI_add _ _) (by decide) rfl (fun ls hl => ?_)
          refine lv_goto (tgt := 14) hx hb dX5_allBits_43 (by decide) ?_
          have e9 : z_all st (min (y + 1) (st_many st)) = z_all st (min y (st_many st)) + z_su (z_bits st y) (z_nb st y) := by rw [(mn_s hyn).1, (mn_s hyn).2]; rfl
          have e8 : z_su (fun j => x_bb T U j (x_sz (st_n st y) j - 1)) (x_nb (st_n st y)) = z_su (z_bits st y) (z_nb st y) := su_c _ (fun j hj => x_bits hT hU hj)
          rw [e8, ← e9] at hl
          exact ih (y + 1) (by omega) (by omega) H locs hM hS ls (lv_sub hl [0, 3, 4, 1, 5] rfl)
        · -- ge
          refine lv_aload_n hx hb dX5_allBits_21 rfl (lv_at hl 2 rfl) ?_
          refine lv_iload hx hb dX5_allBits_22 (lv_at hl 0 rfl) ?_
          refine m_sald Z C hM (hC.at (clS_r)) y rfl (by omega) (by decide) (v := .null) (rwL_no (by omega)) dX5_allBits_24 ?_
          refine lv_astoreN (lv' := [(6, .null), (5, .int (nI y)), (4, .int (nI 10)), (3, .ref (A (cd 0 2 0))), (1, .long (lN (z_all st (min y (st_many st))))), (0, .ref (A (cd 0 1 0)))]) hx hb dX5_allBits_25 hl (by decide) rfl (fun ls hl => ?_)
          refine lv_aloadN hx hb dX5_allBits_27 (lv_at hl 0 rfl) ?_
          refine lv_ifnullN (tgt := 40) hx hb dX5_allBits_29 (by decide) ?_
          refine lv_iinc (v := nI (y + 1)) (lv' := [(5, .int (nI (y + 1))), (6, .null), (4, .int (nI 10)), (3, .ref (A (cd 0 2 0))), (1, .long (lN (z_all st (min y (st_many st))))), (0, .ref (A (cd 0 1 0)))]) hx hb dX5_allBits_40 hl (k := 1) rfl (nI_add _ _) (by decide) rfl (fun ls hl => ?_)
          refine lv_goto (tgt := 14) hx hb dX5_allBits_43 (by decide) ?_
          have e9 : z_all st (min (y + 1) (st_many st)) = z_all st (min y (st_many st)) := by rw [mn_g (by omega)]
          rw [← e9] at hl
          exact ih (y + 1) (by omega) (by omega) H locs hM hS ls (lv_sub hl [0, 2, 3, 4, 5] rfl)
  exact lp_1 11 0 (by omega) (by omega) H locs hM hS ls (lv_sub hl [0, 1, 2, 3, 4] rfl)
set_option maxRecDepth 100000 in
set_option maxHeartbeats 4000000 in
theorem c_X5_stateOfAlert {l : Launch} {G : mG} {a0 : Array Value} {s0 : State} (Z : mZ l G a0 s0) (h0 : Hp) (A : Cd → Nat) (tg : Nat → Cd) (st : Ms) (X : Nat → Xs) (fd : Nat) (tt : Int64) (gr : Int32) (hC : CW h0 A tg (clS G A (st_many st) (st_now st) X fd tt gr)) (hk : Iv st) (hR : ∀ k : Nat, k < st_many st → Rx st k (X k)) (k : Nat) (hk9 : k < st_many st) : mT l G s0 yX5_stateOfAlert cX5_stateOfAlert 3 (some .char) 6 90 1 6 h0 [.ref (A (cd 0 1 0)), .ref (A (cd (k + 1) 0 0))] (fun v9 h9 => ((¬ st_ha st k = nI 0) ∧ v9 = some (.int (nI (z_al st k))) ∧ h9 = h0)) (fun E h9 => (E = "java/lang/IllegalStateException" ∧ (st_ha st k = nI 0) ∧ h9 = h0)) := by
  refine mT_in RX5 "stateOfAlert" rfl rfl (by decide +kernel) (Nat.le_of_ble_eq_true rfl) ?_
  intro p e s mt below meth c H locs C ht hM hS ls hl
  have hx := C.1
  have hb := C.2.1
  have hown := C.2.2.2.1
  have hE := C.2.2.2.2.2.2.1
  have hl : lv_has ls 3 [(0, .ref (A (cd 0 1 0))), (1, .ref (A (cd (k + 1) 0 0)))] := hl
  have hF : cFr h0 tg h0 tg := cFr.rf
  obtain ⟨h, hM, hC, hF, hh⟩ : ∃ h9, MW G s0.heap.size h9 H ∧ CW h9 A tg (clS G A (st_many st) (st_now st) X fd tt gr) ∧ cFr h0 tg h9 tg ∧ h9 = h0 := ⟨_, hM, hC, hF, rfl⟩
  obtain ⟨T, U, F, al, hXk, hRi⟩ := hR k hk9
  have hn := hk.n hk9
  obtain ⟨hT, hU, hUr, hRw, hEr, hFs, hal⟩ := hRi
  have hTb : ∀ i : Nat, i < st_n st k → T i < 1073741824 := fun i hi => by rw [hT i hi]; exact hk.T hk9 hi
  rcases al with _ | ⟨li, wa, on, si⟩
  · -- none
    refine lv_aload_n hx hb dX5_stateOfAlert_0 rfl (lv_at hl 1 rfl) ?_
    refine m_getN Z C hM (hC.at ((clS_at hk9 hXk srS_0))) K_X2 8 (by decide) fn_X5_211 (v := .null) rfl dX5_stateOfAlert_1 ?_
    refine lv_astore_nN (lv' := [(2, .null), (0, .ref (A (cd 0 1 0))), (1, .ref (A (cd (k + 1) 0 0)))]) hx hb dX5_stateOfAlert_4 rfl hl (by decide) rfl (fun ls hl => ?_)
    refine lv_aload_nN hx hb dX5_stateOfAlert_5 rfl (lv_at hl 0 rfl) ?_
    refine lv_ifnonnullN hx hb dX5_stateOfAlert_6 ?_
    exact m_throw Z C ht hM hS xy_X5_stateOfAlert_9 hl.1 dX5_stateOfAlert_9 dX5_stateOfAlert_12 dX5_stateOfAlert_13 dX5_stateOfAlert_15 dX5_stateOfAlert_18 ⟨Nat.le_of_ble_eq_true rfl, Nat.le_of_ble_eq_true rfl, Nat.le_of_ble_eq_true rfl, Nat.le_of_ble_eq_true rfl⟩ (Nat.le_of_ble_eq_true rfl) (Nat.le_of_ble_eq_true rfl) ⟨rfl, hal, hh⟩
  · -- some
    refine lv_aload_n hx hb dX5_stateOfAlert_0 rfl (lv_at hl 1 rfl) ?_
    refine m_getN Z C hM (hC.at ((clS_at hk9 hXk srS_0))) K_X2 8 (by decide) fn_X5_211 (v := .ref (A (cd (k + 1) 13 0))) rfl dX5_stateOfAlert_1 ?_
    refine lv_astore_n (lv' := [(2, .ref (A (cd (k + 1) 13 0))), (0, .ref (A (cd 0 1 0))), (1, .ref (A (cd (k + 1) 0 0)))]) hx hb dX5_stateOfAlert_4 rfl hl (by decide) rfl (fun ls hl => ?_)
    refine lv_aload_n hx hb dX5_stateOfAlert_5 rfl (lv_at hl 0 rfl) ?_
    refine lv_ifnonnull (tgt := 19) hx hb dX5_stateOfAlert_6 (by decide) ?_
    refine lv_aload_n hx hb dX5_stateOfAlert_19 rfl (lv_at hl 0 rfl) ?_
    refine lv_aload_n hx hb dX5_stateOfAlert_20 rfl (lv_at hl 1 rfl) ?_
    refine m_get Z C hM (hC.at (clS_h)) K_X5 3 (by decide) fl_X5_26 (v := .long (lN (st_now st))) rfl dX5_stateOfAlert_21 ?_
    refine m_callVN Z C hM hS (As := [.long (lN (st_now st))]) (rest := []) (by have q9 := c_X0_stateAt Z h A tg (clS G A (st_many st) (st_now st) X fd tt gr) hC k (lN (st_now st)) li wa on si (clS_13 hk9 hXk); rw [al_c hal] at q9; exact q9) yi_X0_stateAt mn_X5_215 (hC.at ((clS_13 hk9 hXk))) rfl ⟨Nat.le_of_ble_eq_true rfl, Nat.le_of_ble_eq_true rfl⟩ (Nat.le_of_ble_eq_true rfl) hl.1 rfl rfl dX5_stateOfAlert_24 ⟨Nat.le_of_ble_eq_true rfl, Nat.le_of_ble_eq_true rfl⟩ (fun v h9 H locs hv hM hS => ?_)
    obtain ⟨hv, hh9⟩ := hv
    subst hv
    rw [hh9] at hM
    have hal9 := z_al_lt st k
    refine W.eq (g2 := F0 mt 27 ls [.int (nI (z_al st k))]) rfl ?_
    refine vx_ret ?_
    exact m_zret C hM hS (Nat.le_of_ble_eq_true rfl) (Nat.le_of_ble_eq_true rfl) (z_al_nar _ _) dX5_stateOfAlert_27 ⟨(ha_some hal), rfl, hh⟩
set_option maxRecDepth 100000 in
set_option maxHeartbeats 4000000 in
theorem c_X5_alertOf {l : Launch} {G : mG} {a0 : Array Value} {s0 : State} (Z : mZ l G a0 s0) (h0 : Hp) (A : Cd → Nat) (tg : Nat → Cd) (st : Ms) (X : Nat → Xs) (fd : Nat) (tt : Int64) (gr : Int32) (hC : CW h0 A tg (clS G A (st_many st) (st_now st) X fd tt gr)) (hk : Iv st) (hR : ∀ k : Nat, k < st_many st → Rx st k (X k)) (x : Int32) : mT l G s0 yX5_alertOf cX5_alertOf 2 (some .char) 7 112 2 12 h0 [.ref (A (cd 0 1 0)), .int x] (fun v9 h9 => (∃ k : Nat, (k < st_many st) ∧ (x = nI k) ∧ (¬ st_ha st k = nI 0) ∧ v9 = some (.int (nI (z_al st k))) ∧ NW G h0 h9 A tg st)) (fun E h9 => (E = "java/util/NoSuchElementException" ∧ (∀ k : Nat, k < st_many st → x ≠ nI k) ∧ NW G h0 h9 A tg st) ∨ (∃ k : Nat, E = "java/lang/IllegalStateException" ∧ (k < st_many st) ∧ (x = nI k) ∧ (st_ha st k = nI 0) ∧ NW G h0 h9 A tg st)) := by
  refine mT_in RX5 "alertOf" rfl rfl (by decide +kernel) (Nat.le_of_ble_eq_true rfl) ?_
  intro p e s mt below meth c H locs C ht hM hS ls hl
  have hx := C.1
  have hb := C.2.1
  have hown := C.2.2.2.1
  have hE := C.2.2.2.2.2.2.1
  have hl : lv_has ls 2 [(0, .ref (A (cd 0 1 0))), (1, .int x)] := hl
  have hF : cFr h0 tg h0 tg := cFr.rf
  obtain ⟨h, hM, hC, hF, hh⟩ : ∃ h9, MW G s0.heap.size h9 H ∧ CW h9 A tg (clS G A (st_many st) (st_now st) X fd tt gr) ∧ cFr h0 tg h9 tg ∧ h9 = h0 := ⟨_, hM, hC, hF, rfl⟩
  refine lv_aload_n hx hb dX5_alertOf_0 rfl (lv_at hl 0 rfl) ?_
  refine lv_aload_n hx hb dX5_alertOf_1 rfl (lv_at hl 0 rfl) ?_
  refine lv_iload_n hx hb dX5_alertOf_2 rfl (lv_at hl 1 rfl) ?_
  refine m_xcallV Z C hM hS (As := [.int x]) (rest := [.ref (A (cd 0 1 0))]) (c_X5_rowOf Z h A tg st X fd tt gr hC hk hR x) yi_X5_rowOf ml_X5_57 (hC.at (clS_h)) rfl ⟨Nat.le_of_ble_eq_true rfl, Nat.le_of_ble_eq_true rfl⟩ (Nat.le_of_ble_eq_true rfl) hl.1 rfl rfl dX5_alertOf_3 ⟨Nat.le_of_ble_eq_true rfl, Nat.le_of_ble_eq_true rfl⟩ (fun E ce q9 h9 H locs hv hM hS g1 g2 g3 => ?_) (fun v h9 H locs hv hM hS => ?_)
  · -- thrown at 3
    obtain ⟨hE, f_4, hh9⟩ := hv
    rw [hh9] at hM
    exact m_out C ht hM hS (Nat.le_of_ble_eq_true rfl) (Nat.le_of_ble_eq_true rfl) g1 g2 g3 (Or.inl ⟨hE, f_4, ⟨A, tg, X, _, _, _, rfl, hC, hF, hR⟩⟩)
  · -- back at 3
    obtain ⟨k_1, f_2, f_3, hv, hh9⟩ := hv
    subst hv
    rw [hh9] at hM
    obtain ⟨T, U, F, al, hXk, hRi⟩ := hR k_1 f_2
    have hn := hk.n f_2
    obtain ⟨hT, hU, hUr, hRw, hEr, hFs, hal⟩ := hRi
    have hTb : ∀ i : Nat, i < st_n st k_1 → T i < 1073741824 := fun i hi => by rw [hT i hi]; exact hk.T f_2 hi
    refine W.eq (g2 := F0 mt 6 ls [.ref (A (cd (k_1 + 1) 0 0)), .ref (A (cd 0 1 0))]) rfl ?_
    refine m_xcallV Z C hM hS (As := [.ref (A (cd (k_1 + 1) 0 0))]) (rest := []) (c_X5_stateOfAlert Z h A tg st X fd tt gr hC hk hR k_1 f_2) yi_X5_stateOfAlert ml_X5_219 (hC.at (clS_h)) rfl ⟨Nat.le_of_ble_eq_true rfl, Nat.le_of_ble_eq_true rfl⟩ (Nat.le_of_ble_eq_true rfl) hl.1 rfl rfl dX5_alertOf_6 ⟨Nat.le_of_ble_eq_true rfl, Nat.le_of_ble_eq_true rfl⟩ (fun E ce q9 h9 H locs hv hM hS g1 g2 g3 => ?_) (fun v h9 H locs hv hM hS => ?_)
    · -- thrown at 6
      obtain ⟨hE, f_6, hh9⟩ := hv
      rw [hh9] at hM
      exact m_out C ht hM hS (Nat.le_of_ble_eq_true rfl) (Nat.le_of_ble_eq_true rfl) g1 g2 g3 (Or.inr ⟨k_1, hE, f_2, f_3, f_6, ⟨A, tg, X, _, _, _, rfl, hC, hF, hR⟩⟩)
    · -- back at 6
      obtain ⟨f_5, hv, hh9⟩ := hv
      subst hv
      rw [hh9] at hM
      refine W.eq (g2 := F0 mt 9 ls [.int (nI (z_al st k_1))]) rfl ?_
      refine vx_ret ?_
      exact m_zret C hM hS (Nat.le_of_ble_eq_true rfl) (Nat.le_of_ble_eq_true rfl) (z_al_nar _ _) dX5_alertOf_9 ⟨k_1, f_2, f_3, f_5, rfl, ⟨A, tg, X, _, _, _, rfl, hC, hF, hR⟩⟩
set_option maxRecDepth 100000 in
set_option maxHeartbeats 4000000 in
theorem c_X5_firingAlerts {l : Launch} {G : mG} {a0 : Array Value} {s0 : State} (Z : mZ l G a0 s0) (h0 : Hp) (A : Cd → Nat) (tg : Nat → Cd) (st : Ms) (X : Nat → Xs) (fd : Nat) (tt : Int64) (gr : Int32) (hC : CW h0 A tg (clS G A (st_many st) (st_now st) X fd tt gr)) (hk : Iv st) (hR : ∀ k : Nat, k < st_many st → Rx st k (X k)) : mM l G s0 yX5_firingAlerts cX5_firingAlerts 6 (some .int) 1 22 0 0 h0 [.ref (A (cd 0 1 0))] (fun v9 h9 => (v9 = some (.int (nI (z_ct (z_fi st) (st_many st)))) ∧ h9 = h0)) := by
  refine mM_in RX5 "firingAlerts" rfl rfl (by decide +kernel) (Nat.le_of_ble_eq_true rfl) ?_
  intro p e s mt below meth c H locs C hM hS ls hl
  have hx := C.1
  have hb := C.2.1
  have hown := C.2.2.2.1
  have hE := C.2.2.2.2.2.2.1
  have hl : lv_has ls 6 [(0, .ref (A (cd 0 1 0)))] := hl
  have hF : cFr h0 tg h0 tg := cFr.rf
  obtain ⟨h, hM, hC, hF, hh⟩ : ∃ h9, MW G s0.heap.size h9 H ∧ CW h9 A tg (clS G A (st_many st) (st_now st) X fd tt gr) ∧ cFr h0 tg h9 tg ∧ h9 = h0 := ⟨_, hM, hC, hF, rfl⟩
  have hm10 := hk.m10
  refine lv_iconst (v := nI 0) hx hb dX5_firingAlerts_0 (by decide) ?_
  refine lv_istore_n (lv' := [(1, .int (nI 0)), (0, .ref (A (cd 0 1 0)))]) hx hb dX5_firingAlerts_1 rfl hl (by decide) rfl (fun ls hl => ?_)
  refine lv_aload_n hx hb dX5_firingAlerts_2 rfl (lv_at hl 1 rfl) ?_
  refine m_get Z C hM (hC.at (clS_h)) K_X5 0 (by decide) fl_X5_11 (v := .ref (A (cd 0 2 0))) rfl dX5_firingAlerts_3 ?_
  refine lv_astore_n (lv' := [(2, .ref (A (cd 0 2 0))), (1, .int (nI 0)), (0, .ref (A (cd 0 1 0)))]) hx hb dX5_firingAlerts_6 rfl hl (by decide) rfl (fun ls hl => ?_)
  refine lv_aload_n hx hb dX5_firingAlerts_7 rfl (lv_at hl 0 rfl) ?_
  refine m_alen (t0 := 3) Z C hM rfl (hC.at (clS_r)) dX5_firingAlerts_8 ?_
  refine W.eq (g2 := F0 mt 9 ls [.int (nI 10)]) rfl ?_
  refine lv_istore_n (lv' := [(3, .int (nI 10)), (2, .ref (A (cd 0 2 0))), (1, .int (nI 0)), (0, .ref (A (cd 0 1 0)))]) hx hb dX5_firingAlerts_9 rfl hl (by decide) rfl (fun ls hl => ?_)
  refine lv_iconst (v := nI 0) hx hb dX5_firingAlerts_10 (by decide) ?_
  refine lv_istore (lv' := [(4, .int (nI 0)), (3, .int (nI 10)), (2, .ref (A (cd 0 2 0))), (1, .int (nI 0)), (0, .ref (A (cd 0 1 0)))]) hx hb dX5_firingAlerts_11 hl (by decide) rfl (fun ls hl => ?_)
  have lp_1 : ∀ (fu : Nat) (y : Nat), 10 < y + fu → y ≤ 10 → ∀ (H : Heap) (locs : List Loc), MW G s0.heap.size h H → va_S (fun q => s0.heap.size ≤ q) s.heap H locs → ∀ ls : Array Slot, lv_has ls 6 [(4, .int (nI y)), (3, .int (nI 10)), (2, .ref (A (cd 0 2 0))), (1, .int (nI (z_ct (z_fi st) (min y (st_many st))))), (0, .ref (A (cd 0 1 0)))] → W p l e (mRm 1 22 0 0) s mt ([.ref (A (cd 0 1 0))] : List Value).toArray below meth c H locs 0 0 (MQ below (mQc G s0 (fun v9 h9 => (v9 = some (.int (nI (z_ct (z_fi st) (st_many st)))) ∧ h9 = h0))) ([.ref (A (cd 0 1 0))] : List Value).toArray s 0 0 (fun q => s0.heap.size ≤ q)) (F0 mt 13 ls []) := by
    intro fu
    induction fu with
    | zero => intro y hfu _; exact absurd hfu (by omega)
    | succ fu ih =>
      intro y hfu hy H locs hM hS ls hl
      refine lv_iload hx hb dX5_firingAlerts_13 (lv_at hl 0 rfl) ?_
      refine lv_iload_n hx hb dX5_firingAlerts_15 rfl (lv_at hl 1 rfl) ?_
      refine lv_icmp_ge (tgt := 64) hx hb dX5_firingAlerts_16 (by decide) (fun c_2 => ?_) (fun c_2 => ?_)
      · -- 16 t
        have c_2 : 10 ≤ y := (nI_leI (by decide) (by omega)).mp c_2
        refine lv_iload_n hx hb dX5_firingAlerts_64 rfl (lv_at hl 3 rfl) ?_
        exact m_iret C hM hS (Nat.le_of_ble_eq_true rfl) (Nat.le_of_ble_eq_true rfl) dX5_firingAlerts_65 ⟨(by rw [show min y (st_many st) = st_many st by omega]), hh⟩
      · -- 16 f
        have c_2 : ¬ 10 ≤ y := fun q => c_2 ((nI_leI (by decide) (by omega)).mpr q)
        rcases Nat.lt_or_ge y (st_many st) with hyn | hyn
        · -- lt
          obtain ⟨T, U, F, al, hXk, hRi⟩ := hR y hyn
          have hn := hk.n hyn
          obtain ⟨hT, hU, hUr, hRw, hEr, hFs, hal⟩ := hRi
          have hTb : ∀ i : Nat, i < st_n st y → T i < 1073741824 := fun i hi => by rw [hT i hi]; exact hk.T hyn hi
          refine lv_aload_n hx hb dX5_firingAlerts_19 rfl (lv_at hl 2 rfl) ?_
          refine lv_iload hx hb dX5_firingAlerts_20 (lv_at hl 0 rfl) ?_
          refine m_sald Z C hM (hC.at (clS_r)) y rfl (by omega) (by decide) (v := .ref (A (cd (y + 1) 0 0))) (rwL_at (by omega)) dX5_firingAlerts_22 ?_
          refine lv_astore (lv' := [(5, .ref (A (cd (y + 1) 0 0))), (4, .int (nI y)), (3, .int (nI 10)), (2, .ref (A (cd 0 2 0))), (1, .int (nI (z_ct (z_fi st) (min y (st_many st))))), (0, .ref (A (cd 0 1 0)))]) hx hb dX5_firingAlerts_23 hl (by decide) rfl (fun ls hl => ?_)
          rcases al with _ | ⟨li, wa, on, si⟩
          · -- none
            refine lv_aload hx hb dX5_firingAlerts_25 (lv_at hl 0 rfl) ?_
            refine lv_ifnull hx hb dX5_firingAlerts_27 ?_
            refine lv_aload hx hb dX5_firingAlerts_30 (lv_at hl 0 rfl) ?_
            refine m_getN Z C hM (hC.at ((clS_at hyn hXk srS_0))) K_X2 8 (by decide) fn_X5_211 (v := .null) rfl dX5_firingAlerts_32 ?_
            refine lv_ifnullN (tgt := 58) hx hb dX5_firingAlerts_35 (by decide) ?_
            refine lv_iinc (v := nI (y + 1)) (lv' := [(4, .int (nI (y + 1))), (5, .ref (A (cd (y + 1) 0 0))), (3, .int (nI 10)), (2, .ref (A (cd 0 2 0))), (1, .int (nI (z_ct (z_fi st) (min y (st_many st))))), (0, .ref (A (cd 0 1 0)))]) hx hb dX5_firingAlerts_58 hl (k := 1) rfl (nI_add _ _) (by decide) rfl (fun ls hl => ?_)
            refine lv_goto (tgt := 13) hx hb dX5_firingAlerts_61 (by decide) ?_
            have e9 : z_ct (z_fi st) (min (y + 1) (st_many st)) = z_ct (z_fi st) (min y (st_many st)) := by rw [(mn_s hyn).1, (mn_s hyn).2]; exact z_ct_f (fi_no hal)
            rw [← e9] at hl
            exact ih (y + 1) (by omega) (by omega) H locs hM hS ls (lv_sub hl [0, 2, 3, 4, 5] rfl)
          · -- some
            refine lv_aload hx hb dX5_firingAlerts_25 (lv_at hl 0 rfl) ?_
            refine lv_ifnull hx hb dX5_firingAlerts_27 ?_
            refine lv_aload hx hb dX5_firingAlerts_30 (lv_at hl 0 rfl) ?_
            refine m_getN Z C hM (hC.at ((clS_at hyn hXk srS_0))) K_X2 8 (by decide) fn_X5_211 (v := .ref (A (cd (y + 1) 13 0))) rfl dX5_firingAlerts_32 ?_
            refine lv_ifnull hx hb dX5_firingAlerts_35 ?_
            refine lv_aload hx hb dX5_firingAlerts_38 (lv_at hl 0 rfl) ?_
            refine m_getN Z C hM (hC.at ((clS_at hyn hXk srS_0))) K_X2 8 (by decide) fn_X5_211 (v := .ref (A (cd (y + 1) 13 0))) rfl dX5_firingAlerts_40 ?_
            refine lv_aload_n hx hb dX5_firingAlerts_43 rfl (lv_at hl 5 rfl) ?_
            refine m_get Z C hM (hC.at (clS_h)) K_X5 3 (by decide) fl_X5_26 (v := .long (lN (st_now st))) rfl dX5_firingAlerts_44 ?_
            refine m_callVN Z C hM hS (As := [.long (lN (st_now st))]) (rest := []) (by have q9 := c_X0_stateAt Z h A tg (clS G A (st_many st) (st_now st) X fd tt gr) hC y (lN (st_now st)) li wa on si (clS_13 hyn hXk); rw [al_c hal] at q9; exact q9) yi_X0_stateAt mn_X5_215 (hC.at ((clS_13 hyn hXk))) rfl ⟨Nat.le_of_ble_eq_true rfl, Nat.le_of_ble_eq_true rfl⟩ (Nat.le_of_ble_eq_true rfl) hl.1 rfl rfl dX5_firingAlerts_47 ⟨Nat.le_of_ble_eq_true rfl, Nat.le_of_ble_eq_true rfl⟩ (fun v h9 H locs hv hM hS => ?_)
            obtain ⟨hv, hh9⟩ := hv
            subst hv
            rw [hh9] at hM
            have hal9 := z_al_lt st y
            refine W.eq (g2 := F0 mt 50 ls [.int (nI (z_al st y))]) rfl ?_
            refine lv_bipush (v := nI 102) hx hb dX5_firingAlerts_50 (by decide) ?_
            refine lv_icmp_ne (tgt := 58) hx hb dX5_firingAlerts_52 (by decide) (fun c_7 => ?_) (fun c_7 => ?_)
            · -- 52 t
              have c_7 : ¬ z_al st y = 102 := fun q => c_7 ((nI_eq (by omega) (by decide)).mpr q)
              refine lv_iinc (v := nI (y + 1)) (lv' := [(4, .int (nI (y + 1))), (5, .ref (A (cd (y + 1) 0 0))), (3, .int (nI 10)), (2, .ref (A (cd 0 2 0))), (1, .int (nI (z_ct (z_fi st) (min y (st_many st))))), (0, .ref (A (cd 0 1 0)))]) hx hb dX5_firingAlerts_58 hl (k := 1) rfl (nI_add _ _) (by decide) rfl (fun ls hl => ?_)
              refine lv_goto (tgt := 13) hx hb dX5_firingAlerts_61 (by decide) ?_
              have e9 : z_ct (z_fi st) (min (y + 1) (st_many st)) = z_ct (z_fi st) (min y (st_many st)) := by rw [(mn_s hyn).1, (mn_s hyn).2]; exact z_ct_f (fun q => c_7 q.2)
              rw [← e9] at hl
              exact ih (y + 1) (by omega) (by omega) H locs hM hS ls (lv_sub hl [0, 2, 3, 4, 5] rfl)
            · -- 52 f
              have c_7 : z_al st y = 102 := (nI_eq (by omega) (by decide)).mp c_7
              refine lv_iinc (v := nI (z_ct (z_fi st) (min y (st_many st)) + 1)) (lv' := [(1, .int (nI (z_ct (z_fi st) (min y (st_many st)) + 1))), (5, .ref (A (cd (y + 1) 0 0))), (4, .int (nI y)), (3, .int (nI 10)), (2, .ref (A (cd 0 2 0))), (0, .ref (A (cd 0 1 0)))]) hx hb dX5_firingAlerts_55 hl (k := 4) rfl (nI_add _ _) (by decide) rfl (fun ls hl => ?_)
              refine lv_iinc (v := nI (y + 1)) (lv' := [(4, .int (nI (y + 1))), (1, .int (nI (z_ct (z_fi st) (min y (st_many st)) + 1))), (5, .ref (A (cd (y + 1) 0 0))), (3, .int (nI 10)), (2, .ref (A (cd 0 2 0))), (0, .ref (A (cd 0 1 0)))]) hx hb dX5_firingAlerts_58 hl (k := 2) rfl (nI_add _ _) (by decide) rfl (fun ls hl => ?_)
              refine lv_goto (tgt := 13) hx hb dX5_firingAlerts_61 (by decide) ?_
              have e9 : z_ct (z_fi st) (min (y + 1) (st_many st)) = z_ct (z_fi st) (min y (st_many st)) + 1 := by rw [(mn_s hyn).1, (mn_s hyn).2]; exact z_ct_t (fi_some hal c_7)
              rw [← e9] at hl
              exact ih (y + 1) (by omega) (by omega) H locs hM hS ls (lv_sub hl [0, 3, 4, 1, 5] rfl)
        · -- ge
          refine lv_aload_n hx hb dX5_firingAlerts_19 rfl (lv_at hl 2 rfl) ?_
          refine lv_iload hx hb dX5_firingAlerts_20 (lv_at hl 0 rfl) ?_
          refine m_sald Z C hM (hC.at (clS_r)) y rfl (by omega) (by decide) (v := .null) (rwL_no (by omega)) dX5_firingAlerts_22 ?_
          refine lv_astoreN (lv' := [(5, .null), (4, .int (nI y)), (3, .int (nI 10)), (2, .ref (A (cd 0 2 0))), (1, .int (nI (z_ct (z_fi st) (min y (st_many st))))), (0, .ref (A (cd 0 1 0)))]) hx hb dX5_firingAlerts_23 hl (by decide) rfl (fun ls hl => ?_)
          refine lv_aloadN hx hb dX5_firingAlerts_25 (lv_at hl 0 rfl) ?_
          refine lv_ifnullN (tgt := 58) hx hb dX5_firingAlerts_27 (by decide) ?_
          refine lv_iinc (v := nI (y + 1)) (lv' := [(4, .int (nI (y + 1))), (5, .null), (3, .int (nI 10)), (2, .ref (A (cd 0 2 0))), (1, .int (nI (z_ct (z_fi st) (min y (st_many st))))), (0, .ref (A (cd 0 1 0)))]) hx hb dX5_firingAlerts_58 hl (k := 1) rfl (nI_add _ _) (by decide) rfl (fun ls hl => ?_)
          refine lv_goto (tgt := 13) hx hb dX5_firingAlerts_61 (by decide) ?_
          have e9 : z_ct (z_fi st) (min (y + 1) (st_many st)) = z_ct (z_fi st) (min y (st_many st)) := by rw [mn_g (by omega)]
          rw [← e9] at hl
          exact ih (y + 1) (by omega) (by omega) H locs hM hS ls (lv_sub hl [0, 2, 3, 4, 5] rfl)
  exact lp_1 11 0 (by omega) (by omega) H locs hM hS ls (lv_sub hl [0, 1, 2, 3, 4] rfl)
set_option maxRecDepth 100000 in
set_option maxHeartbeats 4000000 in
theorem c_X5_firing {l : Launch} {G : mG} {a0 : Array Value} {s0 : State} (Z : mZ l G a0 s0) (h0 : Hp) (A : Cd → Nat) (tg : Nat → Cd) (st : Ms) (X : Nat → Xs) (fd : Nat) (tt : Int64) (gr : Int32) (hC : CW h0 A tg (clS G A (st_many st) (st_now st) X fd tt gr)) (hk : Iv st) (hR : ∀ k : Nat, k < st_many st → Rx st k (X k)) : mM l G s0 yX5_firing cX5_firing 1 (some .int) 2 47 0 0 h0 [.ref (A (cd 0 1 0))] (fun v9 h9 => (v9 = some (.int (nI (z_ct (z_fi st) (st_many st)))) ∧ NW G h0 h9 A tg st)) := by
  refine mM_in RX5 "firing" rfl rfl (by decide +kernel) (Nat.le_of_ble_eq_true rfl) ?_
  intro p e s mt below meth c H locs C hM hS ls hl
  have hx := C.1
  have hb := C.2.1
  have hown := C.2.2.2.1
  have hE := C.2.2.2.2.2.2.1
  have hl : lv_has ls 1 [(0, .ref (A (cd 0 1 0)))] := hl
  have hF : cFr h0 tg h0 tg := cFr.rf
  obtain ⟨h, hM, hC, hF, hh⟩ : ∃ h9, MW G s0.heap.size h9 H ∧ CW h9 A tg (clS G A (st_many st) (st_now st) X fd tt gr) ∧ cFr h0 tg h9 tg ∧ h9 = h0 := ⟨_, hM, hC, hF, rfl⟩
  refine lv_aload_n hx hb dX5_firing_0 rfl (lv_at hl 0 rfl) ?_
  refine m_callV Z C hM hS (As := []) (rest := []) (c_X5_firingAlerts Z h A tg st X fd tt gr hC hk hR ) yi_X5_firingAlerts ml_X5_223 (hC.at (clS_h)) rfl ⟨Nat.le_of_ble_eq_true rfl, Nat.le_of_ble_eq_true rfl⟩ (Nat.le_of_ble_eq_true rfl) hl.1 rfl rfl dX5_firing_1 ⟨Nat.le_of_ble_eq_true rfl, Nat.le_of_ble_eq_true rfl⟩ (fun v h9 H locs hv hM hS => ?_)
  obtain ⟨hv, hh9⟩ := hv
  subst hv
  rw [hh9] at hM
  refine W.eq (g2 := F0 mt 4 ls [.int (nI (z_ct (z_fi st) (st_many st)))]) rfl ?_
  exact m_iret C hM hS (Nat.le_of_ble_eq_true rfl) (Nat.le_of_ble_eq_true rfl) dX5_firing_4 ⟨rfl, ⟨A, tg, X, _, _, _, rfl, hC, hF, hR⟩⟩
set_option maxRecDepth 100000 in
set_option maxHeartbeats 4000000 in
theorem c_X5_firingShare {l : Launch} {G : mG} {a0 : Array Value} {s0 : State} (Z : mZ l G a0 s0) (h0 : Hp) (A : Cd → Nat) (tg : Nat → Cd) (st : Ms) (X : Nat → Xs) (fd : Nat) (tt : Int64) (gr : Int32) (hC : CW h0 A tg (clS G A (st_many st) (st_now st) X fd tt gr)) (hk : Iv st) (hR : ∀ k : Nat, k < st_many st → Rx st k (X k)) : mT l G s0 yX5_firingShare cX5_firingShare 1 (some .float) 6 90 1 6 h0 [.ref (A (cd 0 1 0))] (fun v9 h9 => ((¬ st_many st = 0) ∧ v9 = some (.float (FP.fdiv (FP.i2f (nI (z_ct (z_fi st) (st_many st)))) (FP.i2f (nI (st_many st))))) ∧ NW G h0 h9 A tg st)) (fun E h9 => (E = "java/lang/ArithmeticException" ∧ (st_many st = 0) ∧ NW G h0 h9 A tg st)) := by
  refine mT_in RX5 "firingShare" rfl rfl (by decide +kernel) (Nat.le_of_ble_eq_true rfl) ?_
  intro p e s mt below meth c H locs C ht hM hS ls hl
  have hx := C.1
  have hb := C.2.1
  have hown := C.2.2.2.1
  have hE := C.2.2.2.2.2.2.1
  have hl : lv_has ls 1 [(0, .ref (A (cd 0 1 0)))] := hl
  have hF : cFr h0 tg h0 tg := cFr.rf
  obtain ⟨h, hM, hC, hF, hh⟩ : ∃ h9, MW G s0.heap.size h9 H ∧ CW h9 A tg (clS G A (st_many st) (st_now st) X fd tt gr) ∧ cFr h0 tg h9 tg ∧ h9 = h0 := ⟨_, hM, hC, hF, rfl⟩
  have hm10 := hk.m10
  have hct : z_ct (z_fi st) (st_many st) ≤ st_many st := z_ct_le _ _
  refine lv_aload_n hx hb dX5_firingShare_0 rfl (lv_at hl 0 rfl) ?_
  refine m_get Z C hM (hC.at (clS_h)) K_X5 2 (by decide) fl_X5_22 (v := .int (nI (st_many st))) rfl dX5_firingShare_1 ?_
  refine lv_if_ne (tgt := 17) hx hb dX5_firingShare_4 (by decide) (fun c_1 => ?_) (fun c_1 => ?_)
  · -- 4 t
    have c_1 : ¬ st_many st = 0 := fun q => c_1 ((nI_eq (by omega) (by decide)).mpr q)
    refine lv_aload_n hx hb dX5_firingShare_17 rfl (lv_at hl 0 rfl) ?_
    refine m_callV Z C hM hS (As := []) (rest := []) (c_X5_firingAlerts Z h A tg st X fd tt gr hC hk hR ) yi_X5_firingAlerts ml_X5_223 (hC.at (clS_h)) rfl ⟨Nat.le_of_ble_eq_true rfl, Nat.le_of_ble_eq_true rfl⟩ (Nat.le_of_ble_eq_true rfl) hl.1 rfl rfl dX5_firingShare_18 ⟨Nat.le_of_ble_eq_true rfl, Nat.le_of_ble_eq_true rfl⟩ (fun v h9 H locs hv hM hS => ?_)
    obtain ⟨hv, hh9⟩ := hv
    subst hv
    rw [hh9] at hM
    refine W.eq (g2 := F0 mt 21 ls [.int (nI (z_ct (z_fi st) (st_many st)))]) rfl ?_
    refine lv_i2f hx hb dX5_firingShare_21 ?_
    refine lv_aload_n hx hb dX5_firingShare_22 rfl (lv_at hl 0 rfl) ?_
    refine m_get Z C hM (hC.at (clS_h)) K_X5 2 (by decide) fl_X5_22 (v := .int (nI (st_many st))) rfl dX5_firingShare_23 ?_
    refine lv_i2f hx hb dX5_firingShare_26 ?_
    refine lv_fdiv hx hb dX5_firingShare_27 ((f_div_ok _ (by omega) _ (by omega) (by omega)).1) ?_
    refine vx_ret ?_
    exact m_fret C hM hS (Nat.le_of_ble_eq_true rfl) (Nat.le_of_ble_eq_true rfl) dX5_firingShare_28 ⟨c_1, rfl, ⟨A, tg, X, _, _, _, rfl, hC, hF, hR⟩⟩
  · -- 4 f
    have c_1 : st_many st = 0 := (nI_eq (by omega) (by decide)).mp c_1
    exact m_throw Z C ht hM hS xy_X5_firingShare_7 hl.1 dX5_firingShare_7 dX5_firingShare_10 dX5_firingShare_11 dX5_firingShare_13 dX5_firingShare_16 ⟨Nat.le_of_ble_eq_true rfl, Nat.le_of_ble_eq_true rfl, Nat.le_of_ble_eq_true rfl, Nat.le_of_ble_eq_true rfl⟩ (Nat.le_of_ble_eq_true rfl) (Nat.le_of_ble_eq_true rfl) ⟨rfl, c_1, ⟨A, tg, X, _, _, _, rfl, hC, hF, hR⟩⟩
set_option maxRecDepth 100000 in
set_option maxHeartbeats 4000000 in
theorem c_X5_time {l : Launch} {G : mG} {a0 : Array Value} {s0 : State} (Z : mZ l G a0 s0) (h0 : Hp) (A : Cd → Nat) (tg : Nat → Cd) (st : Ms) (X : Nat → Xs) (fd : Nat) (tt : Int64) (gr : Int32) (hC : CW h0 A tg (clS G A (st_many st) (st_now st) X fd tt gr)) (hk : Iv st) (hR : ∀ k : Nat, k < st_many st → Rx st k (X k)) : mM l G s0 yX5_time cX5_time 1 (some .long) 0 0 0 0 h0 [.ref (A (cd 0 1 0))] (fun v9 h9 => (v9 = some (.long (lN (st_now st))) ∧ NW G h0 h9 A tg st)) := by
  refine mM_in RX5 "time" rfl rfl (by decide +kernel) (Nat.le_of_ble_eq_true rfl) ?_
  intro p e s mt below meth c H locs C hM hS ls hl
  have hx := C.1
  have hb := C.2.1
  have hown := C.2.2.2.1
  have hE := C.2.2.2.2.2.2.1
  have hl : lv_has ls 1 [(0, .ref (A (cd 0 1 0)))] := hl
  have hF : cFr h0 tg h0 tg := cFr.rf
  obtain ⟨h, hM, hC, hF, hh⟩ : ∃ h9, MW G s0.heap.size h9 H ∧ CW h9 A tg (clS G A (st_many st) (st_now st) X fd tt gr) ∧ cFr h0 tg h9 tg ∧ h9 = h0 := ⟨_, hM, hC, hF, rfl⟩
  refine lv_aload_n hx hb dX5_time_0 rfl (lv_at hl 0 rfl) ?_
  refine m_get Z C hM (hC.at (clS_h)) K_X5 3 (by decide) fl_X5_26 (v := .long (lN (st_now st))) rfl dX5_time_1 ?_
  exact m_lret C hM hS (Nat.le_of_ble_eq_true rfl) (Nat.le_of_ble_eq_true rfl) dX5_time_4 ⟨rfl, ⟨A, tg, X, _, _, _, rfl, hC, hF, hR⟩⟩
set_option maxRecDepth 100000 in
set_option maxHeartbeats 4000000 in
theorem c_X5_seriesCount {l : Launch} {G : mG} {a0 : Array Value} {s0 : State} (Z : mZ l G a0 s0) (h0 : Hp) (A : Cd → Nat) (tg : Nat → Cd) (st : Ms) (X : Nat → Xs) (fd : Nat) (tt : Int64) (gr : Int32) (hC : CW h0 A tg (clS G A (st_many st) (st_now st) X fd tt gr)) (hk : Iv st) (hR : ∀ k : Nat, k < st_many st → Rx st k (X k)) : mM l G s0 yX5_seriesCount cX5_seriesCount 1 (some .int) 0 0 0 0 h0 [.ref (A (cd 0 1 0))] (fun v9 h9 => (v9 = some (.int (nI (st_many st))) ∧ NW G h0 h9 A tg st)) := by
  refine mM_in RX5 "seriesCount" rfl rfl (by decide +kernel) (Nat.le_of_ble_eq_true rfl) ?_
  intro p e s mt below meth c H locs C hM hS ls hl
  have hx := C.1
  have hb := C.2.1
  have hown := C.2.2.2.1
  have hE := C.2.2.2.2.2.2.1
  have hl : lv_has ls 1 [(0, .ref (A (cd 0 1 0)))] := hl
  have hF : cFr h0 tg h0 tg := cFr.rf
  obtain ⟨h, hM, hC, hF, hh⟩ : ∃ h9, MW G s0.heap.size h9 H ∧ CW h9 A tg (clS G A (st_many st) (st_now st) X fd tt gr) ∧ cFr h0 tg h9 tg ∧ h9 = h0 := ⟨_, hM, hC, hF, rfl⟩
  refine lv_aload_n hx hb dX5_seriesCount_0 rfl (lv_at hl 0 rfl) ?_
  refine m_get Z C hM (hC.at (clS_h)) K_X5 2 (by decide) fl_X5_22 (v := .int (nI (st_many st))) rfl dX5_seriesCount_1 ?_
  exact m_iret C hM hS (Nat.le_of_ble_eq_true rfl) (Nat.le_of_ble_eq_true rfl) dX5_seriesCount_4 ⟨rfl, ⟨A, tg, X, _, _, _, rfl, hC, hF, hR⟩⟩
set_option maxRecDepth 100000 in
set_option maxHeartbeats 4000000 in
theorem c_X5_isConsistent {l : Launch} {G : mG} {a0 : Array Value} {s0 : State} (Z : mZ l G a0 s0) (h0 : Hp) (A : Cd → Nat) (tg : Nat → Cd) (st : Ms) (X : Nat → Xs) (fd : Nat) (tt : Int64) (gr : Int32) (hC : CW h0 A tg (clS G A (st_many st) (st_now st) X fd tt gr)) (hk : Iv st) (hR : ∀ k : Nat, k < st_many st → Rx st k (X k)) : mM l G s0 yX5_isConsistent cX5_isConsistent 5 (some .boolean) 4 93 0 0 h0 [.ref (A (cd 0 1 0))] (fun v9 h9 => (v9 = some (.int (nI 1)) ∧ NW G h0 h9 A tg st)) := by
  refine mM_in RX5 "isConsistent" rfl rfl (by decide +kernel) (Nat.le_of_ble_eq_true rfl) ?_
  intro p e s mt below meth c H locs C hM hS ls hl
  have hx := C.1
  have hb := C.2.1
  have hown := C.2.2.2.1
  have hE := C.2.2.2.2.2.2.1
  have hl : lv_has ls 5 [(0, .ref (A (cd 0 1 0)))] := hl
  have hF : cFr h0 tg h0 tg := cFr.rf
  obtain ⟨h, hM, hC, hF, hh⟩ : ∃ h9, MW G s0.heap.size h9 H ∧ CW h9 A tg (clS G A (st_many st) (st_now st) X fd tt gr) ∧ cFr h0 tg h9 tg ∧ h9 = h0 := ⟨_, hM, hC, hF, rfl⟩
  have hm10 := hk.m10
  refine lv_aload_n hx hb dX5_isConsistent_0 rfl (lv_at hl 0 rfl) ?_
  refine m_get Z C hM (hC.at (clS_h)) K_X5 0 (by decide) fl_X5_11 (v := .ref (A (cd 0 2 0))) rfl dX5_isConsistent_1 ?_
  refine lv_astore_n (lv' := [(1, .ref (A (cd 0 2 0))), (0, .ref (A (cd 0 1 0)))]) hx hb dX5_isConsistent_4 rfl hl (by decide) rfl (fun ls hl => ?_)
  refine lv_aload_n hx hb dX5_isConsistent_5 rfl (lv_at hl 0 rfl) ?_
  refine m_alen (t0 := 3) Z C hM rfl (hC.at (clS_r)) dX5_isConsistent_6 ?_
  refine W.eq (g2 := F0 mt 7 ls [.int (nI 10)]) rfl ?_
  refine lv_istore_n (lv' := [(2, .int (nI 10)), (1, .ref (A (cd 0 2 0))), (0, .ref (A (cd 0 1 0)))]) hx hb dX5_isConsistent_7 rfl hl (by decide) rfl (fun ls hl => ?_)
  refine lv_iconst (v := nI 0) hx hb dX5_isConsistent_8 (by decide) ?_
  refine lv_istore_n (lv' := [(3, .int (nI 0)), (2, .int (nI 10)), (1, .ref (A (cd 0 2 0))), (0, .ref (A (cd 0 1 0)))]) hx hb dX5_isConsistent_9 rfl hl (by decide) rfl (fun ls hl => ?_)
  have lp_1 : ∀ (fu : Nat) (y : Nat), 10 < y + fu → y ≤ 10 → ∀ (H : Heap) (locs : List Loc), MW G s0.heap.size h H → va_S (fun q => s0.heap.size ≤ q) s.heap H locs → ∀ ls : Array Slot, lv_has ls 5 [(3, .int (nI y)), (2, .int (nI 10)), (1, .ref (A (cd 0 2 0))), (0, .ref (A (cd 0 1 0)))] → W p l e (mRm 4 93 0 0) s mt ([.ref (A (cd 0 1 0))] : List Value).toArray below meth c H locs 0 0 (MQ below (mQc G s0 (fun v9 h9 => (v9 = some (.int (nI 1)) ∧ NW G h0 h9 A tg st))) ([.ref (A (cd 0 1 0))] : List Value).toArray s 0 0 (fun q => s0.heap.size ≤ q)) (F0 mt 10 ls []) := by
    intro fu
    induction fu with
    | zero => intro y hfu _; exact absurd hfu (by omega)
    | succ fu ih =>
      intro y hfu hy H locs hM hS ls hl
      refine lv_iload_n hx hb dX5_isConsistent_10 rfl (lv_at hl 0 rfl) ?_
      refine lv_iload_n hx hb dX5_isConsistent_11 rfl (lv_at hl 1 rfl) ?_
      refine lv_icmp_ge (tgt := 41) hx hb dX5_isConsistent_12 (by decide) (fun c_2 => ?_) (fun c_2 => ?_)
      · -- 12 t
        have c_2 : 10 ≤ y := (nI_leI (by decide) (by omega)).mp c_2
        refine lv_iconst (v := nI 1) hx hb dX5_isConsistent_41 (by decide) ?_
        exact m_zret C hM hS (Nat.le_of_ble_eq_true rfl) (Nat.le_of_ble_eq_true rfl) rfl dX5_isConsistent_42 ⟨rfl, ⟨A, tg, X, _, _, _, rfl, hC, hF, hR⟩⟩
      · -- 12 f
        have c_2 : ¬ 10 ≤ y := fun q => c_2 ((nI_leI (by decide) (by omega)).mpr q)
        rcases Nat.lt_or_ge y (st_many st) with hyn | hyn
        · -- lt
          obtain ⟨T, U, F, al, hXk, hRi⟩ := hR y hyn
          have hn := hk.n hyn
          obtain ⟨hT, hU, hUr, hRw, hEr, hFs, hal⟩ := hRi
          have hTb : ∀ i : Nat, i < st_n st y → T i < 1073741824 := fun i hi => by rw [hT i hi]; exact hk.T hyn hi
          refine lv_aload_n hx hb dX5_isConsistent_15 rfl (lv_at hl 2 rfl) ?_
          refine lv_iload_n hx hb dX5_isConsistent_16 rfl (lv_at hl 0 rfl) ?_
          refine m_sald Z C hM (hC.at (clS_r)) y rfl (by omega) (by decide) (v := .ref (A (cd (y + 1) 0 0))) (rwL_at (by omega)) dX5_isConsistent_17 ?_
          refine lv_astore (lv' := [(4, .ref (A (cd (y + 1) 0 0))), (3, .int (nI y)), (2, .int (nI 10)), (1, .ref (A (cd 0 2 0))), (0, .ref (A (cd 0 1 0)))]) hx hb dX5_isConsistent_18 hl (by decide) rfl (fun ls hl => ?_)
          refine lv_aload hx hb dX5_isConsistent_20 (lv_at hl 0 rfl) ?_
          refine lv_ifnull hx hb dX5_isConsistent_22 ?_
          refine lv_aload hx hb dX5_isConsistent_25 (lv_at hl 0 rfl) ?_
          have hRi9 : Ri st y T U F al := ⟨hT, hU, hUr, hRw, hEr, hFs, hal⟩
          have hbd9 := BD_le _ hn
          have hC0 := hC
          rw [← clS_sk hyn hXk] at hC
          refine m_callVN Z C hM hS (As := []) (rest := []) (c_X2_holdsTogether Z h A tg (clS G A (st_many st) (st_now st) X fd tt gr) y F (SZ (st_n st y)) (HV (st_n st y)) (BD (st_n st y)) hC (st_nm st y) (st_ho st y) (st_n st y) (((x_av A y al))) (x_nb (st_n st y)) (fun j => lN (T (8 * j))) (fun j => U (8 * j)) (x_sz (st_n st y)) (fun j => x_bb T U j (x_sz (st_n st y) j - 1)) (fun j => lN (T (8 * j + (x_sz (st_n st y) j - 1)))) (fun j => x_gp T j (x_sz (st_n st y) j - 1)) (fun j => U (8 * j + (x_sz (st_n st y) j - 1))) (x_ts T (st_n st y)) (x_vs U (st_n st y)) T U (x_so U (st_n st y)) ((clS_at hyn hXk srS_0)) ((clS_at hyn hXk srS_4)) ((clS_at hyn hXk srS_1)) ((clS_at hyn hXk srS_2)) ((clS_at hyn hXk srS_3)) (fun j hj => clS_at hyn hXk (srS_14 hj)) (fun j hj => clS_at hyn hXk (srS_15 hj)) (fun j hj => clS_at hyn hXk (srS_16 hj)) (by unfold x_nb; omega) hn (x_tell T U _) (fun i hi => Nat.le_of_lt (SZ_8 _ hn i hi)) (by omega) (wt_all hn hRw) (fun h9 => wi_all hk hyn hRi9 h9 (d := 10) (by decide) (by decide)) (fun h9 => wi_all hk hyn hRi9 h9 (d := 50) (by decide) (by decide)) (fun h9 => wi_all hk hyn hRi9 h9 (d := 90) (by decide) (by decide))) yi_X2_holdsTogether mn_X5_234 (hC.at ((skS_ne (by simp [cd])).trans ((clS_at hyn hXk srS_0)))) rfl ⟨Nat.le_of_ble_eq_true rfl, Nat.le_of_ble_eq_true rfl⟩ (Nat.le_of_ble_eq_true rfl) hl.1 rfl rfl dX5_isConsistent_27 ⟨Nat.le_of_ble_eq_true rfl, Nat.le_of_ble_eq_true rfl⟩ (fun v h9 H locs hv hM hS => ?_)
          obtain ⟨hv, hh9⟩ := hv
          subst hv
          rw [hh9] at hM
          refine W.eq (g2 := F0 mt 30 ls [.int (nI 1)]) rfl ?_
          replace hC := hC0
          refine lv_if_ne (tgt := 35) hx hb dX5_isConsistent_30 (by decide) (fun _ => ?_) (fun q => absurd q (by decide))
          refine lv_iinc (v := nI (y + 1)) (lv' := [(3, .int (nI (y + 1))), (4, .ref (A (cd (y + 1) 0 0))), (2, .int (nI 10)), (1, .ref (A (cd 0 2 0))), (0, .ref (A (cd 0 1 0)))]) hx hb dX5_isConsistent_35 hl (k := 1) rfl (nI_add _ _) (by decide) rfl (fun ls hl => ?_)
          refine lv_goto (tgt := 10) hx hb dX5_isConsistent_38 (by decide) ?_
          exact ih (y + 1) (by omega) (by omega) H locs hM hS ls (lv_sub hl [0, 2, 3, 4] rfl)
        · -- ge
          refine lv_aload_n hx hb dX5_isConsistent_15 rfl (lv_at hl 2 rfl) ?_
          refine lv_iload_n hx hb dX5_isConsistent_16 rfl (lv_at hl 0 rfl) ?_
          refine m_sald Z C hM (hC.at (clS_r)) y rfl (by omega) (by decide) (v := .null) (rwL_no (by omega)) dX5_isConsistent_17 ?_
          refine lv_astoreN (lv' := [(4, .null), (3, .int (nI y)), (2, .int (nI 10)), (1, .ref (A (cd 0 2 0))), (0, .ref (A (cd 0 1 0)))]) hx hb dX5_isConsistent_18 hl (by decide) rfl (fun ls hl => ?_)
          refine lv_aloadN hx hb dX5_isConsistent_20 (lv_at hl 0 rfl) ?_
          refine lv_ifnullN (tgt := 35) hx hb dX5_isConsistent_22 (by decide) ?_
          refine lv_iinc (v := nI (y + 1)) (lv' := [(3, .int (nI (y + 1))), (4, .null), (2, .int (nI 10)), (1, .ref (A (cd 0 2 0))), (0, .ref (A (cd 0 1 0)))]) hx hb dX5_isConsistent_35 hl (k := 1) rfl (nI_add _ _) (by decide) rfl (fun ls hl => ?_)
          refine lv_goto (tgt := 10) hx hb dX5_isConsistent_38 (by decide) ?_
          exact ih (y + 1) (by omega) (by omega) H locs hM hS ls (lv_sub hl [0, 2, 3, 4] rfl)
  exact lp_1 11 0 (by omega) (by omega) H locs hM hS ls (lv_sub hl [0, 1, 2, 3] rfl)
