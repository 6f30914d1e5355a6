set_option maxRecDepth 100000 in
set_option maxHeartbeats 4000000 in
theorem c_X5_open {l : Launch} {G : mG} {a0 : Array Value} {s0 : State} (Z : mZ l G a0 s0) (h0 : Hp) (A : Cd → Nat) (tg : Nat → Cd) (st : Ms) (X : Nat → Xs) (fd : Nat) (tt : Int64) (gr : Int32) (hC : CW h0 A tg (clS G A (st_many st) (st_now st) X fd tt gr)) (hk : Iv st) (hR : ∀ k : Nat, k < st_many st → Rx st k (X k)) (a : Int32) (d : Int32) : mT l G s0 yX5_open cX5_open 3 (some .int) 6 90 15 449 h0 [.ref (A (cd 0 1 0)), .int a, .int d] (fun v9 h9 => ((nI 0 ≤ a ∧ a ≤ nI 9) ∧ (nI 0 ≤ d ∧ d ≤ nI 9) ∧ (∀ j : Nat, j < st_many st → ¬ (st_nm st j = a ∧ st_ho st j = d)) ∧ (st_many st < 10) ∧ v9 = some (.int (nI (st_many st))) ∧ NW G h0 h9 A tg (s_open st a d))) (fun E h9 => (E = "java/lang/IllegalArgumentException" ∧ (¬ ((nI 0 ≤ a ∧ a ≤ nI 9) ∧ (nI 0 ≤ d ∧ d ≤ nI 9))) ∧ NW G h0 h9 A tg st) ∨ (E = "java/lang/IllegalStateException" ∧ (nI 0 ≤ a ∧ a ≤ nI 9) ∧ (nI 0 ≤ d ∧ d ≤ nI 9) ∧ ((∃ j : Nat, j < st_many st ∧ (st_nm st j = a ∧ st_ho st j = d)) ∨ st_many st = 10) ∧ NW G h0 h9 A tg st)) := by
  refine mT_in RX5 "open" rfl rfl (by decide +kernel) (Nat.le_of_ble_eq_true rfl) ?_
  intro p e s mt below meth c H locs C ht hM hS ls hl
  have hx := C.1
  have hb := C.2.1
  have hown := C.2.2.2.1
  have hE := C.2.2.2.2.2.2.1
  have hl : lv_has ls 3 [(0, .ref (A (cd 0 1 0))), (1, .int a), (2, .int d)] := hl
  have hF : cFr h0 tg h0 tg := cFr.rf
  obtain ⟨h, hM, hC, hF, hh⟩ : ∃ h9, MW G s0.heap.size h9 H ∧ CW h9 A tg (clS G A (st_many st) (st_now st) X fd tt gr) ∧ cFr h0 tg h9 tg ∧ h9 = h0 := ⟨_, hM, hC, hF, rfl⟩
  have hm10 := hk.m10
  refine lv_iload_n hx hb dX5_open_0 rfl (lv_at hl 1 rfl) ?_
  refine m_callS Z C hM hS (As := [.int a]) (rest := []) (c_X5_isLabel Z h a) yi_X5_isLabel ml_X5_30 ⟨Nat.le_of_ble_eq_true rfl, Nat.le_of_ble_eq_true rfl⟩ (Nat.le_of_ble_eq_true rfl) hl.1 rfl rfl dX5_open_1 ⟨Nat.le_of_ble_eq_true rfl, Nat.le_of_ble_eq_true rfl⟩ (fun v h9 H locs hv hM hS => ?_)
  obtain ⟨hv, hh9⟩ := hv
  rcases Decidable.em (nI 0 ≤ a ∧ a ≤ nI 9) with g_1 | g_1
  · -- of 1: True
    replace hv : v = some (.int (b2 (nI 0 ≤ a ∧ a ≤ nI 9))) := hv
    rw [b2_t g_1] at hv
    subst hv
    rw [hh9] at hM
    refine W.eq (g2 := F0 mt 4 ls [.int (nI 1)]) rfl ?_
    refine lv_if_eq (tgt := 14) hx hb dX5_open_4 (by decide) (fun q => absurd q (by decide)) (fun _ => ?_)
    refine lv_iload_n hx hb dX5_open_7 rfl (lv_at hl 2 rfl) ?_
    refine m_callS Z C hM hS (As := [.int d]) (rest := []) (c_X5_isLabel Z h d) yi_X5_isLabel ml_X5_30 ⟨Nat.le_of_ble_eq_true rfl, Nat.le_of_ble_eq_true rfl⟩ (Nat.le_of_ble_eq_true rfl) hl.1 rfl rfl dX5_open_8 ⟨Nat.le_of_ble_eq_true rfl, Nat.le_of_ble_eq_true rfl⟩ (fun v h9 H locs hv hM hS => ?_)
    obtain ⟨hv, hh9⟩ := hv
    rcases Decidable.em (nI 0 ≤ d ∧ d ≤ nI 9) with g_3 | g_3
    · -- of 8: True
      replace hv : v = some (.int (b2 (nI 0 ≤ d ∧ d ≤ nI 9))) := hv
      rw [b2_t g_3] at hv
      subst hv
      rw [hh9] at hM
      refine W.eq (g2 := F0 mt 11 ls [.int (nI 1)]) rfl ?_
      refine lv_if_ne (tgt := 24) hx hb dX5_open_11 (by decide) (fun _ => ?_) (fun q => absurd q (by decide))
      refine lv_aload_n hx hb dX5_open_24 rfl (lv_at hl 0 rfl) ?_
      refine lv_iload_n hx hb dX5_open_25 rfl (lv_at hl 1 rfl) ?_
      refine lv_iload_n hx hb dX5_open_26 rfl (lv_at hl 2 rfl) ?_
      refine m_callV Z C hM hS (As := [.int a, .int d]) (rest := []) (c_X5_numberWith Z h A tg st X fd tt gr hC hk hR a d) yi_X5_numberWith ml_X5_41 (hC.at (clS_h)) rfl ⟨Nat.le_of_ble_eq_true rfl, Nat.le_of_ble_eq_true rfl⟩ (Nat.le_of_ble_eq_true rfl) hl.1 rfl rfl dX5_open_27 ⟨Nat.le_of_ble_eq_true rfl, Nat.le_of_ble_eq_true rfl⟩ (fun v h9 H locs hv hM hS => ?_)
      rcases hv with ⟨k_5, f_6, f_7, f_8, hv, hh9⟩ | ⟨f_9, hv, hh9⟩
      · -- of 27
        subst hv
        rw [hh9] at hM
        refine W.eq (g2 := F0 mt 30 ls [.int (nI k_5)]) rfl ?_
        refine lv_if_lt (tgt := 43) hx hb dX5_open_30 (by decide) (fun q => absurd q (nI_pos (by omega))) (fun _ => ?_)
        exact m_throw Z C ht hM hS xy_X5_open_33 hl.1 dX5_open_33 dX5_open_36 dX5_open_37 dX5_open_39 dX5_open_42 ⟨Nat.le_of_ble_eq_true rfl, Nat.le_of_ble_eq_true rfl, Nat.le_of_ble_eq_true rfl, Nat.le_of_ble_eq_true rfl⟩ (Nat.le_of_ble_eq_true rfl) (Nat.le_of_ble_eq_true rfl) (Or.inr ⟨rfl, g_1, g_3, (Or.inl ⟨k_5, f_6, f_7⟩), ⟨A, tg, X, _, _, _, rfl, hC, hF, hR⟩⟩)
      · -- of 27
        subst hv
        rw [hh9] at hM
        refine W.eq (g2 := F0 mt 30 ls [.int ((-1))]) rfl ?_
        refine lv_if_lt (tgt := 43) hx hb dX5_open_30 (by decide) (fun _ => ?_) (fun q => absurd (by decide) q)
        refine lv_aload_n hx hb dX5_open_43 rfl (lv_at hl 0 rfl) ?_
        refine m_get Z C hM (hC.at (clS_h)) K_X5 2 (by decide) fl_X5_22 (v := .int (nI (st_many st))) rfl dX5_open_44 ?_
        refine lv_aload_n hx hb dX5_open_47 rfl (lv_at hl 0 rfl) ?_
        refine m_get Z C hM (hC.at (clS_h)) K_X5 0 (by decide) fl_X5_11 (v := .ref (A (cd 0 2 0))) rfl dX5_open_48 ?_
        refine m_alen (t0 := 3) Z C hM rfl (hC.at (clS_r)) dX5_open_51 ?_
        refine W.eq (g2 := F0 mt 52 ls [.int (nI 10), .int (nI (st_many st))]) rfl ?_
        refine lv_icmp_lt (tgt := 65) hx hb dX5_open_52 (by decide) (fun c_12 => ?_) (fun c_12 => ?_)
        · -- 52 t
          have c_12 : st_many st < 10 := (nI_ltI (by omega) (by decide)).mp c_12
          refine lv_aload_n hx hb dX5_open_65 rfl (lv_at hl 0 rfl) ?_
          refine m_get Z C hM (hC.at (clS_h)) K_X5 0 (by decide) fl_X5_11 (v := .ref (A (cd 0 2 0))) rfl dX5_open_66 ?_
          refine lv_aload_n hx hb dX5_open_69 rfl (lv_at hl 0 rfl) ?_
          refine m_get Z C hM (hC.at (clS_h)) K_X5 2 (by decide) fl_X5_22 (v := .int (nI (st_many st))) rfl dX5_open_70 ?_
          refine m_new Z C hM hS K_X2 cl_X5_9 ci_X2 cn_X2 (fs := [.int 0, .int 0, .null, .null, .null, .null, .null, .int 0, .null]) (fun j hj => match j, hj with | 0, _ => rfl | 1, _ => rfl | 2, _ => rfl | 3, _ => rfl | 4, _ => rfl | 5, _ => rfl | 6, _ => rfl | 7, _ => rfl | 8, _ => rfl | n + 9, z => absurd z (by omega)) (Nat.le_of_ble_eq_true rfl) (Nat.le_of_ble_eq_true rfl) dX5_open_73 (fun qn H hq hM hS => ?_)
          refine lv_dup hx hb dX5_open_76 rfl ?_
          refine lv_iload_n hx hb dX5_open_77 rfl (lv_at hl 1 rfl) ?_
          refine lv_iload_n hx hb dX5_open_78 rfl (lv_at hl 2 rfl) ?_
          refine m_callIN Z C hM hS (As := [.int a, .int d]) (rest := [.ref qn, .int (nI (st_many st)), .ref (A (cd 0 2 0))]) (c_X2_init Z _ qn a d hat_new) yi_X2_init mn_X5_52 ⟨(Nat.le_of_ble_eq_true rfl), (Nat.le_of_ble_eq_true rfl)⟩ (Nat.le_of_ble_eq_true rfl) hl.1 rfl rfl dX5_open_79 ⟨(Nat.le_of_ble_eq_true rfl), (Nat.le_of_ble_eq_true rfl)⟩ (fun v h9 H locs hv hM hS => ?_)
          obtain ⟨hv, q1, q2, q3, q4, q5, q6, q7, q8, r, x0, x1, x2, x3, x4, x5, x6, x7, x8, xr, hinj, hrn, f1, f2, f3, f4, f5, f6, f7, f8, n23, n78, hFr9⟩ := hv
          subst hv
          have hkp : ∀ (b : Nat) (e : va_E), hat h b e → hat h9 b e := fun b e w9 => hFr9 b e (fun z => hq (z ▸ w9.1)) (hat_new_ne w9 hq)
          obtain ⟨tg0, etg0⟩ : ∃ z, z = tg := ⟨_, rfl⟩
          obtain ⟨A, tg, eA, e0, hC, hF9⟩ := new_names hC hkp a d x0 x1 x2 x3 x4 x5 x6 x7 x8 xr hinj (fun i hi z => hrn i hi (List.mem_append_left _ z)) hq (fun z => f1 (List.mem_append_left _ z)) (fun z => f2 (List.mem_append_left _ z)) (fun z => f3 (List.mem_append_left _ z)) (fun z => f4 (List.mem_append_left _ z)) (fun z => f5 (List.mem_append_left _ z)) (fun z => f6 (List.mem_append_left _ z)) (fun z => f7 (List.mem_append_left _ z)) (fun z => f8 (List.mem_append_left _ z)) n23 n78
          have hF : cFr h0 tg0 h9 tg := by rw [etg0]; exact hF.trans hF9
          obtain ⟨h, eh⟩ : ∃ z, z = h9 := ⟨_, rfl⟩
          rw [← eh] at hM hC hF
          have e01 := eA (cd 0 1 0) (by show 0 ≠ st_many st + 1; omega)
          have e02 := eA (cd 0 2 0) (by show 0 ≠ st_many st + 1; omega)
          rw [← e01] at hl
          refine W.eq (g2 := F0 mt 82 ls [.ref (A (cd (st_many st + 1) 0 0)), .int (nI (st_many st)), .ref (A (cd 0 2 0))]) (by rw [e0, e02] <;> rfl) ?_
          refine m_sast Z C hM hS (hC.at (((srS_ne (by show 0 ≠ st_many st + 1; omega)).trans clS_r))) (hC.at srS_0) (st_many st) rfl (by omega) (by decide) dX5_open_82 (fun H locs hM hS => ?_)
          have hC9 := hC.put (((srS_ne (by show 0 ≠ st_many st + 1; omega)).trans clS_r)) (eS G 10 (va_up (rwL A (st_many st)) (st_many st) (some (A (cd (st_many st + 1) 0 0)))))
          have hF9 := hF.put hC (((srS_ne (by show 0 ≠ st_many st + 1; omega)).trans clS_r)) (cd_r (by decide)) (eS G 10 (va_up (rwL A (st_many st)) (st_many st) (some (A (cd (st_many st + 1) 0 0)))))
          obtain ⟨h, hM, hC, hF⟩ : ∃ h9, MW G s0.heap.size h9 H ∧ CW h9 A tg (up3 (srS G A (clS G A (st_many st) (st_now st) X fd tt gr) (st_many st) (X_new a d)) (cd 0 2 0) (some (eS G 10 (va_up (rwL A (st_many st)) (st_many st) (some (A (cd (st_many st + 1) 0 0))))))) ∧ cFr h0 tg0 h9 tg := ⟨_, hM, hC9, hF9⟩
          refine lv_aload_n hx hb dX5_open_83 rfl (lv_at hl 0 rfl) ?_
          refine lv_dup hx hb dX5_open_84 rfl ?_
          refine m_get Z C hM (hC.at ((up3_ne _ _ (cd_r (by decide))).trans (((srS_ne (by show 0 ≠ st_many st + 1; omega)).trans clS_h)))) K_X5 2 (by decide) fl_X5_22 (v := .int (nI (st_many st))) rfl dX5_open_85 ?_
          refine lv_iconst (v := nI 1) hx hb dX5_open_88 (by decide) ?_
          refine n_iadd hx hb dX5_open_89 ?_
          refine m_put Z C hM hS (hC.at ((up3_ne _ _ (cd_r (by decide))).trans (((srS_ne (by show 0 ≠ st_many st + 1; omega)).trans clS_h)))) K_X5 2 (by decide) fl_X5_22 (v := .int (nI (st_many st + 1))) rfl rfl rfl (fs' := [.ref (A (cd 0 2 0)), .ref (A (cd 0 3 0)), .int (nI (st_many st + 1)), .long (lN (st_now st))]) rfl (Nat.le_of_ble_eq_true rfl) dX5_open_90 (fun H locs hM hS => ?_)
          have hC9 := hC.put ((up3_ne _ _ (cd_r (by decide))).trans (((srS_ne (by show 0 ≠ st_many st + 1; omega)).trans clS_h))) (eO 5 [.ref (A (cd 0 2 0)), .ref (A (cd 0 3 0)), .int (nI (st_many st + 1)), .long (lN (st_now st))])
          have hF9 := hF.put hC ((up3_ne _ _ (cd_r (by decide))).trans (((srS_ne (by show 0 ≠ st_many st + 1; omega)).trans clS_h))) (cd_r (by decide)) (eO 5 [.ref (A (cd 0 2 0)), .ref (A (cd 0 3 0)), .int (nI (st_many st + 1)), .long (lN (st_now st))])
          obtain ⟨h, hM, hC, hF⟩ : ∃ h9, MW G s0.heap.size h9 H ∧ CW h9 A tg (up3 (up3 (srS G A (clS G A (st_many st) (st_now st) X fd tt gr) (st_many st) (X_new a d)) (cd 0 2 0) (some (eS G 10 (va_up (rwL A (st_many st)) (st_many st) (some (A (cd (st_many st + 1) 0 0))))))) (cd 0 1 0) (some (eO 5 [.ref (A (cd 0 2 0)), .ref (A (cd 0 3 0)), .int (nI (st_many st + 1)), .long (lN (st_now st))]))) ∧ cFr h0 tg0 h9 tg := ⟨_, hM, hC9, hF9⟩
          refine lv_aload_n hx hb dX5_open_93 rfl (lv_at hl 0 rfl) ?_
          refine m_get Z C hM (hC.at (up3_self _ _ _)) K_X5 2 (by decide) fl_X5_22 (v := .int (nI (st_many st + 1))) rfl dX5_open_94 ?_
          refine lv_iconst (v := nI 1) hx hb dX5_open_97 (by decide) ?_
          refine n_isub hx hb (by omega) dX5_open_98 ?_
          refine vx_ret ?_
          exact m_iret C hM hS (Nat.le_of_ble_eq_true rfl) (Nat.le_of_ble_eq_true rfl) dX5_open_99 ⟨g_1, g_3, f_9, (by omega), rfl, ⟨A, tg, va_up X (st_many st) (X_new a d), fd, tt, gr, e01, (by rw [clS_open] at hC; exact hC), etg0 ▸ hF, Rx_open hk hR (by omega) a d⟩⟩
        · -- 52 f
          have c_12 : ¬ st_many st < 10 := fun q => c_12 ((nI_ltI (by omega) (by decide)).mpr q)
          exact m_throw Z C ht hM hS xy_X5_open_55 hl.1 dX5_open_55 dX5_open_58 dX5_open_59 dX5_open_61 dX5_open_64 ⟨Nat.le_of_ble_eq_true rfl, Nat.le_of_ble_eq_true rfl, Nat.le_of_ble_eq_true rfl, Nat.le_of_ble_eq_true rfl⟩ (Nat.le_of_ble_eq_true rfl) (Nat.le_of_ble_eq_true rfl) (Or.inr ⟨rfl, g_1, g_3, (Or.inr (by omega)), ⟨A, tg, X, _, _, _, rfl, hC, hF, hR⟩⟩)
    · -- of 8: False
      replace hv : v = some (.int (b2 (nI 0 ≤ d ∧ d ≤ nI 9))) := hv
      rw [b2_f g_3] at hv
      subst hv
      rw [hh9] at hM
      refine W.eq (g2 := F0 mt 11 ls [.int (nI 0)]) rfl ?_
      refine lv_if_ne (tgt := 24) hx hb dX5_open_11 (by decide) (fun q => absurd (by decide) q) (fun _ => ?_)
      exact m_throw Z C ht hM hS xy_X5_open_14 hl.1 dX5_open_14 dX5_open_17 dX5_open_18 dX5_open_20 dX5_open_23 ⟨Nat.le_of_ble_eq_true rfl, Nat.le_of_ble_eq_true rfl, Nat.le_of_ble_eq_true rfl, Nat.le_of_ble_eq_true rfl⟩ (Nat.le_of_ble_eq_true rfl) (Nat.le_of_ble_eq_true rfl) (Or.inl ⟨rfl, (fun q => g_3 q.2), ⟨A, tg, X, _, _, _, rfl, hC, hF, hR⟩⟩)
  · -- of 1: False
    replace hv : v = some (.int (b2 (nI 0 ≤ a ∧ a ≤ nI 9))) := hv
    rw [b2_f g_1] at hv
    subst hv
    rw [hh9] at hM
    refine W.eq (g2 := F0 mt 4 ls [.int (nI 0)]) rfl ?_
    refine lv_if_eq (tgt := 14) hx hb dX5_open_4 (by decide) (fun _ => ?_) (fun q => absurd (by decide) q)
    exact m_throw Z C ht hM hS xy_X5_open_14 hl.1 dX5_open_14 dX5_open_17 dX5_open_18 dX5_open_20 dX5_open_23 ⟨Nat.le_of_ble_eq_true rfl, Nat.le_of_ble_eq_true rfl, Nat.le_of_ble_eq_true rfl, Nat.le_of_ble_eq_true rfl⟩ (Nat.le_of_ble_eq_true rfl) (Nat.le_of_ble_eq_true rfl) (Or.inl ⟨rfl, (fun q => g_1 q.1), ⟨A, tg, X, _, _, _, rfl, hC, hF, hR⟩⟩)
