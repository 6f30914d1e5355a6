set_option maxRecDepth 100000 in
set_option maxHeartbeats 4000000 in
theorem c_X5_pass {l : Launch} {G : mG} {a0 : Array Value} {s0 : State} (Z : mZ l G a0 s0) (h0 : Hp) (A : Cd → Nat) (tg : Nat → Cd) (st : Ms) (X : Nat → Xs) (fd : Nat) (tt : Int64) (gr : Int32) (hC : CW h0 A tg (clS G A (st_many st) (st_now st) X fd tt gr)) (hk : Iv st) (hR : ∀ k : Nat, k < st_many st → Rx st k (X k)) (x : Int32) : mT l G s0 yX5_pass cX5_pass 2 (some .long) 6 90 1 6 h0 [.ref (A (cd 0 1 0)), .int x] (fun v9 h9 => (∃ d : Nat, (1 ≤ d ∧ d ≤ 600) ∧ (x = nI d) ∧ v9 = some (.long (lN (st_now st + d))) ∧ NW G h0 h9 A tg (s_pass st d))) (fun E h9 => (E = "java/lang/IllegalArgumentException" ∧ (∀ d : Nat, 1 ≤ d → d ≤ 600 → x ≠ nI d) ∧ NW G h0 h9 A tg st)) := by
  refine mT_in RX5 "pass" rfl rfl (by decide +kernel) (Nat.le_of_ble_eq_true rfl) ?_
  intro p e s mt below meth c H locs C ht hM hS ls hl
  have hx := C.1
  have hb := C.2.1
  have hown := C.2.2.2.1
  have hE := C.2.2.2.2.2.2.1
  have hl : lv_has ls 2 [(0, .ref (A (cd 0 1 0))), (1, .int x)] := hl
  have hF : cFr h0 tg h0 tg := cFr.rf
  obtain ⟨h, hM, hC, hF, hh⟩ : ∃ h9, MW G s0.heap.size h9 H ∧ CW h9 A tg (clS G A (st_many st) (st_now st) X fd tt gr) ∧ cFr h0 tg h9 tg ∧ h9 = h0 := ⟨_, hM, hC, hF, rfl⟩
  refine lv_iload_n hx hb dX5_pass_0 rfl (lv_at hl 1 rfl) ?_
  refine lv_iconst (v := nI 1) hx hb dX5_pass_1 (by decide) ?_
  refine lv_icmp_lt (tgt := 12) hx hb dX5_pass_2 (by decide) (fun c_1 => ?_) (fun c_1 => ?_)
  · -- 2 t
    exact m_throw Z C ht hM hS xy_X5_pass_12 hl.1 dX5_pass_12 dX5_pass_15 dX5_pass_16 dX5_pass_18 dX5_pass_21 ⟨Nat.le_of_ble_eq_true rfl, Nat.le_of_ble_eq_true rfl, Nat.le_of_ble_eq_true rfl, Nat.le_of_ble_eq_true rfl⟩ (Nat.le_of_ble_eq_true rfl) (Nat.le_of_ble_eq_true rfl) ⟨rfl, (fun d h1 h2 q => i_len ((nI_leI (by decide) (by omega)).mpr h1) (q ▸ c_1)), ⟨A, tg, X, _, _, _, rfl, hC, hF, hR⟩⟩
  · -- 2 f
    refine lv_iload_n hx hb dX5_pass_5 rfl (lv_at hl 1 rfl) ?_
    refine lv_sipush (v := nI 600) hx hb dX5_pass_6 (by decide) ?_
    refine lv_icmp_le (tgt := 22) hx hb dX5_pass_9 (by decide) (fun c_2 => ?_) (fun c_2 => ?_)
    · -- 9 t
      obtain ⟨d, hd1, hd2, hxd⟩ := (isIn_b (by decide) (by decide) x).mp ⟨i_nlt c_1, c_2⟩
      subst hxd
      refine lv_aload_n hx hb dX5_pass_22 rfl (lv_at hl 0 rfl) ?_
      refine lv_dup hx hb dX5_pass_23 rfl ?_
      refine m_get Z C hM (hC.at (clS_h)) K_X5 3 (by decide) fl_X5_26 (v := .long (lN (st_now st))) rfl dX5_pass_24 ?_
      refine lv_iload_n hx hb dX5_pass_27 rfl (lv_at hl 1 rfl) ?_
      refine n_i2l hx hb (by omega) dX5_pass_28 ?_
      refine n_ladd hx hb dX5_pass_29 ?_
      refine m_put Z C hM hS (hC.at (clS_h)) K_X5 3 (by decide) fl_X5_26 (v := .long (lN (st_now st + d))) rfl rfl rfl (fs' := [.ref (A (cd 0 2 0)), .ref (A (cd 0 3 0)), .int (nI (st_many st)), .long (lN (st_now st + d))]) rfl (Nat.le_of_ble_eq_true rfl) dX5_pass_30 (fun H locs hM hS => ?_)
      have hC9 := hC.put (clS_h) (eO 5 [.ref (A (cd 0 2 0)), .ref (A (cd 0 3 0)), .int (nI (st_many st)), .long (lN (st_now st + d))])
      have hF9 := hF.put hC (clS_h) (cd_r (by decide)) (eO 5 [.ref (A (cd 0 2 0)), .ref (A (cd 0 3 0)), .int (nI (st_many st)), .long (lN (st_now st + d))])
      obtain ⟨h, hM, hC, hF⟩ : ∃ h9, MW G s0.heap.size h9 H ∧ CW h9 A tg (up3 (clS G A (st_many st) (st_now st) X fd tt gr) (cd 0 1 0) (some (eO 5 [.ref (A (cd 0 2 0)), .ref (A (cd 0 3 0)), .int (nI (st_many st)), .long (lN (st_now st + d))]))) ∧ cFr h0 tg h9 tg := ⟨_, hM, hC9, hF9⟩
      refine lv_aload_n hx hb dX5_pass_33 rfl (lv_at hl 0 rfl) ?_
      refine m_get Z C hM (hC.at (up3_self _ _ _)) K_X5 3 (by decide) fl_X5_26 (v := .long (lN (st_now st + d))) rfl dX5_pass_34 ?_
      refine vx_ret ?_
      exact m_lret C hM hS (Nat.le_of_ble_eq_true rfl) (Nat.le_of_ble_eq_true rfl) dX5_pass_37 ⟨d, ⟨hd1, hd2⟩, rfl, rfl, ⟨A, tg, X, fd, tt, gr, rfl, (show CW h A tg (clS G A (st_many st) (st_now st + d) X fd tt gr) from by rw [clS_p1] at hC; exact hC), hF, fun j hj => hR j hj⟩⟩
    · -- 9 f
      exact m_throw Z C ht hM hS xy_X5_pass_12 hl.1 dX5_pass_12 dX5_pass_15 dX5_pass_16 dX5_pass_18 dX5_pass_21 ⟨Nat.le_of_ble_eq_true rfl, Nat.le_of_ble_eq_true rfl, Nat.le_of_ble_eq_true rfl, Nat.le_of_ble_eq_true rfl⟩ (Nat.le_of_ble_eq_true rfl) (Nat.le_of_ble_eq_true rfl) ⟨rfl, (fun d h1 h2 q => i_ltn (i_nle c_2) (q ▸ (nI_leI (by omega) (by decide)).mpr h2)), ⟨A, tg, X, _, _, _, rfl, hC, hF, hR⟩⟩
set_option maxRecDepth 100000 in
set_option maxHeartbeats 4000000 in
theorem c_X5_add {l : Launch} {G : mG} {a0 : Array Value} {s0 : State} (Z : mZ l G a0 s0) (h0 : Hp) (A : Cd → Nat) (tg : Nat → Cd) (st : Ms) (X : Nat → Xs) (fd : Nat) (tt : Int64) (gr : Int32) (hC : CW h0 A tg (clS G A (st_many st) (st_now st) X fd tt gr)) (hk : Iv st) (hR : ∀ k : Nat, k < st_many st → Rx st k (X k)) (x : Int32) (w : Int32) : mT l G s0 yX5_add cX5_add 4 (some .int) 7 112 5 37 h0 [.ref (A (cd 0 1 0)), .int x, .int w] (fun v9 h9 => (∃ k : Nat, (k < st_many st) ∧ (x = nI k) ∧ ((-10000) ≤ w ∧ w ≤ nI 10000) ∧ (¬ (st_n st k = 120 ∨ (0 < st_n st k ∧ st_T st (120 * k + (st_n st k - 1)) = st_now st))) ∧ v9 = some (.int (nI (st_n st k + 1))) ∧ NW G h0 h9 A tg (s_add st k w))) (fun E h9 => (E = "java/util/NoSuchElementException" ∧ (∀ k : Nat, k < st_many st → x ≠ nI k) ∧ NW G h0 h9 A tg st) ∨ (∃ k : Nat, E = "java/lang/IllegalArgumentException" ∧ (k < st_many st) ∧ (x = nI k) ∧ (¬ ((-10000) ≤ w ∧ w ≤ nI 10000)) ∧ NW G h0 h9 A tg st) ∨ (∃ k : Nat, E = "java/lang/IllegalStateException" ∧ (k < st_many st) ∧ (x = nI k) ∧ ((-10000) ≤ w ∧ w ≤ nI 10000) ∧ (st_n st k = 120 ∨ (0 < st_n st k ∧ st_T st (120 * k + (st_n st k - 1)) = st_now st)) ∧ NW G h0 h9 A tg st)) := by
  refine mT_in RX5 "add" rfl rfl (by decide +kernel) (Nat.le_of_ble_eq_true rfl) ?_
  intro p e s mt below meth c H locs C ht hM hS ls hl
  have hx := C.1
  have hb := C.2.1
  have hown := C.2.2.2.1
  have hE := C.2.2.2.2.2.2.1
  have hl : lv_has ls 4 [(0, .ref (A (cd 0 1 0))), (1, .int x), (2, .int w)] := hl
  have hF : cFr h0 tg h0 tg := cFr.rf
  obtain ⟨h, hM, hC, hF, hh⟩ : ∃ h9, MW G s0.heap.size h9 H ∧ CW h9 A tg (clS G A (st_many st) (st_now st) X fd tt gr) ∧ cFr h0 tg h9 tg ∧ h9 = h0 := ⟨_, hM, hC, hF, rfl⟩
  refine lv_aload_n hx hb dX5_add_0 rfl (lv_at hl 0 rfl) ?_
  refine lv_iload_n hx hb dX5_add_1 rfl (lv_at hl 1 rfl) ?_
  refine m_xcallV Z C hM hS (As := [.int x]) (rest := []) (c_X5_rowOf Z h A tg st X fd tt gr hC hk hR x) yi_X5_rowOf ml_X5_57 (hC.at (clS_h)) rfl ⟨Nat.le_of_ble_eq_true rfl, Nat.le_of_ble_eq_true rfl⟩ (Nat.le_of_ble_eq_true rfl) hl.1 rfl rfl dX5_add_2 ⟨Nat.le_of_ble_eq_true rfl, Nat.le_of_ble_eq_true rfl⟩ (fun E ce q9 h9 H locs hv hM hS g1 g2 g3 => ?_) (fun v h9 H locs hv hM hS => ?_)
  · -- thrown at 2
    obtain ⟨hE, f_4, hh9⟩ := hv
    rw [hh9] at hM
    exact m_out C ht hM hS (Nat.le_of_ble_eq_true rfl) (Nat.le_of_ble_eq_true rfl) g1 g2 g3 (Or.inl ⟨hE, f_4, ⟨A, tg, X, _, _, _, rfl, hC, hF, hR⟩⟩)
  · -- back at 2
    obtain ⟨k_1, f_2, f_3, hv, hh9⟩ := hv
    subst hv
    rw [hh9] at hM
    obtain ⟨T, U, F, al, hXk, hRi⟩ := hR k_1 f_2
    have hn := hk.n f_2
    obtain ⟨hT, hU, hUr, hRw, hEr, hFs, hal⟩ := hRi
    have hTb : ∀ i : Nat, i < st_n st k_1 → T i < 1073741824 := fun i hi => by rw [hT i hi]; exact hk.T f_2 hi
    have hRi9 : Ri st k_1 T U F al := ⟨hT, hU, hUr, hRw, hEr, hFs, hal⟩
    refine W.eq (g2 := F0 mt 5 ls [.ref (A (cd (k_1 + 1) 0 0))]) rfl ?_
    refine lv_astore_n (lv' := [(3, .ref (A (cd (k_1 + 1) 0 0))), (0, .ref (A (cd 0 1 0))), (1, .int x), (2, .int w)]) hx hb dX5_add_5 rfl hl (by decide) rfl (fun ls hl => ?_)
    refine lv_iload_n hx hb dX5_add_6 rfl (lv_at hl 3 rfl) ?_
    refine m_callS Z C hM hS (As := [.int w]) (rest := []) (c_X5_isValue Z h w) yi_X5_isValue ml_X5_61 ⟨Nat.le_of_ble_eq_true rfl, Nat.le_of_ble_eq_true rfl⟩ (Nat.le_of_ble_eq_true rfl) hl.1 rfl rfl dX5_add_7 ⟨Nat.le_of_ble_eq_true rfl, Nat.le_of_ble_eq_true rfl⟩ (fun v h9 H locs hv hM hS => ?_)
    obtain ⟨hv, hh9⟩ := hv
    rcases Decidable.em ((-10000) ≤ w ∧ w ≤ nI 10000) with g_5 | g_5
    · -- of 7: True
      replace hv : v = some (.int (b2 ((-10000) ≤ w ∧ w ≤ nI 10000))) := hv
      rw [b2_t g_5] at hv
      subst hv
      rw [hh9] at hM
      refine W.eq (g2 := F0 mt 10 ls [.int (nI 1)]) rfl ?_
      refine lv_if_ne (tgt := 23) hx hb dX5_add_10 (by decide) (fun _ => ?_) (fun q => absurd q (by decide))
      refine lv_aload_n hx hb dX5_add_23 rfl (lv_at hl 0 rfl) ?_
      refine m_callVN Z C hM hS (As := []) (rest := []) (c_X2_isFull Z h A tg (clS G A (st_many st) (st_now st) X fd tt gr) hC k_1 (st_nm st k_1) (st_ho st k_1) (st_n st k_1) (((x_av A k_1 al))) ((clS_at f_2 hXk srS_0)) hn) yi_X2_isFull mn_X5_66 (hC.at ((clS_at f_2 hXk srS_0))) rfl ⟨Nat.le_of_ble_eq_true rfl, Nat.le_of_ble_eq_true rfl⟩ (Nat.le_of_ble_eq_true rfl) hl.1 rfl rfl dX5_add_24 ⟨Nat.le_of_ble_eq_true rfl, Nat.le_of_ble_eq_true rfl⟩ (fun v h9 H locs hv hM hS => ?_)
      obtain ⟨hv, hh9⟩ := hv
      rcases Decidable.em (120 ≤ (st_n st k_1)) with g_7 | g_7
      · -- of 24: True
        replace hv : v = some (.int (b2 (120 ≤ (st_n st k_1)))) := hv
        rw [b2_t g_7] at hv
        subst hv
        rw [hh9] at hM
        refine W.eq (g2 := F0 mt 27 ls [.int (nI 1)]) rfl ?_
        refine lv_if_eq (tgt := 40) hx hb dX5_add_27 (by decide) (fun q => absurd q (by decide)) (fun _ => ?_)
        exact m_throw Z C ht hM hS xy_X5_add_30 hl.1 dX5_add_30 dX5_add_33 dX5_add_34 dX5_add_36 dX5_add_39 ⟨Nat.le_of_ble_eq_true rfl, Nat.le_of_ble_eq_true rfl, Nat.le_of_ble_eq_true rfl, Nat.le_of_ble_eq_true rfl⟩ (Nat.le_of_ble_eq_true rfl) (Nat.le_of_ble_eq_true rfl) (Or.inr (Or.inr ⟨k_1, rfl, f_2, f_3, g_5, (Or.inl (by omega)), ⟨A, tg, X, _, _, _, rfl, hC, hF, hR⟩⟩))
      · -- of 24: False
        replace hv : v = some (.int (b2 (120 ≤ (st_n st k_1)))) := hv
        rw [b2_f g_7] at hv
        subst hv
        rw [hh9] at hM
        refine W.eq (g2 := F0 mt 27 ls [.int (nI 0)]) rfl ?_
        refine lv_if_eq (tgt := 40) hx hb dX5_add_27 (by decide) (fun _ => ?_) (fun q => absurd (by decide) q)
        refine lv_aload_n hx hb dX5_add_40 rfl (lv_at hl 0 rfl) ?_
        refine lv_aload_n hx hb dX5_add_41 rfl (lv_at hl 1 rfl) ?_
        refine m_get Z C hM (hC.at (clS_h)) K_X5 3 (by decide) fl_X5_26 (v := .long (lN (st_now st))) rfl dX5_add_42 ?_
        refine m_callVN Z C hM hS (As := [.long (lN (st_now st))]) (rest := []) (c_X2_hasSampleAt Z h A tg (clS G A (st_many st) (st_now st) X fd tt gr) hC k_1 (st_now st) (st_nm st k_1) (st_ho st k_1) (st_n st k_1) (((x_av A k_1 al))) T ((clS_at f_2 hXk srS_0)) ((clS_at f_2 hXk srS_1)) hn hTb hk.now) yi_X2_hasSampleAt mn_X5_72 (hC.at ((clS_at f_2 hXk srS_0))) rfl ⟨Nat.le_of_ble_eq_true rfl, Nat.le_of_ble_eq_true rfl⟩ (Nat.le_of_ble_eq_true rfl) hl.1 rfl rfl dX5_add_45 ⟨Nat.le_of_ble_eq_true rfl, Nat.le_of_ble_eq_true rfl⟩ (fun v h9 H locs hv hM hS => ?_)
        obtain ⟨hv, hh9⟩ := hv
        rcases Decidable.em (0 < (st_n st k_1) ∧ T ((st_n st k_1) - 1) = (st_now st)) with g_10 | g_10
        · -- of 45: True
          replace hv : v = some (.int (b2 (0 < (st_n st k_1) ∧ T ((st_n st k_1) - 1) = (st_now st)))) := hv
          rw [b2_t g_10] at hv
          subst hv
          rw [hh9] at hM
          refine W.eq (g2 := F0 mt 48 ls [.int (nI 1)]) rfl ?_
          refine lv_if_eq (tgt := 61) hx hb dX5_add_48 (by decide) (fun q => absurd q (by decide)) (fun _ => ?_)
          exact m_throw Z C ht hM hS xy_X5_add_51 hl.1 dX5_add_51 dX5_add_54 dX5_add_55 dX5_add_57 dX5_add_60 ⟨Nat.le_of_ble_eq_true rfl, Nat.le_of_ble_eq_true rfl, Nat.le_of_ble_eq_true rfl, Nat.le_of_ble_eq_true rfl⟩ (Nat.le_of_ble_eq_true rfl) (Nat.le_of_ble_eq_true rfl) (Or.inr (Or.inr ⟨k_1, rfl, f_2, f_3, g_5, (Or.inr ⟨g_10.1, by rw [← hT _ (by omega)]; exact g_10.2⟩), ⟨A, tg, X, _, _, _, rfl, hC, hF, hR⟩⟩))
        · -- of 45: False
          replace hv : v = some (.int (b2 (0 < (st_n st k_1) ∧ T ((st_n st k_1) - 1) = (st_now st)))) := hv
          rw [b2_f g_10] at hv
          subst hv
          rw [hh9] at hM
          refine W.eq (g2 := F0 mt 48 ls [.int (nI 0)]) rfl ?_
          refine lv_if_eq (tgt := 61) hx hb dX5_add_48 (by decide) (fun _ => ?_) (fun q => absurd (by decide) q)
          refine lv_aload_n hx hb dX5_add_61 rfl (lv_at hl 0 rfl) ?_
          refine lv_aload_n hx hb dX5_add_62 rfl (lv_at hl 1 rfl) ?_
          refine m_get Z C hM (hC.at (clS_h)) K_X5 3 (by decide) fl_X5_26 (v := .long (lN (st_now st))) rfl dX5_add_63 ?_
          refine lv_iload_n hx hb dX5_add_66 rfl (lv_at hl 3 rfl) ?_
          have hm9 : st_n st k_1 < 120 := by omega
          refine m_callVN Z C hM hS (As := [.long (lN (st_now st)), .int w]) (rest := []) (c_X2_take Z h A tg (clS G A (st_many st) (st_now st) X fd tt gr) k_1 (st_nm st k_1) (st_ho st k_1) (st_n st k_1) T U F (SZ (st_n st k_1)) (HV (st_n st k_1)) (BD (st_n st k_1)) al (by rw [clS_sr f_2 hXk]; exact hC) (st_now st) w hm9 (SZ_8 _ hn 0 (by decide)) (lv_Tk w hm9)) yi_X2_take mn_X5_78 (hC.at ((clS_at f_2 hXk srS_0))) rfl ⟨Nat.le_of_ble_eq_true rfl, Nat.le_of_ble_eq_true rfl⟩ (Nat.le_of_ble_eq_true rfl) hl.1 rfl rfl dX5_add_67 ⟨Nat.le_of_ble_eq_true rfl, Nat.le_of_ble_eq_true rfl⟩ (fun v h9 H locs hv hM hS => ?_)
          obtain ⟨hv, A, tg, eA, hC, hF9⟩ := hv
          subst hv
          have e09 := eA (cd (k_1 + 1) 0 0) (fun _ => by show 0 < 14; decide)
          have e01 := eA (cd 0 1 0) (fun _ => by show 1 < 14; decide)
          rw [clS_srS f_2 (fun y hy => eA y (fun q => absurd q hy)) e09] at hC
          rw [← e09] at hl
          have hF := hF.trans hF9
          obtain ⟨h, eh⟩ : ∃ z, z = h9 := ⟨_, rfl⟩
          rw [← eh] at hM hC hF
          refine W.eq (g2 := F0 mt 70 ls []) rfl ?_
          refine lv_aload_n hx hb dX5_add_70 rfl (lv_at hl 0 rfl) ?_
          refine m_getN Z C hM (hC.at ((clS_at f_2 (va_up_self _ _ _) srS_0))) K_X2 7 (by decide) fn_X5_82 (v := .int (nI (st_n st k_1 + 1))) rfl dX5_add_71 ?_
          refine vx_ret ?_
          exact m_iret C hM hS (Nat.le_of_ble_eq_true rfl) (Nat.le_of_ble_eq_true rfl) dX5_add_74 ⟨k_1, f_2, f_3, g_5, (fun q => q.elim (fun z => absurd z (by omega)) (fun z => g_10 ⟨z.1, by rw [hT _ (by omega)]; exact z.2⟩)), rfl, ⟨A, tg, _, fd, tt, gr, e01, (by rw [ad_many, ad_now]; exact hC), hF, Rx_add hk hR f_2 hRi9 hm9 w g_5⟩⟩
    · -- of 7: False
      replace hv : v = some (.int (b2 ((-10000) ≤ w ∧ w ≤ nI 10000))) := hv
      rw [b2_f g_5] at hv
      subst hv
      rw [hh9] at hM
      refine W.eq (g2 := F0 mt 10 ls [.int (nI 0)]) rfl ?_
      refine lv_if_ne (tgt := 23) hx hb dX5_add_10 (by decide) (fun q => absurd (by decide) q) (fun _ => ?_)
      exact m_throw Z C ht hM hS xy_X5_add_13 hl.1 dX5_add_13 dX5_add_16 dX5_add_17 dX5_add_19 dX5_add_22 ⟨Nat.le_of_ble_eq_true rfl, Nat.le_of_ble_eq_true rfl, Nat.le_of_ble_eq_true rfl, Nat.le_of_ble_eq_true rfl⟩ (Nat.le_of_ble_eq_true rfl) (Nat.le_of_ble_eq_true rfl) (Or.inr (Or.inl ⟨k_1, rfl, f_2, f_3, g_5, ⟨A, tg, X, _, _, _, rfl, hC, hF, hR⟩⟩))
set_option maxRecDepth 100000 in
set_option maxHeartbeats 4000000 in
theorem c_X5_removeAlert {l : Launch} {G : mG} {a0 : Array Value} {s0 : State} (Z : mZ l G a0 s0) (h0 : Hp) (A : Cd → Nat) (tg : Nat → Cd) (st : Ms) (X : Nat → Xs) (fd : Nat) (tt : Int64) (gr : Int32) (hC : CW h0 A tg (clS G A (st_many st) (st_now st) X fd tt gr)) (hk : Iv st) (hR : ∀ k : Nat, k < st_many st → Rx st k (X k)) (x : Int32) : mT l G s0 yX5_removeAlert cX5_removeAlert 4 (some .char) 7 112 2 12 h0 [.ref (A (cd 0 1 0)), .int x] (fun v9 h9 => (∃ k : Nat, (k < st_many st) ∧ (x = nI k) ∧ (¬ st_ha st k = nI 0) ∧ v9 = some (.int (nI (z_al st k))) ∧ NW G h0 h9 A tg (s_ra st k))) (fun E h9 => (E = "java/util/NoSuchElementException" ∧ (∀ k : Nat, k < st_many st → x ≠ nI k) ∧ NW G h0 h9 A tg st) ∨ (∃ k : Nat, E = "java/lang/IllegalStateException" ∧ (k < st_many st) ∧ (x = nI k) ∧ (st_ha st k = nI 0) ∧ NW G h0 h9 A tg st)) := by
  refine mT_in RX5 "removeAlert" rfl rfl (by decide +kernel) (Nat.le_of_ble_eq_true rfl) ?_
  intro p e s mt below meth c H locs C ht hM hS ls hl
  have hx := C.1
  have hb := C.2.1
  have hown := C.2.2.2.1
  have hE := C.2.2.2.2.2.2.1
  have hl : lv_has ls 4 [(0, .ref (A (cd 0 1 0))), (1, .int x)] := hl
  have hF : cFr h0 tg h0 tg := cFr.rf
  obtain ⟨h, hM, hC, hF, hh⟩ : ∃ h9, MW G s0.heap.size h9 H ∧ CW h9 A tg (clS G A (st_many st) (st_now st) X fd tt gr) ∧ cFr h0 tg h9 tg ∧ h9 = h0 := ⟨_, hM, hC, hF, rfl⟩
  refine lv_aload_n hx hb dX5_removeAlert_0 rfl (lv_at hl 0 rfl) ?_
  refine lv_iload_n hx hb dX5_removeAlert_1 rfl (lv_at hl 1 rfl) ?_
  refine m_xcallV Z C hM hS (As := [.int x]) (rest := []) (c_X5_rowOf Z h A tg st X fd tt gr hC hk hR x) yi_X5_rowOf ml_X5_57 (hC.at (clS_h)) rfl ⟨Nat.le_of_ble_eq_true rfl, Nat.le_of_ble_eq_true rfl⟩ (Nat.le_of_ble_eq_true rfl) hl.1 rfl rfl dX5_removeAlert_2 ⟨Nat.le_of_ble_eq_true rfl, Nat.le_of_ble_eq_true rfl⟩ (fun E ce q9 h9 H locs hv hM hS g1 g2 g3 => ?_) (fun v h9 H locs hv hM hS => ?_)
  · -- thrown at 2
    obtain ⟨hE, f_4, hh9⟩ := hv
    rw [hh9] at hM
    exact m_out C ht hM hS (Nat.le_of_ble_eq_true rfl) (Nat.le_of_ble_eq_true rfl) g1 g2 g3 (Or.inl ⟨hE, f_4, ⟨A, tg, X, _, _, _, rfl, hC, hF, hR⟩⟩)
  · -- back at 2
    obtain ⟨k_1, f_2, f_3, hv, hh9⟩ := hv
    subst hv
    rw [hh9] at hM
    obtain ⟨T, U, F, al, hXk, hRi⟩ := hR k_1 f_2
    have hn := hk.n f_2
    obtain ⟨hT, hU, hUr, hRw, hEr, hFs, hal⟩ := hRi
    have hTb : ∀ i : Nat, i < st_n st k_1 → T i < 1073741824 := fun i hi => by rw [hT i hi]; exact hk.T f_2 hi
    have hRi9 : Ri st k_1 T U F al := ⟨hT, hU, hUr, hRw, hEr, hFs, hal⟩
    refine W.eq (g2 := F0 mt 5 ls [.ref (A (cd (k_1 + 1) 0 0))]) rfl ?_
    refine lv_astore_n (lv' := [(2, .ref (A (cd (k_1 + 1) 0 0))), (0, .ref (A (cd 0 1 0))), (1, .int x)]) hx hb dX5_removeAlert_5 rfl hl (by decide) rfl (fun ls hl => ?_)
    refine lv_aload_n hx hb dX5_removeAlert_6 rfl (lv_at hl 1 rfl) ?_
    refine lv_aload_n hx hb dX5_removeAlert_7 rfl (lv_at hl 0 rfl) ?_
    refine m_xcallV Z C hM hS (As := [.ref (A (cd (k_1 + 1) 0 0))]) (rest := []) (c_X5_stateOfAlert Z h A tg st X fd tt gr hC hk hR k_1 f_2) yi_X5_stateOfAlert ml_X5_219 (hC.at (clS_h)) rfl ⟨Nat.le_of_ble_eq_true rfl, Nat.le_of_ble_eq_true rfl⟩ (Nat.le_of_ble_eq_true rfl) hl.1 rfl rfl dX5_removeAlert_8 ⟨Nat.le_of_ble_eq_true rfl, Nat.le_of_ble_eq_true rfl⟩ (fun E ce q9 h9 H locs hv hM hS g1 g2 g3 => ?_) (fun v h9 H locs hv hM hS => ?_)
    · -- thrown at 8
      obtain ⟨hE, f_6, hh9⟩ := hv
      rw [hh9] at hM
      exact m_out C ht hM hS (Nat.le_of_ble_eq_true rfl) (Nat.le_of_ble_eq_true rfl) g1 g2 g3 (Or.inr ⟨k_1, hE, f_2, f_3, f_6, ⟨A, tg, X, _, _, _, rfl, hC, hF, hR⟩⟩)
    · -- back at 8
      obtain ⟨f_5, hv, hh9⟩ := hv
      subst hv
      rw [hh9] at hM
      refine W.eq (g2 := F0 mt 11 ls [.int (nI (z_al st k_1))]) rfl ?_
      refine lv_istore_n (lv' := [(3, .int (nI (z_al st k_1))), (2, .ref (A (cd (k_1 + 1) 0 0))), (0, .ref (A (cd 0 1 0))), (1, .int x)]) hx hb dX5_removeAlert_11 rfl hl (by decide) rfl (fun ls hl => ?_)
      refine lv_aload_n hx hb dX5_removeAlert_12 rfl (lv_at hl 1 rfl) ?_
      refine lv_null hx hb dX5_removeAlert_13 ?_
      refine m_putN Z C hM hS (hC.at ((clS_at f_2 hXk srS_0))) K_X2 8 (by decide) fn_X5_211 (v := .null) rfl rfl rfl (fs' := [.int (st_nm st k_1), .int (st_ho st k_1), .ref (A (cd (k_1 + 1) 1 0)), .ref (A (cd (k_1 + 1) 2 0)), .ref (A (cd (k_1 + 1) 3 0)), .ref (A (cd (k_1 + 1) 4 0)), .ref (A (cd (k_1 + 1) 5 0)), .int (nI (st_n st k_1)), .null]) rfl (Nat.le_of_ble_eq_true rfl) dX5_removeAlert_14 (fun H locs hM hS => ?_)
      have hC9 := hC.put ((clS_at f_2 hXk srS_0)) (eO 2 [.int (st_nm st k_1), .int (st_ho st k_1), .ref (A (cd (k_1 + 1) 1 0)), .ref (A (cd (k_1 + 1) 2 0)), .ref (A (cd (k_1 + 1) 3 0)), .ref (A (cd (k_1 + 1) 4 0)), .ref (A (cd (k_1 + 1) 5 0)), .int (nI (st_n st k_1)), .null])
      have hF9 := hF.put hC ((clS_at f_2 hXk srS_0)) (cd_k (by omega)) (eO 2 [.int (st_nm st k_1), .int (st_ho st k_1), .ref (A (cd (k_1 + 1) 1 0)), .ref (A (cd (k_1 + 1) 2 0)), .ref (A (cd (k_1 + 1) 3 0)), .ref (A (cd (k_1 + 1) 4 0)), .ref (A (cd (k_1 + 1) 5 0)), .int (nI (st_n st k_1)), .null])
      obtain ⟨h, hM, hC, hF⟩ : ∃ h9, MW G s0.heap.size h9 H ∧ CW h9 A tg (up3 (clS G A (st_many st) (st_now st) X fd tt gr) (cd (k_1 + 1) 0 0) (some (eO 2 [.int (st_nm st k_1), .int (st_ho st k_1), .ref (A (cd (k_1 + 1) 1 0)), .ref (A (cd (k_1 + 1) 2 0)), .ref (A (cd (k_1 + 1) 3 0)), .ref (A (cd (k_1 + 1) 4 0)), .ref (A (cd (k_1 + 1) 5 0)), .int (nI (st_n st k_1)), .null]))) ∧ cFr h0 tg h9 tg := ⟨_, hM, hC9, hF9⟩
      refine lv_iload_n hx hb dX5_removeAlert_17 rfl (lv_at hl 0 rfl) ?_
      refine vx_ret ?_
      exact m_zret C hM hS (Nat.le_of_ble_eq_true rfl) (Nat.le_of_ble_eq_true rfl) (z_al_nar _ _) dX5_removeAlert_18 ⟨k_1, f_2, f_3, f_5, rfl, ⟨A, tg, _, fd, tt, gr, rfl, hC.less (clS_rm f_2 hXk), hF, Rx_ra hk hR f_2 hRi9⟩⟩
set_option maxRecDepth 100000 in
set_option maxHeartbeats 4000000 in
theorem c_X5_setAlert {l : Launch} {G : mG} {a0 : Array Value} {s0 : State} (Z : mZ l G a0 s0) (h0 : Hp) (A : Cd → Nat) (tg : Nat → Cd) (st : Ms) (X : Nat → Xs) (fd : Nat) (tt : Int64) (gr : Int32) (hC : CW h0 A tg (clS G A (st_many st) (st_now st) X fd tt gr)) (hk : Iv st) (hR : ∀ k : Nat, k < st_many st → Rx st k (X k)) (x : Int32) (a : Int32) (d : Int32) : mT l G s0 yX5_setAlert cX5_setAlert 6 (some .char) 7 112 3 16 h0 [.ref (A (cd 0 1 0)), .int x, .int a, .int d] (fun v9 h9 => (∃ k : Nat, (k < st_many st) ∧ (x = nI k) ∧ ((-10000) ≤ a ∧ a ≤ nI 10000) ∧ (nI 0 ≤ d ∧ d ≤ nI 600) ∧ v9 = some (.int (nI (z_al (s_al st k a d) k))) ∧ NW G h0 h9 A tg (s_al st k a d))) (fun E h9 => (E = "java/util/NoSuchElementException" ∧ (∀ k : Nat, k < st_many st → x ≠ nI k) ∧ NW G h0 h9 A tg st) ∨ (∃ k : Nat, E = "java/lang/IllegalArgumentException" ∧ (k < st_many st) ∧ (x = nI k) ∧ (¬ (((-10000) ≤ a ∧ a ≤ nI 10000) ∧ (nI 0 ≤ d ∧ d ≤ nI 600))) ∧ NW G h0 h9 A tg st)) := by
  refine mT_in RX5 "setAlert" rfl rfl (by decide +kernel) (Nat.le_of_ble_eq_true rfl) ?_
  intro p e s mt below meth c H locs C ht hM hS ls hl
  have hx := C.1
  have hb := C.2.1
  have hown := C.2.2.2.1
  have hE := C.2.2.2.2.2.2.1
  have hl : lv_has ls 6 [(0, .ref (A (cd 0 1 0))), (1, .int x), (2, .int a), (3, .int d)] := hl
  have hF : cFr h0 tg h0 tg := cFr.rf
  obtain ⟨h, hM, hC, hF, hh⟩ : ∃ h9, MW G s0.heap.size h9 H ∧ CW h9 A tg (clS G A (st_many st) (st_now st) X fd tt gr) ∧ cFr h0 tg h9 tg ∧ h9 = h0 := ⟨_, hM, hC, hF, rfl⟩
  refine lv_aload_n hx hb dX5_setAlert_0 rfl (lv_at hl 0 rfl) ?_
  refine lv_iload_n hx hb dX5_setAlert_1 rfl (lv_at hl 1 rfl) ?_
  refine m_xcallV Z C hM hS (As := [.int x]) (rest := []) (c_X5_rowOf Z h A tg st X fd tt gr hC hk hR x) yi_X5_rowOf ml_X5_57 (hC.at (clS_h)) rfl ⟨Nat.le_of_ble_eq_true rfl, Nat.le_of_ble_eq_true rfl⟩ (Nat.le_of_ble_eq_true rfl) hl.1 rfl rfl dX5_setAlert_2 ⟨Nat.le_of_ble_eq_true rfl, Nat.le_of_ble_eq_true rfl⟩ (fun E ce q9 h9 H locs hv hM hS g1 g2 g3 => ?_) (fun v h9 H locs hv hM hS => ?_)
  · -- thrown at 2
    obtain ⟨hE, f_4, hh9⟩ := hv
    rw [hh9] at hM
    exact m_out C ht hM hS (Nat.le_of_ble_eq_true rfl) (Nat.le_of_ble_eq_true rfl) g1 g2 g3 (Or.inl ⟨hE, f_4, ⟨A, tg, X, _, _, _, rfl, hC, hF, hR⟩⟩)
  · -- back at 2
    obtain ⟨k_1, f_2, f_3, hv, hh9⟩ := hv
    subst hv
    rw [hh9] at hM
    obtain ⟨T, U, F, al, hXk, hRi⟩ := hR k_1 f_2
    have hn := hk.n f_2
    obtain ⟨hT, hU, hUr, hRw, hEr, hFs, hal⟩ := hRi
    have hTb : ∀ i : Nat, i < st_n st k_1 → T i < 1073741824 := fun i hi => by rw [hT i hi]; exact hk.T f_2 hi
    have hRi9 : Ri st k_1 T U F al := ⟨hT, hU, hUr, hRw, hEr, hFs, hal⟩
    refine W.eq (g2 := F0 mt 5 ls [.ref (A (cd (k_1 + 1) 0 0))]) rfl ?_
    refine lv_astore (lv' := [(4, .ref (A (cd (k_1 + 1) 0 0))), (0, .ref (A (cd 0 1 0))), (1, .int x), (2, .int a), (3, .int d)]) hx hb dX5_setAlert_5 hl (by decide) rfl (fun ls hl => ?_)
    refine lv_iload_n hx hb dX5_setAlert_7 rfl (lv_at hl 3 rfl) ?_
    refine m_callS Z C hM hS (As := [.int a]) (rest := []) (c_X5_isValue Z h a) yi_X5_isValue ml_X5_61 ⟨Nat.le_of_ble_eq_true rfl, Nat.le_of_ble_eq_true rfl⟩ (Nat.le_of_ble_eq_true rfl) hl.1 rfl rfl dX5_setAlert_8 ⟨Nat.le_of_ble_eq_true rfl, Nat.le_of_ble_eq_true rfl⟩ (fun v h9 H locs hv hM hS => ?_)
    obtain ⟨hv, hh9⟩ := hv
    rcases Decidable.em ((-10000) ≤ a ∧ a ≤ nI 10000) with g_5 | g_5
    · -- of 8: True
      replace hv : v = some (.int (b2 ((-10000) ≤ a ∧ a ≤ nI 10000))) := hv
      rw [b2_t g_5] at hv
      subst hv
      rw [hh9] at hM
      refine W.eq (g2 := F0 mt 11 ls [.int (nI 1)]) rfl ?_
      refine lv_if_ne (tgt := 24) hx hb dX5_setAlert_11 (by decide) (fun _ => ?_) (fun q => absurd q (by decide))
      refine lv_iload_n hx hb dX5_setAlert_24 rfl (lv_at hl 4 rfl) ?_
      refine lv_if_lt (tgt := 35) hx hb dX5_setAlert_25 (by decide) (fun c_7 => ?_) (fun c_7 => ?_)
      · -- 25 t
        exact m_throw Z C ht hM hS xy_X5_setAlert_35 hl.1 dX5_setAlert_35 dX5_setAlert_38 dX5_setAlert_39 dX5_setAlert_41 dX5_setAlert_44 ⟨Nat.le_of_ble_eq_true rfl, Nat.le_of_ble_eq_true rfl, Nat.le_of_ble_eq_true rfl, Nat.le_of_ble_eq_true rfl⟩ (Nat.le_of_ble_eq_true rfl) (Nat.le_of_ble_eq_true rfl) (Or.inr ⟨k_1, rfl, f_2, f_3, (fun q => i_len q.2.1 c_7), ⟨A, tg, X, _, _, _, rfl, hC, hF, hR⟩⟩)
      · -- 25 f
        refine lv_iload_n hx hb dX5_setAlert_28 rfl (lv_at hl 4 rfl) ?_
        refine lv_sipush (v := nI 600) hx hb dX5_setAlert_29 (by decide) ?_
        refine lv_icmp_le (tgt := 45) hx hb dX5_setAlert_32 (by decide) (fun c_8 => ?_) (fun c_8 => ?_)
        · -- 32 t
          obtain ⟨tg0, etg0⟩ : ∃ z, z = tg := ⟨_, rfl⟩
          have hF : cFr h tg0 h tg := by rw [etg0]; exact cFr.rf
          have hF : cFr h0 tg0 h tg := by rw [← hh]; exact hF
          refine m_new Z C hM hS K_X0 cl_X5_205 ci_X0 cn_X0 (fs := [.int 0, .int 0, .int 0, .long 0]) (fun j hj => match j, hj with | 0, _ => rfl | 1, _ => rfl | 2, _ => rfl | 3, _ => rfl | n + 4, z => absurd z (by omega)) (Nat.le_of_ble_eq_true rfl) (Nat.le_of_ble_eq_true rfl) dX5_setAlert_45 (fun qn H hq hM hS => ?_)
          have hQ0 := hC.out hq
          have hq0 : qn ∉ h0.1 := fun z => hq (hF qn z).1
          obtain ⟨h, hM, hC, hF, hX_q⟩ : ∃ h9, MW G s0.heap.size h9 H ∧ CW h9 A tg (clS G A (st_many st) (st_now st) X fd tt gr) ∧ cFr h0 tg0 h9 tg ∧ hat h9 qn (eO 0 [.int 0, .int 0, .int 0, .long 0]) := ⟨_, hM, hC.keep hq, hF.keep hq _, hat_new⟩
          refine lv_dup hx hb dX5_setAlert_48 rfl ?_
          refine lv_iload_n hx hb dX5_setAlert_49 rfl (lv_at hl 3 rfl) ?_
          refine lv_iload_n hx hb dX5_setAlert_50 rfl (lv_at hl 4 rfl) ?_
          refine m_callIN Z C hM hS (As := [.int a, .int d]) (rest := [.ref qn]) (c_X0_init Z h qn a d hX_q) yi_X0_init mn_X5_207 ⟨Nat.le_of_ble_eq_true rfl, Nat.le_of_ble_eq_true rfl⟩ (Nat.le_of_ble_eq_true rfl) hl.1 rfl rfl dX5_setAlert_51 ⟨Nat.le_of_ble_eq_true rfl, Nat.le_of_ble_eq_true rfl⟩ (fun v h9 H locs hv hM hS => ?_)
          have hX_q0 := hX_q
          obtain ⟨hv, hX_q, hFr9⟩ := hv
          subst hv
          refine W.eq (g2 := F0 mt 54 ls [.ref qn]) rfl ?_
          obtain ⟨h, hM, hC, hF, hX_q⟩ : ∃ h8, MW G s0.heap.size h8 H ∧ CW h8 A tg (clS G A (st_many st) (st_now st) X fd tt gr) ∧ cFr h0 tg0 h8 tg ∧ hat h8 qn (eO 0 [.int a, .int d, .int (nI 0), .long (lN 0)]) := ⟨_, hM, hC.keepN hFr9 hQ0, hF.keepN hFr9 hq0, hX_q⟩
          refine lv_astore (lv' := [(5, .ref qn), (4, .ref (A (cd (k_1 + 1) 0 0))), (0, .ref (A (cd 0 1 0))), (1, .int x), (2, .int a), (3, .int d)]) hx hb dX5_setAlert_54 hl (by decide) rfl (fun ls hl => ?_)
          have hC8 := hC.name hX_q hQ0 (cd (k_1 + 1) 13 0)
          have hF8 := hF.name hq0 (cd (k_1 + 1) 13 0)
          obtain ⟨B, eB⟩ : ∃ z, z = up3 A (cd (k_1 + 1) 13 0) qn := ⟨_, rfl⟩
          rw [← eB] at hC8
          have eBq : B (cd (k_1 + 1) 13 0) = qn := by rw [eB, up3_self]
          have eBo : ∀ y : Cd, y ≠ cd (k_1 + 1) 13 0 → B y = A y := fun y hy => by rw [eB, up3_ne _ _ hy]
          replace hC8 : CW h B _ (up3 (clS G A (st_many st) (st_now st) X fd tt gr) (cd (k_1 + 1) 13 0) (x_ac (some (a, d, nI 0, lN 0)))) := hC8
          rw [clS_al f_2 hXk eBo (a, d, nI 0, lN 0)] at hC8
          obtain ⟨av9, eav⟩ : ∃ z, z = x_av A k_1 al := ⟨_, rfl⟩
          rw [← eav] at hC8
          clear hC eB
          obtain ⟨A, eAB⟩ : ∃ z, z = B := ⟨_, rfl⟩
          rw [← eAB] at hC8 eBq eBo
          obtain ⟨tg, etg⟩ : ∃ z, z = va_up tg qn (cd (k_1 + 1) 13 0) := ⟨_, rfl⟩
          rw [← etg] at hC8 hF8
          have e00 := eBo (cd (k_1 + 1) 0 0) (cd_r (by decide))
          have e01 := eBo (cd 0 1 0) (cd_k (by omega))
          rw [← e00, ← e01, ← eBq] at hl
          have hC := hC8
          have hF := hF8
          refine lv_aload hx hb dX5_setAlert_56 (lv_at hl 1 rfl) ?_
          refine m_getN Z C hM (hC.at (up3_self _ _ _)) K_X2 7 (by decide) fn_X5_82 (v := .int (nI (st_n st k_1))) rfl dX5_setAlert_58 ?_
          refine lv_if_le (tgt := 78) hx hb dX5_setAlert_61 (by decide) (fun c_9 => ?_) (fun c_9 => ?_)
          · -- 61 t
            have c_9 : st_n st k_1 ≤ 0 := (nI_leI (by omega) (by decide)).mp c_9
            refine lv_aload hx hb dX5_setAlert_78 (lv_at hl 1 rfl) ?_
            refine lv_aload hx hb dX5_setAlert_80 (lv_at hl 0 rfl) ?_
            refine m_putN Z C hM hS (hC.at (up3_self _ _ _)) K_X2 8 (by decide) fn_X5_211 (v := .ref (A (cd (k_1 + 1) 13 0))) rfl rfl rfl (fs' := [.int (st_nm st k_1), .int (st_ho st k_1), .ref (A (cd (k_1 + 1) 1 0)), .ref (A (cd (k_1 + 1) 2 0)), .ref (A (cd (k_1 + 1) 3 0)), .ref (A (cd (k_1 + 1) 4 0)), .ref (A (cd (k_1 + 1) 5 0)), .int (nI (st_n st k_1)), .ref (A (cd (k_1 + 1) 13 0))]) rfl (Nat.le_of_ble_eq_true rfl) dX5_setAlert_82 (fun H locs hM hS => ?_)
            have hC9 := hC.put (up3_self _ _ _) (eO 2 [.int (st_nm st k_1), .int (st_ho st k_1), .ref (A (cd (k_1 + 1) 1 0)), .ref (A (cd (k_1 + 1) 2 0)), .ref (A (cd (k_1 + 1) 3 0)), .ref (A (cd (k_1 + 1) 4 0)), .ref (A (cd (k_1 + 1) 5 0)), .int (nI (st_n st k_1)), .ref (A (cd (k_1 + 1) 13 0))])
            have hF9 := hF.put hC (up3_self _ _ _) (cd_k (by omega)) (eO 2 [.int (st_nm st k_1), .int (st_ho st k_1), .ref (A (cd (k_1 + 1) 1 0)), .ref (A (cd (k_1 + 1) 2 0)), .ref (A (cd (k_1 + 1) 3 0)), .ref (A (cd (k_1 + 1) 4 0)), .ref (A (cd (k_1 + 1) 5 0)), .int (nI (st_n st k_1)), .ref (A (cd (k_1 + 1) 13 0))])
            rw [up3_up3 (x := cd (k_1 + 1) 0 0)] at hC9
            obtain ⟨h, hM, hC, hF⟩ : ∃ h9, MW G s0.heap.size h9 H ∧ CW h9 A tg (up3 (clS G A (st_many st) (st_now st) (va_up X k_1 (st_nm st k_1, st_ho st k_1, st_n st k_1, T, U, (F, SZ (st_n st k_1), HV (st_n st k_1), BD (st_n st k_1)), some (a, d, nI 0, lN 0))) fd tt gr) (cd (k_1 + 1) 0 0) (some (eO 2 [.int (st_nm st k_1), .int (st_ho st k_1), .ref (A (cd (k_1 + 1) 1 0)), .ref (A (cd (k_1 + 1) 2 0)), .ref (A (cd (k_1 + 1) 3 0)), .ref (A (cd (k_1 + 1) 4 0)), .ref (A (cd (k_1 + 1) 5 0)), .int (nI (st_n st k_1)), .ref (A (cd (k_1 + 1) 13 0))]))) ∧ cFr h0 tg0 h9 tg := ⟨_, hM, hC9, hF9⟩
            refine lv_aload hx hb dX5_setAlert_85 (lv_at hl 0 rfl) ?_
            refine lv_aload_n hx hb dX5_setAlert_87 rfl (lv_at hl 2 rfl) ?_
            refine m_get Z C hM (hC.at ((up3_ne _ _ (cd_r (by decide))).trans (clS_h))) K_X5 3 (by decide) fl_X5_26 (v := .long (lN (st_now st))) rfl dX5_setAlert_88 ?_
            refine m_callVN Z C hM hS (As := [.long (lN (st_now st))]) (rest := []) (c_X0_stateAt Z h A tg (up3 (clS G A (st_many st) (st_now st) (va_up X k_1 (st_nm st k_1, st_ho st k_1, st_n st k_1, T, U, (F, SZ (st_n st k_1), HV (st_n st k_1), BD (st_n st k_1)), some (a, d, nI 0, lN 0))) fd tt gr) (cd (k_1 + 1) 0 0) (some (eO 2 [.int (st_nm st k_1), .int (st_ho st k_1), .ref (A (cd (k_1 + 1) 1 0)), .ref (A (cd (k_1 + 1) 2 0)), .ref (A (cd (k_1 + 1) 3 0)), .ref (A (cd (k_1 + 1) 4 0)), .ref (A (cd (k_1 + 1) 5 0)), .int (nI (st_n st k_1)), .ref (A (cd (k_1 + 1) 13 0))]))) hC k_1 (lN (st_now st)) a d (nI 0) (lN 0) ((up3_ne _ _ (cd_r (by decide))).trans ((clS_13 f_2 (va_up_self _ _ _))))) yi_X0_stateAt mn_X5_215 (hC.at ((up3_ne _ _ (cd_r (by decide))).trans ((clS_13 f_2 (va_up_self _ _ _))))) rfl ⟨Nat.le_of_ble_eq_true rfl, Nat.le_of_ble_eq_true rfl⟩ (Nat.le_of_ble_eq_true rfl) hl.1 rfl rfl dX5_setAlert_91 ⟨Nat.le_of_ble_eq_true rfl, Nat.le_of_ble_eq_true rfl⟩ (fun v h9 H locs hv hM hS => ?_)
            obtain ⟨hv, hh9⟩ := hv
            subst hv
            rw [hh9] at hM
            refine W.eq (g2 := F0 mt 94 ls [.int (nI (if (nI 0) = 0 then 111 else if d.toInt64 ≤ (lN (st_now st)) - (lN 0) then 102 else 112))]) rfl ?_
            refine vx_ret ?_
            have ex9 : x_set st k_1 U a d = (a, d, nI 0, lN 0) := x_set_f (fun q => absurd q.1 (by omega))
            have hra9 := Ra_al hRi9 a d
            rw [ex9] at hra9
            have e9 : up3 (clS G A (st_many st) (st_now st) (va_up X k_1 (st_nm st k_1, st_ho st k_1, st_n st k_1, T, U, (F, SZ (st_n st k_1), HV (st_n st k_1), BD (st_n st k_1)), some (a, d, nI 0, lN 0))) fd tt gr) (cd (k_1 + 1) 0 0) (some (eO 2 [.int (st_nm st k_1), .int (st_ho st k_1), .ref (A (cd (k_1 + 1) 1 0)), .ref (A (cd (k_1 + 1) 2 0)), .ref (A (cd (k_1 + 1) 3 0)), .ref (A (cd (k_1 + 1) 4 0)), .ref (A (cd (k_1 + 1) 5 0)), .int (nI (st_n st k_1)), .ref (A (cd (k_1 + 1) 13 0))])) = clS G A (st_many st) (st_now st) (va_up X k_1 (st_nm st k_1, st_ho st k_1, st_n st k_1, T, U, (F, SZ (st_n st k_1), HV (st_n st k_1), BD (st_n st k_1)), some (a, d, nI 0, lN 0))) fd tt gr := up3_id (clS_at f_2 (va_up_self _ _ _) srS_0)
            rw [e9] at hC
            exact m_zret C hM hS (Nat.le_of_ble_eq_true rfl) (Nat.le_of_ble_eq_true rfl) (al_nar _ _) dX5_setAlert_94 ⟨k_1, f_2, f_3, g_5, ⟨i_nlt c_7, c_8⟩, (congrArg (fun z => some (Value.int (nI z))) (al_c (st := s_al st k_1 a d) hra9)), ⟨A, tg, va_up X k_1 (st_nm st k_1, st_ho st k_1, st_n st k_1, T, U, (F, SZ (st_n st k_1), HV (st_n st k_1), BD (st_n st k_1)), some (x_set st k_1 U a d)), fd, tt, gr, e01, (by rw [ex9]; exact hC), etg0 ▸ hF, Rx_al hk hR f_2 hRi9 a d⟩⟩
          · -- 61 f
            have c_9 : ¬ st_n st k_1 ≤ 0 := fun q => c_9 ((nI_leI (by omega) (by decide)).mpr q)
            refine lv_aload hx hb dX5_setAlert_64 (lv_at hl 0 rfl) ?_
            refine lv_aload_n hx hb dX5_setAlert_66 rfl (lv_at hl 2 rfl) ?_
            refine m_get Z C hM (hC.at ((up3_ne _ _ (cd_r (by decide))).trans (clS_h))) K_X5 3 (by decide) fl_X5_26 (v := .long (lN (st_now st))) rfl dX5_setAlert_67 ?_
            refine lv_aload hx hb dX5_setAlert_70 (lv_at hl 1 rfl) ?_
            refine m_callVN Z C hM hS (As := []) (rest := [.long (lN (st_now st)), .ref (A (cd (k_1 + 1) 13 0))]) (c_X2_newestValue Z h A tg (up3 (clS G A (st_many st) (st_now st) (va_up X k_1 (st_nm st k_1, st_ho st k_1, st_n st k_1, T, U, (F, SZ (st_n st k_1), HV (st_n st k_1), BD (st_n st k_1)), some (a, d, nI 0, lN 0))) fd tt gr) (cd (k_1 + 1) 0 0) (some (eO 2 [.int (st_nm st k_1), .int (st_ho st k_1), .ref (A (cd (k_1 + 1) 1 0)), .ref (A (cd (k_1 + 1) 2 0)), .ref (A (cd (k_1 + 1) 3 0)), .ref (A (cd (k_1 + 1) 4 0)), .ref (A (cd (k_1 + 1) 5 0)), .int (nI (st_n st k_1)), av9]))) hC k_1 (st_nm st k_1) (st_ho st k_1) (st_n st k_1) av9 U (up3_self _ _ _) ((up3_ne _ _ (cd_r (by decide))).trans ((clS_at f_2 (va_up_self _ _ _) srS_2))) hn (by omega)) yi_X2_newestValue mn_X5_100 (hC.at (up3_self _ _ _)) rfl ⟨Nat.le_of_ble_eq_true rfl, Nat.le_of_ble_eq_true rfl⟩ (Nat.le_of_ble_eq_true rfl) hl.1 rfl rfl dX5_setAlert_72 ⟨Nat.le_of_ble_eq_true rfl, Nat.le_of_ble_eq_true rfl⟩ (fun v h9 H locs hv hM hS => ?_)
            obtain ⟨hv, hh9⟩ := hv
            subst hv
            rw [hh9] at hM
            refine W.eq (g2 := F0 mt 75 ls [.int (U ((st_n st k_1) - 1)), .long (lN (st_now st)), .ref (A (cd (k_1 + 1) 13 0))]) rfl ?_
            refine m_callVN Z C hM hS (As := [.long (lN (st_now st)), .int (U ((st_n st k_1) - 1))]) (rest := []) (c_X0_see Z h A tg (up3 (clS G A (st_many st) (st_now st) (va_up X k_1 (st_nm st k_1, st_ho st k_1, st_n st k_1, T, U, (F, SZ (st_n st k_1), HV (st_n st k_1), BD (st_n st k_1)), some (a, d, nI 0, lN 0))) fd tt gr) (cd (k_1 + 1) 0 0) (some (eO 2 [.int (st_nm st k_1), .int (st_ho st k_1), .ref (A (cd (k_1 + 1) 1 0)), .ref (A (cd (k_1 + 1) 2 0)), .ref (A (cd (k_1 + 1) 3 0)), .ref (A (cd (k_1 + 1) 4 0)), .ref (A (cd (k_1 + 1) 5 0)), .int (nI (st_n st k_1)), av9]))) hC k_1 (lN (st_now st)) (U ((st_n st k_1) - 1)) a d (nI 0) (lN 0) ((up3_ne _ _ (cd_r (by decide))).trans ((clS_13 f_2 (va_up_self _ _ _))))) yi_X0_see mn_X5_208 (hC.at ((up3_ne _ _ (cd_r (by decide))).trans ((clS_13 f_2 (va_up_self _ _ _))))) rfl ⟨Nat.le_of_ble_eq_true rfl, Nat.le_of_ble_eq_true rfl⟩ (Nat.le_of_ble_eq_true rfl) hl.1 rfl rfl dX5_setAlert_75 ⟨Nat.le_of_ble_eq_true rfl, Nat.le_of_ble_eq_true rfl⟩ (fun v h9 H locs hv hM hS => ?_)
            rcases hv with ⟨f_10, hv, hC9, hF8⟩ | ⟨f_11, f_12, hv, hC9, hF8⟩ | ⟨f_13, f_14, hv, hC9, hF8⟩
            · -- of 75
              subst hv
              have hF := hF.trans hF8
              obtain ⟨h, hM, hC, hF⟩ : ∃ h8, MW G s0.heap.size h8 H ∧ CW h8 A tg (up3 (up3 (clS G A (st_many st) (st_now st) (va_up X k_1 (st_nm st k_1, st_ho st k_1, st_n st k_1, T, U, (F, SZ (st_n st k_1), HV (st_n st k_1), BD (st_n st k_1)), some (a, d, nI 0, lN 0))) fd tt gr) (cd (k_1 + 1) 0 0) (some (eO 2 [.int (st_nm st k_1), .int (st_ho st k_1), .ref (A (cd (k_1 + 1) 1 0)), .ref (A (cd (k_1 + 1) 2 0)), .ref (A (cd (k_1 + 1) 3 0)), .ref (A (cd (k_1 + 1) 4 0)), .ref (A (cd (k_1 + 1) 5 0)), .int (nI (st_n st k_1)), av9]))) (cd (k_1 + 1) 13 0) (some (eO 0 [.int a, .int d, .int (nI 0), .long ((lN 0))]))) ∧ cFr h0 tg0 h8 tg := ⟨_, hM, hC9, hF⟩
              refine W.eq (g2 := F0 mt 78 ls []) rfl ?_
              refine lv_aload hx hb dX5_setAlert_78 (lv_at hl 1 rfl) ?_
              refine lv_aload hx hb dX5_setAlert_80 (lv_at hl 0 rfl) ?_
              refine m_putN Z C hM hS (hC.at ((up3_ne _ _ (cd_r (by decide))).trans (up3_self _ _ _))) K_X2 8 (by decide) fn_X5_211 (v := .ref (A (cd (k_1 + 1) 13 0))) rfl rfl rfl (fs' := [.int (st_nm st k_1), .int (st_ho st k_1), .ref (A (cd (k_1 + 1) 1 0)), .ref (A (cd (k_1 + 1) 2 0)), .ref (A (cd (k_1 + 1) 3 0)), .ref (A (cd (k_1 + 1) 4 0)), .ref (A (cd (k_1 + 1) 5 0)), .int (nI (st_n st k_1)), .ref (A (cd (k_1 + 1) 13 0))]) rfl (Nat.le_of_ble_eq_true rfl) dX5_setAlert_82 (fun H locs hM hS => ?_)
              have hC9 := hC.put ((up3_ne _ _ (cd_r (by decide))).trans (up3_self _ _ _)) (eO 2 [.int (st_nm st k_1), .int (st_ho st k_1), .ref (A (cd (k_1 + 1) 1 0)), .ref (A (cd (k_1 + 1) 2 0)), .ref (A (cd (k_1 + 1) 3 0)), .ref (A (cd (k_1 + 1) 4 0)), .ref (A (cd (k_1 + 1) 5 0)), .int (nI (st_n st k_1)), .ref (A (cd (k_1 + 1) 13 0))])
              have hF9 := hF.put hC ((up3_ne _ _ (cd_r (by decide))).trans (up3_self _ _ _)) (cd_k (by omega)) (eO 2 [.int (st_nm st k_1), .int (st_ho st k_1), .ref (A (cd (k_1 + 1) 1 0)), .ref (A (cd (k_1 + 1) 2 0)), .ref (A (cd (k_1 + 1) 3 0)), .ref (A (cd (k_1 + 1) 4 0)), .ref (A (cd (k_1 + 1) 5 0)), .int (nI (st_n st k_1)), .ref (A (cd (k_1 + 1) 13 0))])
              rw [up3_comm (x := cd (k_1 + 1) 13 0) (y := cd (k_1 + 1) 0 0) _ _ _ (cd_r (by decide))] at hC9
              rw [up3_up3 (x := cd (k_1 + 1) 0 0)] at hC9
              obtain ⟨h, hM, hC, hF⟩ : ∃ h9, MW G s0.heap.size h9 H ∧ CW h9 A tg (up3 (up3 (clS G A (st_many st) (st_now st) (va_up X k_1 (st_nm st k_1, st_ho st k_1, st_n st k_1, T, U, (F, SZ (st_n st k_1), HV (st_n st k_1), BD (st_n st k_1)), some (a, d, nI 0, lN 0))) fd tt gr) (cd (k_1 + 1) 0 0) (some (eO 2 [.int (st_nm st k_1), .int (st_ho st k_1), .ref (A (cd (k_1 + 1) 1 0)), .ref (A (cd (k_1 + 1) 2 0)), .ref (A (cd (k_1 + 1) 3 0)), .ref (A (cd (k_1 + 1) 4 0)), .ref (A (cd (k_1 + 1) 5 0)), .int (nI (st_n st k_1)), .ref (A (cd (k_1 + 1) 13 0))]))) (cd (k_1 + 1) 13 0) (some (eO 0 [.int a, .int d, .int (nI 0), .long ((lN 0))]))) ∧ cFr h0 tg0 h9 tg := ⟨_, hM, hC9, hF9⟩
              refine lv_aload hx hb dX5_setAlert_85 (lv_at hl 0 rfl) ?_
              refine lv_aload_n hx hb dX5_setAlert_87 rfl (lv_at hl 2 rfl) ?_
              refine m_get Z C hM (hC.at ((up3_ne _ _ (cd_r (by decide))).trans ((up3_ne _ _ (cd_r (by decide))).trans (clS_h)))) K_X5 3 (by decide) fl_X5_26 (v := .long (lN (st_now st))) rfl dX5_setAlert_88 ?_
              refine m_callVN Z C hM hS (As := [.long (lN (st_now st))]) (rest := []) (c_X0_stateAt Z h A tg (up3 (up3 (clS G A (st_many st) (st_now st) (va_up X k_1 (st_nm st k_1, st_ho st k_1, st_n st k_1, T, U, (F, SZ (st_n st k_1), HV (st_n st k_1), BD (st_n st k_1)), some (a, d, nI 0, lN 0))) fd tt gr) (cd (k_1 + 1) 0 0) (some (eO 2 [.int (st_nm st k_1), .int (st_ho st k_1), .ref (A (cd (k_1 + 1) 1 0)), .ref (A (cd (k_1 + 1) 2 0)), .ref (A (cd (k_1 + 1) 3 0)), .ref (A (cd (k_1 + 1) 4 0)), .ref (A (cd (k_1 + 1) 5 0)), .int (nI (st_n st k_1)), .ref (A (cd (k_1 + 1) 13 0))]))) (cd (k_1 + 1) 13 0) (some (eO 0 [.int a, .int d, .int (nI 0), .long ((lN 0))]))) hC k_1 (lN (st_now st)) a d (nI 0) ((lN 0)) (up3_self _ _ _)) yi_X0_stateAt mn_X5_215 (hC.at (up3_self _ _ _)) rfl ⟨Nat.le_of_ble_eq_true rfl, Nat.le_of_ble_eq_true rfl⟩ (Nat.le_of_ble_eq_true rfl) hl.1 rfl rfl dX5_setAlert_91 ⟨Nat.le_of_ble_eq_true rfl, Nat.le_of_ble_eq_true rfl⟩ (fun v h9 H locs hv hM hS => ?_)
              obtain ⟨hv, hh9⟩ := hv
              subst hv
              rw [hh9] at hM
              refine W.eq (g2 := F0 mt 94 ls [.int (nI (if (nI 0) = 0 then 111 else if d.toInt64 ≤ (lN (st_now st)) - ((lN 0)) then 102 else 112))]) rfl ?_
              refine vx_ret ?_
              have ex9 : x_set st k_1 U a d = (a, d, nI 0, lN 0) := x_set_f (fun q => i_len f_10 q.2)
              have hra9 := Ra_al hRi9 a d
              rw [ex9] at hra9
              have e9 : up3 (clS G A (st_many st) (st_now st) (va_up X k_1 (st_nm st k_1, st_ho st k_1, st_n st k_1, T, U, (F, SZ (st_n st k_1), HV (st_n st k_1), BD (st_n st k_1)), some (a, d, nI 0, lN 0))) fd tt gr) (cd (k_1 + 1) 0 0) (some (eO 2 [.int (st_nm st k_1), .int (st_ho st k_1), .ref (A (cd (k_1 + 1) 1 0)), .ref (A (cd (k_1 + 1) 2 0)), .ref (A (cd (k_1 + 1) 3 0)), .ref (A (cd (k_1 + 1) 4 0)), .ref (A (cd (k_1 + 1) 5 0)), .int (nI (st_n st k_1)), .ref (A (cd (k_1 + 1) 13 0))])) = clS G A (st_many st) (st_now st) (va_up X k_1 (st_nm st k_1, st_ho st k_1, st_n st k_1, T, U, (F, SZ (st_n st k_1), HV (st_n st k_1), BD (st_n st k_1)), some (a, d, nI 0, lN 0))) fd tt gr := up3_id (clS_at f_2 (va_up_self _ _ _) srS_0)
              rw [e9] at hC
              replace hC : CW h A tg (up3 _ (cd (k_1 + 1) 13 0) (x_ac (some (a, d, nI 0, lN 0)))) := hC
              rw [clS_p13 f_2 (va_up_self _ _ _), va_uu] at hC
              exact m_zret C hM hS (Nat.le_of_ble_eq_true rfl) (Nat.le_of_ble_eq_true rfl) (al_nar _ _) dX5_setAlert_94 ⟨k_1, f_2, f_3, g_5, ⟨i_nlt c_7, c_8⟩, (congrArg (fun z => some (Value.int (nI z))) (al_c (st := s_al st k_1 a d) hra9)), ⟨A, tg, va_up X k_1 (st_nm st k_1, st_ho st k_1, st_n st k_1, T, U, (F, SZ (st_n st k_1), HV (st_n st k_1), BD (st_n st k_1)), some (x_set st k_1 U a d)), fd, tt, gr, e01, (by rw [ex9]; exact hC), etg0 ▸ hF, Rx_al hk hR f_2 hRi9 a d⟩⟩
            · -- of 75
              subst hv
              have hF := hF.trans hF8
              obtain ⟨h, hM, hC, hF⟩ : ∃ h8, MW G s0.heap.size h8 H ∧ CW h8 A tg (up3 (up3 (clS G A (st_many st) (st_now st) (va_up X k_1 (st_nm st k_1, st_ho st k_1, st_n st k_1, T, U, (F, SZ (st_n st k_1), HV (st_n st k_1), BD (st_n st k_1)), some (a, d, nI 0, lN 0))) fd tt gr) (cd (k_1 + 1) 0 0) (some (eO 2 [.int (st_nm st k_1), .int (st_ho st k_1), .ref (A (cd (k_1 + 1) 1 0)), .ref (A (cd (k_1 + 1) 2 0)), .ref (A (cd (k_1 + 1) 3 0)), .ref (A (cd (k_1 + 1) 4 0)), .ref (A (cd (k_1 + 1) 5 0)), .int (nI (st_n st k_1)), av9]))) (cd (k_1 + 1) 13 0) (some (eO 0 [.int a, .int d, .int (nI 1), .long ((lN (st_now st)))]))) ∧ cFr h0 tg0 h8 tg := ⟨_, hM, hC9, hF⟩
              refine W.eq (g2 := F0 mt 78 ls []) rfl ?_
              refine lv_aload hx hb dX5_setAlert_78 (lv_at hl 1 rfl) ?_
              refine lv_aload hx hb dX5_setAlert_80 (lv_at hl 0 rfl) ?_
              refine m_putN Z C hM hS (hC.at ((up3_ne _ _ (cd_r (by decide))).trans (up3_self _ _ _))) K_X2 8 (by decide) fn_X5_211 (v := .ref (A (cd (k_1 + 1) 13 0))) rfl rfl rfl (fs' := [.int (st_nm st k_1), .int (st_ho st k_1), .ref (A (cd (k_1 + 1) 1 0)), .ref (A (cd (k_1 + 1) 2 0)), .ref (A (cd (k_1 + 1) 3 0)), .ref (A (cd (k_1 + 1) 4 0)), .ref (A (cd (k_1 + 1) 5 0)), .int (nI (st_n st k_1)), .ref (A (cd (k_1 + 1) 13 0))]) rfl (Nat.le_of_ble_eq_true rfl) dX5_setAlert_82 (fun H locs hM hS => ?_)
              have hC9 := hC.put ((up3_ne _ _ (cd_r (by decide))).trans (up3_self _ _ _)) (eO 2 [.int (st_nm st k_1), .int (st_ho st k_1), .ref (A (cd (k_1 + 1) 1 0)), .ref (A (cd (k_1 + 1) 2 0)), .ref (A (cd (k_1 + 1) 3 0)), .ref (A (cd (k_1 + 1) 4 0)), .ref (A (cd (k_1 + 1) 5 0)), .int (nI (st_n st k_1)), .ref (A (cd (k_1 + 1) 13 0))])
              have hF9 := hF.put hC ((up3_ne _ _ (cd_r (by decide))).trans (up3_self _ _ _)) (cd_k (by omega)) (eO 2 [.int (st_nm st k_1), .int (st_ho st k_1), .ref (A (cd (k_1 + 1) 1 0)), .ref (A (cd (k_1 + 1) 2 0)), .ref (A (cd (k_1 + 1) 3 0)), .ref (A (cd (k_1 + 1) 4 0)), .ref (A (cd (k_1 + 1) 5 0)), .int (nI (st_n st k_1)), .ref (A (cd (k_1 + 1) 13 0))])
              rw [up3_comm (x := cd (k_1 + 1) 13 0) (y := cd (k_1 + 1) 0 0) _ _ _ (cd_r (by decide))] at hC9
              rw [up3_up3 (x := cd (k_1 + 1) 0 0)] at hC9
              obtain ⟨h, hM, hC, hF⟩ : ∃ h9, MW G s0.heap.size h9 H ∧ CW h9 A tg (up3 (up3 (clS G A (st_many st) (st_now st) (va_up X k_1 (st_nm st k_1, st_ho st k_1, st_n st k_1, T, U, (F, SZ (st_n st k_1), HV (st_n st k_1), BD (st_n st k_1)), some (a, d, nI 0, lN 0))) fd tt gr) (cd (k_1 + 1) 0 0) (some (eO 2 [.int (st_nm st k_1), .int (st_ho st k_1), .ref (A (cd (k_1 + 1) 1 0)), .ref (A (cd (k_1 + 1) 2 0)), .ref (A (cd (k_1 + 1) 3 0)), .ref (A (cd (k_1 + 1) 4 0)), .ref (A (cd (k_1 + 1) 5 0)), .int (nI (st_n st k_1)), .ref (A (cd (k_1 + 1) 13 0))]))) (cd (k_1 + 1) 13 0) (some (eO 0 [.int a, .int d, .int (nI 1), .long ((lN (st_now st)))]))) ∧ cFr h0 tg0 h9 tg := ⟨_, hM, hC9, hF9⟩
              refine lv_aload hx hb dX5_setAlert_85 (lv_at hl 0 rfl) ?_
              refine lv_aload_n hx hb dX5_setAlert_87 rfl (lv_at hl 2 rfl) ?_
              refine m_get Z C hM (hC.at ((up3_ne _ _ (cd_r (by decide))).trans ((up3_ne _ _ (cd_r (by decide))).trans (clS_h)))) K_X5 3 (by decide) fl_X5_26 (v := .long (lN (st_now st))) rfl dX5_setAlert_88 ?_
              refine m_callVN Z C hM hS (As := [.long (lN (st_now st))]) (rest := []) (c_X0_stateAt Z h A tg (up3 (up3 (clS G A (st_many st) (st_now st) (va_up X k_1 (st_nm st k_1, st_ho st k_1, st_n st k_1, T, U, (F, SZ (st_n st k_1), HV (st_n st k_1), BD (st_n st k_1)), some (a, d, nI 0, lN 0))) fd tt gr) (cd (k_1 + 1) 0 0) (some (eO 2 [.int (st_nm st k_1), .int (st_ho st k_1), .ref (A (cd (k_1 + 1) 1 0)), .ref (A (cd (k_1 + 1) 2 0)), .ref (A (cd (k_1 + 1) 3 0)), .ref (A (cd (k_1 + 1) 4 0)), .ref (A (cd (k_1 + 1) 5 0)), .int (nI (st_n st k_1)), .ref (A (cd (k_1 + 1) 13 0))]))) (cd (k_1 + 1) 13 0) (some (eO 0 [.int a, .int d, .int (nI 1), .long ((lN (st_now st)))]))) hC k_1 (lN (st_now st)) a d (nI 1) ((lN (st_now st))) (up3_self _ _ _)) yi_X0_stateAt mn_X5_215 (hC.at (up3_self _ _ _)) rfl ⟨Nat.le_of_ble_eq_true rfl, Nat.le_of_ble_eq_true rfl⟩ (Nat.le_of_ble_eq_true rfl) hl.1 rfl rfl dX5_setAlert_91 ⟨Nat.le_of_ble_eq_true rfl, Nat.le_of_ble_eq_true rfl⟩ (fun v h9 H locs hv hM hS => ?_)
              obtain ⟨hv, hh9⟩ := hv
              subst hv
              rw [hh9] at hM
              refine W.eq (g2 := F0 mt 94 ls [.int (nI (if (nI 1) = 0 then 111 else if d.toInt64 ≤ (lN (st_now st)) - ((lN (st_now st))) then 102 else 112))]) rfl ?_
              refine vx_ret ?_
              have ex9 : x_set st k_1 U a d = (a, d, nI 1, lN (st_now st)) := x_set_t ⟨by omega, i_nle f_11⟩
              have hra9 := Ra_al hRi9 a d
              rw [ex9] at hra9
              have e9 : up3 (clS G A (st_many st) (st_now st) (va_up X k_1 (st_nm st k_1, st_ho st k_1, st_n st k_1, T, U, (F, SZ (st_n st k_1), HV (st_n st k_1), BD (st_n st k_1)), some (a, d, nI 0, lN 0))) fd tt gr) (cd (k_1 + 1) 0 0) (some (eO 2 [.int (st_nm st k_1), .int (st_ho st k_1), .ref (A (cd (k_1 + 1) 1 0)), .ref (A (cd (k_1 + 1) 2 0)), .ref (A (cd (k_1 + 1) 3 0)), .ref (A (cd (k_1 + 1) 4 0)), .ref (A (cd (k_1 + 1) 5 0)), .int (nI (st_n st k_1)), .ref (A (cd (k_1 + 1) 13 0))])) = clS G A (st_many st) (st_now st) (va_up X k_1 (st_nm st k_1, st_ho st k_1, st_n st k_1, T, U, (F, SZ (st_n st k_1), HV (st_n st k_1), BD (st_n st k_1)), some (a, d, nI 0, lN 0))) fd tt gr := up3_id (clS_at f_2 (va_up_self _ _ _) srS_0)
              rw [e9] at hC
              replace hC : CW h A tg (up3 _ (cd (k_1 + 1) 13 0) (x_ac (some (a, d, nI 1, lN (st_now st))))) := hC
              rw [clS_p13 f_2 (va_up_self _ _ _), va_uu] at hC
              exact m_zret C hM hS (Nat.le_of_ble_eq_true rfl) (Nat.le_of_ble_eq_true rfl) (al_nar _ _) dX5_setAlert_94 ⟨k_1, f_2, f_3, g_5, ⟨i_nlt c_7, c_8⟩, (congrArg (fun z => some (Value.int (nI z))) (al_c (st := s_al st k_1 a d) hra9)), ⟨A, tg, va_up X k_1 (st_nm st k_1, st_ho st k_1, st_n st k_1, T, U, (F, SZ (st_n st k_1), HV (st_n st k_1), BD (st_n st k_1)), some (x_set st k_1 U a d)), fd, tt, gr, e01, (by rw [ex9]; exact hC), etg0 ▸ hF, Rx_al hk hR f_2 hRi9 a d⟩⟩
            · -- of 75
              subst hv
              have hF := hF.trans hF8
              obtain ⟨h, hM, hC, hF⟩ : ∃ h8, MW G s0.heap.size h8 H ∧ CW h8 A tg (up3 (clS G A (st_many st) (st_now st) (va_up X k_1 (st_nm st k_1, st_ho st k_1, st_n st k_1, T, U, (F, SZ (st_n st k_1), HV (st_n st k_1), BD (st_n st k_1)), some (a, d, nI 0, lN 0))) fd tt gr) (cd (k_1 + 1) 0 0) (some (eO 2 [.int (st_nm st k_1), .int (st_ho st k_1), .ref (A (cd (k_1 + 1) 1 0)), .ref (A (cd (k_1 + 1) 2 0)), .ref (A (cd (k_1 + 1) 3 0)), .ref (A (cd (k_1 + 1) 4 0)), .ref (A (cd (k_1 + 1) 5 0)), .int (nI (st_n st k_1)), av9]))) ∧ cFr h0 tg0 h8 tg := ⟨_, hM, hC9, hF⟩
              refine W.eq (g2 := F0 mt 78 ls []) rfl ?_
              exact absurd rfl f_14
        · -- 32 f
          exact m_throw Z C ht hM hS xy_X5_setAlert_35 hl.1 dX5_setAlert_35 dX5_setAlert_38 dX5_setAlert_39 dX5_setAlert_41 dX5_setAlert_44 ⟨Nat.le_of_ble_eq_true rfl, Nat.le_of_ble_eq_true rfl, Nat.le_of_ble_eq_true rfl, Nat.le_of_ble_eq_true rfl⟩ (Nat.le_of_ble_eq_true rfl) (Nat.le_of_ble_eq_true rfl) (Or.inr ⟨k_1, rfl, f_2, f_3, (fun q => i_ltn (i_nle c_8) q.2.2), ⟨A, tg, X, _, _, _, rfl, hC, hF, hR⟩⟩)
    · -- of 8: False
      replace hv : v = some (.int (b2 ((-10000) ≤ a ∧ a ≤ nI 10000))) := hv
      rw [b2_f g_5] at hv
      subst hv
      rw [hh9] at hM
      refine W.eq (g2 := F0 mt 11 ls [.int (nI 0)]) rfl ?_
      refine lv_if_ne (tgt := 24) hx hb dX5_setAlert_11 (by decide) (fun q => absurd (by decide) q) (fun _ => ?_)
      exact m_throw Z C ht hM hS xy_X5_setAlert_14 hl.1 dX5_setAlert_14 dX5_setAlert_17 dX5_setAlert_18 dX5_setAlert_20 dX5_setAlert_23 ⟨Nat.le_of_ble_eq_true rfl, Nat.le_of_ble_eq_true rfl, Nat.le_of_ble_eq_true rfl, Nat.le_of_ble_eq_true rfl⟩ (Nat.le_of_ble_eq_true rfl) (Nat.le_of_ble_eq_true rfl) (Or.inr ⟨k_1, rfl, f_2, f_3, (fun q => g_5 q.1), ⟨A, tg, X, _, _, _, rfl, hC, hF, hR⟩⟩)
