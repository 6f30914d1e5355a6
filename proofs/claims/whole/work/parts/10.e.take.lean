set_option maxRecDepth 100000 in
set_option maxHeartbeats 4000000 in
theorem c_X2_takeA {l : Launch} {G : mG} {a0 : Array Value} {s0 : State} (Z : mZ l G a0 s0) (h0 : Hp) (A0 : Cd → Nat) (tg0 : Nat → Cd) (sg : Cd → Option va_E) (k : Nat) (nm ho : Int32) (n : Nat) (T : Nat → Nat) (U : Nat → Int32) (F : Nat → Nat → Int32) (z v : Nat → Nat) (d : Nat) (al : Xa) (hC : CW h0 A0 tg0 (srS G A0 sg k (nm, ho, n, T, U, (F, z, v, d), al))) (ti : Nat) (x : Int32) (hn : n < 120) (h8 : ¬ n % 8 = 0) (hz0 : z 0 < 8) (hT : TkOK (k_put (F, z, v, d) 0 x)) : mM l G s0 yX2_take cX2_take 4 none 3 72 3 25 h0 [.ref (A0 (cd (k + 1) 0 0)), .long (lN ti), .int x] (fun v9 h9 => v9 = none ∧ ∃ (A9 : Cd → Nat) (tg9 : Nat → Cd), (∀ y : Cd, (y.1 = k + 1 → y.2.1 < 14) → A9 y = A0 y) ∧ CW h9 A9 tg9 (srS G A9 sg k (nm, ho, n + 1, va_up T n ti, va_up U n x, k_lv (k_put (F, z, v, d) 0 x) 4, x_see al ti x)) ∧ cFr h0 tg0 h9 tg9) := by
  refine mM_in RX2 "take" rfl rfl (by decide +kernel) (Nat.le_of_ble_eq_true rfl) ?_
  intro p e s mt below meth c H locs C hM hS ls hl
  have hx := C.1
  have hb := C.2.1
  have hown := C.2.2.2.1
  have hE := C.2.2.2.2.2.2.1
  have hl : lv_has ls 4 [(0, .ref (A0 (cd (k + 1) 0 0))), (1, .long (lN ti)), (3, .int x)] := hl
  obtain ⟨tg, etg⟩ : ∃ y9, y9 = tg0 := ⟨_, rfl⟩
  obtain ⟨A, eA0⟩ : ∃ y9, y9 = A0 := ⟨_, rfl⟩
  rw [← etg, ← eA0] at hC
  rw [← eA0] at hl
  have hF : cFr h0 tg0 h0 tg := by rw [etg]; exact cFr.rf
  obtain ⟨h, hM, hC, hF⟩ : ∃ h9, MW G s0.heap.size h9 H ∧ CW h9 A tg (srS G A sg k (nm, ho, n, T, U, (F, z, v, d), al)) ∧ cFr h0 tg0 h9 tg := ⟨_, hM, hC, hF⟩
  refine lv_aload_n hx hb dX2_take_0 rfl (lv_at hl 0 rfl) ?_
  refine m_callV Z C hM hS (As := []) (rest := []) (c_X2_isFull Z h A tg (srS G A sg k (nm, ho, n, T, U, (F, z, v, d), al)) hC k nm ho n ((x_av A k al)) (srS_0) (by omega)) yi_X2_isFull ml_X2_49 (hC.at (srS_0)) rfl ⟨Nat.le_of_ble_eq_true rfl, Nat.le_of_ble_eq_true rfl⟩ (Nat.le_of_ble_eq_true rfl) hl.1 rfl rfl dX2_take_1 ⟨Nat.le_of_ble_eq_true rfl, Nat.le_of_ble_eq_true rfl⟩ (fun v h9 H locs hv hM hS => ?_)
  obtain ⟨hv, hh9⟩ := hv
  rcases Decidable.em (120 ≤ n) with g_1 | g_1
  · -- of 1: True
    replace hv : v = some (.int (b2 (120 ≤ n))) := hv
    rw [b2_t g_1] at hv
    subst hv
    rw [hh9] at hM
    refine W.eq (g2 := F0 mt 4 ls [.int (nI 1)]) rfl ?_
    exact absurd hn (by omega)
  · -- of 1: False
    replace hv : v = some (.int (b2 (120 ≤ n))) := hv
    rw [b2_f g_1] at hv
    subst hv
    rw [hh9] at hM
    refine W.eq (g2 := F0 mt 4 ls [.int (nI 0)]) rfl ?_
    refine lv_if_eq (tgt := 8) hx hb dX2_take_4 (by decide) (fun _ => ?_) (fun q => absurd (by decide) q)
    refine lv_aload_n hx hb dX2_take_8 rfl (lv_at hl 0 rfl) ?_
    refine m_get Z C hM (hC.at (srS_0)) K_X2 2 (by decide) fl_X2_18 (v := .ref (A (cd (k + 1) 1 0))) rfl dX2_take_9 ?_
    refine lv_aload_n hx hb dX2_take_12 rfl (lv_at hl 0 rfl) ?_
    refine m_get Z C hM (hC.at (srS_0)) K_X2 7 (by decide) fl_X2_42 (v := .int (nI n)) rfl dX2_take_13 ?_
    refine lv_lload_n hx hb dX2_take_16 rfl (lv_at hl 1 rfl) ?_
    refine m_last Z C hM hS (hC.at (srS_1)) (x := lN ti) n rfl (by omega) (by decide) dX2_take_17 (fun H locs hM hS => ?_)
    rw [lN_up] at hM
    have hC9 := hC.put (srS_1) (eL G 120 (fun k => lN ((va_up T n ti) k)))
    have hF9 := hF.put hC (srS_1) (cd_r (by decide)) (eL G 120 (fun k => lN ((va_up T n ti) k)))
    obtain ⟨h, hM, hC, hF⟩ : ∃ h9, MW G s0.heap.size h9 H ∧ CW h9 A tg (up3 (srS G A sg k (nm, ho, n, T, U, (F, z, v, d), al)) (cd (k + 1) 1 0) (some (eL G 120 (fun k => lN ((va_up T n ti) k))))) ∧ cFr h0 tg0 h9 tg := ⟨_, hM, hC9, hF9⟩
    refine lv_aload_n hx hb dX2_take_18 rfl (lv_at hl 0 rfl) ?_
    refine m_get Z C hM (hC.at ((up3_ne _ _ (cd_r (by decide))).trans (srS_0))) K_X2 3 (by decide) fl_X2_22 (v := .ref (A (cd (k + 1) 2 0))) rfl dX2_take_19 ?_
    refine lv_aload_n hx hb dX2_take_22 rfl (lv_at hl 0 rfl) ?_
    refine m_get Z C hM (hC.at ((up3_ne _ _ (cd_r (by decide))).trans (srS_0))) K_X2 7 (by decide) fl_X2_42 (v := .int (nI n)) rfl dX2_take_23 ?_
    refine lv_iload_n hx hb dX2_take_26 rfl (lv_at hl 2 rfl) ?_
    refine m_iast Z C hM hS (hC.at ((up3_ne _ _ (cd_r (by decide))).trans (srS_2))) (x := x) n rfl (by omega) (by decide) dX2_take_27 (fun H locs hM hS => ?_)
    have hC9 := hC.put ((up3_ne _ _ (cd_r (by decide))).trans (srS_2)) (eI G 120 (va_up U n x))
    have hF9 := hF.put hC ((up3_ne _ _ (cd_r (by decide))).trans (srS_2)) (cd_r (by decide)) (eI G 120 (va_up U n x))
    obtain ⟨h, hM, hC, hF⟩ : ∃ h9, MW G s0.heap.size h9 H ∧ CW h9 A tg (up3 (up3 (srS G A sg k (nm, ho, n, T, U, (F, z, v, d), al)) (cd (k + 1) 1 0) (some (eL G 120 (fun k => lN ((va_up T n ti) k))))) (cd (k + 1) 2 0) (some (eI G 120 (va_up U n x)))) ∧ cFr h0 tg0 h9 tg := ⟨_, hM, hC9, hF9⟩
    refine lv_aload_n hx hb dX2_take_28 rfl (lv_at hl 0 rfl) ?_
    refine lv_iload_n hx hb dX2_take_29 rfl (lv_at hl 2 rfl) ?_
    refine m_callV Z C hM hS (As := [.int x]) (rest := []) (c_X2_sortIn Z h A tg (up3 (up3 (srS G A sg k (nm, ho, n, T, U, (F, z, v, d), al)) (cd (k + 1) 1 0) (some (eL G 120 (fun k => lN ((va_up T n ti) k))))) (cd (k + 1) 2 0) (some (eI G 120 (va_up U n x)))) hC k x nm ho n ((x_av A k al)) (x_so U n) ((up3_ne _ _ (cd_r (by decide))).trans ((up3_ne _ _ (cd_r (by decide))).trans (srS_0))) ((up3_ne _ _ (cd_r (by decide))).trans ((up3_ne _ _ (cd_r (by decide))).trans (srS_3))) hn) yi_X2_sortIn ml_X2_53 (hC.at ((up3_ne _ _ (cd_r (by decide))).trans ((up3_ne _ _ (cd_r (by decide))).trans (srS_0)))) rfl ⟨Nat.le_of_ble_eq_true rfl, Nat.le_of_ble_eq_true rfl⟩ (Nat.le_of_ble_eq_true rfl) hl.1 rfl rfl dX2_take_30 ⟨Nat.le_of_ble_eq_true rfl, Nat.le_of_ble_eq_true rfl⟩ (fun v h9 H locs hv hM hS => ?_)
    obtain ⟨hv, hC9, hF8⟩ := hv
    subst hv
    have hF := hF.trans hF8
    obtain ⟨h, hM, hC, hF⟩ : ∃ h8, MW G s0.heap.size h8 H ∧ CW h8 A tg (up3 (up3 (up3 (srS G A sg k (nm, ho, n, T, U, (F, z, v, d), al)) (cd (k + 1) 1 0) (some (eL G 120 (fun k => lN ((va_up T n ti) k))))) (cd (k + 1) 2 0) (some (eI G 120 (va_up U n x)))) (cd (k + 1) 3 0) (some (eI G 120 (z_ins 0 x n (x_so U n))))) ∧ cFr h0 tg0 h8 tg := ⟨_, hM, hC9, hF⟩
    refine W.eq (g2 := F0 mt 33 ls []) rfl ?_
    refine lv_aload_n hx hb dX2_take_33 rfl (lv_at hl 0 rfl) ?_
    refine lv_lload_n hx hb dX2_take_34 rfl (lv_at hl 1 rfl) ?_
    refine lv_iload_n hx hb dX2_take_35 rfl (lv_at hl 2 rfl) ?_
    refine m_callV Z C hM hS (As := [.long (lN ti), .int x]) (rest := []) (c_X2_toBlockA Z h A tg (up3 (up3 (up3 (srS G A sg k (nm, ho, n, T, U, (F, z, v, d), al)) (cd (k + 1) 1 0) (some (eL G 120 (fun k => lN ((va_up T n ti) k))))) (cd (k + 1) 2 0) (some (eI G 120 (va_up U n x)))) (cd (k + 1) 3 0) (some (eI G 120 (z_ins 0 x n (x_so U n))))) hC k (n / 8) (lN ti) x nm ho n ((x_av A k al)) ((x_nb n)) (lN (T (8 * ((n / 8))))) (U (8 * ((n / 8)))) (x_sz n ((n / 8))) (x_bb T U ((n / 8)) (x_sz n ((n / 8)) - 1)) (lN (T (8 * ((n / 8)) + (x_sz n ((n / 8)) - 1)))) (x_gp T ((n / 8)) (x_sz n ((n / 8)) - 1)) (U (8 * ((n / 8)) + (x_sz n ((n / 8)) - 1))) (x_ts T n ((n / 8))) (x_vs U n ((n / 8))) ((up3_ne _ _ (cd_r (by decide))).trans ((up3_ne _ _ (cd_r (by decide))).trans ((up3_ne _ _ (cd_r (by decide))).trans (srS_0)))) ((up3_ne _ _ (cd_r (by decide))).trans ((up3_ne _ _ (cd_r (by decide))).trans ((up3_ne _ _ (cd_r (by decide))).trans (srS_4)))) ((up3_ne _ _ (cd_r (by decide))).trans ((up3_ne _ _ (cd_r (by decide))).trans ((up3_ne _ _ (cd_r (by decide))).trans (srS_14 (show (n / 8) < x_nb n by unfold x_nb; omega))))) ((up3_ne _ _ (cd_r (by decide))).trans ((up3_ne _ _ (cd_r (by decide))).trans ((up3_ne _ _ (cd_r (by decide))).trans (srS_15 (show (n / 8) < x_nb n by unfold x_nb; omega))))) ((up3_ne _ _ (cd_r (by decide))).trans ((up3_ne _ _ (cd_r (by decide))).trans ((up3_ne _ _ (cd_r (by decide))).trans (srS_16 (show (n / 8) < x_nb n by unfold x_nb; omega))))) rfl (by unfold x_nb; omega) hn (by unfold x_sz; omega)) yi_X2_toBlock ml_X2_57 (hC.at ((up3_ne _ _ (cd_r (by decide))).trans ((up3_ne _ _ (cd_r (by decide))).trans ((up3_ne _ _ (cd_r (by decide))).trans (srS_0))))) rfl ⟨Nat.le_of_ble_eq_true rfl, Nat.le_of_ble_eq_true rfl⟩ (Nat.le_of_ble_eq_true rfl) hl.1 rfl rfl dX2_take_36 ⟨Nat.le_of_ble_eq_true rfl, Nat.le_of_ble_eq_true rfl⟩ (fun v h9 H locs hv hM hS => ?_)
    obtain ⟨hv, hC9, hF8⟩ := hv
    subst hv
    have hF := hF.trans hF8
    obtain ⟨h, hM, hC, hF⟩ : ∃ h8, MW G s0.heap.size h8 H ∧ CW h8 A tg (up3 (up3 (up3 (up3 (up3 (up3 (srS G A sg k (nm, ho, n, T, U, (F, z, v, d), al)) (cd (k + 1) 1 0) (some (eL G 120 (fun k => lN ((va_up T n ti) k))))) (cd (k + 1) 2 0) (some (eI G 120 (va_up U n x)))) (cd (k + 1) 3 0) (some (eI G 120 (z_ins 0 x n (x_so U n))))) (cd (k + 1) 15 ((n / 8))) (some (eL G 8 (va_up (x_ts T n ((n / 8))) (x_sz n ((n / 8))) ((lN ti) - (lN (T (8 * ((n / 8)) + (x_sz n ((n / 8)) - 1)))) - (x_gp T ((n / 8)) (x_sz n ((n / 8)) - 1))))))) (cd (k + 1) 16 ((n / 8))) (some (eI G 8 (va_up (x_vs U n ((n / 8))) (x_sz n ((n / 8))) (x - (U (8 * ((n / 8)) + (x_sz n ((n / 8)) - 1)))))))) (cd (k + 1) 14 ((n / 8))) (some (eO 1 [.long ((lN (T (8 * ((n / 8)))))), .int ((U (8 * ((n / 8))))), .ref (A (cd (k + 1) 15 (n / 8))), .ref (A (cd (k + 1) 16 (n / 8))), .int (nI ((x_sz n ((n / 8))) + 1)), .int (nI ((x_bb T U ((n / 8)) (x_sz n ((n / 8)) - 1)) + (z_tb ((lN ti) - (lN (T (8 * ((n / 8)) + (x_sz n ((n / 8)) - 1)))) - (x_gp T ((n / 8)) (x_sz n ((n / 8)) - 1))) + z_vb (x - (U (8 * ((n / 8)) + (x_sz n ((n / 8)) - 1))))))), .long ((lN ti)), .long ((lN ti) - (lN (T (8 * ((n / 8)) + (x_sz n ((n / 8)) - 1))))), .int x]))) ∧ cFr h0 tg0 h8 tg := ⟨_, hM, hC9, hF⟩
    refine W.eq (g2 := F0 mt 39 ls []) rfl ?_
    refine lv_aload_n hx hb dX2_take_39 rfl (lv_at hl 0 rfl) ?_
    refine lv_dup hx hb dX2_take_40 rfl ?_
    refine m_get Z C hM (hC.at ((up3_ne _ _ (cd_r (by decide))).trans ((up3_ne _ _ (cd_r (by decide))).trans ((up3_ne _ _ (cd_r (by decide))).trans ((up3_ne _ _ (cd_r (by decide))).trans ((up3_ne _ _ (cd_r (by decide))).trans ((up3_ne _ _ (cd_r (by decide))).trans (srS_0)))))))) K_X2 7 (by decide) fl_X2_42 (v := .int (nI n)) rfl dX2_take_41 ?_
    refine lv_iconst (v := nI 1) hx hb dX2_take_44 (by decide) ?_
    refine n_iadd hx hb dX2_take_45 ?_
    refine m_put Z C hM hS (hC.at ((up3_ne _ _ (cd_r (by decide))).trans ((up3_ne _ _ (cd_r (by decide))).trans ((up3_ne _ _ (cd_r (by decide))).trans ((up3_ne _ _ (cd_r (by decide))).trans ((up3_ne _ _ (cd_r (by decide))).trans ((up3_ne _ _ (cd_r (by decide))).trans (srS_0)))))))) K_X2 7 (by decide) fl_X2_42 (v := .int (nI (n + 1))) rfl rfl rfl (fs' := [.int nm, .int ho, .ref (A (cd (k + 1) 1 0)), .ref (A (cd (k + 1) 2 0)), .ref (A (cd (k + 1) 3 0)), .ref (A (cd (k + 1) 4 0)), .ref (A (cd (k + 1) 5 0)), .int (nI (n + 1)), (x_av A k al)]) rfl (Nat.le_of_ble_eq_true rfl) dX2_take_46 (fun H locs hM hS => ?_)
    have hC9 := hC.put ((up3_ne _ _ (cd_r (by decide))).trans ((up3_ne _ _ (cd_r (by decide))).trans ((up3_ne _ _ (cd_r (by decide))).trans ((up3_ne _ _ (cd_r (by decide))).trans ((up3_ne _ _ (cd_r (by decide))).trans ((up3_ne _ _ (cd_r (by decide))).trans (srS_0))))))) (eO 2 [.int nm, .int ho, .ref (A (cd (k + 1) 1 0)), .ref (A (cd (k + 1) 2 0)), .ref (A (cd (k + 1) 3 0)), .ref (A (cd (k + 1) 4 0)), .ref (A (cd (k + 1) 5 0)), .int (nI (n + 1)), (x_av A k al)])
    have hF9 := hF.put hC ((up3_ne _ _ (cd_r (by decide))).trans ((up3_ne _ _ (cd_r (by decide))).trans ((up3_ne _ _ (cd_r (by decide))).trans ((up3_ne _ _ (cd_r (by decide))).trans ((up3_ne _ _ (cd_r (by decide))).trans ((up3_ne _ _ (cd_r (by decide))).trans (srS_0))))))) (cd_k (by omega)) (eO 2 [.int nm, .int ho, .ref (A (cd (k + 1) 1 0)), .ref (A (cd (k + 1) 2 0)), .ref (A (cd (k + 1) 3 0)), .ref (A (cd (k + 1) 4 0)), .ref (A (cd (k + 1) 5 0)), .int (nI (n + 1)), (x_av A k al)])
    obtain ⟨h, hM, hC, hF⟩ : ∃ h9, MW G s0.heap.size h9 H ∧ CW h9 A tg (up3 (up3 (up3 (up3 (up3 (up3 (up3 (srS G A sg k (nm, ho, n, T, U, (F, z, v, d), al)) (cd (k + 1) 1 0) (some (eL G 120 (fun k => lN ((va_up T n ti) k))))) (cd (k + 1) 2 0) (some (eI G 120 (va_up U n x)))) (cd (k + 1) 3 0) (some (eI G 120 (z_ins 0 x n (x_so U n))))) (cd (k + 1) 15 ((n / 8))) (some (eL G 8 (va_up (x_ts T n ((n / 8))) (x_sz n ((n / 8))) ((lN ti) - (lN (T (8 * ((n / 8)) + (x_sz n ((n / 8)) - 1)))) - (x_gp T ((n / 8)) (x_sz n ((n / 8)) - 1))))))) (cd (k + 1) 16 ((n / 8))) (some (eI G 8 (va_up (x_vs U n ((n / 8))) (x_sz n ((n / 8))) (x - (U (8 * ((n / 8)) + (x_sz n ((n / 8)) - 1)))))))) (cd (k + 1) 14 ((n / 8))) (some (eO 1 [.long ((lN (T (8 * ((n / 8)))))), .int ((U (8 * ((n / 8))))), .ref (A (cd (k + 1) 15 (n / 8))), .ref (A (cd (k + 1) 16 (n / 8))), .int (nI ((x_sz n ((n / 8))) + 1)), .int (nI ((x_bb T U ((n / 8)) (x_sz n ((n / 8)) - 1)) + (z_tb ((lN ti) - (lN (T (8 * ((n / 8)) + (x_sz n ((n / 8)) - 1)))) - (x_gp T ((n / 8)) (x_sz n ((n / 8)) - 1))) + z_vb (x - (U (8 * ((n / 8)) + (x_sz n ((n / 8)) - 1))))))), .long ((lN ti)), .long ((lN ti) - (lN (T (8 * ((n / 8)) + (x_sz n ((n / 8)) - 1))))), .int x]))) (cd (k + 1) 0 0) (some (eO 2 [.int nm, .int ho, .ref (A (cd (k + 1) 1 0)), .ref (A (cd (k + 1) 2 0)), .ref (A (cd (k + 1) 3 0)), .ref (A (cd (k + 1) 4 0)), .ref (A (cd (k + 1) 5 0)), .int (nI (n + 1)), (x_av A k al)]))) ∧ cFr h0 tg0 h9 tg := ⟨_, hM, hC9, hF9⟩
    refine lv_aload_n hx hb dX2_take_49 rfl (lv_at hl 0 rfl) ?_
    have hsk : skS G A (up3 (up3 (up3 (up3 (up3 (up3 (up3 (srS G A sg k (nm, ho, n, T, U, (F, z, v, d), al)) (cd (k + 1) 1 0) (some (eL G 120 (fun k => lN ((va_up T n ti) k))))) (cd (k + 1) 2 0) (some (eI G 120 (va_up U n x)))) (cd (k + 1) 3 0) (some (eI G 120 (z_ins 0 x n (x_so U n))))) (cd (k + 1) 15 ((n / 8))) (some (eL G 8 (va_up (x_ts T n ((n / 8))) (x_sz n ((n / 8))) ((lN ti) - (lN (T (8 * ((n / 8)) + (x_sz n ((n / 8)) - 1)))) - (x_gp T ((n / 8)) (x_sz n ((n / 8)) - 1))))))) (cd (k + 1) 16 ((n / 8))) (some (eI G 8 (va_up (x_vs U n ((n / 8))) (x_sz n ((n / 8))) (x - (U (8 * ((n / 8)) + (x_sz n ((n / 8)) - 1)))))))) (cd (k + 1) 14 ((n / 8))) (some (eO 1 [.long ((lN (T (8 * ((n / 8)))))), .int ((U (8 * ((n / 8))))), .ref (A (cd (k + 1) 15 (n / 8))), .ref (A (cd (k + 1) 16 (n / 8))), .int (nI ((x_sz n ((n / 8))) + 1)), .int (nI ((x_bb T U ((n / 8)) (x_sz n ((n / 8)) - 1)) + (z_tb ((lN ti) - (lN (T (8 * ((n / 8)) + (x_sz n ((n / 8)) - 1)))) - (x_gp T ((n / 8)) (x_sz n ((n / 8)) - 1))) + z_vb (x - (U (8 * ((n / 8)) + (x_sz n ((n / 8)) - 1))))))), .long ((lN ti)), .long ((lN ti) - (lN (T (8 * ((n / 8)) + (x_sz n ((n / 8)) - 1))))), .int x]))) (cd (k + 1) 0 0) (some (eO 2 [.int nm, .int ho, .ref (A (cd (k + 1) 1 0)), .ref (A (cd (k + 1) 2 0)), .ref (A (cd (k + 1) 3 0)), .ref (A (cd (k + 1) 4 0)), .ref (A (cd (k + 1) 5 0)), .int (nI (n + 1)), (x_av A k al)]))) k F z v d = up3 (up3 (up3 (up3 (up3 (up3 (up3 (srS G A sg k (nm, ho, n, T, U, (F, z, v, d), al)) (cd (k + 1) 1 0) (some (eL G 120 (fun k => lN ((va_up T n ti) k))))) (cd (k + 1) 2 0) (some (eI G 120 (va_up U n x)))) (cd (k + 1) 3 0) (some (eI G 120 (z_ins 0 x n (x_so U n))))) (cd (k + 1) 15 ((n / 8))) (some (eL G 8 (va_up (x_ts T n ((n / 8))) (x_sz n ((n / 8))) ((lN ti) - (lN (T (8 * ((n / 8)) + (x_sz n ((n / 8)) - 1)))) - (x_gp T ((n / 8)) (x_sz n ((n / 8)) - 1))))))) (cd (k + 1) 16 ((n / 8))) (some (eI G 8 (va_up (x_vs U n ((n / 8))) (x_sz n ((n / 8))) (x - (U (8 * ((n / 8)) + (x_sz n ((n / 8)) - 1)))))))) (cd (k + 1) 14 ((n / 8))) (some (eO 1 [.long ((lN (T (8 * ((n / 8)))))), .int ((U (8 * ((n / 8))))), .ref (A (cd (k + 1) 15 (n / 8))), .ref (A (cd (k + 1) 16 (n / 8))), .int (nI ((x_sz n ((n / 8))) + 1)), .int (nI ((x_bb T U ((n / 8)) (x_sz n ((n / 8)) - 1)) + (z_tb ((lN ti) - (lN (T (8 * ((n / 8)) + (x_sz n ((n / 8)) - 1)))) - (x_gp T ((n / 8)) (x_sz n ((n / 8)) - 1))) + z_vb (x - (U (8 * ((n / 8)) + (x_sz n ((n / 8)) - 1))))))), .long ((lN ti)), .long ((lN ti) - (lN (T (8 * ((n / 8)) + (x_sz n ((n / 8)) - 1))))), .int x]))) (cd (k + 1) 0 0) (some (eO 2 [.int nm, .int ho, .ref (A (cd (k + 1) 1 0)), .ref (A (cd (k + 1) 2 0)), .ref (A (cd (k + 1) 3 0)), .ref (A (cd (k + 1) 4 0)), .ref (A (cd (k + 1) 5 0)), .int (nI (n + 1)), (x_av A k al)])) := skS_id ((up3_ne _ _ (cd_r (by decide))).trans ((up3_ne _ _ (cd_r (by decide))).trans ((up3_ne _ _ (cd_r (by decide))).trans ((up3_ne _ _ (cd_r (by decide))).trans ((up3_ne _ _ (cd_r (by decide))).trans ((up3_ne _ _ (cd_r (by decide))).trans ((up3_ne _ _ (cd_r (by decide))).trans (srS_5)))))))) ((up3_ne _ _ (cd_r (by decide))).trans ((up3_ne _ _ (cd_r (by decide))).trans ((up3_ne _ _ (cd_r (by decide))).trans ((up3_ne _ _ (cd_r (by decide))).trans ((up3_ne _ _ (cd_r (by decide))).trans ((up3_ne _ _ (cd_r (by decide))).trans ((up3_ne _ _ (cd_r (by decide))).trans (srS_6)))))))) ((up3_ne _ _ (cd_r (by decide))).trans ((up3_ne _ _ (cd_r (by decide))).trans ((up3_ne _ _ (cd_r (by decide))).trans ((up3_ne _ _ (cd_r (by decide))).trans ((up3_ne _ _ (cd_r (by decide))).trans ((up3_ne _ _ (cd_r (by decide))).trans ((up3_ne _ _ (cd_r (by decide))).trans (srS_8)))))))) ((up3_ne _ _ (cd_r (by decide))).trans ((up3_ne _ _ (cd_r (by decide))).trans ((up3_ne _ _ (cd_r (by decide))).trans ((up3_ne _ _ (cd_r (by decide))).trans ((up3_ne _ _ (cd_r (by decide))).trans ((up3_ne _ _ (cd_r (by decide))).trans ((up3_ne _ _ (cd_r (by decide))).trans (srS_9)))))))) (fun i hi => (up3_ne _ _ (cd_r (by decide))).trans ((up3_ne _ _ (cd_r (by decide))).trans ((up3_ne _ _ (cd_r (by decide))).trans ((up3_ne _ _ (cd_r (by decide))).trans ((up3_ne _ _ (cd_r (by decide))).trans ((up3_ne _ _ (cd_r (by decide))).trans ((up3_ne _ _ (cd_r (by decide))).trans (srS_7 hi))))))))
    rw [← hsk] at hC
    obtain ⟨sg5, esg⟩ : ∃ y9, y9 = up3 (up3 (up3 (up3 (up3 (up3 (up3 (srS G A sg k (nm, ho, n, T, U, (F, z, v, d), al)) (cd (k + 1) 1 0) (some (eL G 120 (fun k => lN ((va_up T n ti) k))))) (cd (k + 1) 2 0) (some (eI G 120 (va_up U n x)))) (cd (k + 1) 3 0) (some (eI G 120 (z_ins 0 x n (x_so U n))))) (cd (k + 1) 15 ((n / 8))) (some (eL G 8 (va_up (x_ts T n ((n / 8))) (x_sz n ((n / 8))) ((lN ti) - (lN (T (8 * ((n / 8)) + (x_sz n ((n / 8)) - 1)))) - (x_gp T ((n / 8)) (x_sz n ((n / 8)) - 1))))))) (cd (k + 1) 16 ((n / 8))) (some (eI G 8 (va_up (x_vs U n ((n / 8))) (x_sz n ((n / 8))) (x - (U (8 * ((n / 8)) + (x_sz n ((n / 8)) - 1)))))))) (cd (k + 1) 14 ((n / 8))) (some (eO 1 [.long ((lN (T (8 * ((n / 8)))))), .int ((U (8 * ((n / 8))))), .ref (A (cd (k + 1) 15 (n / 8))), .ref (A (cd (k + 1) 16 (n / 8))), .int (nI ((x_sz n ((n / 8))) + 1)), .int (nI ((x_bb T U ((n / 8)) (x_sz n ((n / 8)) - 1)) + (z_tb ((lN ti) - (lN (T (8 * ((n / 8)) + (x_sz n ((n / 8)) - 1)))) - (x_gp T ((n / 8)) (x_sz n ((n / 8)) - 1))) + z_vb (x - (U (8 * ((n / 8)) + (x_sz n ((n / 8)) - 1))))))), .long ((lN ti)), .long ((lN ti) - (lN (T (8 * ((n / 8)) + (x_sz n ((n / 8)) - 1))))), .int x]))) (cd (k + 1) 0 0) (some (eO 2 [.int nm, .int ho, .ref (A (cd (k + 1) 1 0)), .ref (A (cd (k + 1) 2 0)), .ref (A (cd (k + 1) 3 0)), .ref (A (cd (k + 1) 4 0)), .ref (A (cd (k + 1) 5 0)), .int (nI (n + 1)), (x_av A k al)])) := ⟨_, rfl⟩
    rw [← esg] at hC
    refine m_get Z C hM (hC.at ((skS_ne (by simp [cd])).trans ((by rw [esg]; exact up3_self _ _ _)))) K_X2 6 (by decide) fl_X2_38 (v := .ref (A (cd (k + 1) 5 0))) rfl dX2_take_50 ?_
    refine lv_iload_n hx hb dX2_take_53 rfl (lv_at hl 2 rfl) ?_
    refine m_callVN Z C hM hS (As := [.int x]) (rest := []) (c_X3_take Z h A tg sg5 k F z v d hC x hz0 hT) yi_X3_take mn_X2_61 (hC.at (skS_5)) rfl ⟨Nat.le_of_ble_eq_true rfl, Nat.le_of_ble_eq_true rfl⟩ (Nat.le_of_ble_eq_true rfl) hl.1 rfl rfl dX2_take_54 ⟨Nat.le_of_ble_eq_true rfl, Nat.le_of_ble_eq_true rfl⟩ (fun v h9 H locs hv hM hS => ?_)
    obtain ⟨hv, hC9, hF8⟩ := hv
    subst hv
    have hF := hF.trans hF8
    obtain ⟨h, hM, hC, hF⟩ : ∃ h8, MW G s0.heap.size h8 H ∧ CW h8 A tg (skS G A sg5 k ((k_lv (k_put (F, z, v, d) 0 x) 4).1) ((k_lv (k_put (F, z, v, d) 0 x) 4).2.1) ((k_lv (k_put (F, z, v, d) 0 x) 4).2.2.1) ((k_lv (k_put (F, z, v, d) 0 x) 4).2.2.2)) ∧ cFr h0 tg0 h8 tg := ⟨_, hM, hC9, hF⟩
    refine W.eq (g2 := F0 mt 57 ls []) rfl ?_
    obtain ⟨sg6, esg6⟩ : ∃ y9, y9 = skS G A sg5 k ((k_lv (k_put (F, z, v, d) 0 x) 4).1) ((k_lv (k_put (F, z, v, d) 0 x) 4).2.1) ((k_lv (k_put (F, z, v, d) 0 x) 4).2.2.1) ((k_lv (k_put (F, z, v, d) 0 x) 4).2.2.2) := ⟨_, rfl⟩
    rw [← esg6] at hC
    have g0 : sg6 (cd (k + 1) 0 0) = some (eO 2 [.int nm, .int ho, .ref (A (cd (k + 1) 1 0)), .ref (A (cd (k + 1) 2 0)), .ref (A (cd (k + 1) 3 0)), .ref (A (cd (k + 1) 4 0)), .ref (A (cd (k + 1) 5 0)), .int (nI (n + 1)), x_av A k al]) := by rw [esg6]; exact (skS_ne (by simp [cd])).trans (by rw [esg]; exact up3_self _ _ _)
    have g1 : sg6 (cd (k + 1) 1 0) = some (eL G 120 (fun i => lN (va_up T n ti i))) := by rw [esg6]; exact (skS_ne (by simp [cd])).trans (by rw [esg]; exact (up3_ne _ _ (cd_r (by decide))).trans ((up3_ne _ _ (cd_r (by decide))).trans ((up3_ne _ _ (cd_r (by decide))).trans ((up3_ne _ _ (cd_r (by decide))).trans ((up3_ne _ _ (cd_r (by decide))).trans ((up3_ne _ _ (cd_r (by decide))).trans (up3_self _ _ _)))))))
    have g2 : sg6 (cd (k + 1) 2 0) = some (eI G 120 (va_up U n x)) := by rw [esg6]; exact (skS_ne (by simp [cd])).trans (by rw [esg]; exact (up3_ne _ _ (cd_r (by decide))).trans ((up3_ne _ _ (cd_r (by decide))).trans ((up3_ne _ _ (cd_r (by decide))).trans ((up3_ne _ _ (cd_r (by decide))).trans ((up3_ne _ _ (cd_r (by decide))).trans (up3_self _ _ _))))))
    have g3 : sg6 (cd (k + 1) 3 0) = some (eI G 120 (x_so (va_up U n x) (n + 1))) := by rw [x_so_add]; exact by rw [esg6]; exact (skS_ne (by simp [cd])).trans (by rw [esg]; exact (up3_ne _ _ (cd_r (by decide))).trans ((up3_ne _ _ (cd_r (by decide))).trans ((up3_ne _ _ (cd_r (by decide))).trans ((up3_ne _ _ (cd_r (by decide))).trans (up3_self _ _ _)))))
    have g4 : sg6 (cd (k + 1) 4 0) = some (eB G 15 (chL A k (x_nb (n + 1)))) := by rw [show x_nb (n + 1) = (x_nb n) by unfold x_nb; omega]; exact by rw [esg6]; exact (skS_ne (by simp [cd])).trans (by rw [esg]; exact (up3_ne _ _ (cd_r (by decide))).trans ((up3_ne _ _ (cd_r (by decide))).trans ((up3_ne _ _ (cd_r (by decide))).trans ((up3_ne _ _ (cd_r (by decide))).trans ((up3_ne _ _ (cd_r (by decide))).trans ((up3_ne _ _ (cd_r (by decide))).trans ((up3_ne _ _ (cd_r (by decide))).trans (srS_4))))))))
    have g13 : sg6 (cd (k + 1) 13 0) = x_ac al := by rw [esg6]; exact (skS_ne (by simp [cd])).trans (by rw [esg]; exact (up3_ne _ _ (cd_r (by decide))).trans ((up3_ne _ _ (cd_r (by decide))).trans ((up3_ne _ _ (cd_r (by decide))).trans ((up3_ne _ _ (cd_r (by decide))).trans ((up3_ne _ _ (cd_r (by decide))).trans ((up3_ne _ _ (cd_r (by decide))).trans ((up3_ne _ _ (cd_r (by decide))).trans (srS_13))))))))
    have g14 : ∀ i : Nat, i < x_nb (n + 1) → sg6 (cd (k + 1) 14 i) = some (x_bo A k (va_up T n ti) (va_up U n x) (n + 1) i) := by
      intro i hi
      have hi9 : i < (n + 8) / 8 := hi
      by_cases q9 : i = n / 8
      · rw [q9, x_bo_in _ _ _ _ _ _ _ _ (by omega) (by omega)]; exact by rw [esg6]; exact (skS_ne (by simp [cd])).trans (by rw [esg]; exact (up3_ne _ _ (cd_r (by decide))).trans (up3_self _ _ _))
      · rw [x_bo_up _ _ _ _ _ _ _ _ (by omega)]; rw [esg6]; exact (skS_ne (by simp [cd])).trans (by rw [esg]; exact (up3_ne _ _ (cd_r (by decide))).trans ((up3_ne _ _ (cd_j q9)).trans ((up3_ne _ _ (cd_r (by decide))).trans ((up3_ne _ _ (cd_r (by decide))).trans ((up3_ne _ _ (cd_r (by decide))).trans ((up3_ne _ _ (cd_r (by decide))).trans ((up3_ne _ _ (cd_r (by decide))).trans (srS_14 (show i < x_nb n by unfold x_nb; omega)))))))))
    have g15 : ∀ i : Nat, i < x_nb (n + 1) → sg6 (cd (k + 1) 15 i) = some (eL G 8 (x_ts (va_up T n ti) (n + 1) i)) := by
      intro i hi
      have hi9 : i < (n + 8) / 8 := hi
      by_cases q9 : i = n / 8
      · rw [q9, x_ts_in _ _ _ _ (by omega) (by omega)]; exact by rw [esg6]; exact (skS_ne (by simp [cd])).trans (by rw [esg]; exact (up3_ne _ _ (cd_r (by decide))).trans ((up3_ne _ _ (cd_r (by decide))).trans ((up3_ne _ _ (cd_r (by decide))).trans (up3_self _ _ _))))
      · rw [x_ts_up _ _ _ _ (by omega)]; rw [esg6]; exact (skS_ne (by simp [cd])).trans (by rw [esg]; exact (up3_ne _ _ (cd_r (by decide))).trans ((up3_ne _ _ (cd_r (by decide))).trans ((up3_ne _ _ (cd_r (by decide))).trans ((up3_ne _ _ (cd_j q9)).trans ((up3_ne _ _ (cd_r (by decide))).trans ((up3_ne _ _ (cd_r (by decide))).trans ((up3_ne _ _ (cd_r (by decide))).trans (srS_15 (show i < x_nb n by unfold x_nb; omega)))))))))
    have g16 : ∀ i : Nat, i < x_nb (n + 1) → sg6 (cd (k + 1) 16 i) = some (eI G 8 (x_vs (va_up U n x) (n + 1) i)) := by
      intro i hi
      have hi9 : i < (n + 8) / 8 := hi
      by_cases q9 : i = n / 8
      · rw [q9, x_vs_in _ _ _ _ (by omega) (by omega)]; exact by rw [esg6]; exact (skS_ne (by simp [cd])).trans (by rw [esg]; exact (up3_ne _ _ (cd_r (by decide))).trans ((up3_ne _ _ (cd_r (by decide))).trans (up3_self _ _ _)))
      · rw [x_vs_up _ _ _ _ (by omega)]; rw [esg6]; exact (skS_ne (by simp [cd])).trans (by rw [esg]; exact (up3_ne _ _ (cd_r (by decide))).trans ((up3_ne _ _ (cd_r (by decide))).trans ((up3_ne _ _ (cd_j q9)).trans ((up3_ne _ _ (cd_r (by decide))).trans ((up3_ne _ _ (cd_r (by decide))).trans ((up3_ne _ _ (cd_r (by decide))).trans ((up3_ne _ _ (cd_r (by decide))).trans (srS_16 (show i < x_nb n by unfold x_nb; omega)))))))))
    have gs : ∀ (y9 : Cd) (e9 : va_E), y9.1 ≠ k + 1 → sg y9 = some e9 → sg6 y9 = some e9 := fun y9 e9 hx9 he9 => by rw [esg6]; exact (skS_ne (fun q9 => absurd q9 hx9)).trans (by rw [esg]; exact (up3_ne _ _ (fun q9 => hx9 (congrArg Prod.fst q9))).trans ((up3_ne _ _ (fun q9 => hx9 (congrArg Prod.fst q9))).trans ((up3_ne _ _ (fun q9 => hx9 (congrArg Prod.fst q9))).trans ((up3_ne _ _ (fun q9 => hx9 (congrArg Prod.fst q9))).trans ((up3_ne _ _ (fun q9 => hx9 (congrArg Prod.fst q9))).trans ((up3_ne _ _ (fun q9 => hx9 (congrArg Prod.fst q9))).trans ((up3_ne _ _ (fun q9 => hx9 (congrArg Prod.fst q9))).trans ((srS_ne hx9).trans he9))))))))
    have hC6 : CW h A tg (srS G A sg k (nm, ho, n + 1, va_up T n ti, va_up U n x, k_lv (k_put (F, z, v, d) 0 x) 4, al)) := hC.less (srS_all (P := fun y9 e9 => sg6 y9 = some e9) g0 g1 g2 g3 g4 (by rw [esg6]; exact skS_5) (by rw [esg6]; exact skS_6) (by rw [esg6]; exact skS_8) (by rw [esg6]; exact skS_9) (fun e9 he9 => g13.trans he9) (fun i hi => by rw [esg6]; exact skS_7 hi) g14 g15 g16 gs)
    clear hC g0 g1 g2 g3 g4 g13 g14 g15 g16 gs
    have hM6 := hM; have hF6 := hF; have hl6 := hl; have hS6 := hS
    rcases al with _ | ⟨li, wa, on, si⟩
    · -- none
      have hM := hM6; have hC : CW h A tg (srS G A sg k (nm, ho, n + 1, va_up T n ti, va_up U n x, k_lv (k_put (F, z, v, d) 0 x) 4, none)) := hC6; have hF := hF6; have hl := hl6; have hS := hS6
      refine lv_aload_n hx hb dX2_take_57 rfl (lv_at hl 0 rfl) ?_
      refine m_get Z C hM (hC.at (srS_0)) K_X2 8 (by decide) fl_X2_45 (v := .null) rfl dX2_take_58 ?_
      refine lv_ifnullN (tgt := 73) hx hb dX2_take_61 (by decide) ?_
      exact m_vret C hM hS (Nat.le_of_ble_eq_true rfl) (Nat.le_of_ble_eq_true rfl) dX2_take_73 ⟨rfl, A, tg, (by rw [← eA0]; exact fun _ _ => rfl), hC, hF⟩
    · -- some
      have hM := hM6; have hC : CW h A tg (srS G A sg k (nm, ho, n + 1, va_up T n ti, va_up U n x, k_lv (k_put (F, z, v, d) 0 x) 4, (some (li, wa, on, si)))) := hC6; have hF := hF6; have hl := hl6; have hS := hS6
      refine lv_aload_n hx hb dX2_take_57 rfl (lv_at hl 0 rfl) ?_
      refine m_get Z C hM (hC.at (srS_0)) K_X2 8 (by decide) fl_X2_45 (v := .ref (A (cd (k + 1) 13 0))) rfl dX2_take_58 ?_
      refine lv_ifnull hx hb dX2_take_61 ?_
      refine lv_aload_n hx hb dX2_take_64 rfl (lv_at hl 0 rfl) ?_
      refine m_get Z C hM (hC.at (srS_0)) K_X2 8 (by decide) fl_X2_45 (v := .ref (A (cd (k + 1) 13 0))) rfl dX2_take_65 ?_
      refine lv_lload_n hx hb dX2_take_68 rfl (lv_at hl 1 rfl) ?_
      refine lv_iload_n hx hb dX2_take_69 rfl (lv_at hl 2 rfl) ?_
      refine m_callVN Z C hM hS (As := [.long (lN ti), .int x]) (rest := []) (c_X0_see Z h A tg (srS G A sg k (nm, ho, n + 1, va_up T n ti, va_up U n x, k_lv (k_put (F, z, v, d) 0 x) 4, (some (li, wa, on, si)))) hC k (lN ti) x li wa on si (srS_13)) yi_X0_see mn_X2_64 (hC.at (srS_13)) rfl ⟨Nat.le_of_ble_eq_true rfl, Nat.le_of_ble_eq_true rfl⟩ (Nat.le_of_ble_eq_true rfl) hl.1 rfl rfl dX2_take_70 ⟨Nat.le_of_ble_eq_true rfl, Nat.le_of_ble_eq_true rfl⟩ (fun v h9 H locs hv hM hS => ?_)
      rcases hv with ⟨f_5, hv, hC9, hF8⟩ | ⟨f_6, f_7, hv, hC9, hF8⟩ | ⟨f_8, f_9, hv, hC9, hF8⟩
      · -- of 70
        subst hv
        have hF := hF.trans hF8
        obtain ⟨h, hM, hC, hF⟩ : ∃ h8, MW G s0.heap.size h8 H ∧ CW h8 A tg (up3 (srS G A sg k (nm, ho, n + 1, va_up T n ti, va_up U n x, k_lv (k_put (F, z, v, d) 0 x) 4, (some (li, wa, on, si)))) (cd (k + 1) 13 0) (some (eO 0 [.int li, .int wa, .int (nI 0), .long si]))) ∧ cFr h0 tg0 h8 tg := ⟨_, hM, hC9, hF⟩
        refine W.eq (g2 := F0 mt 73 ls []) rfl ?_
        exact m_vret C hM hS (Nat.le_of_ble_eq_true rfl) (Nat.le_of_ble_eq_true rfl) dX2_take_73 ⟨rfl, A, tg, (by rw [← eA0]; exact fun _ _ => rfl), (by rw [x_see_a f_5]; exact hC.less (fun y9 e9 h9 => (congrFun (srS_p13 (a2 := (li, wa, 0, si))) y9).trans h9)), hF⟩
      · -- of 70
        subst hv
        have hF := hF.trans hF8
        obtain ⟨h, hM, hC, hF⟩ : ∃ h8, MW G s0.heap.size h8 H ∧ CW h8 A tg (up3 (srS G A sg k (nm, ho, n + 1, va_up T n ti, va_up U n x, k_lv (k_put (F, z, v, d) 0 x) 4, (some (li, wa, on, si)))) (cd (k + 1) 13 0) (some (eO 0 [.int li, .int wa, .int (nI 1), .long ((lN ti))]))) ∧ cFr h0 tg0 h8 tg := ⟨_, hM, hC9, hF⟩
        refine W.eq (g2 := F0 mt 73 ls []) rfl ?_
        exact m_vret C hM hS (Nat.le_of_ble_eq_true rfl) (Nat.le_of_ble_eq_true rfl) dX2_take_73 ⟨rfl, A, tg, (by rw [← eA0]; exact fun _ _ => rfl), (by rw [x_see_b f_6 f_7]; exact hC.less (fun y9 e9 h9 => (congrFun (srS_p13 (a2 := (li, wa, 1, lN ti))) y9).trans h9)), hF⟩
      · -- of 70
        subst hv
        have hF := hF.trans hF8
        obtain ⟨h, hM, hC, hF⟩ : ∃ h8, MW G s0.heap.size h8 H ∧ CW h8 A tg (srS G A sg k (nm, ho, n + 1, va_up T n ti, va_up U n x, k_lv (k_put (F, z, v, d) 0 x) 4, (some (li, wa, on, si)))) ∧ cFr h0 tg0 h8 tg := ⟨_, hM, hC9, hF⟩
        refine W.eq (g2 := F0 mt 73 ls []) rfl ?_
        exact m_vret C hM hS (Nat.le_of_ble_eq_true rfl) (Nat.le_of_ble_eq_true rfl) dX2_take_73 ⟨rfl, A, tg, (by rw [← eA0]; exact fun _ _ => rfl), (by rw [x_see_c f_8 f_9]; exact hC), hF⟩
set_option maxRecDepth 100000 in
set_option maxHeartbeats 4000000 in
theorem c_X2_takeN {l : Launch} {G : mG} {a0 : Array Value} {s0 : State} (Z : mZ l G a0 s0) (h0 : Hp) (A0 : Cd → Nat) (tg0 : Nat → Cd) (sg : Cd → Option va_E) (k : Nat) (nm ho : Int32) (n : Nat) (T : Nat → Nat) (U : Nat → Int32) (F : Nat → Nat → Int32) (z v : Nat → Nat) (d : Nat) (al : Xa) (hC : CW h0 A0 tg0 (srS G A0 sg k (nm, ho, n, T, U, (F, z, v, d), al))) (ti : Nat) (x : Int32) (hn : n < 120) (h8 : n % 8 = 0) (hz0 : z 0 < 8) (hT : TkOK (k_put (F, z, v, d) 0 x)) : mM l G s0 yX2_take cX2_take 4 none 3 72 3 25 h0 [.ref (A0 (cd (k + 1) 0 0)), .long (lN ti), .int x] (fun v9 h9 => v9 = none ∧ ∃ (A9 : Cd → Nat) (tg9 : Nat → Cd), (∀ y : Cd, (y.1 = k + 1 → y.2.1 < 14) → A9 y = A0 y) ∧ CW h9 A9 tg9 (srS G A9 sg k (nm, ho, n + 1, va_up T n ti, va_up U n x, k_lv (k_put (F, z, v, d) 0 x) 4, x_see al ti x)) ∧ cFr h0 tg0 h9 tg9) := by
  refine mM_in RX2 "take" rfl rfl (by decide +kernel) (Nat.le_of_ble_eq_true rfl) ?_
  intro p e s mt below meth c H locs C hM hS ls hl
  have hx := C.1
  have hb := C.2.1
  have hown := C.2.2.2.1
  have hE := C.2.2.2.2.2.2.1
  have hl : lv_has ls 4 [(0, .ref (A0 (cd (k + 1) 0 0))), (1, .long (lN ti)), (3, .int x)] := hl
  obtain ⟨tg, etg⟩ : ∃ y9, y9 = tg0 := ⟨_, rfl⟩
  obtain ⟨A, eA0⟩ : ∃ y9, y9 = A0 := ⟨_, rfl⟩
  rw [← etg, ← eA0] at hC
  rw [← eA0] at hl
  have hF : cFr h0 tg0 h0 tg := by rw [etg]; exact cFr.rf
  obtain ⟨h, hM, hC, hF⟩ : ∃ h9, MW G s0.heap.size h9 H ∧ CW h9 A tg (srS G A sg k (nm, ho, n, T, U, (F, z, v, d), al)) ∧ cFr h0 tg0 h9 tg := ⟨_, hM, hC, hF⟩
  refine lv_aload_n hx hb dX2_take_0 rfl (lv_at hl 0 rfl) ?_
  refine m_callV Z C hM hS (As := []) (rest := []) (c_X2_isFull Z h A tg (srS G A sg k (nm, ho, n, T, U, (F, z, v, d), al)) hC k nm ho n ((x_av A k al)) (srS_0) (by omega)) yi_X2_isFull ml_X2_49 (hC.at (srS_0)) rfl ⟨Nat.le_of_ble_eq_true rfl, Nat.le_of_ble_eq_true rfl⟩ (Nat.le_of_ble_eq_true rfl) hl.1 rfl rfl dX2_take_1 ⟨Nat.le_of_ble_eq_true rfl, Nat.le_of_ble_eq_true rfl⟩ (fun v h9 H locs hv hM hS => ?_)
  obtain ⟨hv, hh9⟩ := hv
  rcases Decidable.em (120 ≤ n) with g_1 | g_1
  · -- of 1: True
    replace hv : v = some (.int (b2 (120 ≤ n))) := hv
    rw [b2_t g_1] at hv
    subst hv
    rw [hh9] at hM
    refine W.eq (g2 := F0 mt 4 ls [.int (nI 1)]) rfl ?_
    exact absurd hn (by omega)
  · -- of 1: False
    replace hv : v = some (.int (b2 (120 ≤ n))) := hv
    rw [b2_f g_1] at hv
    subst hv
    rw [hh9] at hM
    refine W.eq (g2 := F0 mt 4 ls [.int (nI 0)]) rfl ?_
    refine lv_if_eq (tgt := 8) hx hb dX2_take_4 (by decide) (fun _ => ?_) (fun q => absurd (by decide) q)
    refine lv_aload_n hx hb dX2_take_8 rfl (lv_at hl 0 rfl) ?_
    refine m_get Z C hM (hC.at (srS_0)) K_X2 2 (by decide) fl_X2_18 (v := .ref (A (cd (k + 1) 1 0))) rfl dX2_take_9 ?_
    refine lv_aload_n hx hb dX2_take_12 rfl (lv_at hl 0 rfl) ?_
    refine m_get Z C hM (hC.at (srS_0)) K_X2 7 (by decide) fl_X2_42 (v := .int (nI n)) rfl dX2_take_13 ?_
    refine lv_lload_n hx hb dX2_take_16 rfl (lv_at hl 1 rfl) ?_
    refine m_last Z C hM hS (hC.at (srS_1)) (x := lN ti) n rfl (by omega) (by decide) dX2_take_17 (fun H locs hM hS => ?_)
    rw [lN_up] at hM
    have hC9 := hC.put (srS_1) (eL G 120 (fun k => lN ((va_up T n ti) k)))
    have hF9 := hF.put hC (srS_1) (cd_r (by decide)) (eL G 120 (fun k => lN ((va_up T n ti) k)))
    obtain ⟨h, hM, hC, hF⟩ : ∃ h9, MW G s0.heap.size h9 H ∧ CW h9 A tg (up3 (srS G A sg k (nm, ho, n, T, U, (F, z, v, d), al)) (cd (k + 1) 1 0) (some (eL G 120 (fun k => lN ((va_up T n ti) k))))) ∧ cFr h0 tg0 h9 tg := ⟨_, hM, hC9, hF9⟩
    refine lv_aload_n hx hb dX2_take_18 rfl (lv_at hl 0 rfl) ?_
    refine m_get Z C hM (hC.at ((up3_ne _ _ (cd_r (by decide))).trans (srS_0))) K_X2 3 (by decide) fl_X2_22 (v := .ref (A (cd (k + 1) 2 0))) rfl dX2_take_19 ?_
    refine lv_aload_n hx hb dX2_take_22 rfl (lv_at hl 0 rfl) ?_
    refine m_get Z C hM (hC.at ((up3_ne _ _ (cd_r (by decide))).trans (srS_0))) K_X2 7 (by decide) fl_X2_42 (v := .int (nI n)) rfl dX2_take_23 ?_
    refine lv_iload_n hx hb dX2_take_26 rfl (lv_at hl 2 rfl) ?_
    refine m_iast Z C hM hS (hC.at ((up3_ne _ _ (cd_r (by decide))).trans (srS_2))) (x := x) n rfl (by omega) (by decide) dX2_take_27 (fun H locs hM hS => ?_)
    have hC9 := hC.put ((up3_ne _ _ (cd_r (by decide))).trans (srS_2)) (eI G 120 (va_up U n x))
    have hF9 := hF.put hC ((up3_ne _ _ (cd_r (by decide))).trans (srS_2)) (cd_r (by decide)) (eI G 120 (va_up U n x))
    obtain ⟨h, hM, hC, hF⟩ : ∃ h9, MW G s0.heap.size h9 H ∧ CW h9 A tg (up3 (up3 (srS G A sg k (nm, ho, n, T, U, (F, z, v, d), al)) (cd (k + 1) 1 0) (some (eL G 120 (fun k => lN ((va_up T n ti) k))))) (cd (k + 1) 2 0) (some (eI G 120 (va_up U n x)))) ∧ cFr h0 tg0 h9 tg := ⟨_, hM, hC9, hF9⟩
    refine lv_aload_n hx hb dX2_take_28 rfl (lv_at hl 0 rfl) ?_
    refine lv_iload_n hx hb dX2_take_29 rfl (lv_at hl 2 rfl) ?_
    refine m_callV Z C hM hS (As := [.int x]) (rest := []) (c_X2_sortIn Z h A tg (up3 (up3 (srS G A sg k (nm, ho, n, T, U, (F, z, v, d), al)) (cd (k + 1) 1 0) (some (eL G 120 (fun k => lN ((va_up T n ti) k))))) (cd (k + 1) 2 0) (some (eI G 120 (va_up U n x)))) hC k x nm ho n ((x_av A k al)) (x_so U n) ((up3_ne _ _ (cd_r (by decide))).trans ((up3_ne _ _ (cd_r (by decide))).trans (srS_0))) ((up3_ne _ _ (cd_r (by decide))).trans ((up3_ne _ _ (cd_r (by decide))).trans (srS_3))) hn) yi_X2_sortIn ml_X2_53 (hC.at ((up3_ne _ _ (cd_r (by decide))).trans ((up3_ne _ _ (cd_r (by decide))).trans (srS_0)))) rfl ⟨Nat.le_of_ble_eq_true rfl, Nat.le_of_ble_eq_true rfl⟩ (Nat.le_of_ble_eq_true rfl) hl.1 rfl rfl dX2_take_30 ⟨Nat.le_of_ble_eq_true rfl, Nat.le_of_ble_eq_true rfl⟩ (fun v h9 H locs hv hM hS => ?_)
    obtain ⟨hv, hC9, hF8⟩ := hv
    subst hv
    have hF := hF.trans hF8
    obtain ⟨h, hM, hC, hF⟩ : ∃ h8, MW G s0.heap.size h8 H ∧ CW h8 A tg (up3 (up3 (up3 (srS G A sg k (nm, ho, n, T, U, (F, z, v, d), al)) (cd (k + 1) 1 0) (some (eL G 120 (fun k => lN ((va_up T n ti) k))))) (cd (k + 1) 2 0) (some (eI G 120 (va_up U n x)))) (cd (k + 1) 3 0) (some (eI G 120 (z_ins 0 x n (x_so U n))))) ∧ cFr h0 tg0 h8 tg := ⟨_, hM, hC9, hF⟩
    refine W.eq (g2 := F0 mt 33 ls []) rfl ?_
    refine lv_aload_n hx hb dX2_take_33 rfl (lv_at hl 0 rfl) ?_
    refine lv_lload_n hx hb dX2_take_34 rfl (lv_at hl 1 rfl) ?_
    refine lv_iload_n hx hb dX2_take_35 rfl (lv_at hl 2 rfl) ?_
    refine m_callV Z C hM hS (As := [.long (lN ti), .int x]) (rest := []) (c_X2_toBlockN Z h A tg (up3 (up3 (up3 (srS G A sg k (nm, ho, n, T, U, (F, z, v, d), al)) (cd (k + 1) 1 0) (some (eL G 120 (fun k => lN ((va_up T n ti) k))))) (cd (k + 1) 2 0) (some (eI G 120 (va_up U n x)))) (cd (k + 1) 3 0) (some (eI G 120 (z_ins 0 x n (x_so U n))))) hC k (lN ti) x nm ho n (x_av A k al) (n / 8) ((up3_ne _ _ (cd_r (by decide))).trans ((up3_ne _ _ (cd_r (by decide))).trans ((up3_ne _ _ (cd_r (by decide))).trans (srS_0)))) (((up3_ne _ _ (cd_r (by decide))).trans ((up3_ne _ _ (cd_r (by decide))).trans ((up3_ne _ _ (cd_r (by decide))).trans (srS_4)))).trans (by rw [show x_nb n = n / 8 by unfold x_nb; omega])) rfl hn) yi_X2_toBlock ml_X2_57 (hC.at ((up3_ne _ _ (cd_r (by decide))).trans ((up3_ne _ _ (cd_r (by decide))).trans ((up3_ne _ _ (cd_r (by decide))).trans (srS_0))))) rfl ⟨Nat.le_of_ble_eq_true rfl, Nat.le_of_ble_eq_true rfl⟩ (Nat.le_of_ble_eq_true rfl) hl.1 rfl rfl dX2_take_36 ⟨Nat.le_of_ble_eq_true rfl, Nat.le_of_ble_eq_true rfl⟩ (fun v h9 H locs hv hM hS => ?_)
    obtain ⟨hv, A, tg, eA, hC9, hF8⟩ := hv
    subst hv
    have eA9 : ∀ r9 j9 : Nat, (14 ≤ r9 → j9 < x_nb n) → A (cd (k + 1) r9 j9) = _ := fun r9 j9 hj9 => eA (cd (k + 1) r9 j9) (cd_14 hj9 (by decide) (by unfold x_nb; omega)) (cd_14 hj9 (by decide) (by unfold x_nb; omega)) (cd_14 hj9 (by decide) (by unfold x_nb; omega))
    have e09 := eA (cd (k + 1) 0 0) (cd_r (by decide)) (cd_r (by decide)) (cd_r (by decide))
    rw [← srS_A (G := G) (sg := sg) (X := (nm, ho, n, T, U, (F, z, v, d), al)) eA9] at hC9
    rw [← e09] at hl
    have hF := hF.trans hF8
    obtain ⟨h, hM, hC, hF⟩ : ∃ h8, MW G s0.heap.size h8 H ∧ CW h8 A tg (up3 (up3 (up3 (up3 (up3 (up3 (up3 (srS G A sg k (nm, ho, n, T, U, (F, z, v, d), al)) (cd (k + 1) 1 0) (some (eL G 120 (fun k => lN ((va_up T n ti) k))))) (cd (k + 1) 2 0) (some (eI G 120 (va_up U n x)))) (cd (k + 1) 3 0) (some (eI G 120 (z_ins 0 x n (x_so U n))))) (cd (k + 1) 4 0) (some (eB G 15 (chL A k (n / 8 + 1))))) (cd (k + 1) 14 (n / 8)) (some (eO 1 [.long (lN ti), .int x, .ref (A (cd (k + 1) 15 (n / 8))), .ref (A (cd (k + 1) 16 (n / 8))), .int (nI 1), .int (nI 64), .long (lN ti), .long (lN 0), .int x]))) (cd (k + 1) 15 (n / 8)) (some (eL G 8 (fun _ => 0)))) (cd (k + 1) 16 (n / 8)) (some (eI G 8 (fun _ => 0)))) ∧ cFr h0 tg0 h8 tg := ⟨_, hM, hC9, hF⟩
    refine W.eq (g2 := F0 mt 39 ls []) rfl ?_
    refine lv_aload_n hx hb dX2_take_39 rfl (lv_at hl 0 rfl) ?_
    refine lv_dup hx hb dX2_take_40 rfl ?_
    refine m_get Z C hM (hC.at ((up3_ne _ _ (cd_r (by decide))).trans ((up3_ne _ _ (cd_r (by decide))).trans ((up3_ne _ _ (cd_r (by decide))).trans ((up3_ne _ _ (cd_r (by decide))).trans ((up3_ne _ _ (cd_r (by decide))).trans ((up3_ne _ _ (cd_r (by decide))).trans ((up3_ne _ _ (cd_r (by decide))).trans (srS_0))))))))) K_X2 7 (by decide) fl_X2_42 (v := .int (nI n)) rfl dX2_take_41 ?_
    refine lv_iconst (v := nI 1) hx hb dX2_take_44 (by decide) ?_
    refine n_iadd hx hb dX2_take_45 ?_
    refine m_put Z C hM hS (hC.at ((up3_ne _ _ (cd_r (by decide))).trans ((up3_ne _ _ (cd_r (by decide))).trans ((up3_ne _ _ (cd_r (by decide))).trans ((up3_ne _ _ (cd_r (by decide))).trans ((up3_ne _ _ (cd_r (by decide))).trans ((up3_ne _ _ (cd_r (by decide))).trans ((up3_ne _ _ (cd_r (by decide))).trans (srS_0))))))))) K_X2 7 (by decide) fl_X2_42 (v := .int (nI (n + 1))) rfl rfl rfl (fs' := [.int nm, .int ho, .ref (A (cd (k + 1) 1 0)), .ref (A (cd (k + 1) 2 0)), .ref (A (cd (k + 1) 3 0)), .ref (A (cd (k + 1) 4 0)), .ref (A (cd (k + 1) 5 0)), .int (nI (n + 1)), (x_av A k al)]) rfl (Nat.le_of_ble_eq_true rfl) dX2_take_46 (fun H locs hM hS => ?_)
    have hC9 := hC.put ((up3_ne _ _ (cd_r (by decide))).trans ((up3_ne _ _ (cd_r (by decide))).trans ((up3_ne _ _ (cd_r (by decide))).trans ((up3_ne _ _ (cd_r (by decide))).trans ((up3_ne _ _ (cd_r (by decide))).trans ((up3_ne _ _ (cd_r (by decide))).trans ((up3_ne _ _ (cd_r (by decide))).trans (srS_0)))))))) (eO 2 [.int nm, .int ho, .ref (A (cd (k + 1) 1 0)), .ref (A (cd (k + 1) 2 0)), .ref (A (cd (k + 1) 3 0)), .ref (A (cd (k + 1) 4 0)), .ref (A (cd (k + 1) 5 0)), .int (nI (n + 1)), (x_av A k al)])
    have hF9 := hF.put hC ((up3_ne _ _ (cd_r (by decide))).trans ((up3_ne _ _ (cd_r (by decide))).trans ((up3_ne _ _ (cd_r (by decide))).trans ((up3_ne _ _ (cd_r (by decide))).trans ((up3_ne _ _ (cd_r (by decide))).trans ((up3_ne _ _ (cd_r (by decide))).trans ((up3_ne _ _ (cd_r (by decide))).trans (srS_0)))))))) (cd_k (by omega)) (eO 2 [.int nm, .int ho, .ref (A (cd (k + 1) 1 0)), .ref (A (cd (k + 1) 2 0)), .ref (A (cd (k + 1) 3 0)), .ref (A (cd (k + 1) 4 0)), .ref (A (cd (k + 1) 5 0)), .int (nI (n + 1)), (x_av A k al)])
    obtain ⟨h, hM, hC, hF⟩ : ∃ h9, MW G s0.heap.size h9 H ∧ CW h9 A tg (up3 (up3 (up3 (up3 (up3 (up3 (up3 (up3 (srS G A sg k (nm, ho, n, T, U, (F, z, v, d), al)) (cd (k + 1) 1 0) (some (eL G 120 (fun k => lN ((va_up T n ti) k))))) (cd (k + 1) 2 0) (some (eI G 120 (va_up U n x)))) (cd (k + 1) 3 0) (some (eI G 120 (z_ins 0 x n (x_so U n))))) (cd (k + 1) 4 0) (some (eB G 15 (chL A k (n / 8 + 1))))) (cd (k + 1) 14 (n / 8)) (some (eO 1 [.long (lN ti), .int x, .ref (A (cd (k + 1) 15 (n / 8))), .ref (A (cd (k + 1) 16 (n / 8))), .int (nI 1), .int (nI 64), .long (lN ti), .long (lN 0), .int x]))) (cd (k + 1) 15 (n / 8)) (some (eL G 8 (fun _ => 0)))) (cd (k + 1) 16 (n / 8)) (some (eI G 8 (fun _ => 0)))) (cd (k + 1) 0 0) (some (eO 2 [.int nm, .int ho, .ref (A (cd (k + 1) 1 0)), .ref (A (cd (k + 1) 2 0)), .ref (A (cd (k + 1) 3 0)), .ref (A (cd (k + 1) 4 0)), .ref (A (cd (k + 1) 5 0)), .int (nI (n + 1)), (x_av A k al)]))) ∧ cFr h0 tg0 h9 tg := ⟨_, hM, hC9, hF9⟩
    refine lv_aload_n hx hb dX2_take_49 rfl (lv_at hl 0 rfl) ?_
    have hsk : skS G A (up3 (up3 (up3 (up3 (up3 (up3 (up3 (up3 (srS G A sg k (nm, ho, n, T, U, (F, z, v, d), al)) (cd (k + 1) 1 0) (some (eL G 120 (fun k => lN ((va_up T n ti) k))))) (cd (k + 1) 2 0) (some (eI G 120 (va_up U n x)))) (cd (k + 1) 3 0) (some (eI G 120 (z_ins 0 x n (x_so U n))))) (cd (k + 1) 4 0) (some (eB G 15 (chL A k (n / 8 + 1))))) (cd (k + 1) 14 (n / 8)) (some (eO 1 [.long (lN ti), .int x, .ref (A (cd (k + 1) 15 (n / 8))), .ref (A (cd (k + 1) 16 (n / 8))), .int (nI 1), .int (nI 64), .long (lN ti), .long (lN 0), .int x]))) (cd (k + 1) 15 (n / 8)) (some (eL G 8 (fun _ => 0)))) (cd (k + 1) 16 (n / 8)) (some (eI G 8 (fun _ => 0)))) (cd (k + 1) 0 0) (some (eO 2 [.int nm, .int ho, .ref (A (cd (k + 1) 1 0)), .ref (A (cd (k + 1) 2 0)), .ref (A (cd (k + 1) 3 0)), .ref (A (cd (k + 1) 4 0)), .ref (A (cd (k + 1) 5 0)), .int (nI (n + 1)), (x_av A k al)]))) k F z v d = up3 (up3 (up3 (up3 (up3 (up3 (up3 (up3 (srS G A sg k (nm, ho, n, T, U, (F, z, v, d), al)) (cd (k + 1) 1 0) (some (eL G 120 (fun k => lN ((va_up T n ti) k))))) (cd (k + 1) 2 0) (some (eI G 120 (va_up U n x)))) (cd (k + 1) 3 0) (some (eI G 120 (z_ins 0 x n (x_so U n))))) (cd (k + 1) 4 0) (some (eB G 15 (chL A k (n / 8 + 1))))) (cd (k + 1) 14 (n / 8)) (some (eO 1 [.long (lN ti), .int x, .ref (A (cd (k + 1) 15 (n / 8))), .ref (A (cd (k + 1) 16 (n / 8))), .int (nI 1), .int (nI 64), .long (lN ti), .long (lN 0), .int x]))) (cd (k + 1) 15 (n / 8)) (some (eL G 8 (fun _ => 0)))) (cd (k + 1) 16 (n / 8)) (some (eI G 8 (fun _ => 0)))) (cd (k + 1) 0 0) (some (eO 2 [.int nm, .int ho, .ref (A (cd (k + 1) 1 0)), .ref (A (cd (k + 1) 2 0)), .ref (A (cd (k + 1) 3 0)), .ref (A (cd (k + 1) 4 0)), .ref (A (cd (k + 1) 5 0)), .int (nI (n + 1)), (x_av A k al)])) := skS_id ((up3_ne _ _ (cd_r (by decide))).trans ((up3_ne _ _ (cd_r (by decide))).trans ((up3_ne _ _ (cd_r (by decide))).trans ((up3_ne _ _ (cd_r (by decide))).trans ((up3_ne _ _ (cd_r (by decide))).trans ((up3_ne _ _ (cd_r (by decide))).trans ((up3_ne _ _ (cd_r (by decide))).trans ((up3_ne _ _ (cd_r (by decide))).trans (srS_5))))))))) ((up3_ne _ _ (cd_r (by decide))).trans ((up3_ne _ _ (cd_r (by decide))).trans ((up3_ne _ _ (cd_r (by decide))).trans ((up3_ne _ _ (cd_r (by decide))).trans ((up3_ne _ _ (cd_r (by decide))).trans ((up3_ne _ _ (cd_r (by decide))).trans ((up3_ne _ _ (cd_r (by decide))).trans ((up3_ne _ _ (cd_r (by decide))).trans (srS_6))))))))) ((up3_ne _ _ (cd_r (by decide))).trans ((up3_ne _ _ (cd_r (by decide))).trans ((up3_ne _ _ (cd_r (by decide))).trans ((up3_ne _ _ (cd_r (by decide))).trans ((up3_ne _ _ (cd_r (by decide))).trans ((up3_ne _ _ (cd_r (by decide))).trans ((up3_ne _ _ (cd_r (by decide))).trans ((up3_ne _ _ (cd_r (by decide))).trans (srS_8))))))))) ((up3_ne _ _ (cd_r (by decide))).trans ((up3_ne _ _ (cd_r (by decide))).trans ((up3_ne _ _ (cd_r (by decide))).trans ((up3_ne _ _ (cd_r (by decide))).trans ((up3_ne _ _ (cd_r (by decide))).trans ((up3_ne _ _ (cd_r (by decide))).trans ((up3_ne _ _ (cd_r (by decide))).trans ((up3_ne _ _ (cd_r (by decide))).trans (srS_9))))))))) (fun i hi => (up3_ne _ _ (cd_r (by decide))).trans ((up3_ne _ _ (cd_r (by decide))).trans ((up3_ne _ _ (cd_r (by decide))).trans ((up3_ne _ _ (cd_r (by decide))).trans ((up3_ne _ _ (cd_r (by decide))).trans ((up3_ne _ _ (cd_r (by decide))).trans ((up3_ne _ _ (cd_r (by decide))).trans ((up3_ne _ _ (cd_r (by decide))).trans (srS_7 hi)))))))))
    rw [← hsk] at hC
    obtain ⟨sg5, esg⟩ : ∃ y9, y9 = up3 (up3 (up3 (up3 (up3 (up3 (up3 (up3 (srS G A sg k (nm, ho, n, T, U, (F, z, v, d), al)) (cd (k + 1) 1 0) (some (eL G 120 (fun k => lN ((va_up T n ti) k))))) (cd (k + 1) 2 0) (some (eI G 120 (va_up U n x)))) (cd (k + 1) 3 0) (some (eI G 120 (z_ins 0 x n (x_so U n))))) (cd (k + 1) 4 0) (some (eB G 15 (chL A k (n / 8 + 1))))) (cd (k + 1) 14 (n / 8)) (some (eO 1 [.long (lN ti), .int x, .ref (A (cd (k + 1) 15 (n / 8))), .ref (A (cd (k + 1) 16 (n / 8))), .int (nI 1), .int (nI 64), .long (lN ti), .long (lN 0), .int x]))) (cd (k + 1) 15 (n / 8)) (some (eL G 8 (fun _ => 0)))) (cd (k + 1) 16 (n / 8)) (some (eI G 8 (fun _ => 0)))) (cd (k + 1) 0 0) (some (eO 2 [.int nm, .int ho, .ref (A (cd (k + 1) 1 0)), .ref (A (cd (k + 1) 2 0)), .ref (A (cd (k + 1) 3 0)), .ref (A (cd (k + 1) 4 0)), .ref (A (cd (k + 1) 5 0)), .int (nI (n + 1)), (x_av A k al)])) := ⟨_, rfl⟩
    rw [← esg] at hC
    refine m_get Z C hM (hC.at ((skS_ne (by simp [cd])).trans ((by rw [esg]; exact up3_self _ _ _)))) K_X2 6 (by decide) fl_X2_38 (v := .ref (A (cd (k + 1) 5 0))) rfl dX2_take_50 ?_
    refine lv_iload_n hx hb dX2_take_53 rfl (lv_at hl 2 rfl) ?_
    refine m_callVN Z C hM hS (As := [.int x]) (rest := []) (c_X3_take Z h A tg sg5 k F z v d hC x hz0 hT) yi_X3_take mn_X2_61 (hC.at (skS_5)) rfl ⟨Nat.le_of_ble_eq_true rfl, Nat.le_of_ble_eq_true rfl⟩ (Nat.le_of_ble_eq_true rfl) hl.1 rfl rfl dX2_take_54 ⟨Nat.le_of_ble_eq_true rfl, Nat.le_of_ble_eq_true rfl⟩ (fun v h9 H locs hv hM hS => ?_)
    obtain ⟨hv, hC9, hF8⟩ := hv
    subst hv
    have hF := hF.trans hF8
    obtain ⟨h, hM, hC, hF⟩ : ∃ h8, MW G s0.heap.size h8 H ∧ CW h8 A tg (skS G A sg5 k ((k_lv (k_put (F, z, v, d) 0 x) 4).1) ((k_lv (k_put (F, z, v, d) 0 x) 4).2.1) ((k_lv (k_put (F, z, v, d) 0 x) 4).2.2.1) ((k_lv (k_put (F, z, v, d) 0 x) 4).2.2.2)) ∧ cFr h0 tg0 h8 tg := ⟨_, hM, hC9, hF⟩
    refine W.eq (g2 := F0 mt 57 ls []) rfl ?_
    obtain ⟨sg6, esg6⟩ : ∃ y9, y9 = skS G A sg5 k ((k_lv (k_put (F, z, v, d) 0 x) 4).1) ((k_lv (k_put (F, z, v, d) 0 x) 4).2.1) ((k_lv (k_put (F, z, v, d) 0 x) 4).2.2.1) ((k_lv (k_put (F, z, v, d) 0 x) 4).2.2.2) := ⟨_, rfl⟩
    rw [← esg6] at hC
    have g0 : sg6 (cd (k + 1) 0 0) = some (eO 2 [.int nm, .int ho, .ref (A (cd (k + 1) 1 0)), .ref (A (cd (k + 1) 2 0)), .ref (A (cd (k + 1) 3 0)), .ref (A (cd (k + 1) 4 0)), .ref (A (cd (k + 1) 5 0)), .int (nI (n + 1)), x_av A k al]) := by rw [esg6]; exact (skS_ne (by simp [cd])).trans (by rw [esg]; exact up3_self _ _ _)
    have g1 : sg6 (cd (k + 1) 1 0) = some (eL G 120 (fun i => lN (va_up T n ti i))) := by rw [esg6]; exact (skS_ne (by simp [cd])).trans (by rw [esg]; exact (up3_ne _ _ (cd_r (by decide))).trans ((up3_ne _ _ (cd_r (by decide))).trans ((up3_ne _ _ (cd_r (by decide))).trans ((up3_ne _ _ (cd_r (by decide))).trans ((up3_ne _ _ (cd_r (by decide))).trans ((up3_ne _ _ (cd_r (by decide))).trans ((up3_ne _ _ (cd_r (by decide))).trans (up3_self _ _ _))))))))
    have g2 : sg6 (cd (k + 1) 2 0) = some (eI G 120 (va_up U n x)) := by rw [esg6]; exact (skS_ne (by simp [cd])).trans (by rw [esg]; exact (up3_ne _ _ (cd_r (by decide))).trans ((up3_ne _ _ (cd_r (by decide))).trans ((up3_ne _ _ (cd_r (by decide))).trans ((up3_ne _ _ (cd_r (by decide))).trans ((up3_ne _ _ (cd_r (by decide))).trans ((up3_ne _ _ (cd_r (by decide))).trans (up3_self _ _ _)))))))
    have g3 : sg6 (cd (k + 1) 3 0) = some (eI G 120 (x_so (va_up U n x) (n + 1))) := by rw [x_so_add]; exact by rw [esg6]; exact (skS_ne (by simp [cd])).trans (by rw [esg]; exact (up3_ne _ _ (cd_r (by decide))).trans ((up3_ne _ _ (cd_r (by decide))).trans ((up3_ne _ _ (cd_r (by decide))).trans ((up3_ne _ _ (cd_r (by decide))).trans ((up3_ne _ _ (cd_r (by decide))).trans (up3_self _ _ _))))))
    have g4 : sg6 (cd (k + 1) 4 0) = some (eB G 15 (chL A k (x_nb (n + 1)))) := by rw [show x_nb (n + 1) = (n / 8 + 1) by unfold x_nb; omega]; exact by rw [esg6]; exact (skS_ne (by simp [cd])).trans (by rw [esg]; exact (up3_ne _ _ (cd_r (by decide))).trans ((up3_ne _ _ (cd_r (by decide))).trans ((up3_ne _ _ (cd_r (by decide))).trans ((up3_ne _ _ (cd_r (by decide))).trans (up3_self _ _ _)))))
    have g13 : sg6 (cd (k + 1) 13 0) = x_ac al := by rw [esg6]; exact (skS_ne (by simp [cd])).trans (by rw [esg]; exact (up3_ne _ _ (cd_r (by decide))).trans ((up3_ne _ _ (cd_r (by decide))).trans ((up3_ne _ _ (cd_r (by decide))).trans ((up3_ne _ _ (cd_r (by decide))).trans ((up3_ne _ _ (cd_r (by decide))).trans ((up3_ne _ _ (cd_r (by decide))).trans ((up3_ne _ _ (cd_r (by decide))).trans ((up3_ne _ _ (cd_r (by decide))).trans (srS_13)))))))))
    have g14 : ∀ i : Nat, i < x_nb (n + 1) → sg6 (cd (k + 1) 14 i) = some (x_bo A k (va_up T n ti) (va_up U n x) (n + 1) i) := by
      intro i hi
      have hi9 : i < (n + 8) / 8 := hi
      by_cases q9 : i = n / 8
      · rw [q9, x_bo_0 _ _ _ _ _ _ _ _ (by omega)]; exact by rw [esg6]; exact (skS_ne (by simp [cd])).trans (by rw [esg]; exact (up3_ne _ _ (cd_r (by decide))).trans ((up3_ne _ _ (cd_r (by decide))).trans ((up3_ne _ _ (cd_r (by decide))).trans (up3_self _ _ _))))
      · rw [x_bo_up _ _ _ _ _ _ _ _ (by omega)]; rw [esg6]; exact (skS_ne (by simp [cd])).trans (by rw [esg]; exact (up3_ne _ _ (cd_r (by decide))).trans ((up3_ne _ _ (cd_r (by decide))).trans ((up3_ne _ _ (cd_r (by decide))).trans ((up3_ne _ _ (cd_j q9)).trans ((up3_ne _ _ (cd_r (by decide))).trans ((up3_ne _ _ (cd_r (by decide))).trans ((up3_ne _ _ (cd_r (by decide))).trans ((up3_ne _ _ (cd_r (by decide))).trans (srS_14 (show i < x_nb n by unfold x_nb; omega))))))))))
    have g15 : ∀ i : Nat, i < x_nb (n + 1) → sg6 (cd (k + 1) 15 i) = some (eL G 8 (x_ts (va_up T n ti) (n + 1) i)) := by
      intro i hi
      have hi9 : i < (n + 8) / 8 := hi
      by_cases q9 : i = n / 8
      · rw [q9, x_ts_0 _ _ _ (by omega)]; exact by rw [esg6]; exact (skS_ne (by simp [cd])).trans (by rw [esg]; exact (up3_ne _ _ (cd_r (by decide))).trans ((up3_ne _ _ (cd_r (by decide))).trans (up3_self _ _ _)))
      · rw [x_ts_up _ _ _ _ (by omega)]; rw [esg6]; exact (skS_ne (by simp [cd])).trans (by rw [esg]; exact (up3_ne _ _ (cd_r (by decide))).trans ((up3_ne _ _ (cd_r (by decide))).trans ((up3_ne _ _ (cd_j q9)).trans ((up3_ne _ _ (cd_r (by decide))).trans ((up3_ne _ _ (cd_r (by decide))).trans ((up3_ne _ _ (cd_r (by decide))).trans ((up3_ne _ _ (cd_r (by decide))).trans ((up3_ne _ _ (cd_r (by decide))).trans (srS_15 (show i < x_nb n by unfold x_nb; omega))))))))))
    have g16 : ∀ i : Nat, i < x_nb (n + 1) → sg6 (cd (k + 1) 16 i) = some (eI G 8 (x_vs (va_up U n x) (n + 1) i)) := by
      intro i hi
      have hi9 : i < (n + 8) / 8 := hi
      by_cases q9 : i = n / 8
      · rw [q9, x_vs_0 _ _ _ (by omega)]; exact by rw [esg6]; exact (skS_ne (by simp [cd])).trans (by rw [esg]; exact (up3_ne _ _ (cd_r (by decide))).trans (up3_self _ _ _))
      · rw [x_vs_up _ _ _ _ (by omega)]; rw [esg6]; exact (skS_ne (by simp [cd])).trans (by rw [esg]; exact (up3_ne _ _ (cd_r (by decide))).trans ((up3_ne _ _ (cd_j q9)).trans ((up3_ne _ _ (cd_r (by decide))).trans ((up3_ne _ _ (cd_r (by decide))).trans ((up3_ne _ _ (cd_r (by decide))).trans ((up3_ne _ _ (cd_r (by decide))).trans ((up3_ne _ _ (cd_r (by decide))).trans ((up3_ne _ _ (cd_r (by decide))).trans (srS_16 (show i < x_nb n by unfold x_nb; omega))))))))))
    have gs : ∀ (y9 : Cd) (e9 : va_E), y9.1 ≠ k + 1 → sg y9 = some e9 → sg6 y9 = some e9 := fun y9 e9 hx9 he9 => by rw [esg6]; exact (skS_ne (fun q9 => absurd q9 hx9)).trans (by rw [esg]; exact (up3_ne _ _ (fun q9 => hx9 (congrArg Prod.fst q9))).trans ((up3_ne _ _ (fun q9 => hx9 (congrArg Prod.fst q9))).trans ((up3_ne _ _ (fun q9 => hx9 (congrArg Prod.fst q9))).trans ((up3_ne _ _ (fun q9 => hx9 (congrArg Prod.fst q9))).trans ((up3_ne _ _ (fun q9 => hx9 (congrArg Prod.fst q9))).trans ((up3_ne _ _ (fun q9 => hx9 (congrArg Prod.fst q9))).trans ((up3_ne _ _ (fun q9 => hx9 (congrArg Prod.fst q9))).trans ((up3_ne _ _ (fun q9 => hx9 (congrArg Prod.fst q9))).trans ((srS_ne hx9).trans he9)))))))))
    have hC6 : CW h A tg (srS G A sg k (nm, ho, n + 1, va_up T n ti, va_up U n x, k_lv (k_put (F, z, v, d) 0 x) 4, al)) := hC.less (srS_all (P := fun y9 e9 => sg6 y9 = some e9) g0 g1 g2 g3 g4 (by rw [esg6]; exact skS_5) (by rw [esg6]; exact skS_6) (by rw [esg6]; exact skS_8) (by rw [esg6]; exact skS_9) (fun e9 he9 => g13.trans he9) (fun i hi => by rw [esg6]; exact skS_7 hi) g14 g15 g16 gs)
    clear hC g0 g1 g2 g3 g4 g13 g14 g15 g16 gs
    have hM6 := hM; have hF6 := hF; have hl6 := hl; have hS6 := hS
    rcases al with _ | ⟨li, wa, on, si⟩
    · -- none
      have hM := hM6; have hC : CW h A tg (srS G A sg k (nm, ho, n + 1, va_up T n ti, va_up U n x, k_lv (k_put (F, z, v, d) 0 x) 4, none)) := hC6; have hF := hF6; have hl := hl6; have hS := hS6
      refine lv_aload_n hx hb dX2_take_57 rfl (lv_at hl 0 rfl) ?_
      refine m_get Z C hM (hC.at (srS_0)) K_X2 8 (by decide) fl_X2_45 (v := .null) rfl dX2_take_58 ?_
      refine lv_ifnullN (tgt := 73) hx hb dX2_take_61 (by decide) ?_
      exact m_vret C hM hS (Nat.le_of_ble_eq_true rfl) (Nat.le_of_ble_eq_true rfl) dX2_take_73 ⟨rfl, A, tg, (by rw [← eA0]; exact fun y9 hy9 => eA y9 (cd_14n hy9 (by decide)) (cd_14n hy9 (by decide)) (cd_14n hy9 (by decide))), hC, hF⟩
    · -- some
      have hM := hM6; have hC : CW h A tg (srS G A sg k (nm, ho, n + 1, va_up T n ti, va_up U n x, k_lv (k_put (F, z, v, d) 0 x) 4, (some (li, wa, on, si)))) := hC6; have hF := hF6; have hl := hl6; have hS := hS6
      refine lv_aload_n hx hb dX2_take_57 rfl (lv_at hl 0 rfl) ?_
      refine m_get Z C hM (hC.at (srS_0)) K_X2 8 (by decide) fl_X2_45 (v := .ref (A (cd (k + 1) 13 0))) rfl dX2_take_58 ?_
      refine lv_ifnull hx hb dX2_take_61 ?_
      refine lv_aload_n hx hb dX2_take_64 rfl (lv_at hl 0 rfl) ?_
      refine m_get Z C hM (hC.at (srS_0)) K_X2 8 (by decide) fl_X2_45 (v := .ref (A (cd (k + 1) 13 0))) rfl dX2_take_65 ?_
      refine lv_lload_n hx hb dX2_take_68 rfl (lv_at hl 1 rfl) ?_
      refine lv_iload_n hx hb dX2_take_69 rfl (lv_at hl 2 rfl) ?_
      refine m_callVN Z C hM hS (As := [.long (lN ti), .int x]) (rest := []) (c_X0_see Z h A tg (srS G A sg k (nm, ho, n + 1, va_up T n ti, va_up U n x, k_lv (k_put (F, z, v, d) 0 x) 4, (some (li, wa, on, si)))) hC k (lN ti) x li wa on si (srS_13)) yi_X0_see mn_X2_64 (hC.at (srS_13)) rfl ⟨Nat.le_of_ble_eq_true rfl, Nat.le_of_ble_eq_true rfl⟩ (Nat.le_of_ble_eq_true rfl) hl.1 rfl rfl dX2_take_70 ⟨Nat.le_of_ble_eq_true rfl, Nat.le_of_ble_eq_true rfl⟩ (fun v h9 H locs hv hM hS => ?_)
      rcases hv with ⟨f_5, hv, hC9, hF8⟩ | ⟨f_6, f_7, hv, hC9, hF8⟩ | ⟨f_8, f_9, hv, hC9, hF8⟩
      · -- of 70
        subst hv
        have hF := hF.trans hF8
        obtain ⟨h, hM, hC, hF⟩ : ∃ h8, MW G s0.heap.size h8 H ∧ CW h8 A tg (up3 (srS G A sg k (nm, ho, n + 1, va_up T n ti, va_up U n x, k_lv (k_put (F, z, v, d) 0 x) 4, (some (li, wa, on, si)))) (cd (k + 1) 13 0) (some (eO 0 [.int li, .int wa, .int (nI 0), .long si]))) ∧ cFr h0 tg0 h8 tg := ⟨_, hM, hC9, hF⟩
        refine W.eq (g2 := F0 mt 73 ls []) rfl ?_
        exact m_vret C hM hS (Nat.le_of_ble_eq_true rfl) (Nat.le_of_ble_eq_true rfl) dX2_take_73 ⟨rfl, A, tg, (by rw [← eA0]; exact fun y9 hy9 => eA y9 (cd_14n hy9 (by decide)) (cd_14n hy9 (by decide)) (cd_14n hy9 (by decide))), (by rw [x_see_a f_5]; exact hC.less (fun y9 e9 h9 => (congrFun (srS_p13 (a2 := (li, wa, 0, si))) y9).trans h9)), hF⟩
      · -- of 70
        subst hv
        have hF := hF.trans hF8
        obtain ⟨h, hM, hC, hF⟩ : ∃ h8, MW G s0.heap.size h8 H ∧ CW h8 A tg (up3 (srS G A sg k (nm, ho, n + 1, va_up T n ti, va_up U n x, k_lv (k_put (F, z, v, d) 0 x) 4, (some (li, wa, on, si)))) (cd (k + 1) 13 0) (some (eO 0 [.int li, .int wa, .int (nI 1), .long ((lN ti))]))) ∧ cFr h0 tg0 h8 tg := ⟨_, hM, hC9, hF⟩
        refine W.eq (g2 := F0 mt 73 ls []) rfl ?_
        exact m_vret C hM hS (Nat.le_of_ble_eq_true rfl) (Nat.le_of_ble_eq_true rfl) dX2_take_73 ⟨rfl, A, tg, (by rw [← eA0]; exact fun y9 hy9 => eA y9 (cd_14n hy9 (by decide)) (cd_14n hy9 (by decide)) (cd_14n hy9 (by decide))), (by rw [x_see_b f_6 f_7]; exact hC.less (fun y9 e9 h9 => (congrFun (srS_p13 (a2 := (li, wa, 1, lN ti))) y9).trans h9)), hF⟩
      · -- of 70
        subst hv
        have hF := hF.trans hF8
        obtain ⟨h, hM, hC, hF⟩ : ∃ h8, MW G s0.heap.size h8 H ∧ CW h8 A tg (srS G A sg k (nm, ho, n + 1, va_up T n ti, va_up U n x, k_lv (k_put (F, z, v, d) 0 x) 4, (some (li, wa, on, si)))) ∧ cFr h0 tg0 h8 tg := ⟨_, hM, hC9, hF⟩
        refine W.eq (g2 := F0 mt 73 ls []) rfl ?_
        exact m_vret C hM hS (Nat.le_of_ble_eq_true rfl) (Nat.le_of_ble_eq_true rfl) dX2_take_73 ⟨rfl, A, tg, (by rw [← eA0]; exact fun y9 hy9 => eA y9 (cd_14n hy9 (by decide)) (cd_14n hy9 (by decide)) (cd_14n hy9 (by decide))), (by rw [x_see_c f_8 f_9]; exact hC), hF⟩
