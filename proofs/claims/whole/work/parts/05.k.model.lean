set_option maxRecDepth 100000 in
set_option maxHeartbeats 4000000 in
theorem c_X6_add {l : Launch} {G : mG} {a0 : Array Value} {s0 : State} (Z : mZ l G a0 s0) (h0 : Hp) (m : Nat) (q : Nat → Nat) (st : Ms) (hW : MdlW G h0 m q st) (x : Int32) (w : Int32) (hk : Mok st) (hA : ∀ k : Nat, k < st_many st → st_n st k < 120 → AddOK st k w) : mM l G s0 yX6_add cX6_add 4 (some .int) 2 50 0 0 h0 [.ref m, .int x, .int w] (fun v h9 => (∃ k : Nat, (k < st_many st) ∧ (x = nI k) ∧ ((-10000) ≤ w ∧ w ≤ nI 10000) ∧ (¬ (st_n st k = 120 ∨ (0 < st_n st k ∧ st_T st (120 * k + (st_n st k - 1)) = st_now st))) ∧ v = some (.int (nI (st_n st k + 1))) ∧ MdlW G h9 m q (s_add st k w) ∧ mFr h0 h9 m q) ∨ (∃ k : Nat, (k < st_many st) ∧ (x = nI k) ∧ (¬ ((-10000) ≤ w ∧ w ≤ nI 10000)) ∧ v = some (.int (nI 0)) ∧ MdlW G h9 m q (se_now (se_many (se_thr st (nI 2)) (st_many st)) (st_now st)) ∧ mFr h0 h9 m q) ∨ (∃ k : Nat, (k < st_many st) ∧ (x = nI k) ∧ ((-10000) ≤ w ∧ w ≤ nI 10000) ∧ (st_n st k = 120 ∨ (0 < st_n st k ∧ st_T st (120 * k + (st_n st k - 1)) = st_now st)) ∧ v = some (.int (nI 0)) ∧ MdlW G h9 m q (se_now (se_many (se_thr st (nI 3)) (st_many st)) (st_now st)) ∧ mFr h0 h9 m q) ∨ ((∀ k : Nat, k < st_many st → x ≠ nI k) ∧ v = some (.int (nI 0)) ∧ MdlW G h9 m q (se_now (se_many (se_thr st (nI 1)) (st_many st)) (st_now st)) ∧ mFr h0 h9 m q)) := by
  refine mM_in RX6 "add" rfl rfl (by decide +kernel) (Nat.le_of_ble_eq_true rfl) ?_
  intro p e s mt below meth c H locs C hM hS ls hl
  have hx := C.1
  have hb := C.2.1
  have hown := C.2.2.2.1
  have hE := C.2.2.2.2.2.2.1
  have hl : lv_has ls 4 [(0, .ref m), (1, .int x), (2, .int w)] := hl
  have hF : mFr h0 h0 m q := mFr.rf
  obtain ⟨h, hM, hW, hF⟩ : ∃ h9, MW G s0.heap.size h9 H ∧ MdlW G h9 m q st ∧ mFr h0 h9 m q := ⟨_, hM, hW, hF⟩
  have hm := hk.1
  have hnow := hk.2.1
  refine lv_aload_n hx hb dX6_add_0 rfl (lv_at hl 0 rfl) ?_
  refine lv_iload_n hx hb dX6_add_1 rfl (lv_at hl 1 rfl) ?_
  refine m_callV Z C hM hS (As := [.int x]) (rest := []) (c_X6_looks Z h m q st hW x (show st_many st ≤ 10 by omega)) yi_X6_looks ml_X6_83 hW.o rfl ⟨Nat.le_of_ble_eq_true rfl, Nat.le_of_ble_eq_true rfl⟩ (Nat.le_of_ble_eq_true rfl) hl.1 rfl rfl dX6_add_2 ⟨Nat.le_of_ble_eq_true rfl, Nat.le_of_ble_eq_true rfl⟩ (fun v h9 H locs hv hM hS => ?_)
  rcases hv with ⟨k_1, f_2, f_3, hv, hW, hF9⟩ | ⟨f_4, hv, hW, hF9⟩
  · -- of 2
    subst hv
    have hF := hF.trans hF9
    obtain ⟨h, hM, hW, hF⟩ : ∃ h8, MW G s0.heap.size h8 H ∧ MdlW G h8 m q (sM (nI 0) (st_many st) (st_now st) (st_nm st) (st_ho st) (st_n st) (st_V st) (st_bd st) (st_T st) (st_sk st) (st_sz st) (st_hv st) (st_ha st) (st_li st) (st_wa st) (st_on st) (st_si st)) ∧ mFr h0 h8 m q := ⟨_, hM, hW, hF⟩
    subst f_3
    refine W.eq (g2 := F0 mt 5 ls [.int (nI 1)]) rfl ?_
    obtain ⟨hn, hT, hZ, hsi, hbd, hhv⟩ := hk.2.2 k_1 f_2
    refine lv_if_ne (tgt := 10) hx hb dX6_add_5 (by decide) (fun _ => ?_) (fun q => absurd q (by decide))
    refine lv_iload_n hx hb dX6_add_10 rfl (lv_at hl 2 rfl) ?_
    refine lv_sipush (v := -10000) hx hb dX6_add_11 (by decide) ?_
    refine lv_sipush (v := nI 10000) hx hb dX6_add_14 (by decide) ?_
    refine m_callS Z C hM hS (As := [.int w, .int ((-10000)), .int (nI 10000)]) (rest := []) (c_X6_isIn Z h w ((-10000)) (nI 10000)) yi_X6_isIn ml_X6_60 ⟨Nat.le_of_ble_eq_true rfl, Nat.le_of_ble_eq_true rfl⟩ (Nat.le_of_ble_eq_true rfl) hl.1 rfl rfl dX6_add_17 ⟨Nat.le_of_ble_eq_true rfl, Nat.le_of_ble_eq_true rfl⟩ (fun v h9 H locs hv hM hS => ?_)
    obtain ⟨hv, hh9⟩ := hv
    rcases Decidable.em (((-10000)) ≤ w ∧ w ≤ (nI 10000)) with g_6 | g_6
    · -- of 17: True
      replace hv : v = some (.int (b2 (((-10000)) ≤ w ∧ w ≤ (nI 10000)))) := hv
      rw [b2_t g_6] at hv
      subst hv
      rw [hh9] at hM
      refine W.eq (g2 := F0 mt 20 ls [.int (nI 1)]) rfl ?_
      refine lv_if_ne (tgt := 29) hx hb dX6_add_20 (by decide) (fun _ => ?_) (fun q => absurd q (by decide))
      refine lv_aload_n hx hb dX6_add_29 rfl (lv_at hl 0 rfl) ?_
      refine m_get Z C hM hW.o K_X6 5 (by decide) fl_X6_16 (v := .ref (q 5)) rfl dX6_add_30 ?_
      refine lv_iload_n hx hb dX6_add_33 rfl (lv_at hl 1 rfl) ?_
      refine m_iald Z C hM (f := fun k => nI ((st_n st) k)) hW.a5 k_1 rfl (by omega) (by decide) dX6_add_34 ?_
      refine lv_bipush (v := nI 120) hx hb dX6_add_35 (by decide) ?_
      refine lv_icmp_eq (tgt := 70) hx hb dX6_add_37 (by decide) (fun c_8 => ?_) (fun c_8 => ?_)
      · -- 37 t
        have c_8 : (st_n st) k_1 = 120 := (nI_eq (by omega) (by decide)).mp c_8
        refine lv_aload_n hx hb dX6_add_70 rfl (lv_at hl 0 rfl) ?_
        refine lv_iconst (v := nI 3) hx hb dX6_add_71 (by decide) ?_
        refine m_callV Z C hM hS (As := [.int (nI 3)]) (rest := []) (c_X6_fail Z h m q (sM (nI 0) (st_many st) (st_now st) (st_nm st) (st_ho st) (st_n st) (st_V st) (st_bd st) (st_T st) (st_sk st) (st_sz st) (st_hv st) (st_ha st) (st_li st) (st_wa st) (st_on st) (st_si st)) hW (nI 3)) yi_X6_fail ml_X6_68 hW.o rfl ⟨Nat.le_of_ble_eq_true rfl, Nat.le_of_ble_eq_true rfl⟩ (Nat.le_of_ble_eq_true rfl) hl.1 rfl rfl dX6_add_72 ⟨Nat.le_of_ble_eq_true rfl, Nat.le_of_ble_eq_true rfl⟩ (fun v h9 H locs hv hM hS => ?_)
        obtain ⟨hv, hW, hF9⟩ := hv
        subst hv
        have hF := hF.trans hF9
        obtain ⟨h, hM, hW, hF⟩ : ∃ h8, MW G s0.heap.size h8 H ∧ MdlW G h8 m q (sM ((nI 3)) (st_many st) (st_now st) (st_nm st) (st_ho st) (st_n st) (st_V st) (st_bd st) (st_T st) (st_sk st) (st_sz st) (st_hv st) (st_ha st) (st_li st) (st_wa st) (st_on st) (st_si st)) ∧ mFr h0 h8 m q := ⟨_, hM, hW, hF⟩
        refine W.eq (g2 := F0 mt 75 ls [.int (nI 0)]) rfl ?_
        exact m_iret C hM hS (Nat.le_of_ble_eq_true rfl) (Nat.le_of_ble_eq_true rfl) dX6_add_75 (Or.inr (Or.inr (Or.inl ⟨k_1, f_2, rfl, g_6, (Or.inl c_8), rfl, hW, hF⟩)))
      · -- 37 f
        have c_8 : ¬ (st_n st) k_1 = 120 := fun q => c_8 ((nI_eq (by omega) (by decide)).mpr q)
        refine lv_aload_n hx hb dX6_add_40 rfl (lv_at hl 0 rfl) ?_
        refine m_get Z C hM hW.o K_X6 5 (by decide) fl_X6_16 (v := .ref (q 5)) rfl dX6_add_41 ?_
        refine lv_iload_n hx hb dX6_add_44 rfl (lv_at hl 1 rfl) ?_
        refine m_iald Z C hM (f := fun k => nI ((st_n st) k)) hW.a5 k_1 rfl (by omega) (by decide) dX6_add_45 ?_
        refine lv_if_le (tgt := 76) hx hb dX6_add_46 (by decide) (fun c_9 => ?_) (fun c_9 => ?_)
        · -- 46 t
          have c_9 : (st_n st) k_1 ≤ 0 := (nI_leI (by omega) (by decide)).mp c_9
          refine lv_aload_n hx hb dX6_add_76 rfl (lv_at hl 0 rfl) ?_
          refine m_get Z C hM hW.o K_X6 8 (by decide) fl_X6_25 (v := .ref (q 8)) rfl dX6_add_77 ?_
          refine lv_bipush (v := nI 120) hx hb dX6_add_80 (by decide) ?_
          refine lv_iload_n hx hb dX6_add_82 rfl (lv_at hl 1 rfl) ?_
          refine n_imul hx hb dX6_add_83 ?_
          refine lv_aload_n hx hb dX6_add_84 rfl (lv_at hl 0 rfl) ?_
          refine m_get Z C hM hW.o K_X6 5 (by decide) fl_X6_16 (v := .ref (q 5)) rfl dX6_add_85 ?_
          refine lv_iload_n hx hb dX6_add_88 rfl (lv_at hl 1 rfl) ?_
          refine m_iald Z C hM (f := fun k => nI ((st_n st) k)) hW.a5 k_1 rfl (by omega) (by decide) dX6_add_89 ?_
          refine n_iadd hx hb dX6_add_90 ?_
          refine lv_aload_n hx hb dX6_add_91 rfl (lv_at hl 0 rfl) ?_
          refine m_get Z C hM hW.o K_X6 2 (by decide) fl_X6_75 (v := .long (lN (st_now st))) rfl dX6_add_92 ?_
          refine m_last Z C hM hS hW.a8 (x := lN (st_now st)) (120 * k_1 + (st_n st) k_1) rfl (by omega) (by decide) dX6_add_95 (fun H locs hM hS => ?_)
          obtain ⟨h, hM, hW, hF⟩ : ∃ h9, MW G s0.heap.size h9 H ∧ MdlW G h9 m q (sM (nI 0) (st_many st) (st_now st) (st_nm st) (st_ho st) (st_n st) (st_V st) (st_bd st) (va_up (st_T st) (120 * k_1 + (st_n st) k_1) (st_now st)) (st_sk st) (st_sz st) (st_hv st) (st_ha st) (st_li st) (st_wa st) (st_on st) (st_si st)) ∧ mFr h0 h9 m q := ⟨_, hM, hW.u8 (120 * k_1 + (st_n st) k_1) (st_now st), hF.a 8 _ (by decide) (by decide)⟩
          refine lv_aload_n hx hb dX6_add_96 rfl (lv_at hl 0 rfl) ?_
          refine m_get Z C hM hW.o K_X6 6 (by decide) fl_X6_19 (v := .ref (q 6)) rfl dX6_add_97 ?_
          refine lv_bipush (v := nI 120) hx hb dX6_add_100 (by decide) ?_
          refine lv_iload_n hx hb dX6_add_102 rfl (lv_at hl 1 rfl) ?_
          refine n_imul hx hb dX6_add_103 ?_
          refine lv_aload_n hx hb dX6_add_104 rfl (lv_at hl 0 rfl) ?_
          refine m_get Z C hM hW.o K_X6 5 (by decide) fl_X6_16 (v := .ref (q 5)) rfl dX6_add_105 ?_
          refine lv_iload_n hx hb dX6_add_108 rfl (lv_at hl 1 rfl) ?_
          refine m_iald Z C hM (f := fun k => nI ((st_n st) k)) hW.a5 k_1 rfl (by omega) (by decide) dX6_add_109 ?_
          refine n_iadd hx hb dX6_add_110 ?_
          refine lv_iload_n hx hb dX6_add_111 rfl (lv_at hl 2 rfl) ?_
          refine m_iast Z C hM hS hW.a6 (x := w) (120 * k_1 + (st_n st) k_1) rfl (by omega) (by decide) dX6_add_112 (fun H locs hM hS => ?_)
          obtain ⟨h, hM, hW, hF⟩ : ∃ h9, MW G s0.heap.size h9 H ∧ MdlW G h9 m q (sM (nI 0) (st_many st) (st_now st) (st_nm st) (st_ho st) (st_n st) (va_up (st_V st) (120 * k_1 + (st_n st) k_1) w) (st_bd st) (va_up (st_T st) (120 * k_1 + (st_n st) k_1) (st_now st)) (st_sk st) (st_sz st) (st_hv st) (st_ha st) (st_li st) (st_wa st) (st_on st) (st_si st)) ∧ mFr h0 h9 m q := ⟨_, hM, hW.u6 (120 * k_1 + (st_n st) k_1) w, hF.a 6 _ (by decide) (by decide)⟩
          refine lv_aload_n hx hb dX6_add_113 rfl (lv_at hl 0 rfl) ?_
          refine m_get Z C hM hW.o K_X6 5 (by decide) fl_X6_16 (v := .ref (q 5)) rfl dX6_add_114 ?_
          refine lv_iload_n hx hb dX6_add_117 rfl (lv_at hl 1 rfl) ?_
          refine lv_dup2_11 hx hb dX6_add_118 rfl rfl ?_
          refine m_iald Z C hM (f := fun k => nI ((st_n st) k)) hW.a5 k_1 rfl (by omega) (by decide) dX6_add_119 ?_
          refine lv_iconst (v := nI 1) hx hb dX6_add_120 (by decide) ?_
          refine n_iadd hx hb dX6_add_121 ?_
          refine m_iast Z C hM hS hW.a5 (x := nI ((st_n st) k_1 + 1)) k_1 rfl (by omega) (by decide) dX6_add_122 (fun H locs hM hS => ?_)
          obtain ⟨h, hM, hW, hF⟩ : ∃ h9, MW G s0.heap.size h9 H ∧ MdlW G h9 m q (sM (nI 0) (st_many st) (st_now st) (st_nm st) (st_ho st) (va_up (st_n st) k_1 ((st_n st) k_1 + 1)) (va_up (st_V st) (120 * k_1 + (st_n st) k_1) w) (st_bd st) (va_up (st_T st) (120 * k_1 + (st_n st) k_1) (st_now st)) (st_sk st) (st_sz st) (st_hv st) (st_ha st) (st_li st) (st_wa st) (st_on st) (st_si st)) ∧ mFr h0 h9 m q := ⟨_, hM, hW.u5 k_1 ((st_n st) k_1 + 1), hF.a 5 _ (by decide) (by decide)⟩
          obtain ⟨s1, es1⟩ : ∃ x, x = s_tv st k_1 w := ⟨_, rfl⟩
          replace hW : MdlW G h m q (s_tv st k_1 w) := hW
          rw [← es1] at hW
          have hnn : ¬ (st_n st k_1 = 120 ∨ (0 < st_n st k_1 ∧ st_T st (120 * k_1 + (st_n st k_1 - 1)) = st_now st)) := by intro q; rcases q with q | q <;> omega
          obtain ⟨hA1, hA2⟩ := hA k_1 f_2 (by omega)
          have hs1 : st_sz s1 (6 * k_1 + 0) < 8 := by rw [es1, s_tv_sz]; exact hA1
          rw [← es1] at hA2
          refine lv_aload_n hx hb dX6_add_123 rfl (lv_at hl 0 rfl) ?_
          refine lv_iload_n hx hb dX6_add_124 rfl (lv_at hl 1 rfl) ?_
          refine lv_iconst (v := nI 0) hx hb dX6_add_125 (by decide) ?_
          refine lv_iload_n hx hb dX6_add_126 rfl (lv_at hl 2 rfl) ?_
          refine m_callV Z C hM hS (As := [.int (nI k_1), .int (nI 0), .int w]) (rest := []) (c_X6_holds Z h m q s1 hW k_1 0 w (show k_1 < 10 by omega) (show 0 < 6 by omega) (show 8 * (6 * k_1 + 0) + st_sz s1 (6 * k_1 + 0) < 480 by omega) (show st_sz s1 (6 * k_1 + 0) < 1000000 by omega)) yi_X6_holds ml_X6_79 hW.o rfl ⟨Nat.le_of_ble_eq_true rfl, Nat.le_of_ble_eq_true rfl⟩ (Nat.le_of_ble_eq_true rfl) hl.1 rfl rfl dX6_add_127 ⟨Nat.le_of_ble_eq_true rfl, Nat.le_of_ble_eq_true rfl⟩ (fun v h9 H locs hv hM hS => ?_)
          obtain ⟨hv, hW, hF9⟩ := hv
          subst hv
          have hF := hF.trans hF9
          obtain ⟨su_10, esu_10⟩ : ∃ x, x = s_ho s1 k_1 0 w := ⟨_, rfl⟩
          rw [← esu_10] at hW
          obtain ⟨h, hM, hW, hF⟩ : ∃ h8, MW G s0.heap.size h8 H ∧ MdlW G h8 m q (su_10) ∧ mFr h0 h8 m q := ⟨_, hM, hW, hF⟩
          refine W.eq (g2 := F0 mt 130 ls []) rfl ?_
          refine lv_iconst (v := nI 0) hx hb dX6_add_130 (by decide) ?_
          refine lv_istore_n (lv' := [(3, .int (nI 0)), (0, .ref m), (1, .int (nI k_1)), (2, .int w)]) hx hb dX6_add_131 rfl hl (by decide) rfl (fun ls hl => ?_)
          have lp_11 : ∀ (fu : Nat) (h : Hp) (y : Nat), 6 < y + fu → y ≤ 6 → MdlW G h m q (s_lv su_10 k_1 y) → mFr h0 h m q → ∀ (H : Heap) (locs : List Loc), MW G s0.heap.size h H → va_S (fun q => s0.heap.size ≤ q) s.heap H locs → ∀ ls : Array Slot, lv_has ls 4 [(3, .int (nI y)), (0, .ref m), (1, .int (nI k_1)), (2, .int w)] → W p l e (mRm 2 50 0 0) s mt ([.ref m, .int (nI k_1), .int w] : List Value).toArray below meth c H locs 0 0 (MQ below (mQc G s0 (fun v h9 => (∃ k : Nat, (k < st_many st) ∧ ((nI k_1) = nI k) ∧ ((-10000) ≤ w ∧ w ≤ nI 10000) ∧ (¬ (st_n st k = 120 ∨ (0 < st_n st k ∧ st_T st (120 * k + (st_n st k - 1)) = st_now st))) ∧ v = some (.int (nI (st_n st k + 1))) ∧ MdlW G h9 m q (s_add st k w) ∧ mFr h0 h9 m q) ∨ (∃ k : Nat, (k < st_many st) ∧ ((nI k_1) = nI k) ∧ (¬ ((-10000) ≤ w ∧ w ≤ nI 10000)) ∧ v = some (.int (nI 0)) ∧ MdlW G h9 m q (se_now (se_many (se_thr st (nI 2)) (st_many st)) (st_now st)) ∧ mFr h0 h9 m q) ∨ (∃ k : Nat, (k < st_many st) ∧ ((nI k_1) = nI k) ∧ ((-10000) ≤ w ∧ w ≤ nI 10000) ∧ (st_n st k = 120 ∨ (0 < st_n st k ∧ st_T st (120 * k + (st_n st k - 1)) = st_now st)) ∧ v = some (.int (nI 0)) ∧ MdlW G h9 m q (se_now (se_many (se_thr st (nI 3)) (st_many st)) (st_now st)) ∧ mFr h0 h9 m q) ∨ ((∀ k : Nat, k < st_many st → (nI k_1) ≠ nI k) ∧ v = some (.int (nI 0)) ∧ MdlW G h9 m q (se_now (se_many (se_thr st (nI 1)) (st_many st)) (st_now st)) ∧ mFr h0 h9 m q))) ([.ref m, .int (nI k_1), .int w] : List Value).toArray s 0 0 (fun q => s0.heap.size ≤ q)) (F0 mt 132 ls []) := by
            intro fu
            induction fu with
            | zero => intro h y hfu _ _ _; exact absurd hfu (by omega)
            | succ fu ih =>
              intro h y hfu hy6 hW hF H locs hM hS ls hl
              rw [← esu_10] at hA2
              obtain ⟨su, esu⟩ : ∃ x, x = s_lv su_10 k_1 y := ⟨_, rfl⟩
              rw [← esu] at hW
              have hA3 := hA2 y
              rw [← esu] at hA3
              refine lv_iload_n hx hb dX6_add_132 rfl (lv_at hl 0 rfl) ?_
              refine lv_bipush (v := nI 6) hx hb dX6_add_133 (by decide) ?_
              refine lv_icmp_ge (tgt := 166) hx hb dX6_add_135 (by decide) (fun c_12 => ?_) (fun c_12 => ?_)
              · -- 135 t
                have c_12 : 6 ≤ y := (nI_leI (by decide) (by omega)).mp c_12
                obtain rfl : y = 6 := by omega
                have hn3 : st_n su k_1 = st_n st k_1 + 1 := by rw [esu, s_lv_n, esu_10, s_ho_n, es1, s_tv_n, va_up_self]
                refine lv_aload_n hx hb dX6_add_166 rfl (lv_at hl 1 rfl) ?_
                refine m_get Z C hM hW.o K_X6 12 (by decide) fl_X6_38 (v := .ref (q 12)) rfl dX6_add_167 ?_
                refine lv_iload_n hx hb dX6_add_170 rfl (lv_at hl 2 rfl) ?_
                refine m_iald Z C hM (f := st_ha su) hW.a12 k_1 rfl (by omega) (by decide) dX6_add_171 ?_
                refine lv_iconst (v := nI 1) hx hb dX6_add_172 (by decide) ?_
                refine lv_icmp_ne (tgt := 190) hx hb dX6_add_173 (by decide) (fun c_13 => ?_) (fun c_13 => ?_)
                · -- 173 t
                  refine lv_iconst (v := nI 0) hx hb dX6_add_190 (by decide) ?_
                  refine lv_istore_n (lv' := [(3, .int (nI 0)), (0, .ref m), (1, .int (nI k_1)), (2, .int w)]) hx hb dX6_add_191 rfl hl (by decide) rfl (fun ls hl => ?_)
                  refine lv_iload_n hx hb dX6_add_192 rfl (lv_at hl 0 rfl) ?_
                  refine lv_if_eq (tgt := 215) hx hb dX6_add_193 (by decide) (fun _ => ?_) (fun q => absurd (by decide) q)
                  refine lv_aload_n hx hb dX6_add_215 rfl (lv_at hl 1 rfl) ?_
                  refine m_get Z C hM hW.o K_X6 15 (by decide) fl_X6_47 (v := .ref (q 15)) rfl dX6_add_216 ?_
                  refine lv_iload_n hx hb dX6_add_219 rfl (lv_at hl 2 rfl) ?_
                  refine lv_iload_n hx hb dX6_add_220 rfl (lv_at hl 0 rfl) ?_
                  refine lv_if_eq (tgt := 228) hx hb dX6_add_221 (by decide) (fun _ => ?_) (fun q => absurd (by decide) q)
                  refine lv_iconst (v := nI 0) hx hb dX6_add_228 (by decide) ?_
                  refine m_iast Z C hM hS hW.a15 (x := nI 0) k_1 rfl (by omega) (by decide) dX6_add_229 (fun H locs hM hS => ?_)
                  obtain ⟨h, hM, hW, hF⟩ : ∃ h9, MW G s0.heap.size h9 H ∧ MdlW G h9 m q (sM (st_thr su) (st_many su) (st_now su) (st_nm su) (st_ho su) (st_n su) (st_V su) (st_bd su) (st_T su) (st_sk su) (st_sz su) (st_hv su) (st_ha su) (st_li su) (st_wa su) (va_up (st_on su) k_1 (nI 0)) (st_si su)) ∧ mFr h0 h9 m q := ⟨_, hM, hW.u15 k_1 (nI 0), hF.a 15 _ (by decide) (by decide)⟩
                  refine lv_aload_n hx hb dX6_add_230 rfl (lv_at hl 1 rfl) ?_
                  refine m_get Z C hM hW.o K_X6 5 (by decide) fl_X6_16 (v := .ref (q 5)) rfl dX6_add_231 ?_
                  refine lv_iload_n hx hb dX6_add_234 rfl (lv_at hl 2 rfl) ?_
                  refine m_iald Z C hM (f := fun k => nI ((st_n su) k)) hW.a5 k_1 rfl (by omega) (by decide) dX6_add_235 ?_
                  have e9 : s_add st k_1 w = sM (st_thr su) (st_many su) (st_now su) (st_nm su) (st_ho su) (st_n su) (st_V su) (st_bd su) (st_T su) (st_sk su) (st_sz su) (st_hv su) (st_ha su) (st_li su) (st_wa su) (va_up (st_on su) k_1 (nI 0)) (st_si su) := by unfold s_add; rw [← es1, ← esu_10, ← esu]; unfold s_se; rw [if_neg (fun q => c_13 q.1), if_neg (fun q => (fun q => c_13 q.1) q.1)]
                  rw [← e9] at hW
                  exact m_iret C hM hS (Nat.le_of_ble_eq_true rfl) (Nat.le_of_ble_eq_true rfl) dX6_add_236 (Or.inl ⟨k_1, f_2, rfl, g_6, hnn, (by rw [hn3]), hW, hF⟩)
                · -- 173 f
                  refine lv_iload_n hx hb dX6_add_176 rfl (lv_at hl 3 rfl) ?_
                  refine lv_aload_n hx hb dX6_add_177 rfl (lv_at hl 1 rfl) ?_
                  refine m_get Z C hM hW.o K_X6 13 (by decide) fl_X6_41 (v := .ref (q 13)) rfl dX6_add_178 ?_
                  refine lv_iload_n hx hb dX6_add_181 rfl (lv_at hl 2 rfl) ?_
                  refine m_iald Z C hM (f := st_li su) hW.a13 k_1 rfl (by omega) (by decide) dX6_add_182 ?_
                  refine lv_icmp_le (tgt := 190) hx hb dX6_add_183 (by decide) (fun c_16 => ?_) (fun c_16 => ?_)
                  · -- 183 t
                    refine lv_iconst (v := nI 0) hx hb dX6_add_190 (by decide) ?_
                    refine lv_istore_n (lv' := [(3, .int (nI 0)), (0, .ref m), (1, .int (nI k_1)), (2, .int w)]) hx hb dX6_add_191 rfl hl (by decide) rfl (fun ls hl => ?_)
                    refine lv_iload_n hx hb dX6_add_192 rfl (lv_at hl 0 rfl) ?_
                    refine lv_if_eq (tgt := 215) hx hb dX6_add_193 (by decide) (fun _ => ?_) (fun q => absurd (by decide) q)
                    refine lv_aload_n hx hb dX6_add_215 rfl (lv_at hl 1 rfl) ?_
                    refine m_get Z C hM hW.o K_X6 15 (by decide) fl_X6_47 (v := .ref (q 15)) rfl dX6_add_216 ?_
                    refine lv_iload_n hx hb dX6_add_219 rfl (lv_at hl 2 rfl) ?_
                    refine lv_iload_n hx hb dX6_add_220 rfl (lv_at hl 0 rfl) ?_
                    refine lv_if_eq (tgt := 228) hx hb dX6_add_221 (by decide) (fun _ => ?_) (fun q => absurd (by decide) q)
                    refine lv_iconst (v := nI 0) hx hb dX6_add_228 (by decide) ?_
                    refine m_iast Z C hM hS hW.a15 (x := nI 0) k_1 rfl (by omega) (by decide) dX6_add_229 (fun H locs hM hS => ?_)
                    obtain ⟨h, hM, hW, hF⟩ : ∃ h9, MW G s0.heap.size h9 H ∧ MdlW G h9 m q (sM (st_thr su) (st_many su) (st_now su) (st_nm su) (st_ho su) (st_n su) (st_V su) (st_bd su) (st_T su) (st_sk su) (st_sz su) (st_hv su) (st_ha su) (st_li su) (st_wa su) (va_up (st_on su) k_1 (nI 0)) (st_si su)) ∧ mFr h0 h9 m q := ⟨_, hM, hW.u15 k_1 (nI 0), hF.a 15 _ (by decide) (by decide)⟩
                    refine lv_aload_n hx hb dX6_add_230 rfl (lv_at hl 1 rfl) ?_
                    refine m_get Z C hM hW.o K_X6 5 (by decide) fl_X6_16 (v := .ref (q 5)) rfl dX6_add_231 ?_
                    refine lv_iload_n hx hb dX6_add_234 rfl (lv_at hl 2 rfl) ?_
                    refine m_iald Z C hM (f := fun k => nI ((st_n su) k)) hW.a5 k_1 rfl (by omega) (by decide) dX6_add_235 ?_
                    have e9 : s_add st k_1 w = sM (st_thr su) (st_many su) (st_now su) (st_nm su) (st_ho su) (st_n su) (st_V su) (st_bd su) (st_T su) (st_sk su) (st_sz su) (st_hv su) (st_ha su) (st_li su) (st_wa su) (va_up (st_on su) k_1 (nI 0)) (st_si su) := by unfold s_add; rw [← es1, ← esu_10, ← esu]; unfold s_se; rw [if_neg (fun q => i_len c_16 q.2), if_neg (fun q => (fun q => i_len c_16 q.2) q.1)]
                    rw [← e9] at hW
                    exact m_iret C hM hS (Nat.le_of_ble_eq_true rfl) (Nat.le_of_ble_eq_true rfl) dX6_add_236 (Or.inl ⟨k_1, f_2, rfl, g_6, hnn, (by rw [hn3]), hW, hF⟩)
                  · -- 183 f
                    refine lv_iconst (v := nI 1) hx hb dX6_add_186 (by decide) ?_
                    refine lv_goto (tgt := 191) hx hb dX6_add_187 (by decide) ?_
                    refine lv_istore_n (lv' := [(3, .int (nI 1)), (0, .ref m), (1, .int (nI k_1)), (2, .int w)]) hx hb dX6_add_191 rfl hl (by decide) rfl (fun ls hl => ?_)
                    refine lv_iload_n hx hb dX6_add_192 rfl (lv_at hl 0 rfl) ?_
                    refine lv_if_eq (tgt := 215) hx hb dX6_add_193 (by decide) (fun q => absurd q (by decide)) (fun _ => ?_)
                    refine lv_aload_n hx hb dX6_add_196 rfl (lv_at hl 1 rfl) ?_
                    refine m_get Z C hM hW.o K_X6 15 (by decide) fl_X6_47 (v := .ref (q 15)) rfl dX6_add_197 ?_
                    refine lv_iload_n hx hb dX6_add_200 rfl (lv_at hl 2 rfl) ?_
                    refine m_iald Z C hM (f := st_on su) hW.a15 k_1 rfl (by omega) (by decide) dX6_add_201 ?_
                    refine lv_if_ne (tgt := 215) hx hb dX6_add_202 (by decide) (fun c_20 => ?_) (fun c_20 => ?_)
                    · -- 202 t
                      refine lv_aload_n hx hb dX6_add_215 rfl (lv_at hl 1 rfl) ?_
                      refine m_get Z C hM hW.o K_X6 15 (by decide) fl_X6_47 (v := .ref (q 15)) rfl dX6_add_216 ?_
                      refine lv_iload_n hx hb dX6_add_219 rfl (lv_at hl 2 rfl) ?_
                      refine lv_iload_n hx hb dX6_add_220 rfl (lv_at hl 0 rfl) ?_
                      refine lv_if_eq (tgt := 228) hx hb dX6_add_221 (by decide) (fun q => absurd q (by decide)) (fun _ => ?_)
                      refine lv_iconst (v := nI 1) hx hb dX6_add_224 (by decide) ?_
                      refine lv_goto (tgt := 229) hx hb dX6_add_225 (by decide) ?_
                      refine m_iast Z C hM hS hW.a15 (x := nI 1) k_1 rfl (by omega) (by decide) dX6_add_229 (fun H locs hM hS => ?_)
                      obtain ⟨h, hM, hW, hF⟩ : ∃ h9, MW G s0.heap.size h9 H ∧ MdlW G h9 m q (sM (st_thr su) (st_many su) (st_now su) (st_nm su) (st_ho su) (st_n su) (st_V su) (st_bd su) (st_T su) (st_sk su) (st_sz su) (st_hv su) (st_ha su) (st_li su) (st_wa su) (va_up (st_on su) k_1 (nI 1)) (st_si su)) ∧ mFr h0 h9 m q := ⟨_, hM, hW.u15 k_1 (nI 1), hF.a 15 _ (by decide) (by decide)⟩
                      refine lv_aload_n hx hb dX6_add_230 rfl (lv_at hl 1 rfl) ?_
                      refine m_get Z C hM hW.o K_X6 5 (by decide) fl_X6_16 (v := .ref (q 5)) rfl dX6_add_231 ?_
                      refine lv_iload_n hx hb dX6_add_234 rfl (lv_at hl 2 rfl) ?_
                      refine m_iald Z C hM (f := fun k => nI ((st_n su) k)) hW.a5 k_1 rfl (by omega) (by decide) dX6_add_235 ?_
                      have e9 : s_add st k_1 w = sM (st_thr su) (st_many su) (st_now su) (st_nm su) (st_ho su) (st_n su) (st_V su) (st_bd su) (st_T su) (st_sk su) (st_sz su) (st_hv su) (st_ha su) (st_li su) (st_wa su) (va_up (st_on su) k_1 (nI 1)) (st_si su) := by unfold s_add; rw [← es1, ← esu_10, ← esu]; unfold s_se; rw [if_pos (show z_hg su k_1 w from ⟨c_13, i_nle c_16⟩), if_neg (fun q => c_20 q.2)]
                      rw [← e9] at hW
                      exact m_iret C hM hS (Nat.le_of_ble_eq_true rfl) (Nat.le_of_ble_eq_true rfl) dX6_add_236 (Or.inl ⟨k_1, f_2, rfl, g_6, hnn, (by rw [hn3]), hW, hF⟩)
                    · -- 202 f
                      refine lv_aload_n hx hb dX6_add_205 rfl (lv_at hl 1 rfl) ?_
                      refine m_get Z C hM hW.o K_X6 16 (by decide) fl_X6_50 (v := .ref (q 16)) rfl dX6_add_206 ?_
                      refine lv_iload_n hx hb dX6_add_209 rfl (lv_at hl 2 rfl) ?_
                      refine lv_aload_n hx hb dX6_add_210 rfl (lv_at hl 1 rfl) ?_
                      refine m_get Z C hM hW.o K_X6 2 (by decide) fl_X6_75 (v := .long (lN (st_now su))) rfl dX6_add_211 ?_
                      refine m_last Z C hM hS hW.a16 (x := lN (st_now su)) k_1 rfl (by omega) (by decide) dX6_add_214 (fun H locs hM hS => ?_)
                      obtain ⟨h, hM, hW, hF⟩ : ∃ h9, MW G s0.heap.size h9 H ∧ MdlW G h9 m q (sM (st_thr su) (st_many su) (st_now su) (st_nm su) (st_ho su) (st_n su) (st_V su) (st_bd su) (st_T su) (st_sk su) (st_sz su) (st_hv su) (st_ha su) (st_li su) (st_wa su) (st_on su) (va_up (st_si su) k_1 (st_now su))) ∧ mFr h0 h9 m q := ⟨_, hM, hW.u16 k_1 (st_now su), hF.a 16 _ (by decide) (by decide)⟩
                      refine lv_aload_n hx hb dX6_add_215 rfl (lv_at hl 1 rfl) ?_
                      refine m_get Z C hM hW.o K_X6 15 (by decide) fl_X6_47 (v := .ref (q 15)) rfl dX6_add_216 ?_
                      refine lv_iload_n hx hb dX6_add_219 rfl (lv_at hl 2 rfl) ?_
                      refine lv_iload_n hx hb dX6_add_220 rfl (lv_at hl 0 rfl) ?_
                      refine lv_if_eq (tgt := 228) hx hb dX6_add_221 (by decide) (fun q => absurd q (by decide)) (fun _ => ?_)
                      refine lv_iconst (v := nI 1) hx hb dX6_add_224 (by decide) ?_
                      refine lv_goto (tgt := 229) hx hb dX6_add_225 (by decide) ?_
                      refine m_iast Z C hM hS hW.a15 (x := nI 1) k_1 rfl (by omega) (by decide) dX6_add_229 (fun H locs hM hS => ?_)
                      obtain ⟨h, hM, hW, hF⟩ : ∃ h9, MW G s0.heap.size h9 H ∧ MdlW G h9 m q (sM (st_thr su) (st_many su) (st_now su) (st_nm su) (st_ho su) (st_n su) (st_V su) (st_bd su) (st_T su) (st_sk su) (st_sz su) (st_hv su) (st_ha su) (st_li su) (st_wa su) (va_up (st_on su) k_1 (nI 1)) (va_up (st_si su) k_1 (st_now su))) ∧ mFr h0 h9 m q := ⟨_, hM, hW.u15 k_1 (nI 1), hF.a 15 _ (by decide) (by decide)⟩
                      refine lv_aload_n hx hb dX6_add_230 rfl (lv_at hl 1 rfl) ?_
                      refine m_get Z C hM hW.o K_X6 5 (by decide) fl_X6_16 (v := .ref (q 5)) rfl dX6_add_231 ?_
                      refine lv_iload_n hx hb dX6_add_234 rfl (lv_at hl 2 rfl) ?_
                      refine m_iald Z C hM (f := fun k => nI ((st_n su) k)) hW.a5 k_1 rfl (by omega) (by decide) dX6_add_235 ?_
                      have e9 : s_add st k_1 w = sM (st_thr su) (st_many su) (st_now su) (st_nm su) (st_ho su) (st_n su) (st_V su) (st_bd su) (st_T su) (st_sk su) (st_sz su) (st_hv su) (st_ha su) (st_li su) (st_wa su) (va_up (st_on su) k_1 (nI 1)) (va_up (st_si su) k_1 (st_now su)) := by unfold s_add; rw [← es1, ← esu_10, ← esu]; unfold s_se; rw [if_pos (show z_hg su k_1 w from ⟨c_13, i_nle c_16⟩), if_pos ⟨(show z_hg su k_1 w from ⟨c_13, i_nle c_16⟩), c_20⟩]
                      rw [← e9] at hW
                      exact m_iret C hM hS (Nat.le_of_ble_eq_true rfl) (Nat.le_of_ble_eq_true rfl) dX6_add_236 (Or.inl ⟨k_1, f_2, rfl, g_6, hnn, (by rw [hn3]), hW, hF⟩)
              · -- 135 f
                have c_12 : ¬ 6 ≤ y := fun q => c_12 ((nI_leI (by decide) (by omega)).mpr q)
                have hA8 := (hA3 (by omega)).1
                refine lv_aload_n hx hb dX6_add_138 rfl (lv_at hl 1 rfl) ?_
                refine m_get Z C hM hW.o K_X6 10 (by decide) fl_X6_32 (v := .ref (q 10)) rfl dX6_add_139 ?_
                refine lv_bipush (v := nI 6) hx hb dX6_add_142 (by decide) ?_
                refine lv_iload_n hx hb dX6_add_144 rfl (lv_at hl 2 rfl) ?_
                refine n_imul hx hb dX6_add_145 ?_
                refine lv_iload_n hx hb dX6_add_146 rfl (lv_at hl 0 rfl) ?_
                refine n_iadd hx hb dX6_add_147 ?_
                refine m_iald Z C hM (f := fun k => nI ((st_sz su) k)) hW.a10 (6 * k_1 + y) rfl (by omega) (by decide) dX6_add_148 ?_
                refine lv_bipush (v := nI 8) hx hb dX6_add_149 (by decide) ?_
                refine lv_icmp_ne (tgt := 160) hx hb dX6_add_151 (by decide) (fun c_23 => ?_) (fun c_23 => ?_)
                · -- 151 t
                  have c_23 : ¬ (st_sz su) (6 * k_1 + y) = 8 := fun q => c_23 ((nI_eq (by omega) (by decide)).mpr q)
                  refine lv_iinc (v := nI (y + 1)) (lv' := [(3, .int (nI (y + 1))), (0, .ref m), (1, .int (nI k_1)), (2, .int w)]) hx hb dX6_add_160 hl (k := 0) rfl (nI_add _ _) (by decide) rfl (fun ls hl => ?_)
                  refine lv_goto (tgt := 132) hx hb dX6_add_163 (by decide) ?_
                  have e9 : s_lv su_10 k_1 (y + 1) = su := by rw [s_lv, ← esu, if_neg c_23]
                  rw [← e9] at hW
                  exact ih h (y + 1) (by omega) (by omega) hW hF H locs hM hS ls (lv_sub hl [0, 1, 2, 3] rfl)
                · -- 151 f
                  have c_23 : (st_sz su) (6 * k_1 + y) = 8 := (nI_eq (by omega) (by decide)).mp c_23
                  obtain ⟨hA4, hA5, hA6, hA7⟩ := (hA3 (by omega)).2 c_23
                  refine lv_aload_n hx hb dX6_add_154 rfl (lv_at hl 1 rfl) ?_
                  refine lv_iload_n hx hb dX6_add_155 rfl (lv_at hl 2 rfl) ?_
                  refine lv_iload_n hx hb dX6_add_156 rfl (lv_at hl 0 rfl) ?_
                  refine m_callV Z C hM hS (As := [.int (nI k_1), .int (nI y)]) (rest := []) (c_X6_halves Z h m q su hW k_1 y (show k_1 < 10 by omega) (show y < 5 by omega) (show st_sz su (6 * k_1 + (y + 1)) ≤ 4 by omega) (show st_hv su (6 * k_1 + y) < 1000000 by omega) (show st_bd su k_1 < 1000000 by omega)) yi_X6_halves ml_X6_91 hW.o rfl ⟨Nat.le_of_ble_eq_true rfl, Nat.le_of_ble_eq_true rfl⟩ (Nat.le_of_ble_eq_true rfl) hl.1 rfl rfl dX6_add_157 ⟨Nat.le_of_ble_eq_true rfl, Nat.le_of_ble_eq_true rfl⟩ (fun v h9 H locs hv hM hS => ?_)
                  obtain ⟨hv, hW, hF9⟩ := hv
                  subst hv
                  have hF := hF.trans hF9
                  obtain ⟨su_24, esu_24⟩ : ∃ x, x = s_hs su k_1 y := ⟨_, rfl⟩
                  rw [← esu_24] at hW
                  obtain ⟨h, hM, hW, hF⟩ : ∃ h8, MW G s0.heap.size h8 H ∧ MdlW G h8 m q (su_24) ∧ mFr h0 h8 m q := ⟨_, hM, hW, hF⟩
                  refine W.eq (g2 := F0 mt 160 ls []) rfl ?_
                  refine lv_iinc (v := nI (y + 1)) (lv' := [(3, .int (nI (y + 1))), (0, .ref m), (1, .int (nI k_1)), (2, .int w)]) hx hb dX6_add_160 hl (k := 0) rfl (nI_add _ _) (by decide) rfl (fun ls hl => ?_)
                  refine lv_goto (tgt := 132) hx hb dX6_add_163 (by decide) ?_
                  have e9 : s_lv su_10 k_1 (y + 1) = su_24 := by rw [s_lv, ← esu, if_pos c_23, ← esu_24]
                  rw [← e9] at hW
                  exact ih h (y + 1) (by omega) (by omega) hW hF H locs hM hS ls (lv_sub hl [0, 1, 2, 3] rfl)
          exact lp_11 7 h 0 (by omega) (by omega) hW hF H locs hM hS ls (lv_sub hl [0, 1, 2, 3] rfl)
        · -- 46 f
          have c_9 : ¬ (st_n st) k_1 ≤ 0 := fun q => c_9 ((nI_leI (by omega) (by decide)).mpr q)
          refine lv_aload_n hx hb dX6_add_49 rfl (lv_at hl 0 rfl) ?_
          refine lv_iload_n hx hb dX6_add_50 rfl (lv_at hl 1 rfl) ?_
          refine lv_aload_n hx hb dX6_add_51 rfl (lv_at hl 0 rfl) ?_
          refine m_get Z C hM hW.o K_X6 5 (by decide) fl_X6_16 (v := .ref (q 5)) rfl dX6_add_52 ?_
          refine lv_iload_n hx hb dX6_add_55 rfl (lv_at hl 1 rfl) ?_
          refine m_iald Z C hM (f := fun k => nI ((st_n st) k)) hW.a5 k_1 rfl (by omega) (by decide) dX6_add_56 ?_
          refine lv_iconst (v := nI 1) hx hb dX6_add_57 (by decide) ?_
          refine n_isub hx hb (by omega) dX6_add_58 ?_
          refine m_callV Z C hM hS (As := [.int (nI k_1), .int (nI ((st_n st) k_1 - 1))]) (rest := []) (c_X6_time Z h m q (sM (nI 0) (st_many st) (st_now st) (st_nm st) (st_ho st) (st_n st) (st_V st) (st_bd st) (st_T st) (st_sk st) (st_sz st) (st_hv st) (st_ha st) (st_li st) (st_wa st) (st_on st) (st_si st)) hW k_1 ((st_n st) k_1 - 1) (show k_1 < 10 by omega) (show ((st_n st) k_1 - 1) < 120 by omega)) yi_X6_time ml_X6_87 hW.o rfl ⟨Nat.le_of_ble_eq_true rfl, Nat.le_of_ble_eq_true rfl⟩ (Nat.le_of_ble_eq_true rfl) hl.1 rfl rfl dX6_add_59 ⟨Nat.le_of_ble_eq_true rfl, Nat.le_of_ble_eq_true rfl⟩ (fun v h9 H locs hv hM hS => ?_)
          obtain ⟨hv, hh9⟩ := hv
          subst hv
          rw [hh9] at hM
          refine W.eq (g2 := F0 mt 62 ls [.long (lN (st_T st (120 * k_1 + ((st_n st) k_1 - 1))))]) rfl ?_
          have hTl := hT (st_n st k_1 - 1) (by omega)
          refine lv_aload_n hx hb dX6_add_62 rfl (lv_at hl 0 rfl) ?_
          refine m_get Z C hM hW.o K_X6 2 (by decide) fl_X6_75 (v := .long (lN (st_now st))) rfl dX6_add_63 ?_
          refine W.lcmp hx hb dX6_add_66 ?_
          refine n_lc_ne (tgt := 76) hx hb dX6_add_67 (by decide) (fun c_25 => ?_) (fun c_25 => ?_)
          · -- 67 t
            have c_25 : ¬ st_T st (120 * k_1 + ((st_n st) k_1 - 1)) = st_now st := fun q => c_25 ((lN_eq (by omega) (by omega)).mpr q)
            refine lv_aload_n hx hb dX6_add_76 rfl (lv_at hl 0 rfl) ?_
            refine m_get Z C hM hW.o K_X6 8 (by decide) fl_X6_25 (v := .ref (q 8)) rfl dX6_add_77 ?_
            refine lv_bipush (v := nI 120) hx hb dX6_add_80 (by decide) ?_
            refine lv_iload_n hx hb dX6_add_82 rfl (lv_at hl 1 rfl) ?_
            refine n_imul hx hb dX6_add_83 ?_
            refine lv_aload_n hx hb dX6_add_84 rfl (lv_at hl 0 rfl) ?_
            refine m_get Z C hM hW.o K_X6 5 (by decide) fl_X6_16 (v := .ref (q 5)) rfl dX6_add_85 ?_
            refine lv_iload_n hx hb dX6_add_88 rfl (lv_at hl 1 rfl) ?_
            refine m_iald Z C hM (f := fun k => nI ((st_n st) k)) hW.a5 k_1 rfl (by omega) (by decide) dX6_add_89 ?_
            refine n_iadd hx hb dX6_add_90 ?_
            refine lv_aload_n hx hb dX6_add_91 rfl (lv_at hl 0 rfl) ?_
            refine m_get Z C hM hW.o K_X6 2 (by decide) fl_X6_75 (v := .long (lN (st_now st))) rfl dX6_add_92 ?_
            refine m_last Z C hM hS hW.a8 (x := lN (st_now st)) (120 * k_1 + (st_n st) k_1) rfl (by omega) (by decide) dX6_add_95 (fun H locs hM hS => ?_)
            obtain ⟨h, hM, hW, hF⟩ : ∃ h9, MW G s0.heap.size h9 H ∧ MdlW G h9 m q (sM (nI 0) (st_many st) (st_now st) (st_nm st) (st_ho st) (st_n st) (st_V st) (st_bd st) (va_up (st_T st) (120 * k_1 + (st_n st) k_1) (st_now st)) (st_sk st) (st_sz st) (st_hv st) (st_ha st) (st_li st) (st_wa st) (st_on st) (st_si st)) ∧ mFr h0 h9 m q := ⟨_, hM, hW.u8 (120 * k_1 + (st_n st) k_1) (st_now st), hF.a 8 _ (by decide) (by decide)⟩
            refine lv_aload_n hx hb dX6_add_96 rfl (lv_at hl 0 rfl) ?_
            refine m_get Z C hM hW.o K_X6 6 (by decide) fl_X6_19 (v := .ref (q 6)) rfl dX6_add_97 ?_
            refine lv_bipush (v := nI 120) hx hb dX6_add_100 (by decide) ?_
            refine lv_iload_n hx hb dX6_add_102 rfl (lv_at hl 1 rfl) ?_
            refine n_imul hx hb dX6_add_103 ?_
            refine lv_aload_n hx hb dX6_add_104 rfl (lv_at hl 0 rfl) ?_
            refine m_get Z C hM hW.o K_X6 5 (by decide) fl_X6_16 (v := .ref (q 5)) rfl dX6_add_105 ?_
            refine lv_iload_n hx hb dX6_add_108 rfl (lv_at hl 1 rfl) ?_
            refine m_iald Z C hM (f := fun k => nI ((st_n st) k)) hW.a5 k_1 rfl (by omega) (by decide) dX6_add_109 ?_
            refine n_iadd hx hb dX6_add_110 ?_
            refine lv_iload_n hx hb dX6_add_111 rfl (lv_at hl 2 rfl) ?_
            refine m_iast Z C hM hS hW.a6 (x := w) (120 * k_1 + (st_n st) k_1) rfl (by omega) (by decide) dX6_add_112 (fun H locs hM hS => ?_)
            obtain ⟨h, hM, hW, hF⟩ : ∃ h9, MW G s0.heap.size h9 H ∧ MdlW G h9 m q (sM (nI 0) (st_many st) (st_now st) (st_nm st) (st_ho st) (st_n st) (va_up (st_V st) (120 * k_1 + (st_n st) k_1) w) (st_bd st) (va_up (st_T st) (120 * k_1 + (st_n st) k_1) (st_now st)) (st_sk st) (st_sz st) (st_hv st) (st_ha st) (st_li st) (st_wa st) (st_on st) (st_si st)) ∧ mFr h0 h9 m q := ⟨_, hM, hW.u6 (120 * k_1 + (st_n st) k_1) w, hF.a 6 _ (by decide) (by decide)⟩
            refine lv_aload_n hx hb dX6_add_113 rfl (lv_at hl 0 rfl) ?_
            refine m_get Z C hM hW.o K_X6 5 (by decide) fl_X6_16 (v := .ref (q 5)) rfl dX6_add_114 ?_
            refine lv_iload_n hx hb dX6_add_117 rfl (lv_at hl 1 rfl) ?_
            refine lv_dup2_11 hx hb dX6_add_118 rfl rfl ?_
            refine m_iald Z C hM (f := fun k => nI ((st_n st) k)) hW.a5 k_1 rfl (by omega) (by decide) dX6_add_119 ?_
            refine lv_iconst (v := nI 1) hx hb dX6_add_120 (by decide) ?_
            refine n_iadd hx hb dX6_add_121 ?_
            refine m_iast Z C hM hS hW.a5 (x := nI ((st_n st) k_1 + 1)) k_1 rfl (by omega) (by decide) dX6_add_122 (fun H locs hM hS => ?_)
            obtain ⟨h, hM, hW, hF⟩ : ∃ h9, MW G s0.heap.size h9 H ∧ MdlW G h9 m q (sM (nI 0) (st_many st) (st_now st) (st_nm st) (st_ho st) (va_up (st_n st) k_1 ((st_n st) k_1 + 1)) (va_up (st_V st) (120 * k_1 + (st_n st) k_1) w) (st_bd st) (va_up (st_T st) (120 * k_1 + (st_n st) k_1) (st_now st)) (st_sk st) (st_sz st) (st_hv st) (st_ha st) (st_li st) (st_wa st) (st_on st) (st_si st)) ∧ mFr h0 h9 m q := ⟨_, hM, hW.u5 k_1 ((st_n st) k_1 + 1), hF.a 5 _ (by decide) (by decide)⟩
            obtain ⟨s1, es1⟩ : ∃ x, x = s_tv st k_1 w := ⟨_, rfl⟩
            replace hW : MdlW G h m q (s_tv st k_1 w) := hW
            rw [← es1] at hW
            have hnn : ¬ (st_n st k_1 = 120 ∨ (0 < st_n st k_1 ∧ st_T st (120 * k_1 + (st_n st k_1 - 1)) = st_now st)) := by intro q; rcases q with q | q; exact c_8 q; exact c_25 q.2
            obtain ⟨hA1, hA2⟩ := hA k_1 f_2 (by omega)
            have hs1 : st_sz s1 (6 * k_1 + 0) < 8 := by rw [es1, s_tv_sz]; exact hA1
            rw [← es1] at hA2
            refine lv_aload_n hx hb dX6_add_123 rfl (lv_at hl 0 rfl) ?_
            refine lv_iload_n hx hb dX6_add_124 rfl (lv_at hl 1 rfl) ?_
            refine lv_iconst (v := nI 0) hx hb dX6_add_125 (by decide) ?_
            refine lv_iload_n hx hb dX6_add_126 rfl (lv_at hl 2 rfl) ?_
            refine m_callV Z C hM hS (As := [.int (nI k_1), .int (nI 0), .int w]) (rest := []) (c_X6_holds Z h m q s1 hW k_1 0 w (show k_1 < 10 by omega) (show 0 < 6 by omega) (show 8 * (6 * k_1 + 0) + st_sz s1 (6 * k_1 + 0) < 480 by omega) (show st_sz s1 (6 * k_1 + 0) < 1000000 by omega)) yi_X6_holds ml_X6_79 hW.o rfl ⟨Nat.le_of_ble_eq_true rfl, Nat.le_of_ble_eq_true rfl⟩ (Nat.le_of_ble_eq_true rfl) hl.1 rfl rfl dX6_add_127 ⟨Nat.le_of_ble_eq_true rfl, Nat.le_of_ble_eq_true rfl⟩ (fun v h9 H locs hv hM hS => ?_)
            obtain ⟨hv, hW, hF9⟩ := hv
            subst hv
            have hF := hF.trans hF9
            obtain ⟨su_26, esu_26⟩ : ∃ x, x = s_ho s1 k_1 0 w := ⟨_, rfl⟩
            rw [← esu_26] at hW
            obtain ⟨h, hM, hW, hF⟩ : ∃ h8, MW G s0.heap.size h8 H ∧ MdlW G h8 m q (su_26) ∧ mFr h0 h8 m q := ⟨_, hM, hW, hF⟩
            refine W.eq (g2 := F0 mt 130 ls []) rfl ?_
            refine lv_iconst (v := nI 0) hx hb dX6_add_130 (by decide) ?_
            refine lv_istore_n (lv' := [(3, .int (nI 0)), (0, .ref m), (1, .int (nI k_1)), (2, .int w)]) hx hb dX6_add_131 rfl hl (by decide) rfl (fun ls hl => ?_)
            have lp_27 : ∀ (fu : Nat) (h : Hp) (y : Nat), 6 < y + fu → y ≤ 6 → MdlW G h m q (s_lv su_26 k_1 y) → mFr h0 h m q → ∀ (H : Heap) (locs : List Loc), MW G s0.heap.size h H → va_S (fun q => s0.heap.size ≤ q) s.heap H locs → ∀ ls : Array Slot, lv_has ls 4 [(3, .int (nI y)), (0, .ref m), (1, .int (nI k_1)), (2, .int w)] → W p l e (mRm 2 50 0 0) s mt ([.ref m, .int (nI k_1), .int w] : List Value).toArray below meth c H locs 0 0 (MQ below (mQc G s0 (fun v h9 => (∃ k : Nat, (k < st_many st) ∧ ((nI k_1) = nI k) ∧ ((-10000) ≤ w ∧ w ≤ nI 10000) ∧ (¬ (st_n st k = 120 ∨ (0 < st_n st k ∧ st_T st (120 * k + (st_n st k - 1)) = st_now st))) ∧ v = some (.int (nI (st_n st k + 1))) ∧ MdlW G h9 m q (s_add st k w) ∧ mFr h0 h9 m q) ∨ (∃ k : Nat, (k < st_many st) ∧ ((nI k_1) = nI k) ∧ (¬ ((-10000) ≤ w ∧ w ≤ nI 10000)) ∧ v = some (.int (nI 0)) ∧ MdlW G h9 m q (se_now (se_many (se_thr st (nI 2)) (st_many st)) (st_now st)) ∧ mFr h0 h9 m q) ∨ (∃ k : Nat, (k < st_many st) ∧ ((nI k_1) = nI k) ∧ ((-10000) ≤ w ∧ w ≤ nI 10000) ∧ (st_n st k = 120 ∨ (0 < st_n st k ∧ st_T st (120 * k + (st_n st k - 1)) = st_now st)) ∧ v = some (.int (nI 0)) ∧ MdlW G h9 m q (se_now (se_many (se_thr st (nI 3)) (st_many st)) (st_now st)) ∧ mFr h0 h9 m q) ∨ ((∀ k : Nat, k < st_many st → (nI k_1) ≠ nI k) ∧ v = some (.int (nI 0)) ∧ MdlW G h9 m q (se_now (se_many (se_thr st (nI 1)) (st_many st)) (st_now st)) ∧ mFr h0 h9 m q))) ([.ref m, .int (nI k_1), .int w] : List Value).toArray s 0 0 (fun q => s0.heap.size ≤ q)) (F0 mt 132 ls []) := by
              intro fu
              induction fu with
              | zero => intro h y hfu _ _ _; exact absurd hfu (by omega)
              | succ fu ih =>
                intro h y hfu hy6 hW hF H locs hM hS ls hl
                rw [← esu_26] at hA2
                obtain ⟨su, esu⟩ : ∃ x, x = s_lv su_26 k_1 y := ⟨_, rfl⟩
                rw [← esu] at hW
                have hA3 := hA2 y
                rw [← esu] at hA3
                refine lv_iload_n hx hb dX6_add_132 rfl (lv_at hl 0 rfl) ?_
                refine lv_bipush (v := nI 6) hx hb dX6_add_133 (by decide) ?_
                refine lv_icmp_ge (tgt := 166) hx hb dX6_add_135 (by decide) (fun c_28 => ?_) (fun c_28 => ?_)
                · -- 135 t
                  have c_28 : 6 ≤ y := (nI_leI (by decide) (by omega)).mp c_28
                  obtain rfl : y = 6 := by omega
                  have hn3 : st_n su k_1 = st_n st k_1 + 1 := by rw [esu, s_lv_n, esu_26, s_ho_n, es1, s_tv_n, va_up_self]
                  refine lv_aload_n hx hb dX6_add_166 rfl (lv_at hl 1 rfl) ?_
                  refine m_get Z C hM hW.o K_X6 12 (by decide) fl_X6_38 (v := .ref (q 12)) rfl dX6_add_167 ?_
                  refine lv_iload_n hx hb dX6_add_170 rfl (lv_at hl 2 rfl) ?_
                  refine m_iald Z C hM (f := st_ha su) hW.a12 k_1 rfl (by omega) (by decide) dX6_add_171 ?_
                  refine lv_iconst (v := nI 1) hx hb dX6_add_172 (by decide) ?_
                  refine lv_icmp_ne (tgt := 190) hx hb dX6_add_173 (by decide) (fun c_29 => ?_) (fun c_29 => ?_)
                  · -- 173 t
                    refine lv_iconst (v := nI 0) hx hb dX6_add_190 (by decide) ?_
                    refine lv_istore_n (lv' := [(3, .int (nI 0)), (0, .ref m), (1, .int (nI k_1)), (2, .int w)]) hx hb dX6_add_191 rfl hl (by decide) rfl (fun ls hl => ?_)
                    refine lv_iload_n hx hb dX6_add_192 rfl (lv_at hl 0 rfl) ?_
                    refine lv_if_eq (tgt := 215) hx hb dX6_add_193 (by decide) (fun _ => ?_) (fun q => absurd (by decide) q)
                    refine lv_aload_n hx hb dX6_add_215 rfl (lv_at hl 1 rfl) ?_
                    refine m_get Z C hM hW.o K_X6 15 (by decide) fl_X6_47 (v := .ref (q 15)) rfl dX6_add_216 ?_
                    refine lv_iload_n hx hb dX6_add_219 rfl (lv_at hl 2 rfl) ?_
                    refine lv_iload_n hx hb dX6_add_220 rfl (lv_at hl 0 rfl) ?_
                    refine lv_if_eq (tgt := 228) hx hb dX6_add_221 (by decide) (fun _ => ?_) (fun q => absurd (by decide) q)
                    refine lv_iconst (v := nI 0) hx hb dX6_add_228 (by decide) ?_
                    refine m_iast Z C hM hS hW.a15 (x := nI 0) k_1 rfl (by omega) (by decide) dX6_add_229 (fun H locs hM hS => ?_)
                    obtain ⟨h, hM, hW, hF⟩ : ∃ h9, MW G s0.heap.size h9 H ∧ MdlW G h9 m q (sM (st_thr su) (st_many su) (st_now su) (st_nm su) (st_ho su) (st_n su) (st_V su) (st_bd su) (st_T su) (st_sk su) (st_sz su) (st_hv su) (st_ha su) (st_li su) (st_wa su) (va_up (st_on su) k_1 (nI 0)) (st_si su)) ∧ mFr h0 h9 m q := ⟨_, hM, hW.u15 k_1 (nI 0), hF.a 15 _ (by decide) (by decide)⟩
                    refine lv_aload_n hx hb dX6_add_230 rfl (lv_at hl 1 rfl) ?_
                    refine m_get Z C hM hW.o K_X6 5 (by decide) fl_X6_16 (v := .ref (q 5)) rfl dX6_add_231 ?_
                    refine lv_iload_n hx hb dX6_add_234 rfl (lv_at hl 2 rfl) ?_
                    refine m_iald Z C hM (f := fun k => nI ((st_n su) k)) hW.a5 k_1 rfl (by omega) (by decide) dX6_add_235 ?_
                    have e9 : s_add st k_1 w = sM (st_thr su) (st_many su) (st_now su) (st_nm su) (st_ho su) (st_n su) (st_V su) (st_bd su) (st_T su) (st_sk su) (st_sz su) (st_hv su) (st_ha su) (st_li su) (st_wa su) (va_up (st_on su) k_1 (nI 0)) (st_si su) := by unfold s_add; rw [← es1, ← esu_26, ← esu]; unfold s_se; rw [if_neg (fun q => c_29 q.1), if_neg (fun q => (fun q => c_29 q.1) q.1)]
                    rw [← e9] at hW
                    exact m_iret C hM hS (Nat.le_of_ble_eq_true rfl) (Nat.le_of_ble_eq_true rfl) dX6_add_236 (Or.inl ⟨k_1, f_2, rfl, g_6, hnn, (by rw [hn3]), hW, hF⟩)
                  · -- 173 f
                    refine lv_iload_n hx hb dX6_add_176 rfl (lv_at hl 3 rfl) ?_
                    refine lv_aload_n hx hb dX6_add_177 rfl (lv_at hl 1 rfl) ?_
                    refine m_get Z C hM hW.o K_X6 13 (by decide) fl_X6_41 (v := .ref (q 13)) rfl dX6_add_178 ?_
                    refine lv_iload_n hx hb dX6_add_181 rfl (lv_at hl 2 rfl) ?_
                    refine m_iald Z C hM (f := st_li su) hW.a13 k_1 rfl (by omega) (by decide) dX6_add_182 ?_
                    refine lv_icmp_le (tgt := 190) hx hb dX6_add_183 (by decide) (fun c_32 => ?_) (fun c_32 => ?_)
                    · -- 183 t
                      refine lv_iconst (v := nI 0) hx hb dX6_add_190 (by decide) ?_
                      refine lv_istore_n (lv' := [(3, .int (nI 0)), (0, .ref m), (1, .int (nI k_1)), (2, .int w)]) hx hb dX6_add_191 rfl hl (by decide) rfl (fun ls hl => ?_)
                      refine lv_iload_n hx hb dX6_add_192 rfl (lv_at hl 0 rfl) ?_
                      refine lv_if_eq (tgt := 215) hx hb dX6_add_193 (by decide) (fun _ => ?_) (fun q => absurd (by decide) q)
                      refine lv_aload_n hx hb dX6_add_215 rfl (lv_at hl 1 rfl) ?_
                      refine m_get Z C hM hW.o K_X6 15 (by decide) fl_X6_47 (v := .ref (q 15)) rfl dX6_add_216 ?_
                      refine lv_iload_n hx hb dX6_add_219 rfl (lv_at hl 2 rfl) ?_
                      refine lv_iload_n hx hb dX6_add_220 rfl (lv_at hl 0 rfl) ?_
                      refine lv_if_eq (tgt := 228) hx hb dX6_add_221 (by decide) (fun _ => ?_) (fun q => absurd (by decide) q)
                      refine lv_iconst (v := nI 0) hx hb dX6_add_228 (by decide) ?_
                      refine m_iast Z C hM hS hW.a15 (x := nI 0) k_1 rfl (by omega) (by decide) dX6_add_229 (fun H locs hM hS => ?_)
                      obtain ⟨h, hM, hW, hF⟩ : ∃ h9, MW G s0.heap.size h9 H ∧ MdlW G h9 m q (sM (st_thr su) (st_many su) (st_now su) (st_nm su) (st_ho su) (st_n su) (st_V su) (st_bd su) (st_T su) (st_sk su) (st_sz su) (st_hv su) (st_ha su) (st_li su) (st_wa su) (va_up (st_on su) k_1 (nI 0)) (st_si su)) ∧ mFr h0 h9 m q := ⟨_, hM, hW.u15 k_1 (nI 0), hF.a 15 _ (by decide) (by decide)⟩
                      refine lv_aload_n hx hb dX6_add_230 rfl (lv_at hl 1 rfl) ?_
                      refine m_get Z C hM hW.o K_X6 5 (by decide) fl_X6_16 (v := .ref (q 5)) rfl dX6_add_231 ?_
                      refine lv_iload_n hx hb dX6_add_234 rfl (lv_at hl 2 rfl) ?_
                      refine m_iald Z C hM (f := fun k => nI ((st_n su) k)) hW.a5 k_1 rfl (by omega) (by decide) dX6_add_235 ?_
                      have e9 : s_add st k_1 w = sM (st_thr su) (st_many su) (st_now su) (st_nm su) (st_ho su) (st_n su) (st_V su) (st_bd su) (st_T su) (st_sk su) (st_sz su) (st_hv su) (st_ha su) (st_li su) (st_wa su) (va_up (st_on su) k_1 (nI 0)) (st_si su) := by unfold s_add; rw [← es1, ← esu_26, ← esu]; unfold s_se; rw [if_neg (fun q => i_len c_32 q.2), if_neg (fun q => (fun q => i_len c_32 q.2) q.1)]
                      rw [← e9] at hW
                      exact m_iret C hM hS (Nat.le_of_ble_eq_true rfl) (Nat.le_of_ble_eq_true rfl) dX6_add_236 (Or.inl ⟨k_1, f_2, rfl, g_6, hnn, (by rw [hn3]), hW, hF⟩)
                    · -- 183 f
                      refine lv_iconst (v := nI 1) hx hb dX6_add_186 (by decide) ?_
                      refine lv_goto (tgt := 191) hx hb dX6_add_187 (by decide) ?_
                      refine lv_istore_n (lv' := [(3, .int (nI 1)), (0, .ref m), (1, .int (nI k_1)), (2, .int w)]) hx hb dX6_add_191 rfl hl (by decide) rfl (fun ls hl => ?_)
                      refine lv_iload_n hx hb dX6_add_192 rfl (lv_at hl 0 rfl) ?_
                      refine lv_if_eq (tgt := 215) hx hb dX6_add_193 (by decide) (fun q => absurd q (by decide)) (fun _ => ?_)
                      refine lv_aload_n hx hb dX6_add_196 rfl (lv_at hl 1 rfl) ?_
                      refine m_get Z C hM hW.o K_X6 15 (by decide) fl_X6_47 (v := .ref (q 15)) rfl dX6_add_197 ?_
                      refine lv_iload_n hx hb dX6_add_200 rfl (lv_at hl 2 rfl) ?_
                      refine m_iald Z C hM (f := st_on su) hW.a15 k_1 rfl (by omega) (by decide) dX6_add_201 ?_
                      refine lv_if_ne (tgt := 215) hx hb dX6_add_202 (by decide) (fun c_36 => ?_) (fun c_36 => ?_)
                      · -- 202 t
                        refine lv_aload_n hx hb dX6_add_215 rfl (lv_at hl 1 rfl) ?_
                        refine m_get Z C hM hW.o K_X6 15 (by decide) fl_X6_47 (v := .ref (q 15)) rfl dX6_add_216 ?_
                        refine lv_iload_n hx hb dX6_add_219 rfl (lv_at hl 2 rfl) ?_
                        refine lv_iload_n hx hb dX6_add_220 rfl (lv_at hl 0 rfl) ?_
                        refine lv_if_eq (tgt := 228) hx hb dX6_add_221 (by decide) (fun q => absurd q (by decide)) (fun _ => ?_)
                        refine lv_iconst (v := nI 1) hx hb dX6_add_224 (by decide) ?_
                        refine lv_goto (tgt := 229) hx hb dX6_add_225 (by decide) ?_
                        refine m_iast Z C hM hS hW.a15 (x := nI 1) k_1 rfl (by omega) (by decide) dX6_add_229 (fun H locs hM hS => ?_)
                        obtain ⟨h, hM, hW, hF⟩ : ∃ h9, MW G s0.heap.size h9 H ∧ MdlW G h9 m q (sM (st_thr su) (st_many su) (st_now su) (st_nm su) (st_ho su) (st_n su) (st_V su) (st_bd su) (st_T su) (st_sk su) (st_sz su) (st_hv su) (st_ha su) (st_li su) (st_wa su) (va_up (st_on su) k_1 (nI 1)) (st_si su)) ∧ mFr h0 h9 m q := ⟨_, hM, hW.u15 k_1 (nI 1), hF.a 15 _ (by decide) (by decide)⟩
                        refine lv_aload_n hx hb dX6_add_230 rfl (lv_at hl 1 rfl) ?_
                        refine m_get Z C hM hW.o K_X6 5 (by decide) fl_X6_16 (v := .ref (q 5)) rfl dX6_add_231 ?_
                        refine lv_iload_n hx hb dX6_add_234 rfl (lv_at hl 2 rfl) ?_
                        refine m_iald Z C hM (f := fun k => nI ((st_n su) k)) hW.a5 k_1 rfl (by omega) (by decide) dX6_add_235 ?_
                        have e9 : s_add st k_1 w = sM (st_thr su) (st_many su) (st_now su) (st_nm su) (st_ho su) (st_n su) (st_V su) (st_bd su) (st_T su) (st_sk su) (st_sz su) (st_hv su) (st_ha su) (st_li su) (st_wa su) (va_up (st_on su) k_1 (nI 1)) (st_si su) := by unfold s_add; rw [← es1, ← esu_26, ← esu]; unfold s_se; rw [if_pos (show z_hg su k_1 w from ⟨c_29, i_nle c_32⟩), if_neg (fun q => c_36 q.2)]
                        rw [← e9] at hW
                        exact m_iret C hM hS (Nat.le_of_ble_eq_true rfl) (Nat.le_of_ble_eq_true rfl) dX6_add_236 (Or.inl ⟨k_1, f_2, rfl, g_6, hnn, (by rw [hn3]), hW, hF⟩)
                      · -- 202 f
                        refine lv_aload_n hx hb dX6_add_205 rfl (lv_at hl 1 rfl) ?_
                        refine m_get Z C hM hW.o K_X6 16 (by decide) fl_X6_50 (v := .ref (q 16)) rfl dX6_add_206 ?_
                        refine lv_iload_n hx hb dX6_add_209 rfl (lv_at hl 2 rfl) ?_
                        refine lv_aload_n hx hb dX6_add_210 rfl (lv_at hl 1 rfl) ?_
                        refine m_get Z C hM hW.o K_X6 2 (by decide) fl_X6_75 (v := .long (lN (st_now su))) rfl dX6_add_211 ?_
                        refine m_last Z C hM hS hW.a16 (x := lN (st_now su)) k_1 rfl (by omega) (by decide) dX6_add_214 (fun H locs hM hS => ?_)
                        obtain ⟨h, hM, hW, hF⟩ : ∃ h9, MW G s0.heap.size h9 H ∧ MdlW G h9 m q (sM (st_thr su) (st_many su) (st_now su) (st_nm su) (st_ho su) (st_n su) (st_V su) (st_bd su) (st_T su) (st_sk su) (st_sz su) (st_hv su) (st_ha su) (st_li su) (st_wa su) (st_on su) (va_up (st_si su) k_1 (st_now su))) ∧ mFr h0 h9 m q := ⟨_, hM, hW.u16 k_1 (st_now su), hF.a 16 _ (by decide) (by decide)⟩
                        refine lv_aload_n hx hb dX6_add_215 rfl (lv_at hl 1 rfl) ?_
                        refine m_get Z C hM hW.o K_X6 15 (by decide) fl_X6_47 (v := .ref (q 15)) rfl dX6_add_216 ?_
                        refine lv_iload_n hx hb dX6_add_219 rfl (lv_at hl 2 rfl) ?_
                        refine lv_iload_n hx hb dX6_add_220 rfl (lv_at hl 0 rfl) ?_
                        refine lv_if_eq (tgt := 228) hx hb dX6_add_221 (by decide) (fun q => absurd q (by decide)) (fun _ => ?_)
                        refine lv_iconst (v := nI 1) hx hb dX6_add_224 (by decide) ?_
                        refine lv_goto (tgt := 229) hx hb dX6_add_225 (by decide) ?_
                        refine m_iast Z C hM hS hW.a15 (x := nI 1) k_1 rfl (by omega) (by decide) dX6_add_229 (fun H locs hM hS => ?_)
                        obtain ⟨h, hM, hW, hF⟩ : ∃ h9, MW G s0.heap.size h9 H ∧ MdlW G h9 m q (sM (st_thr su) (st_many su) (st_now su) (st_nm su) (st_ho su) (st_n su) (st_V su) (st_bd su) (st_T su) (st_sk su) (st_sz su) (st_hv su) (st_ha su) (st_li su) (st_wa su) (va_up (st_on su) k_1 (nI 1)) (va_up (st_si su) k_1 (st_now su))) ∧ mFr h0 h9 m q := ⟨_, hM, hW.u15 k_1 (nI 1), hF.a 15 _ (by decide) (by decide)⟩
                        refine lv_aload_n hx hb dX6_add_230 rfl (lv_at hl 1 rfl) ?_
                        refine m_get Z C hM hW.o K_X6 5 (by decide) fl_X6_16 (v := .ref (q 5)) rfl dX6_add_231 ?_
                        refine lv_iload_n hx hb dX6_add_234 rfl (lv_at hl 2 rfl) ?_
                        refine m_iald Z C hM (f := fun k => nI ((st_n su) k)) hW.a5 k_1 rfl (by omega) (by decide) dX6_add_235 ?_
                        have e9 : s_add st k_1 w = sM (st_thr su) (st_many su) (st_now su) (st_nm su) (st_ho su) (st_n su) (st_V su) (st_bd su) (st_T su) (st_sk su) (st_sz su) (st_hv su) (st_ha su) (st_li su) (st_wa su) (va_up (st_on su) k_1 (nI 1)) (va_up (st_si su) k_1 (st_now su)) := by unfold s_add; rw [← es1, ← esu_26, ← esu]; unfold s_se; rw [if_pos (show z_hg su k_1 w from ⟨c_29, i_nle c_32⟩), if_pos ⟨(show z_hg su k_1 w from ⟨c_29, i_nle c_32⟩), c_36⟩]
                        rw [← e9] at hW
                        exact m_iret C hM hS (Nat.le_of_ble_eq_true rfl) (Nat.le_of_ble_eq_true rfl) dX6_add_236 (Or.inl ⟨k_1, f_2, rfl, g_6, hnn, (by rw [hn3]), hW, hF⟩)
                · -- 135 f
                  have c_28 : ¬ 6 ≤ y := fun q => c_28 ((nI_leI (by decide) (by omega)).mpr q)
                  have hA8 := (hA3 (by omega)).1
                  refine lv_aload_n hx hb dX6_add_138 rfl (lv_at hl 1 rfl) ?_
                  refine m_get Z C hM hW.o K_X6 10 (by decide) fl_X6_32 (v := .ref (q 10)) rfl dX6_add_139 ?_
                  refine lv_bipush (v := nI 6) hx hb dX6_add_142 (by decide) ?_
                  refine lv_iload_n hx hb dX6_add_144 rfl (lv_at hl 2 rfl) ?_
                  refine n_imul hx hb dX6_add_145 ?_
                  refine lv_iload_n hx hb dX6_add_146 rfl (lv_at hl 0 rfl) ?_
                  refine n_iadd hx hb dX6_add_147 ?_
                  refine m_iald Z C hM (f := fun k => nI ((st_sz su) k)) hW.a10 (6 * k_1 + y) rfl (by omega) (by decide) dX6_add_148 ?_
                  refine lv_bipush (v := nI 8) hx hb dX6_add_149 (by decide) ?_
                  refine lv_icmp_ne (tgt := 160) hx hb dX6_add_151 (by decide) (fun c_39 => ?_) (fun c_39 => ?_)
                  · -- 151 t
                    have c_39 : ¬ (st_sz su) (6 * k_1 + y) = 8 := fun q => c_39 ((nI_eq (by omega) (by decide)).mpr q)
                    refine lv_iinc (v := nI (y + 1)) (lv' := [(3, .int (nI (y + 1))), (0, .ref m), (1, .int (nI k_1)), (2, .int w)]) hx hb dX6_add_160 hl (k := 0) rfl (nI_add _ _) (by decide) rfl (fun ls hl => ?_)
                    refine lv_goto (tgt := 132) hx hb dX6_add_163 (by decide) ?_
                    have e9 : s_lv su_26 k_1 (y + 1) = su := by rw [s_lv, ← esu, if_neg c_39]
                    rw [← e9] at hW
                    exact ih h (y + 1) (by omega) (by omega) hW hF H locs hM hS ls (lv_sub hl [0, 1, 2, 3] rfl)
                  · -- 151 f
                    have c_39 : (st_sz su) (6 * k_1 + y) = 8 := (nI_eq (by omega) (by decide)).mp c_39
                    obtain ⟨hA4, hA5, hA6, hA7⟩ := (hA3 (by omega)).2 c_39
                    refine lv_aload_n hx hb dX6_add_154 rfl (lv_at hl 1 rfl) ?_
                    refine lv_iload_n hx hb dX6_add_155 rfl (lv_at hl 2 rfl) ?_
                    refine lv_iload_n hx hb dX6_add_156 rfl (lv_at hl 0 rfl) ?_
                    refine m_callV Z C hM hS (As := [.int (nI k_1), .int (nI y)]) (rest := []) (c_X6_halves Z h m q su hW k_1 y (show k_1 < 10 by omega) (show y < 5 by omega) (show st_sz su (6 * k_1 + (y + 1)) ≤ 4 by omega) (show st_hv su (6 * k_1 + y) < 1000000 by omega) (show st_bd su k_1 < 1000000 by omega)) yi_X6_halves ml_X6_91 hW.o rfl ⟨Nat.le_of_ble_eq_true rfl, Nat.le_of_ble_eq_true rfl⟩ (Nat.le_of_ble_eq_true rfl) hl.1 rfl rfl dX6_add_157 ⟨Nat.le_of_ble_eq_true rfl, Nat.le_of_ble_eq_true rfl⟩ (fun v h9 H locs hv hM hS => ?_)
                    obtain ⟨hv, hW, hF9⟩ := hv
                    subst hv
                    have hF := hF.trans hF9
                    obtain ⟨su_40, esu_40⟩ : ∃ x, x = s_hs su k_1 y := ⟨_, rfl⟩
                    rw [← esu_40] at hW
                    obtain ⟨h, hM, hW, hF⟩ : ∃ h8, MW G s0.heap.size h8 H ∧ MdlW G h8 m q (su_40) ∧ mFr h0 h8 m q := ⟨_, hM, hW, hF⟩
                    refine W.eq (g2 := F0 mt 160 ls []) rfl ?_
                    refine lv_iinc (v := nI (y + 1)) (lv' := [(3, .int (nI (y + 1))), (0, .ref m), (1, .int (nI k_1)), (2, .int w)]) hx hb dX6_add_160 hl (k := 0) rfl (nI_add _ _) (by decide) rfl (fun ls hl => ?_)
                    refine lv_goto (tgt := 132) hx hb dX6_add_163 (by decide) ?_
                    have e9 : s_lv su_26 k_1 (y + 1) = su_40 := by rw [s_lv, ← esu, if_pos c_39, ← esu_40]
                    rw [← e9] at hW
                    exact ih h (y + 1) (by omega) (by omega) hW hF H locs hM hS ls (lv_sub hl [0, 1, 2, 3] rfl)
            exact lp_27 7 h 0 (by omega) (by omega) hW hF H locs hM hS ls (lv_sub hl [0, 1, 2, 3] rfl)
          · -- 67 f
            have c_25 : st_T st (120 * k_1 + ((st_n st) k_1 - 1)) = st_now st := (lN_eq (by omega) (by omega)).mp c_25
            refine lv_aload_n hx hb dX6_add_70 rfl (lv_at hl 0 rfl) ?_
            refine lv_iconst (v := nI 3) hx hb dX6_add_71 (by decide) ?_
            refine m_callV Z C hM hS (As := [.int (nI 3)]) (rest := []) (c_X6_fail Z h m q (sM (nI 0) (st_many st) (st_now st) (st_nm st) (st_ho st) (st_n st) (st_V st) (st_bd st) (st_T st) (st_sk st) (st_sz st) (st_hv st) (st_ha st) (st_li st) (st_wa st) (st_on st) (st_si st)) hW (nI 3)) yi_X6_fail ml_X6_68 hW.o rfl ⟨Nat.le_of_ble_eq_true rfl, Nat.le_of_ble_eq_true rfl⟩ (Nat.le_of_ble_eq_true rfl) hl.1 rfl rfl dX6_add_72 ⟨Nat.le_of_ble_eq_true rfl, Nat.le_of_ble_eq_true rfl⟩ (fun v h9 H locs hv hM hS => ?_)
            obtain ⟨hv, hW, hF9⟩ := hv
            subst hv
            have hF := hF.trans hF9
            obtain ⟨h, hM, hW, hF⟩ : ∃ h8, MW G s0.heap.size h8 H ∧ MdlW G h8 m q (sM ((nI 3)) (st_many st) (st_now st) (st_nm st) (st_ho st) (st_n st) (st_V st) (st_bd st) (st_T st) (st_sk st) (st_sz st) (st_hv st) (st_ha st) (st_li st) (st_wa st) (st_on st) (st_si st)) ∧ mFr h0 h8 m q := ⟨_, hM, hW, hF⟩
            refine W.eq (g2 := F0 mt 75 ls [.int (nI 0)]) rfl ?_
            exact m_iret C hM hS (Nat.le_of_ble_eq_true rfl) (Nat.le_of_ble_eq_true rfl) dX6_add_75 (Or.inr (Or.inr (Or.inl ⟨k_1, f_2, rfl, g_6, (Or.inr ⟨by omega, c_25⟩), rfl, hW, hF⟩)))
    · -- of 17: False
      replace hv : v = some (.int (b2 (((-10000)) ≤ w ∧ w ≤ (nI 10000)))) := hv
      rw [b2_f g_6] at hv
      subst hv
      rw [hh9] at hM
      refine W.eq (g2 := F0 mt 20 ls [.int (nI 0)]) rfl ?_
      refine lv_if_ne (tgt := 29) hx hb dX6_add_20 (by decide) (fun q => absurd (by decide) q) (fun _ => ?_)
      refine lv_aload_n hx hb dX6_add_23 rfl (lv_at hl 0 rfl) ?_
      refine lv_iconst (v := nI 2) hx hb dX6_add_24 (by decide) ?_
      refine m_callV Z C hM hS (As := [.int (nI 2)]) (rest := []) (c_X6_fail Z h m q (sM (nI 0) (st_many st) (st_now st) (st_nm st) (st_ho st) (st_n st) (st_V st) (st_bd st) (st_T st) (st_sk st) (st_sz st) (st_hv st) (st_ha st) (st_li st) (st_wa st) (st_on st) (st_si st)) hW (nI 2)) yi_X6_fail ml_X6_68 hW.o rfl ⟨Nat.le_of_ble_eq_true rfl, Nat.le_of_ble_eq_true rfl⟩ (Nat.le_of_ble_eq_true rfl) hl.1 rfl rfl dX6_add_25 ⟨Nat.le_of_ble_eq_true rfl, Nat.le_of_ble_eq_true rfl⟩ (fun v h9 H locs hv hM hS => ?_)
      obtain ⟨hv, hW, hF9⟩ := hv
      subst hv
      have hF := hF.trans hF9
      obtain ⟨h, hM, hW, hF⟩ : ∃ h8, MW G s0.heap.size h8 H ∧ MdlW G h8 m q (sM ((nI 2)) (st_many st) (st_now st) (st_nm st) (st_ho st) (st_n st) (st_V st) (st_bd st) (st_T st) (st_sk st) (st_sz st) (st_hv st) (st_ha st) (st_li st) (st_wa st) (st_on st) (st_si st)) ∧ mFr h0 h8 m q := ⟨_, hM, hW, hF⟩
      refine W.eq (g2 := F0 mt 28 ls [.int (nI 0)]) rfl ?_
      exact m_iret C hM hS (Nat.le_of_ble_eq_true rfl) (Nat.le_of_ble_eq_true rfl) dX6_add_28 (Or.inr (Or.inl ⟨k_1, f_2, rfl, g_6, rfl, hW, hF⟩))
  · -- of 2
    subst hv
    have hF := hF.trans hF9
    obtain ⟨h, hM, hW, hF⟩ : ∃ h8, MW G s0.heap.size h8 H ∧ MdlW G h8 m q (sM (nI 1) (st_many st) (st_now st) (st_nm st) (st_ho st) (st_n st) (st_V st) (st_bd st) (st_T st) (st_sk st) (st_sz st) (st_hv st) (st_ha st) (st_li st) (st_wa st) (st_on st) (st_si st)) ∧ mFr h0 h8 m q := ⟨_, hM, hW, hF⟩
    refine W.eq (g2 := F0 mt 5 ls [.int (nI 0)]) rfl ?_
    refine lv_if_ne (tgt := 10) hx hb dX6_add_5 (by decide) (fun q => absurd (by decide) q) (fun _ => ?_)
    refine lv_iconst (v := nI 0) hx hb dX6_add_8 (by decide) ?_
    exact m_iret C hM hS (Nat.le_of_ble_eq_true rfl) (Nat.le_of_ble_eq_true rfl) dX6_add_9 (Or.inr (Or.inr (Or.inr ⟨f_4, rfl, hW, hF⟩)))
