set_option maxRecDepth 100000 in
set_option maxHeartbeats 4000000 in
theorem c_X6_setAlert {l : Launch} {G : mG} {a0 : Array Value} {s0 : State} (Z : mZ l G a0 s0) (h0 : Hp) (m : Nat) (q : Nat → Nat) (st : Ms) (hW : MdlW G h0 m q st) (x : Int32) (a : Int32) (d : Int32) (hk : Mok st) : mM l G s0 yX6_setAlert cX6_setAlert 4 (some .char) 2 43 0 0 h0 [.ref m, .int x, .int a, .int d] (fun v h9 => (∃ k : Nat, (k < st_many st) ∧ (x = nI k) ∧ ((-10000) ≤ a ∧ a ≤ nI 10000) ∧ (nI 0 ≤ d ∧ d ≤ nI 600) ∧ v = some (.int (nI (z_al (s_al st k a d) k))) ∧ MdlW G h9 m q (s_al st k a d) ∧ mFr h0 h9 m q) ∨ (∃ k : Nat, (k < st_many st) ∧ (x = nI k) ∧ (¬ (((-10000) ≤ a ∧ a ≤ nI 10000) ∧ (nI 0 ≤ d ∧ d ≤ nI 600))) ∧ v = some (.int (nI 111)) ∧ MdlW G h9 m q (se_now (se_many (se_thr st (nI 2)) (st_many st)) (st_now st)) ∧ mFr h0 h9 m q) ∨ ((∀ k : Nat, k < st_many st → x ≠ nI k) ∧ v = some (.int (nI 111)) ∧ MdlW G h9 m q (se_now (se_many (se_thr st (nI 1)) (st_many st)) (st_now st)) ∧ mFr h0 h9 m q)) := by
  refine mM_in RX6 "setAlert" rfl rfl (by decide +kernel) (Nat.le_of_ble_eq_true rfl) ?_
  intro p e s mt below meth c H locs C hM hS ls hl
  have hx := C.1
  have hb := C.2.1
  have hown := C.2.2.2.1
  have hE := C.2.2.2.2.2.2.1
  have hl : lv_has ls 4 [(0, .ref m), (1, .int x), (2, .int a), (3, .int d)] := hl
  have hF : mFr h0 h0 m q := mFr.rf
  obtain ⟨h, hM, hW, hF⟩ : ∃ h9, MW G s0.heap.size h9 H ∧ MdlW G h9 m q st ∧ mFr h0 h9 m q := ⟨_, hM, hW, hF⟩
  have hm := hk.1
  have hnow := hk.2.1
  refine lv_aload_n hx hb dX6_setAlert_0 rfl (lv_at hl 0 rfl) ?_
  refine lv_iload_n hx hb dX6_setAlert_1 rfl (lv_at hl 1 rfl) ?_
  refine m_callV Z C hM hS (As := [.int x]) (rest := []) (c_X6_looks Z h m q st hW x (show st_many st ≤ 10 by omega)) yi_X6_looks ml_X6_83 hW.o rfl ⟨Nat.le_of_ble_eq_true rfl, Nat.le_of_ble_eq_true rfl⟩ (Nat.le_of_ble_eq_true rfl) hl.1 rfl rfl dX6_setAlert_2 ⟨Nat.le_of_ble_eq_true rfl, Nat.le_of_ble_eq_true rfl⟩ (fun v h9 H locs hv hM hS => ?_)
  rcases hv with ⟨k_1, f_2, f_3, hv, hW, hF9⟩ | ⟨f_4, hv, hW, hF9⟩
  · -- of 2
    subst hv
    have hF := hF.trans hF9
    obtain ⟨h, hM, hW, hF⟩ : ∃ h8, MW G s0.heap.size h8 H ∧ MdlW G h8 m q (sM (nI 0) (st_many st) (st_now st) (st_nm st) (st_ho st) (st_n st) (st_V st) (st_bd st) (st_T st) (st_sk st) (st_sz st) (st_hv st) (st_ha st) (st_li st) (st_wa st) (st_on st) (st_si st)) ∧ mFr h0 h8 m q := ⟨_, hM, hW, hF⟩
    subst f_3
    refine W.eq (g2 := F0 mt 5 ls [.int (nI 1)]) rfl ?_
    obtain ⟨hn, hT, hZ, hsi, hbd, hhv⟩ := hk.2.2 k_1 f_2
    refine lv_if_ne (tgt := 11) hx hb dX6_setAlert_5 (by decide) (fun _ => ?_) (fun q => absurd q (by decide))
    refine lv_aload_n hx hb dX6_setAlert_11 rfl (lv_at hl 0 rfl) ?_
    refine lv_iload_n hx hb dX6_setAlert_12 rfl (lv_at hl 2 rfl) ?_
    refine lv_sipush (v := -10000) hx hb dX6_setAlert_13 (by decide) ?_
    refine lv_sipush (v := nI 10000) hx hb dX6_setAlert_16 (by decide) ?_
    refine m_callS Z C hM hS (As := [.int a, .int ((-10000)), .int (nI 10000)]) (rest := [.ref m]) (c_X6_isIn Z h a ((-10000)) (nI 10000)) yi_X6_isIn ml_X6_60 ⟨Nat.le_of_ble_eq_true rfl, Nat.le_of_ble_eq_true rfl⟩ (Nat.le_of_ble_eq_true rfl) hl.1 rfl rfl dX6_setAlert_19 ⟨Nat.le_of_ble_eq_true rfl, Nat.le_of_ble_eq_true rfl⟩ (fun v h9 H locs hv hM hS => ?_)
    obtain ⟨hv, hh9⟩ := hv
    rcases Decidable.em (((-10000)) ≤ a ∧ a ≤ (nI 10000)) with g_6 | g_6
    · -- of 19: True
      replace hv : v = some (.int (b2 (((-10000)) ≤ a ∧ a ≤ (nI 10000)))) := hv
      rw [b2_t g_6] at hv
      subst hv
      rw [hh9] at hM
      refine W.eq (g2 := F0 mt 22 ls [.int (nI 1), .ref m]) rfl ?_
      refine lv_if_eq (tgt := 40) hx hb dX6_setAlert_22 (by decide) (fun q => absurd q (by decide)) (fun _ => ?_)
      refine lv_iload_n hx hb dX6_setAlert_25 rfl (lv_at hl 3 rfl) ?_
      refine lv_iconst (v := nI 0) hx hb dX6_setAlert_26 (by decide) ?_
      refine lv_sipush (v := nI 600) hx hb dX6_setAlert_27 (by decide) ?_
      refine m_callS Z C hM hS (As := [.int d, .int (nI 0), .int (nI 600)]) (rest := [.ref m]) (c_X6_isIn Z h d (nI 0) (nI 600)) yi_X6_isIn ml_X6_60 ⟨Nat.le_of_ble_eq_true rfl, Nat.le_of_ble_eq_true rfl⟩ (Nat.le_of_ble_eq_true rfl) hl.1 rfl rfl dX6_setAlert_30 ⟨Nat.le_of_ble_eq_true rfl, Nat.le_of_ble_eq_true rfl⟩ (fun v h9 H locs hv hM hS => ?_)
      obtain ⟨hv, hh9⟩ := hv
      rcases Decidable.em ((nI 0) ≤ d ∧ d ≤ (nI 600)) with g_8 | g_8
      · -- of 30: True
        replace hv : v = some (.int (b2 ((nI 0) ≤ d ∧ d ≤ (nI 600)))) := hv
        rw [b2_t g_8] at hv
        subst hv
        rw [hh9] at hM
        refine W.eq (g2 := F0 mt 33 ls [.int (nI 1), .ref m]) rfl ?_
        refine lv_if_eq (tgt := 40) hx hb dX6_setAlert_33 (by decide) (fun q => absurd q (by decide)) (fun _ => ?_)
        refine lv_iconst (v := nI 0) hx hb dX6_setAlert_36 (by decide) ?_
        refine lv_goto (tgt := 41) hx hb dX6_setAlert_37 (by decide) ?_
        refine m_put Z C hM hS hW.o K_X6 0 (by decide) fl_X6_53 (v := .int (nI 0)) rfl rfl rfl (fs' := mObj q (sM (nI 0) (st_many st) (st_now st) (st_nm st) (st_ho st) (st_n st) (st_V st) (st_bd st) (st_T st) (st_sk st) (st_sz st) (st_hv st) (st_ha st) (st_li st) (st_wa st) (st_on st) (st_si st))) rfl (Nat.le_of_ble_eq_true rfl) dX6_setAlert_41 (fun H locs hM hS => ?_)
        obtain ⟨h, hM, hW, hF⟩ : ∃ h9, MW G s0.heap.size h9 H ∧ MdlW G h9 m q (sM (nI 0) (st_many st) (st_now st) (st_nm st) (st_ho st) (st_n st) (st_V st) (st_bd st) (st_T st) (st_sk st) (st_sz st) (st_hv st) (st_ha st) (st_li st) (st_wa st) (st_on st) (st_si st)) ∧ mFr h0 h9 m q := ⟨_, hM, hW.uo (nI 0) (st_many st) (st_now st), hF.o _⟩
        refine lv_aload_n hx hb dX6_setAlert_44 rfl (lv_at hl 0 rfl) ?_
        refine m_get Z C hM hW.o K_X6 0 (by decide) fl_X6_53 (v := .int (nI 0)) rfl dX6_setAlert_45 ?_
        refine lv_if_eq (tgt := 54) hx hb dX6_setAlert_48 (by decide) (fun _ => ?_) (fun q => absurd (by decide) q)
        refine lv_aload_n hx hb dX6_setAlert_54 rfl (lv_at hl 0 rfl) ?_
        refine m_get Z C hM hW.o K_X6 12 (by decide) fl_X6_38 (v := .ref (q 12)) rfl dX6_setAlert_55 ?_
        refine lv_iload_n hx hb dX6_setAlert_58 rfl (lv_at hl 1 rfl) ?_
        refine lv_iconst (v := nI 1) hx hb dX6_setAlert_59 (by decide) ?_
        refine m_iast Z C hM hS hW.a12 (x := nI 1) k_1 rfl (by omega) (by decide) dX6_setAlert_60 (fun H locs hM hS => ?_)
        obtain ⟨h, hM, hW, hF⟩ : ∃ h9, MW G s0.heap.size h9 H ∧ MdlW G h9 m q (sM (nI 0) (st_many st) (st_now st) (st_nm st) (st_ho st) (st_n st) (st_V st) (st_bd st) (st_T st) (st_sk st) (st_sz st) (st_hv st) (va_up (st_ha st) k_1 (nI 1)) (st_li st) (st_wa st) (st_on st) (st_si st)) ∧ mFr h0 h9 m q := ⟨_, hM, hW.u12 k_1 (nI 1), hF.a 12 _ (by decide) (by decide)⟩
        refine lv_aload_n hx hb dX6_setAlert_61 rfl (lv_at hl 0 rfl) ?_
        refine m_get Z C hM hW.o K_X6 13 (by decide) fl_X6_41 (v := .ref (q 13)) rfl dX6_setAlert_62 ?_
        refine lv_iload_n hx hb dX6_setAlert_65 rfl (lv_at hl 1 rfl) ?_
        refine lv_iload_n hx hb dX6_setAlert_66 rfl (lv_at hl 2 rfl) ?_
        refine m_iast Z C hM hS hW.a13 (x := a) k_1 rfl (by omega) (by decide) dX6_setAlert_67 (fun H locs hM hS => ?_)
        obtain ⟨h, hM, hW, hF⟩ : ∃ h9, MW G s0.heap.size h9 H ∧ MdlW G h9 m q (sM (nI 0) (st_many st) (st_now st) (st_nm st) (st_ho st) (st_n st) (st_V st) (st_bd st) (st_T st) (st_sk st) (st_sz st) (st_hv st) (va_up (st_ha st) k_1 (nI 1)) (va_up (st_li st) k_1 a) (st_wa st) (st_on st) (st_si st)) ∧ mFr h0 h9 m q := ⟨_, hM, hW.u13 k_1 a, hF.a 13 _ (by decide) (by decide)⟩
        refine lv_aload_n hx hb dX6_setAlert_68 rfl (lv_at hl 0 rfl) ?_
        refine m_get Z C hM hW.o K_X6 14 (by decide) fl_X6_44 (v := .ref (q 14)) rfl dX6_setAlert_69 ?_
        refine lv_iload_n hx hb dX6_setAlert_72 rfl (lv_at hl 1 rfl) ?_
        refine lv_iload_n hx hb dX6_setAlert_73 rfl (lv_at hl 3 rfl) ?_
        refine m_iast Z C hM hS hW.a14 (x := d) k_1 rfl (by omega) (by decide) dX6_setAlert_74 (fun H locs hM hS => ?_)
        obtain ⟨h, hM, hW, hF⟩ : ∃ h9, MW G s0.heap.size h9 H ∧ MdlW G h9 m q (sM (nI 0) (st_many st) (st_now st) (st_nm st) (st_ho st) (st_n st) (st_V st) (st_bd st) (st_T st) (st_sk st) (st_sz st) (st_hv st) (va_up (st_ha st) k_1 (nI 1)) (va_up (st_li st) k_1 a) (va_up (st_wa st) k_1 d) (st_on st) (st_si st)) ∧ mFr h0 h9 m q := ⟨_, hM, hW.u14 k_1 d, hF.a 14 _ (by decide) (by decide)⟩
        refine lv_aload_n hx hb dX6_setAlert_75 rfl (lv_at hl 0 rfl) ?_
        refine m_get Z C hM hW.o K_X6 15 (by decide) fl_X6_47 (v := .ref (q 15)) rfl dX6_setAlert_76 ?_
        refine lv_iload_n hx hb dX6_setAlert_79 rfl (lv_at hl 1 rfl) ?_
        refine lv_aload_n hx hb dX6_setAlert_80 rfl (lv_at hl 0 rfl) ?_
        refine m_get Z C hM hW.o K_X6 5 (by decide) fl_X6_16 (v := .ref (q 5)) rfl dX6_setAlert_81 ?_
        refine lv_iload_n hx hb dX6_setAlert_84 rfl (lv_at hl 1 rfl) ?_
        refine m_iald Z C hM (f := fun k => nI ((st_n st) k)) hW.a5 k_1 rfl (by omega) (by decide) dX6_setAlert_85 ?_
        refine lv_if_le (tgt := 102) hx hb dX6_setAlert_86 (by decide) (fun c_11 => ?_) (fun c_11 => ?_)
        · -- 86 t
          have c_11 : (st_n st) k_1 ≤ 0 := (nI_leI (by omega) (by decide)).mp c_11
          refine lv_iconst (v := nI 0) hx hb dX6_setAlert_102 (by decide) ?_
          refine m_iast Z C hM hS hW.a15 (x := nI 0) k_1 rfl (by omega) (by decide) dX6_setAlert_103 (fun H locs hM hS => ?_)
          obtain ⟨h, hM, hW, hF⟩ : ∃ h9, MW G s0.heap.size h9 H ∧ MdlW G h9 m q (sM (nI 0) (st_many st) (st_now st) (st_nm st) (st_ho st) (st_n st) (st_V st) (st_bd st) (st_T st) (st_sk st) (st_sz st) (st_hv st) (va_up (st_ha st) k_1 (nI 1)) (va_up (st_li st) k_1 a) (va_up (st_wa st) k_1 d) (va_up (st_on st) k_1 (nI 0)) (st_si st)) ∧ mFr h0 h9 m q := ⟨_, hM, hW.u15 k_1 (nI 0), hF.a 15 _ (by decide) (by decide)⟩
          refine lv_aload_n hx hb dX6_setAlert_104 rfl (lv_at hl 0 rfl) ?_
          refine m_get Z C hM hW.o K_X6 16 (by decide) fl_X6_50 (v := .ref (q 16)) rfl dX6_setAlert_105 ?_
          refine lv_iload_n hx hb dX6_setAlert_108 rfl (lv_at hl 1 rfl) ?_
          refine lv_aload_n hx hb dX6_setAlert_109 rfl (lv_at hl 0 rfl) ?_
          refine m_get Z C hM hW.o K_X6 2 (by decide) fl_X6_75 (v := .long (lN (st_now st))) rfl dX6_setAlert_110 ?_
          refine m_last Z C hM hS hW.a16 (x := lN (st_now st)) k_1 rfl (by omega) (by decide) dX6_setAlert_113 (fun H locs hM hS => ?_)
          obtain ⟨h, hM, hW, hF⟩ : ∃ h9, MW G s0.heap.size h9 H ∧ MdlW G h9 m q (sM (nI 0) (st_many st) (st_now st) (st_nm st) (st_ho st) (st_n st) (st_V st) (st_bd st) (st_T st) (st_sk st) (st_sz st) (st_hv st) (va_up (st_ha st) k_1 (nI 1)) (va_up (st_li st) k_1 a) (va_up (st_wa st) k_1 d) (va_up (st_on st) k_1 (nI 0)) (va_up (st_si st) k_1 (st_now st))) ∧ mFr h0 h9 m q := ⟨_, hM, hW.u16 k_1 (st_now st), hF.a 16 _ (by decide) (by decide)⟩
          have hs9 : s_al st k_1 a d = sM (nI 0) (st_many st) (st_now st) (st_nm st) (st_ho st) (st_n st) (st_V st) (st_bd st) (st_T st) (st_sk st) (st_sz st) (st_hv st) (va_up (st_ha st) k_1 (nI 1)) (va_up (st_li st) k_1 a) (va_up (st_wa st) k_1 d) (va_up (st_on st) k_1 (nI 0)) (va_up (st_si st) k_1 (st_now st)) := by unfold s_al; rw [if_neg (fun q => absurd q.1 (by omega))]
          rw [← hs9] at hW
          refine lv_aload_n hx hb dX6_setAlert_114 rfl (lv_at hl 0 rfl) ?_
          refine lv_iload_n hx hb dX6_setAlert_115 rfl (lv_at hl 1 rfl) ?_
          refine m_callV Z C hM hS (As := [.int (nI k_1)]) (rest := []) (c_X6_state Z h m q (s_al st k_1 a d) hW k_1 (Mok_al hk _ _ _) (show k_1 < st_many st from f_2)) yi_X6_state ml_X6_155 hW.o rfl ⟨Nat.le_of_ble_eq_true rfl, Nat.le_of_ble_eq_true rfl⟩ (Nat.le_of_ble_eq_true rfl) hl.1 rfl rfl dX6_setAlert_116 ⟨Nat.le_of_ble_eq_true rfl, Nat.le_of_ble_eq_true rfl⟩ (fun v h9 H locs hv hM hS => ?_)
          obtain ⟨hv, hh9⟩ := hv
          subst hv
          rw [hh9] at hM
          refine W.eq (g2 := F0 mt 119 ls [.int (nI (z_al (s_al st k_1 a d) k_1))]) rfl ?_
          exact m_zret C hM hS (Nat.le_of_ble_eq_true rfl) (Nat.le_of_ble_eq_true rfl) (z_al_nar _ _) dX6_setAlert_119 (Or.inl ⟨k_1, f_2, rfl, g_6, g_8, rfl, hW, hF⟩)
        · -- 86 f
          have c_11 : ¬ (st_n st) k_1 ≤ 0 := fun q => c_11 ((nI_leI (by omega) (by decide)).mpr q)
          refine lv_aload_n hx hb dX6_setAlert_89 rfl (lv_at hl 0 rfl) ?_
          refine lv_iload_n hx hb dX6_setAlert_90 rfl (lv_at hl 1 rfl) ?_
          refine m_callV Z C hM hS (As := [.int (nI k_1)]) (rest := [.int (nI k_1), .ref (q 15)]) (c_X6_last Z h m q (sM (nI 0) (st_many st) (st_now st) (st_nm st) (st_ho st) (st_n st) (st_V st) (st_bd st) (st_T st) (st_sk st) (st_sz st) (st_hv st) (va_up (st_ha st) k_1 (nI 1)) (va_up (st_li st) k_1 a) (va_up (st_wa st) k_1 d) (st_on st) (st_si st)) hW k_1 (show k_1 < 10 by omega) (show 0 < st_n st k_1 by omega) (show st_n st k_1 ≤ 120 by omega)) yi_X6_last ml_X6_95 hW.o rfl ⟨Nat.le_of_ble_eq_true rfl, Nat.le_of_ble_eq_true rfl⟩ (Nat.le_of_ble_eq_true rfl) hl.1 rfl rfl dX6_setAlert_91 ⟨Nat.le_of_ble_eq_true rfl, Nat.le_of_ble_eq_true rfl⟩ (fun v h9 H locs hv hM hS => ?_)
          obtain ⟨hv, hh9⟩ := hv
          subst hv
          rw [hh9] at hM
          refine W.eq (g2 := F0 mt 94 ls [.int (st_V (sM (nI 0) (st_many st) (st_now st) (st_nm st) (st_ho st) (st_n st) (st_V st) (st_bd st) (st_T st) (st_sk st) (st_sz st) (st_hv st) (va_up (st_ha st) k_1 (nI 1)) (va_up (st_li st) k_1 a) (va_up (st_wa st) k_1 d) (st_on st) (st_si st)) (120 * k_1 + (st_n (sM (nI 0) (st_many st) (st_now st) (st_nm st) (st_ho st) (st_n st) (st_V st) (st_bd st) (st_T st) (st_sk st) (st_sz st) (st_hv st) (va_up (st_ha st) k_1 (nI 1)) (va_up (st_li st) k_1 a) (va_up (st_wa st) k_1 d) (st_on st) (st_si st)) k_1 - 1))), .int (nI k_1), .ref (q 15)]) rfl ?_
          refine lv_iload_n hx hb dX6_setAlert_94 rfl (lv_at hl 2 rfl) ?_
          refine lv_icmp_le (tgt := 102) hx hb dX6_setAlert_95 (by decide) (fun c_12 => ?_) (fun c_12 => ?_)
          · -- 95 t
            refine lv_iconst (v := nI 0) hx hb dX6_setAlert_102 (by decide) ?_
            refine m_iast Z C hM hS hW.a15 (x := nI 0) k_1 rfl (by omega) (by decide) dX6_setAlert_103 (fun H locs hM hS => ?_)
            obtain ⟨h, hM, hW, hF⟩ : ∃ h9, MW G s0.heap.size h9 H ∧ MdlW G h9 m q (sM (nI 0) (st_many st) (st_now st) (st_nm st) (st_ho st) (st_n st) (st_V st) (st_bd st) (st_T st) (st_sk st) (st_sz st) (st_hv st) (va_up (st_ha st) k_1 (nI 1)) (va_up (st_li st) k_1 a) (va_up (st_wa st) k_1 d) (va_up (st_on st) k_1 (nI 0)) (st_si st)) ∧ mFr h0 h9 m q := ⟨_, hM, hW.u15 k_1 (nI 0), hF.a 15 _ (by decide) (by decide)⟩
            refine lv_aload_n hx hb dX6_setAlert_104 rfl (lv_at hl 0 rfl) ?_
            refine m_get Z C hM hW.o K_X6 16 (by decide) fl_X6_50 (v := .ref (q 16)) rfl dX6_setAlert_105 ?_
            refine lv_iload_n hx hb dX6_setAlert_108 rfl (lv_at hl 1 rfl) ?_
            refine lv_aload_n hx hb dX6_setAlert_109 rfl (lv_at hl 0 rfl) ?_
            refine m_get Z C hM hW.o K_X6 2 (by decide) fl_X6_75 (v := .long (lN (st_now st))) rfl dX6_setAlert_110 ?_
            refine m_last Z C hM hS hW.a16 (x := lN (st_now st)) k_1 rfl (by omega) (by decide) dX6_setAlert_113 (fun H locs hM hS => ?_)
            obtain ⟨h, hM, hW, hF⟩ : ∃ h9, MW G s0.heap.size h9 H ∧ MdlW G h9 m q (sM (nI 0) (st_many st) (st_now st) (st_nm st) (st_ho st) (st_n st) (st_V st) (st_bd st) (st_T st) (st_sk st) (st_sz st) (st_hv st) (va_up (st_ha st) k_1 (nI 1)) (va_up (st_li st) k_1 a) (va_up (st_wa st) k_1 d) (va_up (st_on st) k_1 (nI 0)) (va_up (st_si st) k_1 (st_now st))) ∧ mFr h0 h9 m q := ⟨_, hM, hW.u16 k_1 (st_now st), hF.a 16 _ (by decide) (by decide)⟩
            have hs9 : s_al st k_1 a d = sM (nI 0) (st_many st) (st_now st) (st_nm st) (st_ho st) (st_n st) (st_V st) (st_bd st) (st_T st) (st_sk st) (st_sz st) (st_hv st) (va_up (st_ha st) k_1 (nI 1)) (va_up (st_li st) k_1 a) (va_up (st_wa st) k_1 d) (va_up (st_on st) k_1 (nI 0)) (va_up (st_si st) k_1 (st_now st)) := by unfold s_al; rw [if_neg (fun q => i_len c_12 q.2)]
            rw [← hs9] at hW
            refine lv_aload_n hx hb dX6_setAlert_114 rfl (lv_at hl 0 rfl) ?_
            refine lv_iload_n hx hb dX6_setAlert_115 rfl (lv_at hl 1 rfl) ?_
            refine m_callV Z C hM hS (As := [.int (nI k_1)]) (rest := []) (c_X6_state Z h m q (s_al st k_1 a d) hW k_1 (Mok_al hk _ _ _) (show k_1 < st_many st from f_2)) yi_X6_state ml_X6_155 hW.o rfl ⟨Nat.le_of_ble_eq_true rfl, Nat.le_of_ble_eq_true rfl⟩ (Nat.le_of_ble_eq_true rfl) hl.1 rfl rfl dX6_setAlert_116 ⟨Nat.le_of_ble_eq_true rfl, Nat.le_of_ble_eq_true rfl⟩ (fun v h9 H locs hv hM hS => ?_)
            obtain ⟨hv, hh9⟩ := hv
            subst hv
            rw [hh9] at hM
            refine W.eq (g2 := F0 mt 119 ls [.int (nI (z_al (s_al st k_1 a d) k_1))]) rfl ?_
            exact m_zret C hM hS (Nat.le_of_ble_eq_true rfl) (Nat.le_of_ble_eq_true rfl) (z_al_nar _ _) dX6_setAlert_119 (Or.inl ⟨k_1, f_2, rfl, g_6, g_8, rfl, hW, hF⟩)
          · -- 95 f
            refine lv_iconst (v := nI 1) hx hb dX6_setAlert_98 (by decide) ?_
            refine lv_goto (tgt := 103) hx hb dX6_setAlert_99 (by decide) ?_
            refine m_iast Z C hM hS hW.a15 (x := nI 1) k_1 rfl (by omega) (by decide) dX6_setAlert_103 (fun H locs hM hS => ?_)
            obtain ⟨h, hM, hW, hF⟩ : ∃ h9, MW G s0.heap.size h9 H ∧ MdlW G h9 m q (sM (nI 0) (st_many st) (st_now st) (st_nm st) (st_ho st) (st_n st) (st_V st) (st_bd st) (st_T st) (st_sk st) (st_sz st) (st_hv st) (va_up (st_ha st) k_1 (nI 1)) (va_up (st_li st) k_1 a) (va_up (st_wa st) k_1 d) (va_up (st_on st) k_1 (nI 1)) (st_si st)) ∧ mFr h0 h9 m q := ⟨_, hM, hW.u15 k_1 (nI 1), hF.a 15 _ (by decide) (by decide)⟩
            refine lv_aload_n hx hb dX6_setAlert_104 rfl (lv_at hl 0 rfl) ?_
            refine m_get Z C hM hW.o K_X6 16 (by decide) fl_X6_50 (v := .ref (q 16)) rfl dX6_setAlert_105 ?_
            refine lv_iload_n hx hb dX6_setAlert_108 rfl (lv_at hl 1 rfl) ?_
            refine lv_aload_n hx hb dX6_setAlert_109 rfl (lv_at hl 0 rfl) ?_
            refine m_get Z C hM hW.o K_X6 2 (by decide) fl_X6_75 (v := .long (lN (st_now st))) rfl dX6_setAlert_110 ?_
            refine m_last Z C hM hS hW.a16 (x := lN (st_now st)) k_1 rfl (by omega) (by decide) dX6_setAlert_113 (fun H locs hM hS => ?_)
            obtain ⟨h, hM, hW, hF⟩ : ∃ h9, MW G s0.heap.size h9 H ∧ MdlW G h9 m q (sM (nI 0) (st_many st) (st_now st) (st_nm st) (st_ho st) (st_n st) (st_V st) (st_bd st) (st_T st) (st_sk st) (st_sz st) (st_hv st) (va_up (st_ha st) k_1 (nI 1)) (va_up (st_li st) k_1 a) (va_up (st_wa st) k_1 d) (va_up (st_on st) k_1 (nI 1)) (va_up (st_si st) k_1 (st_now st))) ∧ mFr h0 h9 m q := ⟨_, hM, hW.u16 k_1 (st_now st), hF.a 16 _ (by decide) (by decide)⟩
            have hs9 : s_al st k_1 a d = sM (nI 0) (st_many st) (st_now st) (st_nm st) (st_ho st) (st_n st) (st_V st) (st_bd st) (st_T st) (st_sk st) (st_sz st) (st_hv st) (va_up (st_ha st) k_1 (nI 1)) (va_up (st_li st) k_1 a) (va_up (st_wa st) k_1 d) (va_up (st_on st) k_1 (nI 1)) (va_up (st_si st) k_1 (st_now st)) := by unfold s_al; rw [if_pos ⟨by omega, i_nle c_12⟩]
            rw [← hs9] at hW
            refine lv_aload_n hx hb dX6_setAlert_114 rfl (lv_at hl 0 rfl) ?_
            refine lv_iload_n hx hb dX6_setAlert_115 rfl (lv_at hl 1 rfl) ?_
            refine m_callV Z C hM hS (As := [.int (nI k_1)]) (rest := []) (c_X6_state Z h m q (s_al st k_1 a d) hW k_1 (Mok_al hk _ _ _) (show k_1 < st_many st from f_2)) yi_X6_state ml_X6_155 hW.o rfl ⟨Nat.le_of_ble_eq_true rfl, Nat.le_of_ble_eq_true rfl⟩ (Nat.le_of_ble_eq_true rfl) hl.1 rfl rfl dX6_setAlert_116 ⟨Nat.le_of_ble_eq_true rfl, Nat.le_of_ble_eq_true rfl⟩ (fun v h9 H locs hv hM hS => ?_)
            obtain ⟨hv, hh9⟩ := hv
            subst hv
            rw [hh9] at hM
            refine W.eq (g2 := F0 mt 119 ls [.int (nI (z_al (s_al st k_1 a d) k_1))]) rfl ?_
            exact m_zret C hM hS (Nat.le_of_ble_eq_true rfl) (Nat.le_of_ble_eq_true rfl) (z_al_nar _ _) dX6_setAlert_119 (Or.inl ⟨k_1, f_2, rfl, g_6, g_8, rfl, hW, hF⟩)
      · -- of 30: False
        replace hv : v = some (.int (b2 ((nI 0) ≤ d ∧ d ≤ (nI 600)))) := hv
        rw [b2_f g_8] at hv
        subst hv
        rw [hh9] at hM
        refine W.eq (g2 := F0 mt 33 ls [.int (nI 0), .ref m]) rfl ?_
        refine lv_if_eq (tgt := 40) hx hb dX6_setAlert_33 (by decide) (fun _ => ?_) (fun q => absurd (by decide) q)
        refine lv_iconst (v := nI 2) hx hb dX6_setAlert_40 (by decide) ?_
        refine m_put Z C hM hS hW.o K_X6 0 (by decide) fl_X6_53 (v := .int (nI 2)) rfl rfl rfl (fs' := mObj q (sM (nI 2) (st_many st) (st_now st) (st_nm st) (st_ho st) (st_n st) (st_V st) (st_bd st) (st_T st) (st_sk st) (st_sz st) (st_hv st) (st_ha st) (st_li st) (st_wa st) (st_on st) (st_si st))) rfl (Nat.le_of_ble_eq_true rfl) dX6_setAlert_41 (fun H locs hM hS => ?_)
        obtain ⟨h, hM, hW, hF⟩ : ∃ h9, MW G s0.heap.size h9 H ∧ MdlW G h9 m q (sM (nI 2) (st_many st) (st_now st) (st_nm st) (st_ho st) (st_n st) (st_V st) (st_bd st) (st_T st) (st_sk st) (st_sz st) (st_hv st) (st_ha st) (st_li st) (st_wa st) (st_on st) (st_si st)) ∧ mFr h0 h9 m q := ⟨_, hM, hW.uo (nI 2) (st_many st) (st_now st), hF.o _⟩
        refine lv_aload_n hx hb dX6_setAlert_44 rfl (lv_at hl 0 rfl) ?_
        refine m_get Z C hM hW.o K_X6 0 (by decide) fl_X6_53 (v := .int (nI 2)) rfl dX6_setAlert_45 ?_
        refine lv_if_eq (tgt := 54) hx hb dX6_setAlert_48 (by decide) (fun q => absurd q (by decide)) (fun _ => ?_)
        refine lv_bipush (v := nI 111) hx hb dX6_setAlert_51 (by decide) ?_
        exact m_zret C hM hS (Nat.le_of_ble_eq_true rfl) (Nat.le_of_ble_eq_true rfl) rfl dX6_setAlert_53 (Or.inr (Or.inl ⟨k_1, f_2, rfl, (fun q => g_8 q.2), rfl, hW, hF⟩))
    · -- of 19: False
      replace hv : v = some (.int (b2 (((-10000)) ≤ a ∧ a ≤ (nI 10000)))) := hv
      rw [b2_f g_6] at hv
      subst hv
      rw [hh9] at hM
      refine W.eq (g2 := F0 mt 22 ls [.int (nI 0), .ref m]) rfl ?_
      refine lv_if_eq (tgt := 40) hx hb dX6_setAlert_22 (by decide) (fun _ => ?_) (fun q => absurd (by decide) q)
      refine lv_iconst (v := nI 2) hx hb dX6_setAlert_40 (by decide) ?_
      refine m_put Z C hM hS hW.o K_X6 0 (by decide) fl_X6_53 (v := .int (nI 2)) rfl rfl rfl (fs' := mObj q (sM (nI 2) (st_many st) (st_now st) (st_nm st) (st_ho st) (st_n st) (st_V st) (st_bd st) (st_T st) (st_sk st) (st_sz st) (st_hv st) (st_ha st) (st_li st) (st_wa st) (st_on st) (st_si st))) rfl (Nat.le_of_ble_eq_true rfl) dX6_setAlert_41 (fun H locs hM hS => ?_)
      obtain ⟨h, hM, hW, hF⟩ : ∃ h9, MW G s0.heap.size h9 H ∧ MdlW G h9 m q (sM (nI 2) (st_many st) (st_now st) (st_nm st) (st_ho st) (st_n st) (st_V st) (st_bd st) (st_T st) (st_sk st) (st_sz st) (st_hv st) (st_ha st) (st_li st) (st_wa st) (st_on st) (st_si st)) ∧ mFr h0 h9 m q := ⟨_, hM, hW.uo (nI 2) (st_many st) (st_now st), hF.o _⟩
      refine lv_aload_n hx hb dX6_setAlert_44 rfl (lv_at hl 0 rfl) ?_
      refine m_get Z C hM hW.o K_X6 0 (by decide) fl_X6_53 (v := .int (nI 2)) rfl dX6_setAlert_45 ?_
      refine lv_if_eq (tgt := 54) hx hb dX6_setAlert_48 (by decide) (fun q => absurd q (by decide)) (fun _ => ?_)
      refine lv_bipush (v := nI 111) hx hb dX6_setAlert_51 (by decide) ?_
      exact m_zret C hM hS (Nat.le_of_ble_eq_true rfl) (Nat.le_of_ble_eq_true rfl) rfl dX6_setAlert_53 (Or.inr (Or.inl ⟨k_1, f_2, rfl, (fun q => g_6 q.1), rfl, hW, hF⟩))
  · -- of 2
    subst hv
    have hF := hF.trans hF9
    obtain ⟨h, hM, hW, hF⟩ : ∃ h8, MW G s0.heap.size h8 H ∧ MdlW G h8 m q (sM (nI 1) (st_many st) (st_now st) (st_nm st) (st_ho st) (st_n st) (st_V st) (st_bd st) (st_T st) (st_sk st) (st_sz st) (st_hv st) (st_ha st) (st_li st) (st_wa st) (st_on st) (st_si st)) ∧ mFr h0 h8 m q := ⟨_, hM, hW, hF⟩
    refine W.eq (g2 := F0 mt 5 ls [.int (nI 0)]) rfl ?_
    refine lv_if_ne (tgt := 11) hx hb dX6_setAlert_5 (by decide) (fun q => absurd (by decide) q) (fun _ => ?_)
    refine lv_bipush (v := nI 111) hx hb dX6_setAlert_8 (by decide) ?_
    exact m_zret C hM hS (Nat.le_of_ble_eq_true rfl) (Nat.le_of_ble_eq_true rfl) rfl dX6_setAlert_10 (Or.inr (Or.inr ⟨f_4, rfl, hW, hF⟩))
set_option maxRecDepth 100000 in
set_option maxHeartbeats 4000000 in
theorem c_X6_removeAlert {l : Launch} {G : mG} {a0 : Array Value} {s0 : State} (Z : mZ l G a0 s0) (h0 : Hp) (m : Nat) (q : Nat → Nat) (st : Ms) (hW : MdlW G h0 m q st) (x : Int32) (hk : Mok st) : mM l G s0 yX6_removeAlert cX6_removeAlert 3 (some .char) 3 64 0 0 h0 [.ref m, .int x] (fun v h9 => (∃ k : Nat, (k < st_many st) ∧ (x = nI k) ∧ (¬ st_ha st k = nI 0) ∧ v = some (.int (nI (z_al st k))) ∧ MdlW G h9 m q (s_ra st k) ∧ mFr h0 h9 m q) ∨ (∃ k : Nat, (k < st_many st) ∧ (x = nI k) ∧ (st_ha st k = nI 0) ∧ v = some (.int (nI 111)) ∧ MdlW G h9 m q (se_now (se_many (se_thr st (nI 2)) (st_many st)) (st_now st)) ∧ mFr h0 h9 m q) ∨ ((∀ k : Nat, k < st_many st → x ≠ nI k) ∧ v = some (.int (nI 111)) ∧ MdlW G h9 m q (se_now (se_many (se_thr st (nI 1)) (st_many st)) (st_now st)) ∧ mFr h0 h9 m q)) := by
  refine mM_in RX6 "removeAlert" rfl rfl (by decide +kernel) (Nat.le_of_ble_eq_true rfl) ?_
  intro p e s mt below meth c H locs C hM hS ls hl
  have hx := C.1
  have hb := C.2.1
  have hown := C.2.2.2.1
  have hE := C.2.2.2.2.2.2.1
  have hl : lv_has ls 3 [(0, .ref m), (1, .int x)] := hl
  have hF : mFr h0 h0 m q := mFr.rf
  obtain ⟨h, hM, hW, hF⟩ : ∃ h9, MW G s0.heap.size h9 H ∧ MdlW G h9 m q st ∧ mFr h0 h9 m q := ⟨_, hM, hW, hF⟩
  have hm := hk.1
  have hnow := hk.2.1
  refine lv_aload_n hx hb dX6_removeAlert_0 rfl (lv_at hl 0 rfl) ?_
  refine lv_iload_n hx hb dX6_removeAlert_1 rfl (lv_at hl 1 rfl) ?_
  refine m_callV Z C hM hS (As := [.int x]) (rest := []) (c_X6_isSet Z h m q st hW x hk) yi_X6_isSet ml_X6_159 hW.o rfl ⟨Nat.le_of_ble_eq_true rfl, Nat.le_of_ble_eq_true rfl⟩ (Nat.le_of_ble_eq_true rfl) hl.1 rfl rfl dX6_removeAlert_2 ⟨Nat.le_of_ble_eq_true rfl, Nat.le_of_ble_eq_true rfl⟩ (fun v h9 H locs hv hM hS => ?_)
  rcases hv with ⟨k_1, f_2, f_3, f_4, hv, hW, hF9⟩ | ⟨k_5, f_6, f_7, f_8, hv, hW, hF9⟩ | ⟨f_9, hv, hW, hF9⟩
  · -- of 2
    subst hv
    have hF := hF.trans hF9
    obtain ⟨h, hM, hW, hF⟩ : ∃ h8, MW G s0.heap.size h8 H ∧ MdlW G h8 m q (sM (nI 0) (st_many st) (st_now st) (st_nm st) (st_ho st) (st_n st) (st_V st) (st_bd st) (st_T st) (st_sk st) (st_sz st) (st_hv st) (st_ha st) (st_li st) (st_wa st) (st_on st) (st_si st)) ∧ mFr h0 h8 m q := ⟨_, hM, hW, hF⟩
    subst f_3
    refine W.eq (g2 := F0 mt 5 ls [.int (nI 1)]) rfl ?_
    obtain ⟨hn, hT, hZ, hsi, hbd, hhv⟩ := hk.2.2 k_1 f_2
    refine lv_if_ne (tgt := 11) hx hb dX6_removeAlert_5 (by decide) (fun _ => ?_) (fun q => absurd q (by decide))
    refine lv_aload_n hx hb dX6_removeAlert_11 rfl (lv_at hl 0 rfl) ?_
    refine lv_iload_n hx hb dX6_removeAlert_12 rfl (lv_at hl 1 rfl) ?_
    refine m_callV Z C hM hS (As := [.int (nI k_1)]) (rest := []) (c_X6_state Z h m q (sM (nI 0) (st_many st) (st_now st) (st_nm st) (st_ho st) (st_n st) (st_V st) (st_bd st) (st_T st) (st_sk st) (st_sz st) (st_hv st) (st_ha st) (st_li st) (st_wa st) (st_on st) (st_si st)) hW k_1 hk (show k_1 < st_many st by omega)) yi_X6_state ml_X6_155 hW.o rfl ⟨Nat.le_of_ble_eq_true rfl, Nat.le_of_ble_eq_true rfl⟩ (Nat.le_of_ble_eq_true rfl) hl.1 rfl rfl dX6_removeAlert_13 ⟨Nat.le_of_ble_eq_true rfl, Nat.le_of_ble_eq_true rfl⟩ (fun v h9 H locs hv hM hS => ?_)
    obtain ⟨hv, hh9⟩ := hv
    subst hv
    rw [hh9] at hM
    refine W.eq (g2 := F0 mt 16 ls [.int (nI (z_al st k_1))]) rfl ?_
    refine lv_istore_n (lv' := [(2, .int (nI (z_al st k_1))), (0, .ref m), (1, .int (nI k_1))]) hx hb dX6_removeAlert_16 rfl hl (by decide) rfl (fun ls hl => ?_)
    refine lv_aload_n hx hb dX6_removeAlert_17 rfl (lv_at hl 1 rfl) ?_
    refine m_get Z C hM hW.o K_X6 12 (by decide) fl_X6_38 (v := .ref (q 12)) rfl dX6_removeAlert_18 ?_
    refine lv_iload_n hx hb dX6_removeAlert_21 rfl (lv_at hl 2 rfl) ?_
    refine lv_iconst (v := nI 0) hx hb dX6_removeAlert_22 (by decide) ?_
    refine m_iast Z C hM hS hW.a12 (x := nI 0) k_1 rfl (by omega) (by decide) dX6_removeAlert_23 (fun H locs hM hS => ?_)
    obtain ⟨h, hM, hW, hF⟩ : ∃ h9, MW G s0.heap.size h9 H ∧ MdlW G h9 m q (sM (nI 0) (st_many st) (st_now st) (st_nm st) (st_ho st) (st_n st) (st_V st) (st_bd st) (st_T st) (st_sk st) (st_sz st) (st_hv st) (va_up (st_ha st) k_1 (nI 0)) (st_li st) (st_wa st) (st_on st) (st_si st)) ∧ mFr h0 h9 m q := ⟨_, hM, hW.u12 k_1 (nI 0), hF.a 12 _ (by decide) (by decide)⟩
    refine lv_aload_n hx hb dX6_removeAlert_24 rfl (lv_at hl 1 rfl) ?_
    refine m_get Z C hM hW.o K_X6 15 (by decide) fl_X6_47 (v := .ref (q 15)) rfl dX6_removeAlert_25 ?_
    refine lv_iload_n hx hb dX6_removeAlert_28 rfl (lv_at hl 2 rfl) ?_
    refine lv_iconst (v := nI 0) hx hb dX6_removeAlert_29 (by decide) ?_
    refine m_iast Z C hM hS hW.a15 (x := nI 0) k_1 rfl (by omega) (by decide) dX6_removeAlert_30 (fun H locs hM hS => ?_)
    obtain ⟨h, hM, hW, hF⟩ : ∃ h9, MW G s0.heap.size h9 H ∧ MdlW G h9 m q (sM (nI 0) (st_many st) (st_now st) (st_nm st) (st_ho st) (st_n st) (st_V st) (st_bd st) (st_T st) (st_sk st) (st_sz st) (st_hv st) (va_up (st_ha st) k_1 (nI 0)) (st_li st) (st_wa st) (va_up (st_on st) k_1 (nI 0)) (st_si st)) ∧ mFr h0 h9 m q := ⟨_, hM, hW.u15 k_1 (nI 0), hF.a 15 _ (by decide) (by decide)⟩
    refine lv_iload_n hx hb dX6_removeAlert_31 rfl (lv_at hl 0 rfl) ?_
    exact m_zret C hM hS (Nat.le_of_ble_eq_true rfl) (Nat.le_of_ble_eq_true rfl) (z_al_nar _ _) dX6_removeAlert_32 (Or.inl ⟨k_1, f_2, rfl, f_4, rfl, hW, hF⟩)
  · -- of 2
    subst hv
    have hF := hF.trans hF9
    obtain ⟨h, hM, hW, hF⟩ : ∃ h8, MW G s0.heap.size h8 H ∧ MdlW G h8 m q (sM (nI 2) (st_many st) (st_now st) (st_nm st) (st_ho st) (st_n st) (st_V st) (st_bd st) (st_T st) (st_sk st) (st_sz st) (st_hv st) (st_ha st) (st_li st) (st_wa st) (st_on st) (st_si st)) ∧ mFr h0 h8 m q := ⟨_, hM, hW, hF⟩
    subst f_7
    refine W.eq (g2 := F0 mt 5 ls [.int (nI 0)]) rfl ?_
    refine lv_if_ne (tgt := 11) hx hb dX6_removeAlert_5 (by decide) (fun q => absurd (by decide) q) (fun _ => ?_)
    refine lv_bipush (v := nI 111) hx hb dX6_removeAlert_8 (by decide) ?_
    exact m_zret C hM hS (Nat.le_of_ble_eq_true rfl) (Nat.le_of_ble_eq_true rfl) rfl dX6_removeAlert_10 (Or.inr (Or.inl ⟨k_5, f_6, rfl, f_8, rfl, hW, hF⟩))
  · -- of 2
    subst hv
    have hF := hF.trans hF9
    obtain ⟨h, hM, hW, hF⟩ : ∃ h8, MW G s0.heap.size h8 H ∧ MdlW G h8 m q (sM (nI 1) (st_many st) (st_now st) (st_nm st) (st_ho st) (st_n st) (st_V st) (st_bd st) (st_T st) (st_sk st) (st_sz st) (st_hv st) (st_ha st) (st_li st) (st_wa st) (st_on st) (st_si st)) ∧ mFr h0 h8 m q := ⟨_, hM, hW, hF⟩
    refine W.eq (g2 := F0 mt 5 ls [.int (nI 0)]) rfl ?_
    refine lv_if_ne (tgt := 11) hx hb dX6_removeAlert_5 (by decide) (fun q => absurd (by decide) q) (fun _ => ?_)
    refine lv_bipush (v := nI 111) hx hb dX6_removeAlert_8 (by decide) ?_
    exact m_zret C hM hS (Nat.le_of_ble_eq_true rfl) (Nat.le_of_ble_eq_true rfl) rfl dX6_removeAlert_10 (Or.inr (Or.inr ⟨f_9, rfl, hW, hF⟩))
