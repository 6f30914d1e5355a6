set_option maxRecDepth 100000 in
set_option maxHeartbeats 4000000 in
theorem c_X6_many {l : Launch} {G : mG} {a0 : Array Value} {s0 : State} (Z : mZ l G a0 s0) (h0 : Hp) (m : Nat) (q : Nat → Nat) (st : Ms) (hW : MdlW G h0 m q st) (z : Nat) (hk : Mok st) (hz : z < st_many st) : mM l G s0 yX6_many cX6_many 2 (some .int) 0 0 0 0 h0 [.ref m, .int (nI z)] (fun v h9 => (v = some (.int (nI (z_nb st z))) ∧ h9 = h0)) := by
  refine mM_in RX6 "many" rfl rfl (by decide +kernel) (Nat.le_of_ble_eq_true rfl) ?_
  intro p e s mt below meth c H locs C hM hS ls hl
  have hx := C.1
  have hb := C.2.1
  have hown := C.2.2.2.1
  have hE := C.2.2.2.2.2.2.1
  have hl : lv_has ls 2 [(0, .ref m), (1, .int (nI z))] := hl
  have hF : mFr h0 h0 m q := mFr.rf
  obtain ⟨h, hh⟩ : ∃ z, z = h0 := ⟨_, rfl⟩
  rw [← hh] at hM hW
  have hm := hk.1
  have hnow := hk.2.1
  obtain ⟨hn, hT, hZ, hsi, hbd, hhv⟩ := hk.2.2 z hz
  refine lv_aload_n hx hb dX6_many_0 rfl (lv_at hl 0 rfl) ?_
  refine m_get Z C hM hW.o K_X6 5 (by decide) fl_X6_16 (v := .ref (q 5)) rfl dX6_many_1 ?_
  refine lv_iload_n hx hb dX6_many_4 rfl (lv_at hl 1 rfl) ?_
  refine m_iald Z C hM (f := fun k => nI ((st_n st) k)) hW.a5 z rfl (by omega) (by decide) dX6_many_5 ?_
  refine lv_bipush (v := nI 8) hx hb dX6_many_6 (by decide) ?_
  refine n_iadd hx hb dX6_many_8 ?_
  refine lv_iconst (v := nI 1) hx hb dX6_many_9 (by decide) ?_
  refine n_isub hx hb (by omega) dX6_many_10 ?_
  refine lv_bipush (v := nI 8) hx hb dX6_many_11 (by decide) ?_
  refine n_idiv hx hb (by omega) (by decide) (by decide) dX6_many_13 ?_
  exact m_iret C hM hS (Nat.le_of_ble_eq_true rfl) (Nat.le_of_ble_eq_true rfl) dX6_many_14 ⟨rfl, hh⟩
set_option maxRecDepth 100000 in
set_option maxHeartbeats 4000000 in
theorem c_X6_isInside {l : Launch} {G : mG} {a0 : Array Value} {s0 : State} (Z : mZ l G a0 s0) (h0 : Hp) (m : Nat) (q : Nat → Nat) (st : Ms) (hW : MdlW G h0 m q st) (z : Nat) (i : Nat) (a : Int64) (d : Int64) (hz : z < 10) (hi : i < 120) : mM l G s0 yX6_isInside cX6_isInside 7 (some .boolean) 1 22 0 0 h0 [.ref m, .int (nI z), .int (nI i), .long a, .long d] (fun v h9 => (v = some (.int (b2 (z_in st z a d i))) ∧ h9 = h0)) := by
  refine mM_in RX6 "isInside" rfl rfl (by decide +kernel) (Nat.le_of_ble_eq_true rfl) ?_
  intro p e s mt below meth c H locs C hM hS ls hl
  have hx := C.1
  have hb := C.2.1
  have hown := C.2.2.2.1
  have hE := C.2.2.2.2.2.2.1
  have hl : lv_has ls 7 [(0, .ref m), (1, .int (nI z)), (2, .int (nI i)), (3, .long a), (5, .long d)] := hl
  have hF : mFr h0 h0 m q := mFr.rf
  obtain ⟨h, hh⟩ : ∃ z, z = h0 := ⟨_, rfl⟩
  rw [← hh] at hM hW
  refine lv_aload_n hx hb dX6_isInside_0 rfl (lv_at hl 0 rfl) ?_
  refine lv_iload_n hx hb dX6_isInside_1 rfl (lv_at hl 1 rfl) ?_
  refine lv_iload_n hx hb dX6_isInside_2 rfl (lv_at hl 2 rfl) ?_
  refine m_callV Z C hM hS (As := [.int (nI z), .int (nI i)]) (rest := []) (c_X6_time Z h m q st hW z i (show z < 10 by omega) (show i < 120 by omega)) yi_X6_time ml_X6_87 hW.o rfl ⟨Nat.le_of_ble_eq_true rfl, Nat.le_of_ble_eq_true rfl⟩ (Nat.le_of_ble_eq_true rfl) hl.1 rfl rfl dX6_isInside_3 ⟨Nat.le_of_ble_eq_true rfl, Nat.le_of_ble_eq_true rfl⟩ (fun v h9 H locs hv hM hS => ?_)
  obtain ⟨hv, hh9⟩ := hv
  subst hv
  rw [hh9] at hM
  refine W.eq (g2 := F0 mt 6 ls [.long (lN (st_T st (120 * z + i)))]) rfl ?_
  refine lv_lload_n hx hb dX6_isInside_6 rfl (lv_at hl 3 rfl) ?_
  refine W.lcmp hx hb dX6_isInside_7 ?_
  refine n_lc_lt (tgt := 27) hx hb dX6_isInside_8 (by decide) (fun c_1 => ?_) (fun c_1 => ?_)
  · -- 8 t
    refine lv_iconst (v := nI 0) hx hb dX6_isInside_27 (by decide) ?_
    exact m_zret C hM hS (Nat.le_of_ble_eq_true rfl) (Nat.le_of_ble_eq_true rfl) rfl dX6_isInside_28 ⟨by rw [b2_f (by have k0 := c_1; simp only [Int32.lt_iff_toInt_lt, Int32.le_iff_toInt_le, ← Int32.toInt_inj, Int64.lt_iff_toInt_lt, Int64.le_iff_toInt_le, ← Int64.toInt_inj, kt, ktL, z_in] at k0 ⊢; omega)], hh⟩
  · -- 8 f
    refine lv_aload_n hx hb dX6_isInside_11 rfl (lv_at hl 0 rfl) ?_
    refine lv_iload_n hx hb dX6_isInside_12 rfl (lv_at hl 1 rfl) ?_
    refine lv_iload_n hx hb dX6_isInside_13 rfl (lv_at hl 2 rfl) ?_
    refine m_callV Z C hM hS (As := [.int (nI z), .int (nI i)]) (rest := []) (c_X6_time Z h m q st hW z i (show z < 10 by omega) (show i < 120 by omega)) yi_X6_time ml_X6_87 hW.o rfl ⟨Nat.le_of_ble_eq_true rfl, Nat.le_of_ble_eq_true rfl⟩ (Nat.le_of_ble_eq_true rfl) hl.1 rfl rfl dX6_isInside_14 ⟨Nat.le_of_ble_eq_true rfl, Nat.le_of_ble_eq_true rfl⟩ (fun v h9 H locs hv hM hS => ?_)
    obtain ⟨hv, hh9⟩ := hv
    subst hv
    rw [hh9] at hM
    refine W.eq (g2 := F0 mt 17 ls [.long (lN (st_T st (120 * z + i)))]) rfl ?_
    refine lv_lload hx hb dX6_isInside_17 (lv_at hl 4 rfl) ?_
    refine W.lcmp hx hb dX6_isInside_19 ?_
    refine n_lc_gt (tgt := 27) hx hb dX6_isInside_20 (by decide) (fun c_2 => ?_) (fun c_2 => ?_)
    · -- 20 t
      refine lv_iconst (v := nI 0) hx hb dX6_isInside_27 (by decide) ?_
      exact m_zret C hM hS (Nat.le_of_ble_eq_true rfl) (Nat.le_of_ble_eq_true rfl) rfl dX6_isInside_28 ⟨by rw [b2_f (by have k0 := c_1; have k1 := c_2; simp only [Int32.lt_iff_toInt_lt, Int32.le_iff_toInt_le, ← Int32.toInt_inj, Int64.lt_iff_toInt_lt, Int64.le_iff_toInt_le, ← Int64.toInt_inj, kt, ktL, z_in] at k0 k1 ⊢; omega)], hh⟩
    · -- 20 f
      refine lv_iconst (v := nI 1) hx hb dX6_isInside_23 (by decide) ?_
      refine lv_goto (tgt := 28) hx hb dX6_isInside_24 (by decide) ?_
      exact m_zret C hM hS (Nat.le_of_ble_eq_true rfl) (Nat.le_of_ble_eq_true rfl) rfl dX6_isInside_28 ⟨by rw [b2_t (by have k0 := c_1; have k1 := c_2; simp only [Int32.lt_iff_toInt_lt, Int32.le_iff_toInt_le, ← Int32.toInt_inj, Int64.lt_iff_toInt_lt, Int64.le_iff_toInt_le, ← Int64.toInt_inj, kt, ktL, z_in] at k0 k1 ⊢; omega)], hh⟩
set_option maxRecDepth 100000 in
set_option maxHeartbeats 4000000 in
theorem c_X6_counted {l : Launch} {G : mG} {a0 : Array Value} {s0 : State} (Z : mZ l G a0 s0) (h0 : Hp) (m : Nat) (q : Nat → Nat) (st : Ms) (hW : MdlW G h0 m q st) (z : Nat) (a : Int64) (d : Int64) (hk : Mok st) (hz : z < st_many st) : mM l G s0 yX6_counted cX6_counted 8 (some .int) 2 48 0 0 h0 [.ref m, .int (nI z), .long a, .long d] (fun v h9 => (v = some (.int (nI (z_ct (z_in st z a d) (st_n st z)))) ∧ h9 = h0)) := by
  refine mM_in RX6 "counted" rfl rfl (by decide +kernel) (Nat.le_of_ble_eq_true rfl) ?_
  intro p e s mt below meth c H locs C hM hS ls hl
  have hx := C.1
  have hb := C.2.1
  have hown := C.2.2.2.1
  have hE := C.2.2.2.2.2.2.1
  have hl : lv_has ls 8 [(0, .ref m), (1, .int (nI z)), (2, .long a), (4, .long d)] := hl
  have hF : mFr h0 h0 m q := mFr.rf
  obtain ⟨h, hh⟩ : ∃ z, z = h0 := ⟨_, rfl⟩
  rw [← hh] at hM hW
  have hm := hk.1
  have hnow := hk.2.1
  obtain ⟨hn, hT, hZ, hsi, hbd, hhv⟩ := hk.2.2 z hz
  refine lv_iconst (v := nI 0) hx hb dX6_counted_0 (by decide) ?_
  refine lv_istore (lv' := [(6, .int (nI 0)), (0, .ref m), (1, .int (nI z)), (2, .long a), (4, .long d)]) hx hb dX6_counted_1 hl (by decide) rfl (fun ls hl => ?_)
  refine lv_iconst (v := nI 0) hx hb dX6_counted_3 (by decide) ?_
  refine lv_istore (lv' := [(7, .int (nI 0)), (6, .int (nI 0)), (0, .ref m), (1, .int (nI z)), (2, .long a), (4, .long d)]) hx hb dX6_counted_4 hl (by decide) rfl (fun ls hl => ?_)
  have lp_1 : ∀ (fu : Nat) (k : Nat), st_n st z < k + fu → k ≤ st_n st z → ∀ (H : Heap) (locs : List Loc), MW G s0.heap.size h H → va_S (fun q => s0.heap.size ≤ q) s.heap H locs → ∀ ls : Array Slot, lv_has ls 8 [(7, .int (nI k)), (6, .int (nI (z_ct (z_in st z a d) k))), (0, .ref m), (1, .int (nI z)), (2, .long a), (4, .long d)] → W p l e (mRm 2 48 0 0) s mt ([.ref m, .int (nI z), .long a, .long d] : List Value).toArray below meth c H locs 0 0 (MQ below (mQc G s0 (fun v h9 => (v = some (.int (nI (z_ct (z_in st z a d) (st_n st z)))) ∧ h9 = h0))) ([.ref m, .int (nI z), .long a, .long d] : List Value).toArray s 0 0 (fun q => s0.heap.size ≤ q)) (F0 mt 6 ls []) := by
    intro fu
    induction fu with
    | zero => intro k hfu _; exact absurd hfu (by omega)
    | succ fu ih =>
      intro k hfu hk9 H locs hM hS ls hl
      refine lv_iload hx hb dX6_counted_6 (lv_at hl 0 rfl) ?_
      refine lv_aload_n hx hb dX6_counted_8 rfl (lv_at hl 2 rfl) ?_
      refine m_get Z C hM hW.o K_X6 5 (by decide) fl_X6_16 (v := .ref (q 5)) rfl dX6_counted_9 ?_
      refine lv_iload_n hx hb dX6_counted_12 rfl (lv_at hl 3 rfl) ?_
      refine m_iald Z C hM (f := fun k => nI ((st_n st) k)) hW.a5 z rfl (by omega) (by decide) dX6_counted_13 ?_
      refine lv_icmp_ge (tgt := 46) hx hb dX6_counted_14 (by decide) (fun c_2 => ?_) (fun c_2 => ?_)
      · -- 14 t
        have c_2 : (st_n st) z ≤ k := (nI_leI (by omega) (by omega)).mp c_2
        refine lv_iload hx hb dX6_counted_46 (lv_at hl 1 rfl) ?_
        exact m_iret C hM hS (Nat.le_of_ble_eq_true rfl) (Nat.le_of_ble_eq_true rfl) dX6_counted_48 ⟨by rw [show k = st_n st z by omega], hh⟩
      · -- 14 f
        have c_2 : ¬ (st_n st) z ≤ k := fun q => c_2 ((nI_leI (by omega) (by omega)).mpr q)
        refine lv_iload hx hb dX6_counted_17 (lv_at hl 1 rfl) ?_
        refine lv_aload_n hx hb dX6_counted_19 rfl (lv_at hl 2 rfl) ?_
        refine lv_iload_n hx hb dX6_counted_20 rfl (lv_at hl 3 rfl) ?_
        refine lv_iload hx hb dX6_counted_21 (lv_at hl 0 rfl) ?_
        refine lv_lload_n hx hb dX6_counted_23 rfl (lv_at hl 4 rfl) ?_
        refine lv_lload hx hb dX6_counted_24 (lv_at hl 5 rfl) ?_
        refine m_callV Z C hM hS (As := [.int (nI z), .int (nI k), .long a, .long d]) (rest := [.int (nI (z_ct (z_in st z a d) k))]) (c_X6_isInside Z h m q st hW z k a d (show z < 10 by omega) (show k < 120 by omega)) yi_X6_isInside ml_X6_111 hW.o rfl ⟨Nat.le_of_ble_eq_true rfl, Nat.le_of_ble_eq_true rfl⟩ (Nat.le_of_ble_eq_true rfl) hl.1 rfl rfl dX6_counted_26 ⟨Nat.le_of_ble_eq_true rfl, Nat.le_of_ble_eq_true rfl⟩ (fun v h9 H locs hv hM hS => ?_)
        obtain ⟨hv, hh9⟩ := hv
        rcases Decidable.em (z_in st z a d k) with g_3 | g_3
        · -- of 26: True
          rw [b2_t g_3] at hv
          subst hv
          rw [hh9] at hM
          refine W.eq (g2 := F0 mt 29 ls [.int (nI 1), .int (nI (z_ct (z_in st z a d) k))]) rfl ?_
          refine lv_if_eq (tgt := 36) hx hb dX6_counted_29 (by decide) (fun q => absurd q (by decide)) (fun _ => ?_)
          refine lv_iconst (v := nI 1) hx hb dX6_counted_32 (by decide) ?_
          refine lv_goto (tgt := 37) hx hb dX6_counted_33 (by decide) ?_
          refine n_iadd hx hb dX6_counted_37 ?_
          refine lv_istore (lv' := [(6, .int (nI (z_ct (z_in st z a d) k + 1))), (7, .int (nI k)), (0, .ref m), (1, .int (nI z)), (2, .long a), (4, .long d)]) hx hb dX6_counted_38 hl (by decide) rfl (fun ls hl => ?_)
          refine lv_iinc (v := nI (k + 1)) (lv' := [(7, .int (nI (k + 1))), (6, .int (nI (z_ct (z_in st z a d) k + 1))), (0, .ref m), (1, .int (nI z)), (2, .long a), (4, .long d)]) hx hb dX6_counted_40 hl (k := 1) rfl (nI_add _ _) (by decide) rfl (fun ls hl => ?_)
          refine lv_goto (tgt := 6) hx hb dX6_counted_43 (by decide) ?_
          have e_6 : z_ct (z_in st z a d) (k + 1) = _ := z_ct_t g_3
          rw [← e_6] at hl
          exact ih (k + 1) (by omega) (by omega) H locs hM hS ls (lv_sub hl [0, 1, 2, 3, 4, 5] rfl)
        · -- of 26: False
          rw [b2_f g_3] at hv
          subst hv
          rw [hh9] at hM
          refine W.eq (g2 := F0 mt 29 ls [.int (nI 0), .int (nI (z_ct (z_in st z a d) k))]) rfl ?_
          refine lv_if_eq (tgt := 36) hx hb dX6_counted_29 (by decide) (fun _ => ?_) (fun q => absurd (by decide) q)
          refine lv_iconst (v := nI 0) hx hb dX6_counted_36 (by decide) ?_
          refine n_iadd hx hb dX6_counted_37 ?_
          refine lv_istore (lv' := [(6, .int (nI (z_ct (z_in st z a d) k + 0))), (7, .int (nI k)), (0, .ref m), (1, .int (nI z)), (2, .long a), (4, .long d)]) hx hb dX6_counted_38 hl (by decide) rfl (fun ls hl => ?_)
          refine lv_iinc (v := nI (k + 1)) (lv' := [(7, .int (nI (k + 1))), (6, .int (nI (z_ct (z_in st z a d) k + 0))), (0, .ref m), (1, .int (nI z)), (2, .long a), (4, .long d)]) hx hb dX6_counted_40 hl (k := 1) rfl (nI_add _ _) (by decide) rfl (fun ls hl => ?_)
          refine lv_goto (tgt := 6) hx hb dX6_counted_43 (by decide) ?_
          have e_6 : z_ct (z_in st z a d) (k + 1) = _ := z_ct_f0 g_3
          rw [← e_6] at hl
          exact ih (k + 1) (by omega) (by omega) H locs hM hS ls (lv_sub hl [0, 1, 2, 3, 4, 5] rfl)
  exact lp_1 (st_n st z + 1) 0 (by omega) (Nat.zero_le _) H locs hM hS ls (lv_sub hl [0, 1, 2, 3, 4, 5] rfl)
set_option maxRecDepth 100000 in
set_option maxHeartbeats 4000000 in
theorem c_X6_summed {l : Launch} {G : mG} {a0 : Array Value} {s0 : State} (Z : mZ l G a0 s0) (h0 : Hp) (m : Nat) (q : Nat → Nat) (st : Ms) (hW : MdlW G h0 m q st) (z : Nat) (a : Int64) (d : Int64) (hk : Mok st) (hz : z < st_many st) : mM l G s0 yX6_summed cX6_summed 9 (some .long) 2 48 0 0 h0 [.ref m, .int (nI z), .long a, .long d] (fun v h9 => (v = some (.long (z_sm (z_in st z a d) (fun i => (z_v st z i).toInt64) (st_n st z))) ∧ h9 = h0)) := by
  refine mM_in RX6 "summed" rfl rfl (by decide +kernel) (Nat.le_of_ble_eq_true rfl) ?_
  intro p e s mt below meth c H locs C hM hS ls hl
  have hx := C.1
  have hb := C.2.1
  have hown := C.2.2.2.1
  have hE := C.2.2.2.2.2.2.1
  have hl : lv_has ls 9 [(0, .ref m), (1, .int (nI z)), (2, .long a), (4, .long d)] := hl
  have hF : mFr h0 h0 m q := mFr.rf
  obtain ⟨h, hh⟩ : ∃ z, z = h0 := ⟨_, rfl⟩
  rw [← hh] at hM hW
  have hm := hk.1
  have hnow := hk.2.1
  obtain ⟨hn, hT, hZ, hsi, hbd, hhv⟩ := hk.2.2 z hz
  refine lv_lconst (v := lN 0) hx hb dX6_summed_0 (by decide) ?_
  refine lv_lstore (lv' := [(6, .long (lN 0)), (0, .ref m), (1, .int (nI z)), (2, .long a), (4, .long d)]) hx hb dX6_summed_1 hl (by decide) rfl (fun ls hl => ?_)
  refine lv_iconst (v := nI 0) hx hb dX6_summed_3 (by decide) ?_
  refine lv_istore (lv' := [(8, .int (nI 0)), (6, .long (lN 0)), (0, .ref m), (1, .int (nI z)), (2, .long a), (4, .long d)]) hx hb dX6_summed_4 hl (by decide) rfl (fun ls hl => ?_)
  have lp_1 : ∀ (fu : Nat) (k : Nat), st_n st z < k + fu → k ≤ st_n st z → ∀ (H : Heap) (locs : List Loc), MW G s0.heap.size h H → va_S (fun q => s0.heap.size ≤ q) s.heap H locs → ∀ ls : Array Slot, lv_has ls 9 [(8, .int (nI k)), (6, .long (z_sm (z_in st z a d) (fun i => (z_v st z i).toInt64) k)), (0, .ref m), (1, .int (nI z)), (2, .long a), (4, .long d)] → W p l e (mRm 2 48 0 0) s mt ([.ref m, .int (nI z), .long a, .long d] : List Value).toArray below meth c H locs 0 0 (MQ below (mQc G s0 (fun v h9 => (v = some (.long (z_sm (z_in st z a d) (fun i => (z_v st z i).toInt64) (st_n st z))) ∧ h9 = h0))) ([.ref m, .int (nI z), .long a, .long d] : List Value).toArray s 0 0 (fun q => s0.heap.size ≤ q)) (F0 mt 6 ls []) := by
    intro fu
    induction fu with
    | zero => intro k hfu _; exact absurd hfu (by omega)
    | succ fu ih =>
      intro k hfu hk9 H locs hM hS ls hl
      refine lv_iload hx hb dX6_summed_6 (lv_at hl 0 rfl) ?_
      refine lv_aload_n hx hb dX6_summed_8 rfl (lv_at hl 2 rfl) ?_
      refine m_get Z C hM hW.o K_X6 5 (by decide) fl_X6_16 (v := .ref (q 5)) rfl dX6_summed_9 ?_
      refine lv_iload_n hx hb dX6_summed_12 rfl (lv_at hl 3 rfl) ?_
      refine m_iald Z C hM (f := fun k => nI ((st_n st) k)) hW.a5 z rfl (by omega) (by decide) dX6_summed_13 ?_
      refine lv_icmp_ge (tgt := 53) hx hb dX6_summed_14 (by decide) (fun c_2 => ?_) (fun c_2 => ?_)
      · -- 14 t
        have c_2 : (st_n st) z ≤ k := (nI_leI (by omega) (by omega)).mp c_2
        refine lv_lload hx hb dX6_summed_53 (lv_at hl 1 rfl) ?_
        exact m_lret C hM hS (Nat.le_of_ble_eq_true rfl) (Nat.le_of_ble_eq_true rfl) dX6_summed_55 ⟨by rw [show k = st_n st z by omega], hh⟩
      · -- 14 f
        have c_2 : ¬ (st_n st) z ≤ k := fun q => c_2 ((nI_leI (by omega) (by omega)).mpr q)
        refine lv_lload hx hb dX6_summed_17 (lv_at hl 1 rfl) ?_
        refine lv_aload_n hx hb dX6_summed_19 rfl (lv_at hl 2 rfl) ?_
        refine lv_iload_n hx hb dX6_summed_20 rfl (lv_at hl 3 rfl) ?_
        refine lv_iload hx hb dX6_summed_21 (lv_at hl 0 rfl) ?_
        refine lv_lload_n hx hb dX6_summed_23 rfl (lv_at hl 4 rfl) ?_
        refine lv_lload hx hb dX6_summed_24 (lv_at hl 5 rfl) ?_
        refine m_callV Z C hM hS (As := [.int (nI z), .int (nI k), .long a, .long d]) (rest := [.long (z_sm (z_in st z a d) (fun i => (z_v st z i).toInt64) k)]) (c_X6_isInside Z h m q st hW z k a d (show z < 10 by omega) (show k < 120 by omega)) yi_X6_isInside ml_X6_111 hW.o rfl ⟨Nat.le_of_ble_eq_true rfl, Nat.le_of_ble_eq_true rfl⟩ (Nat.le_of_ble_eq_true rfl) hl.1 rfl rfl dX6_summed_26 ⟨Nat.le_of_ble_eq_true rfl, Nat.le_of_ble_eq_true rfl⟩ (fun v h9 H locs hv hM hS => ?_)
        obtain ⟨hv, hh9⟩ := hv
        rcases Decidable.em (z_in st z a d k) with g_3 | g_3
        · -- of 26: True
          rw [b2_t g_3] at hv
          subst hv
          rw [hh9] at hM
          refine W.eq (g2 := F0 mt 29 ls [.int (nI 1), .long (z_sm (z_in st z a d) (fun i => (z_v st z i).toInt64) k)]) rfl ?_
          refine lv_if_eq (tgt := 43) hx hb dX6_summed_29 (by decide) (fun q => absurd q (by decide)) (fun _ => ?_)
          refine lv_aload_n hx hb dX6_summed_32 rfl (lv_at hl 2 rfl) ?_
          refine lv_iload_n hx hb dX6_summed_33 rfl (lv_at hl 3 rfl) ?_
          refine lv_iload hx hb dX6_summed_34 (lv_at hl 0 rfl) ?_
          refine m_callV Z C hM hS (As := [.int (nI z), .int (nI k)]) (rest := [.long (z_sm (z_in st z a d) (fun i => (z_v st z i).toInt64) k)]) (c_X6_value Z h m q st hW z k (show z < 10 by omega) (show k < 120 by omega)) yi_X6_value ml_X6_64 hW.o rfl ⟨Nat.le_of_ble_eq_true rfl, Nat.le_of_ble_eq_true rfl⟩ (Nat.le_of_ble_eq_true rfl) hl.1 rfl rfl dX6_summed_36 ⟨Nat.le_of_ble_eq_true rfl, Nat.le_of_ble_eq_true rfl⟩ (fun v h9 H locs hv hM hS => ?_)
          obtain ⟨hv, hh9⟩ := hv
          subst hv
          rw [hh9] at hM
          refine W.eq (g2 := F0 mt 39 ls [.int (st_V st (120 * z + k)), .long (z_sm (z_in st z a d) (fun i => (z_v st z i).toInt64) k)]) rfl ?_
          refine lv_i2l (v := (st_V st (120 * z + k)).toInt64) hx hb dX6_summed_39 rfl ?_
          refine lv_goto (tgt := 44) hx hb dX6_summed_40 (by decide) ?_
          refine lv_ladd hx hb dX6_summed_44 ?_
          refine lv_lstore (lv' := [(6, .long ((z_sm (z_in st z a d) (fun i => (z_v st z i).toInt64) k) + ((st_V st (120 * z + k)).toInt64))), (8, .int (nI k)), (0, .ref m), (1, .int (nI z)), (2, .long a), (4, .long d)]) hx hb dX6_summed_45 hl (by decide) rfl (fun ls hl => ?_)
          refine lv_iinc (v := nI (k + 1)) (lv' := [(8, .int (nI (k + 1))), (6, .long ((z_sm (z_in st z a d) (fun i => (z_v st z i).toInt64) k) + ((st_V st (120 * z + k)).toInt64))), (0, .ref m), (1, .int (nI z)), (2, .long a), (4, .long d)]) hx hb dX6_summed_47 hl (k := 1) rfl (nI_add _ _) (by decide) rfl (fun ls hl => ?_)
          refine lv_goto (tgt := 6) hx hb dX6_summed_50 (by decide) ?_
          have e_6 : z_sm (z_in st z a d) (fun i => (z_v st z i).toInt64) (k + 1) = _ := z_sm_t g_3
          rw [← e_6] at hl
          exact ih (k + 1) (by omega) (by omega) H locs hM hS ls (lv_sub hl [0, 1, 2, 3, 4, 5] rfl)
        · -- of 26: False
          rw [b2_f g_3] at hv
          subst hv
          rw [hh9] at hM
          refine W.eq (g2 := F0 mt 29 ls [.int (nI 0), .long (z_sm (z_in st z a d) (fun i => (z_v st z i).toInt64) k)]) rfl ?_
          refine lv_if_eq (tgt := 43) hx hb dX6_summed_29 (by decide) (fun _ => ?_) (fun q => absurd (by decide) q)
          refine lv_lconst (v := lN 0) hx hb dX6_summed_43 (by decide) ?_
          refine lv_ladd hx hb dX6_summed_44 ?_
          refine lv_lstore (lv' := [(6, .long ((z_sm (z_in st z a d) (fun i => (z_v st z i).toInt64) k) + lN 0)), (8, .int (nI k)), (0, .ref m), (1, .int (nI z)), (2, .long a), (4, .long d)]) hx hb dX6_summed_45 hl (by decide) rfl (fun ls hl => ?_)
          refine lv_iinc (v := nI (k + 1)) (lv' := [(8, .int (nI (k + 1))), (6, .long ((z_sm (z_in st z a d) (fun i => (z_v st z i).toInt64) k) + lN 0)), (0, .ref m), (1, .int (nI z)), (2, .long a), (4, .long d)]) hx hb dX6_summed_47 hl (k := 1) rfl (nI_add _ _) (by decide) rfl (fun ls hl => ?_)
          refine lv_goto (tgt := 6) hx hb dX6_summed_50 (by decide) ?_
          have e_6 : z_sm (z_in st z a d) (fun i => (z_v st z i).toInt64) (k + 1) = _ := z_sm_f g_3
          rw [← e_6] at hl
          exact ih (k + 1) (by omega) (by omega) H locs hM hS ls (lv_sub hl [0, 1, 2, 3, 4, 5] rfl)
  exact lp_1 (st_n st z + 1) 0 (by omega) (Nat.zero_le _) H locs hM hS ls (lv_sub hl [0, 1, 2, 3, 4, 5] rfl)
set_option maxRecDepth 100000 in
set_option maxHeartbeats 4000000 in
theorem c_X6_begin {l : Launch} {G : mG} {a0 : Array Value} {s0 : State} (Z : mZ l G a0 s0) (h0 : Hp) (m : Nat) (q : Nat → Nat) (st : Ms) (hW : MdlW G h0 m q st) (z : Nat) (i : Nat) (hz : z < 10) (hi : i < 120) (hb9 : st_T st (120 * z + i) < 1073741824) : mM l G s0 yX6_begin cX6_begin 3 (some .long) 1 22 0 0 h0 [.ref m, .int (nI z), .int (nI i)] (fun v h9 => (v = some (.long (lN (z_bg st z i))) ∧ h9 = h0)) := by
  refine mM_in RX6 "begin" rfl rfl (by decide +kernel) (Nat.le_of_ble_eq_true rfl) ?_
  intro p e s mt below meth c H locs C hM hS ls hl
  have hx := C.1
  have hb := C.2.1
  have hown := C.2.2.2.1
  have hE := C.2.2.2.2.2.2.1
  have hl : lv_has ls 3 [(0, .ref m), (1, .int (nI z)), (2, .int (nI i))] := hl
  have hF : mFr h0 h0 m q := mFr.rf
  obtain ⟨h, hh⟩ : ∃ z, z = h0 := ⟨_, rfl⟩
  rw [← hh] at hM hW
  refine lv_aload_n hx hb dX6_begin_0 rfl (lv_at hl 0 rfl) ?_
  refine lv_iload_n hx hb dX6_begin_1 rfl (lv_at hl 1 rfl) ?_
  refine lv_iload_n hx hb dX6_begin_2 rfl (lv_at hl 2 rfl) ?_
  refine m_callV Z C hM hS (As := [.int (nI z), .int (nI i)]) (rest := []) (c_X6_time Z h m q st hW z i (show z < 10 by omega) (show i < 120 by omega)) yi_X6_time ml_X6_87 hW.o rfl ⟨Nat.le_of_ble_eq_true rfl, Nat.le_of_ble_eq_true rfl⟩ (Nat.le_of_ble_eq_true rfl) hl.1 rfl rfl dX6_begin_3 ⟨Nat.le_of_ble_eq_true rfl, Nat.le_of_ble_eq_true rfl⟩ (fun v h9 H locs hv hM hS => ?_)
  obtain ⟨hv, hh9⟩ := hv
  subst hv
  rw [hh9] at hM
  refine W.eq (g2 := F0 mt 6 ls [.long (lN (st_T st (120 * z + i)))]) rfl ?_
  refine lv_ldc2 (v := lN 10) hx hb hown (hE.good Z kl_X6_130 _) dX6_begin_6 ?_
  refine n_ldiv hx hb (by omega) (by decide) (by decide) dX6_begin_9 ?_
  refine lv_ldc2 (v := lN 10) hx hb hown (hE.good Z kl_X6_130 _) dX6_begin_10 ?_
  refine n_lmul hx hb dX6_begin_13 ?_
  exact m_lret C hM hS (Nat.le_of_ble_eq_true rfl) (Nat.le_of_ble_eq_true rfl) dX6_begin_14 ⟨rfl, hh⟩
set_option maxRecDepth 100000 in
set_option maxHeartbeats 4000000 in
theorem c_X6_isTouched {l : Launch} {G : mG} {a0 : Array Value} {s0 : State} (Z : mZ l G a0 s0) (h0 : Hp) (m : Nat) (q : Nat → Nat) (st : Ms) (hW : MdlW G h0 m q st) (z : Nat) (i : Nat) (a : Int64) (d : Int64) (hz : z < 10) (hi : i < 120) (hb9 : st_T st (120 * z + i) < 1073741824) : mM l G s0 yX6_isTouched cX6_isTouched 7 (some .boolean) 2 44 0 0 h0 [.ref m, .int (nI z), .int (nI i), .long a, .long d] (fun v h9 => (v = some (.int (b2 (z_hi st z a d i))) ∧ h9 = h0)) := by
  refine mM_in RX6 "isTouched" rfl rfl (by decide +kernel) (Nat.le_of_ble_eq_true rfl) ?_
  intro p e s mt below meth c H locs C hM hS ls hl
  have hx := C.1
  have hb := C.2.1
  have hown := C.2.2.2.1
  have hE := C.2.2.2.2.2.2.1
  have hl : lv_has ls 7 [(0, .ref m), (1, .int (nI z)), (2, .int (nI i)), (3, .long a), (5, .long d)] := hl
  have hF : mFr h0 h0 m q := mFr.rf
  obtain ⟨h, hh⟩ : ∃ z, z = h0 := ⟨_, rfl⟩
  rw [← hh] at hM hW
  refine lv_aload_n hx hb dX6_isTouched_0 rfl (lv_at hl 0 rfl) ?_
  refine lv_iload_n hx hb dX6_isTouched_1 rfl (lv_at hl 1 rfl) ?_
  refine lv_iload_n hx hb dX6_isTouched_2 rfl (lv_at hl 2 rfl) ?_
  refine m_callV Z C hM hS (As := [.int (nI z), .int (nI i)]) (rest := []) (c_X6_begin Z h m q st hW z i (show z < 10 by omega) (show i < 120 by omega) (show st_T st (120 * z + i) < 1073741824 by omega)) yi_X6_begin ml_X6_132 hW.o rfl ⟨Nat.le_of_ble_eq_true rfl, Nat.le_of_ble_eq_true rfl⟩ (Nat.le_of_ble_eq_true rfl) hl.1 rfl rfl dX6_isTouched_3 ⟨Nat.le_of_ble_eq_true rfl, Nat.le_of_ble_eq_true rfl⟩ (fun v h9 H locs hv hM hS => ?_)
  obtain ⟨hv, hh9⟩ := hv
  subst hv
  rw [hh9] at hM
  refine W.eq (g2 := F0 mt 6 ls [.long (lN (z_bg st z i))]) rfl ?_
  refine lv_lload hx hb dX6_isTouched_6 (lv_at hl 4 rfl) ?_
  refine W.lcmp hx hb dX6_isTouched_8 ?_
  refine n_lc_gt (tgt := 31) hx hb dX6_isTouched_9 (by decide) (fun c_1 => ?_) (fun c_1 => ?_)
  · -- 9 t
    refine lv_iconst (v := nI 0) hx hb dX6_isTouched_31 (by decide) ?_
    exact m_zret C hM hS (Nat.le_of_ble_eq_true rfl) (Nat.le_of_ble_eq_true rfl) rfl dX6_isTouched_32 ⟨by rw [b2_f (by have k0 := c_1; simp only [Int32.lt_iff_toInt_lt, Int32.le_iff_toInt_le, ← Int32.toInt_inj, Int64.lt_iff_toInt_lt, Int64.le_iff_toInt_le, ← Int64.toInt_inj, kt, ktL, z_hi] at k0 ⊢; omega)], hh⟩
  · -- 9 f
    refine lv_aload_n hx hb dX6_isTouched_12 rfl (lv_at hl 0 rfl) ?_
    refine lv_iload_n hx hb dX6_isTouched_13 rfl (lv_at hl 1 rfl) ?_
    refine lv_iload_n hx hb dX6_isTouched_14 rfl (lv_at hl 2 rfl) ?_
    refine m_callV Z C hM hS (As := [.int (nI z), .int (nI i)]) (rest := []) (c_X6_begin Z h m q st hW z i (show z < 10 by omega) (show i < 120 by omega) (show st_T st (120 * z + i) < 1073741824 by omega)) yi_X6_begin ml_X6_132 hW.o rfl ⟨Nat.le_of_ble_eq_true rfl, Nat.le_of_ble_eq_true rfl⟩ (Nat.le_of_ble_eq_true rfl) hl.1 rfl rfl dX6_isTouched_15 ⟨Nat.le_of_ble_eq_true rfl, Nat.le_of_ble_eq_true rfl⟩ (fun v h9 H locs hv hM hS => ?_)
    obtain ⟨hv, hh9⟩ := hv
    subst hv
    rw [hh9] at hM
    refine W.eq (g2 := F0 mt 18 ls [.long (lN (z_bg st z i))]) rfl ?_
    refine lv_ldc2 (v := lN 9) hx hb hown (hE.good Z kl_X6_135 _) dX6_isTouched_18 ?_
    refine n_ladd hx hb dX6_isTouched_21 ?_
    refine lv_lload_n hx hb dX6_isTouched_22 rfl (lv_at hl 3 rfl) ?_
    refine W.lcmp hx hb dX6_isTouched_23 ?_
    refine n_lc_lt (tgt := 31) hx hb dX6_isTouched_24 (by decide) (fun c_2 => ?_) (fun c_2 => ?_)
    · -- 24 t
      refine lv_iconst (v := nI 0) hx hb dX6_isTouched_31 (by decide) ?_
      exact m_zret C hM hS (Nat.le_of_ble_eq_true rfl) (Nat.le_of_ble_eq_true rfl) rfl dX6_isTouched_32 ⟨by rw [b2_f (by have k0 := c_1; have k1 := c_2; simp only [Int32.lt_iff_toInt_lt, Int32.le_iff_toInt_le, ← Int32.toInt_inj, Int64.lt_iff_toInt_lt, Int64.le_iff_toInt_le, ← Int64.toInt_inj, kt, ktL, z_hi] at k0 k1 ⊢; omega)], hh⟩
    · -- 24 f
      refine lv_iconst (v := nI 1) hx hb dX6_isTouched_27 (by decide) ?_
      refine lv_goto (tgt := 32) hx hb dX6_isTouched_28 (by decide) ?_
      exact m_zret C hM hS (Nat.le_of_ble_eq_true rfl) (Nat.le_of_ble_eq_true rfl) rfl dX6_isTouched_32 ⟨by rw [b2_t (by have k0 := c_1; have k1 := c_2; simp only [Int32.lt_iff_toInt_lt, Int32.le_iff_toInt_le, ← Int32.toInt_inj, Int64.lt_iff_toInt_lt, Int64.le_iff_toInt_le, ← Int64.toInt_inj, kt, ktL, z_hi] at k0 k1 ⊢; omega)], hh⟩
set_option maxRecDepth 100000 in
set_option maxHeartbeats 4000000 in
theorem c_X6_target {l : Launch} {G : mG} {a0 : Array Value} {s0 : State} (Z : mZ l G a0 s0) (h0 : Hp) (m : Nat) (q : Nat → Nat) (st : Ms) (hW : MdlW G h0 m q st) (z : Nat) (d : Nat) (hk : Mok st) (hz : z < st_many st) (hd : d ≤ 100) : mM l G s0 yX6_target cX6_target 3 (some .int) 0 0 0 0 h0 [.ref m, .int (nI z), .int (nI d)] (fun v h9 => (v = some (.int (nI (z_tg st z d))) ∧ h9 = h0)) := by
  refine mM_in RX6 "target" rfl rfl (by decide +kernel) (Nat.le_of_ble_eq_true rfl) ?_
  intro p e s mt below meth c H locs C hM hS ls hl
  have hx := C.1
  have hb := C.2.1
  have hown := C.2.2.2.1
  have hE := C.2.2.2.2.2.2.1
  have hl : lv_has ls 3 [(0, .ref m), (1, .int (nI z)), (2, .int (nI d))] := hl
  have hF : mFr h0 h0 m q := mFr.rf
  obtain ⟨h, hh⟩ : ∃ z, z = h0 := ⟨_, rfl⟩
  rw [← hh] at hM hW
  have hm := hk.1
  have hnow := hk.2.1
  obtain ⟨hn, hT, hZ, hsi, hbd, hhv⟩ := hk.2.2 z hz
  have hmul : st_n st z * d ≤ 120 * 100 := Nat.mul_le_mul hn hd
  refine lv_aload_n hx hb dX6_target_0 rfl (lv_at hl 0 rfl) ?_
  refine m_get Z C hM hW.o K_X6 5 (by decide) fl_X6_16 (v := .ref (q 5)) rfl dX6_target_1 ?_
  refine lv_iload_n hx hb dX6_target_4 rfl (lv_at hl 1 rfl) ?_
  refine m_iald Z C hM (f := fun k => nI ((st_n st) k)) hW.a5 z rfl (by omega) (by decide) dX6_target_5 ?_
  refine lv_iload_n hx hb dX6_target_6 rfl (lv_at hl 2 rfl) ?_
  refine n_imul hx hb dX6_target_7 ?_
  refine lv_bipush (v := nI 99) hx hb dX6_target_8 (by decide) ?_
  refine n_iadd hx hb dX6_target_10 ?_
  refine lv_bipush (v := nI 100) hx hb dX6_target_11 (by decide) ?_
  refine n_idiv hx hb (by omega) (by decide) (by decide) dX6_target_13 ?_
  exact m_iret C hM hS (Nat.le_of_ble_eq_true rfl) (Nat.le_of_ble_eq_true rfl) dX6_target_14 ⟨rfl, hh⟩
set_option maxRecDepth 100000 in
set_option maxHeartbeats 4000000 in
theorem c_X6_upTo {l : Launch} {G : mG} {a0 : Array Value} {s0 : State} (Z : mZ l G a0 s0) (h0 : Hp) (m : Nat) (q : Nat → Nat) (st : Ms) (hW : MdlW G h0 m q st) (z : Nat) (x : Int32) (hk : Mok st) (hz : z < st_many st) : mM l G s0 yX6_upTo cX6_upTo 5 (some .int) 1 22 0 0 h0 [.ref m, .int (nI z), .int x] (fun v h9 => (v = some (.int (nI (z_up st z x))) ∧ h9 = h0)) := by
  refine mM_in RX6 "upTo" rfl rfl (by decide +kernel) (Nat.le_of_ble_eq_true rfl) ?_
  intro p e s mt below meth c H locs C hM hS ls hl
  have hx := C.1
  have hb := C.2.1
  have hown := C.2.2.2.1
  have hE := C.2.2.2.2.2.2.1
  have hl : lv_has ls 5 [(0, .ref m), (1, .int (nI z)), (2, .int x)] := hl
  have hF : mFr h0 h0 m q := mFr.rf
  obtain ⟨h, hh⟩ : ∃ z, z = h0 := ⟨_, rfl⟩
  rw [← hh] at hM hW
  have hm := hk.1
  have hnow := hk.2.1
  obtain ⟨hn, hT, hZ, hsi, hbd, hhv⟩ := hk.2.2 z hz
  refine lv_iconst (v := nI 0) hx hb dX6_upTo_0 (by decide) ?_
  refine lv_istore_n (lv' := [(3, .int (nI 0)), (0, .ref m), (1, .int (nI z)), (2, .int x)]) hx hb dX6_upTo_1 rfl hl (by decide) rfl (fun ls hl => ?_)
  refine lv_iconst (v := nI 0) hx hb dX6_upTo_2 (by decide) ?_
  refine lv_istore (lv' := [(4, .int (nI 0)), (3, .int (nI 0)), (0, .ref m), (1, .int (nI z)), (2, .int x)]) hx hb dX6_upTo_3 hl (by decide) rfl (fun ls hl => ?_)
  have lp_1 : ∀ (fu : Nat) (k : Nat), st_n st z < k + fu → k ≤ st_n st z → ∀ (H : Heap) (locs : List Loc), MW G s0.heap.size h H → va_S (fun q => s0.heap.size ≤ q) s.heap H locs → ∀ ls : Array Slot, lv_has ls 5 [(4, .int (nI k)), (3, .int (nI (z_ct (fun i => z_v st z i ≤ x) k))), (0, .ref m), (1, .int (nI z)), (2, .int x)] → W p l e (mRm 1 22 0 0) s mt ([.ref m, .int (nI z), .int x] : List Value).toArray below meth c H locs 0 0 (MQ below (mQc G s0 (fun v h9 => (v = some (.int (nI (z_up st z x))) ∧ h9 = h0))) ([.ref m, .int (nI z), .int x] : List Value).toArray s 0 0 (fun q => s0.heap.size ≤ q)) (F0 mt 5 ls []) := by
    intro fu
    induction fu with
    | zero => intro k hfu _; exact absurd hfu (by omega)
    | succ fu ih =>
      intro k hfu hk9 H locs hM hS ls hl
      refine lv_iload hx hb dX6_upTo_5 (lv_at hl 0 rfl) ?_
      refine lv_aload_n hx hb dX6_upTo_7 rfl (lv_at hl 2 rfl) ?_
      refine m_get Z C hM hW.o K_X6 5 (by decide) fl_X6_16 (v := .ref (q 5)) rfl dX6_upTo_8 ?_
      refine lv_iload_n hx hb dX6_upTo_11 rfl (lv_at hl 3 rfl) ?_
      refine m_iald Z C hM (f := fun k => nI ((st_n st) k)) hW.a5 z rfl (by omega) (by decide) dX6_upTo_12 ?_
      refine lv_icmp_ge (tgt := 41) hx hb dX6_upTo_13 (by decide) (fun c_2 => ?_) (fun c_2 => ?_)
      · -- 13 t
        have c_2 : (st_n st) z ≤ k := (nI_leI (by omega) (by omega)).mp c_2
        refine lv_iload_n hx hb dX6_upTo_41 rfl (lv_at hl 1 rfl) ?_
        exact m_iret C hM hS (Nat.le_of_ble_eq_true rfl) (Nat.le_of_ble_eq_true rfl) dX6_upTo_42 ⟨by rw [show k = st_n st z by omega]; rfl, hh⟩
      · -- 13 f
        have c_2 : ¬ (st_n st) z ≤ k := fun q => c_2 ((nI_leI (by omega) (by omega)).mpr q)
        refine lv_iload_n hx hb dX6_upTo_16 rfl (lv_at hl 1 rfl) ?_
        refine lv_aload_n hx hb dX6_upTo_17 rfl (lv_at hl 2 rfl) ?_
        refine lv_iload_n hx hb dX6_upTo_18 rfl (lv_at hl 3 rfl) ?_
        refine lv_iload hx hb dX6_upTo_19 (lv_at hl 0 rfl) ?_
        refine m_callV Z C hM hS (As := [.int (nI z), .int (nI k)]) (rest := [.int (nI (z_ct (fun i => z_v st z i ≤ x) k))]) (c_X6_value Z h m q st hW z k (show z < 10 by omega) (show k < 120 by omega)) yi_X6_value ml_X6_64 hW.o rfl ⟨Nat.le_of_ble_eq_true rfl, Nat.le_of_ble_eq_true rfl⟩ (Nat.le_of_ble_eq_true rfl) hl.1 rfl rfl dX6_upTo_21 ⟨Nat.le_of_ble_eq_true rfl, Nat.le_of_ble_eq_true rfl⟩ (fun v h9 H locs hv hM hS => ?_)
        obtain ⟨hv, hh9⟩ := hv
        subst hv
        rw [hh9] at hM
        refine W.eq (g2 := F0 mt 24 ls [.int (st_V st (120 * z + k)), .int (nI (z_ct (fun i => z_v st z i ≤ x) k))]) rfl ?_
        refine lv_iload_n hx hb dX6_upTo_24 rfl (lv_at hl 4 rfl) ?_
        refine lv_icmp_gt (tgt := 32) hx hb dX6_upTo_25 (by decide) (fun c_3 => ?_) (fun c_3 => ?_)
        · -- 25 t
          refine lv_iconst (v := nI 0) hx hb dX6_upTo_32 (by decide) ?_
          refine n_iadd hx hb dX6_upTo_33 ?_
          refine lv_istore_n (lv' := [(3, .int (nI (z_ct (fun i => z_v st z i ≤ x) k + 0))), (4, .int (nI k)), (0, .ref m), (1, .int (nI z)), (2, .int x)]) hx hb dX6_upTo_34 rfl hl (by decide) rfl (fun ls hl => ?_)
          refine lv_iinc (v := nI (k + 1)) (lv' := [(4, .int (nI (k + 1))), (3, .int (nI (z_ct (fun i => z_v st z i ≤ x) k + 0))), (0, .ref m), (1, .int (nI z)), (2, .int x)]) hx hb dX6_upTo_35 hl (k := 1) rfl (nI_add _ _) (by decide) rfl (fun ls hl => ?_)
          refine lv_goto (tgt := 5) hx hb dX6_upTo_38 (by decide) ?_
          have e_3 : z_ct (fun i => z_v st z i ≤ x) (k + 1) = _ := z_ct_f0 (by show ¬ (st_V st (120 * z + k) ≤ x); have q := c_3; rw [Int32.lt_iff_toInt_lt] at q; rw [Int32.le_iff_toInt_le]; omega)
          rw [← e_3] at hl
          exact ih (k + 1) (by omega) (by omega) H locs hM hS ls (lv_sub hl [0, 1, 2, 3, 4] rfl)
        · -- 25 f
          refine lv_iconst (v := nI 1) hx hb dX6_upTo_28 (by decide) ?_
          refine lv_goto (tgt := 33) hx hb dX6_upTo_29 (by decide) ?_
          refine n_iadd hx hb dX6_upTo_33 ?_
          refine lv_istore_n (lv' := [(3, .int (nI (z_ct (fun i => z_v st z i ≤ x) k + 1))), (4, .int (nI k)), (0, .ref m), (1, .int (nI z)), (2, .int x)]) hx hb dX6_upTo_34 rfl hl (by decide) rfl (fun ls hl => ?_)
          refine lv_iinc (v := nI (k + 1)) (lv' := [(4, .int (nI (k + 1))), (3, .int (nI (z_ct (fun i => z_v st z i ≤ x) k + 1))), (0, .ref m), (1, .int (nI z)), (2, .int x)]) hx hb dX6_upTo_35 hl (k := 1) rfl (nI_add _ _) (by decide) rfl (fun ls hl => ?_)
          refine lv_goto (tgt := 5) hx hb dX6_upTo_38 (by decide) ?_
          have e_3 : z_ct (fun i => z_v st z i ≤ x) (k + 1) = _ := z_ct_t (by show st_V st (120 * z + k) ≤ x; have q := c_3; rw [Int32.lt_iff_toInt_lt] at q; rw [Int32.le_iff_toInt_le]; omega)
          rw [← e_3] at hl
          exact ih (k + 1) (by omega) (by omega) H locs hM hS ls (lv_sub hl [0, 1, 2, 3, 4] rfl)
  exact lp_1 (st_n st z + 1) 0 (by omega) (Nat.zero_le _) H locs hM hS ls (lv_sub hl [0, 1, 2, 3, 4] rfl)
