set_option maxRecDepth 100000 in
set_option maxHeartbeats 4000000 in
theorem c_X6_bits {l : Launch} {G : mG} {a0 : Array Value} {s0 : State} (Z : mZ l G a0 s0) (h0 : Hp) (m : Nat) (q : Nat → Nat) (st : Ms) (hW : MdlW G h0 m q st) (z : Nat) (d : Nat) (hk : Mok st) (hz : z < st_many st) (hd : 8 * d < st_n st z) : mM l G s0 yX6_bits cX6_bits 8 (some .int) 1 22 0 0 h0 [.ref m, .int (nI z), .int (nI d)] (fun v h9 => (v = some (.int (nI (z_bits st z d))) ∧ h9 = h0)) := by
  refine mM_in RX6 "bits" rfl rfl (by decide +kernel) (Nat.le_of_ble_eq_true rfl) ?_
  intro p e s mt below meth c H locs C hM hS ls hl
  have hx := C.1
  have hb := C.2.1
  have hown := C.2.2.2.1
  have hE := C.2.2.2.2.2.2.1
  have hl : lv_has ls 8 [(0, .ref m), (1, .int (nI z)), (2, .int (nI d))] := hl
  have hF : mFr h0 h0 m q := mFr.rf
  obtain ⟨h, hh⟩ : ∃ z, z = h0 := ⟨_, rfl⟩
  rw [← hh] at hM hW
  have hm := hk.1
  have hnow := hk.2.1
  obtain ⟨hn, hT, hZ, hsi, hbd, hhv⟩ := hk.2.2 z hz
  refine lv_bipush (v := nI 64) hx hb dX6_bits_0 (by decide) ?_
  refine lv_istore_n (lv' := [(3, .int (nI 64)), (0, .ref m), (1, .int (nI z)), (2, .int (nI d))]) hx hb dX6_bits_2 rfl hl (by decide) rfl (fun ls hl => ?_)
  refine lv_bipush (v := nI 8) hx hb dX6_bits_3 (by decide) ?_
  refine lv_iload_n hx hb dX6_bits_5 rfl (lv_at hl 3 rfl) ?_
  refine n_imul hx hb dX6_bits_6 ?_
  refine lv_iconst (v := nI 1) hx hb dX6_bits_7 (by decide) ?_
  refine n_iadd hx hb dX6_bits_8 ?_
  refine lv_istore (lv' := [(4, .int (nI (8 * d + 1))), (3, .int (nI 64)), (0, .ref m), (1, .int (nI z)), (2, .int (nI d))]) hx hb dX6_bits_9 hl (by decide) rfl (fun ls hl => ?_)
  have lp_1 : ∀ (fu : Nat) (j : Nat), 8 < j + fu → j ≤ 7 → 8 * d + 1 + j ≤ st_n st z → ∀ (H : Heap) (locs : List Loc), MW G s0.heap.size h H → va_S (fun q => s0.heap.size ≤ q) s.heap H locs → ∀ ls : Array Slot, lv_has ls 8 [(4, .int (nI (8 * d + 1 + j))), (3, .int (nI (z_bt st z d j))), (0, .ref m), (1, .int (nI z)), (2, .int (nI d))] → W p l e (mRm 1 22 0 0) s mt ([.ref m, .int (nI z), .int (nI d)] : List Value).toArray below meth c H locs 0 0 (MQ below (mQc G s0 (fun v h9 => (v = some (.int (nI (z_bits st z d))) ∧ h9 = h0))) ([.ref m, .int (nI z), .int (nI d)] : List Value).toArray s 0 0 (fun q => s0.heap.size ≤ q)) (F0 mt 11 ls []) := by
    intro fu
    induction fu with
    | zero => intro j hfu _ _; exact absurd hfu (by omega)
    | succ fu ih =>
      intro j hfu hj hjn H locs hM hS ls hl
      refine lv_iload hx hb dX6_bits_11 (lv_at hl 0 rfl) ?_
      refine lv_aload_n hx hb dX6_bits_13 rfl (lv_at hl 2 rfl) ?_
      refine m_get Z C hM hW.o K_X6 5 (by decide) fl_X6_16 (v := .ref (q 5)) rfl dX6_bits_14 ?_
      refine lv_iload_n hx hb dX6_bits_17 rfl (lv_at hl 3 rfl) ?_
      refine m_iald Z C hM (f := fun k => nI ((st_n st) k)) hW.a5 z rfl (by omega) (by decide) dX6_bits_18 ?_
      refine lv_icmp_ge (tgt := 183) hx hb dX6_bits_19 (by decide) (fun c_2 => ?_) (fun c_2 => ?_)
      · -- 19 t
        have c_2 : (st_n st) z ≤ 8 * d + 1 + j := (nI_leI (by omega) (by omega)).mp c_2
        refine lv_iload_n hx hb dX6_bits_183 rfl (lv_at hl 1 rfl) ?_
        exact m_iret C hM hS (Nat.le_of_ble_eq_true rfl) (Nat.le_of_ble_eq_true rfl) dX6_bits_184 ⟨by unfold z_bits; rw [show min (st_n st z - (8 * d + 1)) 7 = j by omega], hh⟩
      · -- 19 f
        have c_2 : ¬ (st_n st) z ≤ 8 * d + 1 + j := fun q => c_2 ((nI_leI (by omega) (by omega)).mpr q)
        refine lv_iload hx hb dX6_bits_22 (lv_at hl 0 rfl) ?_
        refine lv_bipush (v := nI 8) hx hb dX6_bits_24 (by decide) ?_
        refine lv_iload_n hx hb dX6_bits_26 rfl (lv_at hl 4 rfl) ?_
        refine n_imul hx hb dX6_bits_27 ?_
        refine lv_bipush (v := nI 8) hx hb dX6_bits_28 (by decide) ?_
        refine n_iadd hx hb dX6_bits_30 ?_
        refine lv_icmp_ge (tgt := 183) hx hb dX6_bits_31 (by decide) (fun c_3 => ?_) (fun c_3 => ?_)
        · -- 31 t
          have c_3 : 8 * d + 8 ≤ 8 * d + 1 + j := (nI_leI (by omega) (by omega)).mp c_3
          refine lv_iload_n hx hb dX6_bits_183 rfl (lv_at hl 1 rfl) ?_
          exact m_iret C hM hS (Nat.le_of_ble_eq_true rfl) (Nat.le_of_ble_eq_true rfl) dX6_bits_184 ⟨by unfold z_bits; rw [show min (st_n st z - (8 * d + 1)) 7 = j by omega], hh⟩
        · -- 31 f
          have c_3 : ¬ 8 * d + 8 ≤ 8 * d + 1 + j := fun q => c_3 ((nI_leI (by omega) (by omega)).mpr q)
          refine lv_aload_n hx hb dX6_bits_34 rfl (lv_at hl 2 rfl) ?_
          refine lv_iload_n hx hb dX6_bits_35 rfl (lv_at hl 3 rfl) ?_
          refine lv_iload hx hb dX6_bits_36 (lv_at hl 0 rfl) ?_
          refine m_callV Z C hM hS (As := [.int (nI z), .int (nI (8 * d + 1 + j))]) (rest := []) (c_X6_time Z h m q st hW z (8 * d + 1 + j) (show z < 10 by omega) (show (8 * d + 1 + j) < 120 by omega)) yi_X6_time ml_X6_87 hW.o rfl ⟨Nat.le_of_ble_eq_true rfl, Nat.le_of_ble_eq_true rfl⟩ (Nat.le_of_ble_eq_true rfl) hl.1 rfl rfl dX6_bits_38 ⟨Nat.le_of_ble_eq_true rfl, Nat.le_of_ble_eq_true rfl⟩ (fun v h9 H locs hv hM hS => ?_)
          obtain ⟨hv, hh9⟩ := hv
          subst hv
          rw [hh9] at hM
          refine W.eq (g2 := F0 mt 41 ls [.long (lN (st_T st (120 * z + (8 * d + 1 + j))))]) rfl ?_
          refine lv_aload_n hx hb dX6_bits_41 rfl (lv_at hl 2 rfl) ?_
          refine lv_iload_n hx hb dX6_bits_42 rfl (lv_at hl 3 rfl) ?_
          refine lv_iload hx hb dX6_bits_43 (lv_at hl 0 rfl) ?_
          refine lv_iconst (v := nI 1) hx hb dX6_bits_45 (by decide) ?_
          refine n_isub hx hb (by omega) dX6_bits_46 ?_
          refine m_callV Z C hM hS (As := [.int (nI z), .int (nI ((8 * d + 1 + j) - 1))]) (rest := [.long (lN (st_T st (120 * z + (8 * d + 1 + j))))]) (c_X6_time Z h m q st hW z ((8 * d + 1 + j) - 1) (show z < 10 by omega) (show ((8 * d + 1 + j) - 1) < 120 by omega)) yi_X6_time ml_X6_87 hW.o rfl ⟨Nat.le_of_ble_eq_true rfl, Nat.le_of_ble_eq_true rfl⟩ (Nat.le_of_ble_eq_true rfl) hl.1 rfl rfl dX6_bits_47 ⟨Nat.le_of_ble_eq_true rfl, Nat.le_of_ble_eq_true rfl⟩ (fun v h9 H locs hv hM hS => ?_)
          obtain ⟨hv, hh9⟩ := hv
          subst hv
          rw [hh9] at hM
          refine W.eq (g2 := F0 mt 50 ls [.long (lN (st_T st (120 * z + ((8 * d + 1 + j) - 1)))), .long (lN (st_T st (120 * z + (8 * d + 1 + j))))]) rfl ?_
          refine lv_lsub hx hb dX6_bits_50 ?_
          refine lv_lstore (lv' := [(5, .long (lN (st_T st (120 * z + (8 * d + 1 + j))) - lN (st_T st (120 * z + ((8 * d + 1 + j) - 1))))), (4, .int (nI (8 * d + 1 + j))), (3, .int (nI (z_bt st z d j))), (0, .ref m), (1, .int (nI z)), (2, .int (nI d))]) hx hb dX6_bits_51 hl (by decide) rfl (fun ls hl => ?_)
          have jn_4 : ∀ (x : Int64), z_ap st z d (8 * d + 1 + j) = x → ∀ (H : Heap) (locs : List Loc), MW G s0.heap.size h H → va_S (fun q => s0.heap.size ≤ q) s.heap H locs → ∀ ls : Array Slot, lv_has ls 8 [(5, .long x), (4, .int (nI (8 * d + 1 + j))), (3, .int (nI (z_bt st z d j))), (0, .ref m), (1, .int (nI z)), (2, .int (nI d))] → W p l e (mRm 1 22 0 0) s mt ([.ref m, .int (nI z), .int (nI d)] : List Value).toArray below meth c H locs 0 0 (MQ below (mQc G s0 (fun v h9 => (v = some (.int (nI (z_bits st z d))) ∧ h9 = h0))) ([.ref m, .int (nI z), .int (nI d)] : List Value).toArray s 0 0 (fun q => s0.heap.size ≤ q)) (F0 mt 88 ls []) := by
            intro x e_ap H locs hM hS ls hl
            refine lv_aload_n hx hb dX6_bits_88 rfl (lv_at hl 3 rfl) ?_
            refine lv_iload_n hx hb dX6_bits_89 rfl (lv_at hl 4 rfl) ?_
            refine lv_iload hx hb dX6_bits_90 (lv_at hl 1 rfl) ?_
            refine m_callV Z C hM hS (As := [.int (nI z), .int (nI (8 * d + 1 + j))]) (rest := []) (c_X6_value Z h m q st hW z (8 * d + 1 + j) (show z < 10 by omega) (show (8 * d + 1 + j) < 120 by omega)) yi_X6_value ml_X6_64 hW.o rfl ⟨Nat.le_of_ble_eq_true rfl, Nat.le_of_ble_eq_true rfl⟩ (Nat.le_of_ble_eq_true rfl) hl.1 rfl rfl dX6_bits_92 ⟨Nat.le_of_ble_eq_true rfl, Nat.le_of_ble_eq_true rfl⟩ (fun v h9 H locs hv hM hS => ?_)
            obtain ⟨hv, hh9⟩ := hv
            subst hv
            rw [hh9] at hM
            refine W.eq (g2 := F0 mt 95 ls [.int (st_V st (120 * z + (8 * d + 1 + j)))]) rfl ?_
            refine lv_aload_n hx hb dX6_bits_95 rfl (lv_at hl 3 rfl) ?_
            refine lv_iload_n hx hb dX6_bits_96 rfl (lv_at hl 4 rfl) ?_
            refine lv_iload hx hb dX6_bits_97 (lv_at hl 1 rfl) ?_
            refine lv_iconst (v := nI 1) hx hb dX6_bits_99 (by decide) ?_
            refine n_isub hx hb (by omega) dX6_bits_100 ?_
            refine m_callV Z C hM hS (As := [.int (nI z), .int (nI ((8 * d + 1 + j) - 1))]) (rest := [.int (st_V st (120 * z + (8 * d + 1 + j)))]) (c_X6_value Z h m q st hW z ((8 * d + 1 + j) - 1) (show z < 10 by omega) (show ((8 * d + 1 + j) - 1) < 120 by omega)) yi_X6_value ml_X6_64 hW.o rfl ⟨Nat.le_of_ble_eq_true rfl, Nat.le_of_ble_eq_true rfl⟩ (Nat.le_of_ble_eq_true rfl) hl.1 rfl rfl dX6_bits_101 ⟨Nat.le_of_ble_eq_true rfl, Nat.le_of_ble_eq_true rfl⟩ (fun v h9 H locs hv hM hS => ?_)
            obtain ⟨hv, hh9⟩ := hv
            subst hv
            rw [hh9] at hM
            refine W.eq (g2 := F0 mt 104 ls [.int (st_V st (120 * z + ((8 * d + 1 + j) - 1))), .int (st_V st (120 * z + (8 * d + 1 + j)))]) rfl ?_
            refine lv_isub hx hb dX6_bits_104 ?_
            refine lv_istore (lv' := [(7, .int ((st_V st (120 * z + (8 * d + 1 + j))) - (st_V st (120 * z + ((8 * d + 1 + j) - 1))))), (5, .long x), (4, .int (nI (8 * d + 1 + j))), (3, .int (nI (z_bt st z d j))), (0, .ref m), (1, .int (nI z)), (2, .int (nI d))]) hx hb dX6_bits_105 hl (by decide) rfl (fun ls hl => ?_)
            refine lv_iload_n hx hb dX6_bits_107 rfl (lv_at hl 3 rfl) ?_
            have jn_5 : ∀ (tb : Nat), z_tb x = tb → ∀ (H : Heap) (locs : List Loc), MW G s0.heap.size h H → va_S (fun q => s0.heap.size ≤ q) s.heap H locs → ∀ ls : Array Slot, lv_has ls 8 [(7, .int ((st_V st (120 * z + (8 * d + 1 + j))) - (st_V st (120 * z + ((8 * d + 1 + j) - 1))))), (5, .long x), (4, .int (nI (8 * d + 1 + j))), (3, .int (nI (z_bt st z d j))), (0, .ref m), (1, .int (nI z)), (2, .int (nI d))] → W p l e (mRm 1 22 0 0) s mt ([.ref m, .int (nI z), .int (nI d)] : List Value).toArray below meth c H locs 0 0 (MQ below (mQc G s0 (fun v h9 => (v = some (.int (nI (z_bits st z d))) ∧ h9 = h0))) ([.ref m, .int (nI z), .int (nI d)] : List Value).toArray s 0 0 (fun q => s0.heap.size ≤ q)) (F0 mt 144 ls [.int (nI tb), .int (nI (z_bt st z d j))]) := by
              intro tb e_tb H locs hM hS ls hl
              refine n_iadd hx hb dX6_bits_144 ?_
              refine lv_istore_n (lv' := [(3, .int (nI (z_bt st z d j + tb))), (7, .int ((st_V st (120 * z + (8 * d + 1 + j))) - (st_V st (120 * z + ((8 * d + 1 + j) - 1))))), (5, .long x), (4, .int (nI (8 * d + 1 + j))), (0, .ref m), (1, .int (nI z)), (2, .int (nI d))]) hx hb dX6_bits_145 rfl hl (by decide) rfl (fun ls hl => ?_)
              refine lv_iload_n hx hb dX6_bits_146 rfl (lv_at hl 0 rfl) ?_
              have jn_6 : ∀ (vb : Nat), z_vb (z_v st z (8 * d + 1 + j) - z_v st z (8 * d + 1 + j - 1)) = vb → ∀ (H : Heap) (locs : List Loc), MW G s0.heap.size h H → va_S (fun q => s0.heap.size ≤ q) s.heap H locs → ∀ ls : Array Slot, lv_has ls 8 [(3, .int (nI (z_bt st z d j + tb))), (7, .int ((st_V st (120 * z + (8 * d + 1 + j))) - (st_V st (120 * z + ((8 * d + 1 + j) - 1))))), (5, .long x), (4, .int (nI (8 * d + 1 + j))), (0, .ref m), (1, .int (nI z)), (2, .int (nI d))] → W p l e (mRm 1 22 0 0) s mt ([.ref m, .int (nI z), .int (nI d)] : List Value).toArray below meth c H locs 0 0 (MQ below (mQc G s0 (fun v h9 => (v = some (.int (nI (z_bits st z d))) ∧ h9 = h0))) ([.ref m, .int (nI z), .int (nI d)] : List Value).toArray s 0 0 (fun q => s0.heap.size ≤ q)) (F0 mt 175 ls [.int (nI vb), .int (nI (z_bt st z d j + tb))]) := by
                intro vb e_vb H locs hM hS ls hl
                refine n_iadd hx hb dX6_bits_175 ?_
                refine lv_istore_n (lv' := [(3, .int (nI (z_bt st z d j + tb + vb))), (7, .int ((st_V st (120 * z + (8 * d + 1 + j))) - (st_V st (120 * z + ((8 * d + 1 + j) - 1))))), (5, .long x), (4, .int (nI (8 * d + 1 + j))), (0, .ref m), (1, .int (nI z)), (2, .int (nI d))]) hx hb dX6_bits_176 rfl hl (by decide) rfl (fun ls hl => ?_)
                refine lv_iinc (v := nI (8 * d + 1 + j + 1)) (lv' := [(4, .int (nI (8 * d + 1 + j + 1))), (3, .int (nI (z_bt st z d j + tb + vb))), (7, .int ((st_V st (120 * z + (8 * d + 1 + j))) - (st_V st (120 * z + ((8 * d + 1 + j) - 1))))), (5, .long x), (0, .ref m), (1, .int (nI z)), (2, .int (nI d))]) hx hb dX6_bits_177 hl (k := 3) rfl (nI_add _ _) (by decide) rfl (fun ls hl => ?_)
                refine lv_goto (tgt := 11) hx hb dX6_bits_180 (by decide) ?_
                have e_3 : z_bt st z d (j + 1) = z_bt st z d j + z_tb (z_ap st z d (8 * d + 1 + j)) + z_vb (z_v st z (8 * d + 1 + j) - z_v st z (8 * d + 1 + j - 1)) := rfl
                rw [e_ap, e_tb, e_vb] at e_3
                rw [← e_3] at hl
                exact ih (j + 1) (by omega) (by omega) (by omega) H locs hM hS ls (lv_sub hl [0, 1, 4, 5, 6] rfl)
              refine lv_iload hx hb dX6_bits_147 (lv_at hl 1 rfl) ?_
              refine lv_if_ne (tgt := 156) hx hb dX6_bits_149 (by decide) (fun c_7 => ?_) (fun c_7 => ?_)
              · -- 149 t
                refine lv_iload hx hb dX6_bits_156 (lv_at hl 1 rfl) ?_
                refine lv_bipush (v := -31) hx hb dX6_bits_158 (by decide) ?_
                refine lv_bipush (v := nI 32) hx hb dX6_bits_160 (by decide) ?_
                refine m_callS Z C hM hS (As := [.int ((st_V st (120 * z + (8 * d + 1 + j))) - (st_V st (120 * z + ((8 * d + 1 + j) - 1)))), .int ((-31)), .int (nI 32)]) (rest := [.int (nI (z_bt st z d j + tb))]) (c_X6_isIn Z h ((st_V st (120 * z + (8 * d + 1 + j))) - (st_V st (120 * z + ((8 * d + 1 + j) - 1)))) ((-31)) (nI 32)) yi_X6_isIn ml_X6_60 ⟨Nat.le_of_ble_eq_true rfl, Nat.le_of_ble_eq_true rfl⟩ (Nat.le_of_ble_eq_true rfl) hl.1 rfl rfl dX6_bits_162 ⟨Nat.le_of_ble_eq_true rfl, Nat.le_of_ble_eq_true rfl⟩ (fun v h9 H locs hv hM hS => ?_)
                obtain ⟨hv, hh9⟩ := hv
                rcases Decidable.em (((-31)) ≤ ((st_V st (120 * z + (8 * d + 1 + j))) - (st_V st (120 * z + ((8 * d + 1 + j) - 1)))) ∧ ((st_V st (120 * z + (8 * d + 1 + j))) - (st_V st (120 * z + ((8 * d + 1 + j) - 1)))) ≤ (nI 32)) with g_8 | g_8
                · -- of 162: True
                  rw [b2_t g_8] at hv
                  subst hv
                  rw [hh9] at hM
                  refine W.eq (g2 := F0 mt 165 ls [.int (nI 1), .int (nI (z_bt st z d j + tb))]) rfl ?_
                  refine lv_if_eq (tgt := 173) hx hb dX6_bits_165 (by decide) (fun q => absurd q (by decide)) (fun _ => ?_)
                  refine lv_bipush (v := nI 8) hx hb dX6_bits_168 (by decide) ?_
                  refine lv_goto (tgt := 175) hx hb dX6_bits_170 (by decide) ?_
                  exact jn_6 8 (by unfold z_vb; exact (if_neg c_7).trans (if_pos g_8)) H locs hM hS ls (lv_sub hl [0, 1, 2, 3, 4, 5, 6] rfl)
                · -- of 162: False
                  rw [b2_f g_8] at hv
                  subst hv
                  rw [hh9] at hM
                  refine W.eq (g2 := F0 mt 165 ls [.int (nI 0), .int (nI (z_bt st z d j + tb))]) rfl ?_
                  refine lv_if_eq (tgt := 173) hx hb dX6_bits_165 (by decide) (fun _ => ?_) (fun q => absurd (by decide) q)
                  refine lv_bipush (v := nI 18) hx hb dX6_bits_173 (by decide) ?_
                  exact jn_6 18 (by unfold z_vb; exact (if_neg c_7).trans (if_neg g_8)) H locs hM hS ls (lv_sub hl [0, 1, 2, 3, 4, 5, 6] rfl)
              · -- 149 f
                refine lv_iconst (v := nI 1) hx hb dX6_bits_152 (by decide) ?_
                refine lv_goto (tgt := 175) hx hb dX6_bits_153 (by decide) ?_
                exact jn_6 1 (by unfold z_vb; exact if_pos c_7) H locs hM hS ls (lv_sub hl [0, 1, 2, 3, 4, 5, 6] rfl)
            refine lv_lload hx hb dX6_bits_108 (lv_at hl 1 rfl) ?_
            refine lv_lconst (v := lN 0) hx hb dX6_bits_110 (by decide) ?_
            refine W.lcmp hx hb dX6_bits_111 ?_
            refine n_lc_ne (tgt := 119) hx hb dX6_bits_112 (by decide) (fun c_11 => ?_) (fun c_11 => ?_)
            · -- 112 t
              refine lv_lload hx hb dX6_bits_119 (lv_at hl 1 rfl) ?_
              refine lv_ldc2 (v := -7) hx hb hown (hE.good Z kl_X6_100 _) dX6_bits_121 ?_
              refine W.lcmp hx hb dX6_bits_124 ?_
              refine n_lc_lt (tgt := 142) hx hb dX6_bits_125 (by decide) (fun c_12 => ?_) (fun c_12 => ?_)
              · -- 125 t
                refine lv_bipush (v := nI 15) hx hb dX6_bits_142 (by decide) ?_
                exact jn_5 15 (by rw [z_tb, if_neg c_11, if_neg (by have k0 := c_11; have k1 := c_12; simp only [Int32.lt_iff_toInt_lt, Int32.le_iff_toInt_le, ← Int32.toInt_inj, Int64.lt_iff_toInt_lt, Int64.le_iff_toInt_le, ← Int64.toInt_inj, kt, ktL] at k0 k1 ⊢; omega)]) H locs hM hS ls (lv_sub hl [0, 1, 2, 3, 4, 5, 6] rfl)
              · -- 125 f
                refine lv_lload hx hb dX6_bits_128 (lv_at hl 1 rfl) ?_
                refine lv_ldc2 (v := lN 8) hx hb hown (hE.good Z kl_X6_102 _) dX6_bits_130 ?_
                refine W.lcmp hx hb dX6_bits_133 ?_
                refine n_lc_gt (tgt := 142) hx hb dX6_bits_134 (by decide) (fun c_13 => ?_) (fun c_13 => ?_)
                · -- 134 t
                  refine lv_bipush (v := nI 15) hx hb dX6_bits_142 (by decide) ?_
                  exact jn_5 15 (by rw [z_tb, if_neg c_11, if_neg (by have k0 := c_11; have k1 := c_12; have k2 := c_13; simp only [Int32.lt_iff_toInt_lt, Int32.le_iff_toInt_le, ← Int32.toInt_inj, Int64.lt_iff_toInt_lt, Int64.le_iff_toInt_le, ← Int64.toInt_inj, kt, ktL] at k0 k1 k2 ⊢; omega)]) H locs hM hS ls (lv_sub hl [0, 1, 2, 3, 4, 5, 6] rfl)
                · -- 134 f
                  refine lv_bipush (v := nI 6) hx hb dX6_bits_137 (by decide) ?_
                  refine lv_goto (tgt := 144) hx hb dX6_bits_139 (by decide) ?_
                  exact jn_5 6 (by rw [z_tb, if_neg c_11, if_pos (by have k0 := c_11; have k1 := c_12; have k2 := c_13; simp only [Int32.lt_iff_toInt_lt, Int32.le_iff_toInt_le, ← Int32.toInt_inj, Int64.lt_iff_toInt_lt, Int64.le_iff_toInt_le, ← Int64.toInt_inj, kt, ktL] at k0 k1 k2 ⊢; omega)]) H locs hM hS ls (lv_sub hl [0, 1, 2, 3, 4, 5, 6] rfl)
            · -- 112 f
              refine lv_iconst (v := nI 1) hx hb dX6_bits_115 (by decide) ?_
              refine lv_goto (tgt := 144) hx hb dX6_bits_116 (by decide) ?_
              exact jn_5 1 (by rw [z_tb, if_pos c_11]) H locs hM hS ls (lv_sub hl [0, 1, 2, 3, 4, 5, 6] rfl)
          refine lv_iload hx hb dX6_bits_53 (lv_at hl 1 rfl) ?_
          refine lv_bipush (v := nI 8) hx hb dX6_bits_55 (by decide) ?_
          refine lv_iload_n hx hb dX6_bits_57 rfl (lv_at hl 5 rfl) ?_
          refine n_imul hx hb dX6_bits_58 ?_
          refine lv_iconst (v := nI 1) hx hb dX6_bits_59 (by decide) ?_
          refine n_iadd hx hb dX6_bits_60 ?_
          refine lv_icmp_le (tgt := 88) hx hb dX6_bits_61 (by decide) (fun c_14 => ?_) (fun c_14 => ?_)
          · -- 61 t
            have c_14 : 8 * d + 1 + j ≤ 8 * d + 1 := (nI_leI (by omega) (by omega)).mp c_14
            exact jn_4 _ (by unfold z_ap; exact if_neg (by omega)) H locs hM hS ls (lv_sub hl [0, 1, 2, 3, 4, 5] rfl)
          · -- 61 f
            have c_14 : ¬ 8 * d + 1 + j ≤ 8 * d + 1 := fun q => c_14 ((nI_leI (by omega) (by omega)).mpr q)
            refine lv_lload hx hb dX6_bits_64 (lv_at hl 0 rfl) ?_
            refine lv_aload_n hx hb dX6_bits_66 rfl (lv_at hl 3 rfl) ?_
            refine lv_iload_n hx hb dX6_bits_67 rfl (lv_at hl 4 rfl) ?_
            refine lv_iload hx hb dX6_bits_68 (lv_at hl 1 rfl) ?_
            refine lv_iconst (v := nI 1) hx hb dX6_bits_70 (by decide) ?_
            refine n_isub hx hb (by omega) dX6_bits_71 ?_
            refine m_callV Z C hM hS (As := [.int (nI z), .int (nI ((8 * d + 1 + j) - 1))]) (rest := [.long (lN (st_T st (120 * z + (8 * d + 1 + j))) - lN (st_T st (120 * z + ((8 * d + 1 + j) - 1))))]) (c_X6_time Z h m q st hW z ((8 * d + 1 + j) - 1) (show z < 10 by omega) (show ((8 * d + 1 + j) - 1) < 120 by omega)) yi_X6_time ml_X6_87 hW.o rfl ⟨Nat.le_of_ble_eq_true rfl, Nat.le_of_ble_eq_true rfl⟩ (Nat.le_of_ble_eq_true rfl) hl.1 rfl rfl dX6_bits_72 ⟨Nat.le_of_ble_eq_true rfl, Nat.le_of_ble_eq_true rfl⟩ (fun v h9 H locs hv hM hS => ?_)
            obtain ⟨hv, hh9⟩ := hv
            subst hv
            rw [hh9] at hM
            refine W.eq (g2 := F0 mt 75 ls [.long (lN (st_T st (120 * z + ((8 * d + 1 + j) - 1)))), .long (lN (st_T st (120 * z + (8 * d + 1 + j))) - lN (st_T st (120 * z + ((8 * d + 1 + j) - 1))))]) rfl ?_
            refine lv_aload_n hx hb dX6_bits_75 rfl (lv_at hl 3 rfl) ?_
            refine lv_iload_n hx hb dX6_bits_76 rfl (lv_at hl 4 rfl) ?_
            refine lv_iload hx hb dX6_bits_77 (lv_at hl 1 rfl) ?_
            refine lv_iconst (v := nI 2) hx hb dX6_bits_79 (by decide) ?_
            refine n_isub hx hb (by omega) dX6_bits_80 ?_
            refine m_callV Z C hM hS (As := [.int (nI z), .int (nI ((8 * d + 1 + j) - 2))]) (rest := [.long (lN (st_T st (120 * z + ((8 * d + 1 + j) - 1)))), .long (lN (st_T st (120 * z + (8 * d + 1 + j))) - lN (st_T st (120 * z + ((8 * d + 1 + j) - 1))))]) (c_X6_time Z h m q st hW z ((8 * d + 1 + j) - 2) (show z < 10 by omega) (show ((8 * d + 1 + j) - 2) < 120 by omega)) yi_X6_time ml_X6_87 hW.o rfl ⟨Nat.le_of_ble_eq_true rfl, Nat.le_of_ble_eq_true rfl⟩ (Nat.le_of_ble_eq_true rfl) hl.1 rfl rfl dX6_bits_81 ⟨Nat.le_of_ble_eq_true rfl, Nat.le_of_ble_eq_true rfl⟩ (fun v h9 H locs hv hM hS => ?_)
            obtain ⟨hv, hh9⟩ := hv
            subst hv
            rw [hh9] at hM
            refine W.eq (g2 := F0 mt 84 ls [.long (lN (st_T st (120 * z + ((8 * d + 1 + j) - 2)))), .long (lN (st_T st (120 * z + ((8 * d + 1 + j) - 1)))), .long (lN (st_T st (120 * z + (8 * d + 1 + j))) - lN (st_T st (120 * z + ((8 * d + 1 + j) - 1))))]) rfl ?_
            refine lv_lsub hx hb dX6_bits_84 ?_
            refine lv_lsub hx hb dX6_bits_85 ?_
            refine lv_lstore (lv' := [(5, .long ((lN (st_T st (120 * z + (8 * d + 1 + j))) - lN (st_T st (120 * z + ((8 * d + 1 + j) - 1)))) - (lN (st_T st (120 * z + ((8 * d + 1 + j) - 1))) - lN (st_T st (120 * z + ((8 * d + 1 + j) - 2)))))), (4, .int (nI (8 * d + 1 + j))), (3, .int (nI (z_bt st z d j))), (0, .ref m), (1, .int (nI z)), (2, .int (nI d))]) hx hb dX6_bits_86 hl (by decide) rfl (fun ls hl => ?_)
            exact jn_4 _ (by unfold z_ap; exact if_pos (by omega)) H locs hM hS ls (lv_sub hl [0, 1, 2, 3, 4, 5] rfl)
  exact lp_1 9 0 (by omega) (by omega) (by omega) H locs hM hS ls (lv_sub hl [0, 1, 2, 3, 4] rfl)
