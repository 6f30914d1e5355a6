set_option maxRecDepth 100000 in
set_option maxHeartbeats 4000000 in
theorem c_X6_standing {l : Launch} {G : mG} {a0 : Array Value} {s0 : State} (Z : mZ l G a0 s0) (h0 : Hp) (m : Nat) (q : Nat → Nat) (st : Ms) (hW : MdlW G h0 m q st) (z : Nat) (x : Int32) (hk : Mok st) (hz : z < st_many st) : mM l G s0 yX6_standing cX6_standing 7 (some .int) 0 0 0 0 h0 [.ref m, .int (nI z), .int x] (fun v h9 => (v = some (.int (nI (z_std st z x))) ∧ h9 = h0)) := by
  refine mM_in RX6 "standing" rfl rfl (by decide +kernel) (Nat.le_of_ble_eq_true rfl) ?_
  intro p e s mt below meth c H locs C hM hS ls hl
  have hx := C.1
  have hb := C.2.1
  have hown := C.2.2.2.1
  have hE := C.2.2.2.2.2.2.1
  have hl : lv_has ls 7 [(0, .ref m), (1, .int (nI z)), (2, .int x)] := hl
  have hF : mFr h0 h0 m q := mFr.rf
  obtain ⟨h, hh⟩ : ∃ z, z = h0 := ⟨_, rfl⟩
  rw [← hh] at hM hW
  have hm := hk.1
  have hnow := hk.2.1
  obtain ⟨hn, hT, hZ, hsi, hbd, hhv⟩ := hk.2.2 z hz
  have hZ : ∀ y : Nat, y < 6 → st_sz st (6 * z + y) ≤ 8 := hZ
  refine lv_iconst (v := nI 0) hx hb dX6_standing_0 (by decide) ?_
  refine lv_istore_n (lv' := [(3, .int (nI 0)), (0, .ref m), (1, .int (nI z)), (2, .int x)]) hx hb dX6_standing_1 rfl hl (by decide) rfl (fun ls hl => ?_)
  refine lv_iconst (v := nI 0) hx hb dX6_standing_2 (by decide) ?_
  refine lv_istore (lv' := [(4, .int (nI 0)), (3, .int (nI 0)), (0, .ref m), (1, .int (nI z)), (2, .int x)]) hx hb dX6_standing_3 hl (by decide) rfl (fun ls hl => ?_)
  have lp_1 : ∀ (fu : Nat) (y : Nat), 6 < y + fu → y ≤ 6 → ∀ (H : Heap) (locs : List Loc), MW G s0.heap.size h H → va_S (fun q => s0.heap.size ≤ q) s.heap H locs → ∀ ls : Array Slot, lv_has ls 7 [(4, .int (nI y)), (3, .int (nI (z_su (z_sd st z x) y))), (0, .ref m), (1, .int (nI z)), (2, .int x)] → W p l e (mRm 0 0 0 0) s mt ([.ref m, .int (nI z), .int x] : List Value).toArray below meth c H locs 0 0 (MQ below (mQc G s0 (fun v h9 => (v = some (.int (nI (z_std st z x))) ∧ h9 = h0))) ([.ref m, .int (nI z), .int x] : List Value).toArray s 0 0 (fun q => s0.heap.size ≤ q)) (F0 mt 5 ls []) := by
    intro fu
    induction fu with
    | zero => intro y hfu _; exact absurd hfu (by omega)
    | succ fu ih =>
      intro y hfu hl6 H locs hM hS ls hl
      refine lv_iload hx hb dX6_standing_5 (lv_at hl 0 rfl) ?_
      refine lv_bipush (v := nI 6) hx hb dX6_standing_7 (by decide) ?_
      refine lv_icmp_ge (tgt := 76) hx hb dX6_standing_9 (by decide) (fun c_2 => ?_) (fun c_2 => ?_)
      · -- 9 t
        have c_2 : 6 ≤ y := (nI_leI (by decide) (by omega)).mp c_2
        refine lv_iload_n hx hb dX6_standing_76 rfl (lv_at hl 1 rfl) ?_
        exact m_iret C hM hS (Nat.le_of_ble_eq_true rfl) (Nat.le_of_ble_eq_true rfl) dX6_standing_77 ⟨by rw [show y = 6 by omega]; rfl, hh⟩
      · -- 9 f
        have c_2 : ¬ 6 ≤ y := fun q => c_2 ((nI_leI (by decide) (by omega)).mpr q)
        have hzl := hZ y (by omega)
        refine lv_bipush (v := nI 6) hx hb dX6_standing_12 (by decide) ?_
        refine lv_iload_n hx hb dX6_standing_14 rfl (lv_at hl 3 rfl) ?_
        refine n_imul hx hb dX6_standing_15 ?_
        refine lv_iload hx hb dX6_standing_16 (lv_at hl 0 rfl) ?_
        refine n_iadd hx hb dX6_standing_18 ?_
        refine lv_istore (lv' := [(5, .int (nI (6 * z + y))), (4, .int (nI y)), (3, .int (nI (z_su (z_sd st z x) y))), (0, .ref m), (1, .int (nI z)), (2, .int x)]) hx hb dX6_standing_19 hl (by decide) rfl (fun ls hl => ?_)
        refine lv_iconst (v := nI 0) hx hb dX6_standing_21 (by decide) ?_
        refine lv_istore (lv' := [(6, .int (nI 0)), (5, .int (nI (6 * z + y))), (4, .int (nI y)), (3, .int (nI (z_su (z_sd st z x) y))), (0, .ref m), (1, .int (nI z)), (2, .int x)]) hx hb dX6_standing_22 hl (by decide) rfl (fun ls hl => ?_)
        have lp_3 : ∀ (fu2 : Nat) (k : Nat), st_sz st (6 * z + y) < k + fu2 → k ≤ st_sz st (6 * z + y) → ∀ (H : Heap) (locs : List Loc), MW G s0.heap.size h H → va_S (fun q => s0.heap.size ≤ q) s.heap H locs → ∀ ls : Array Slot, lv_has ls 7 [(6, .int (nI k)), (5, .int (nI (6 * z + y))), (4, .int (nI y)), (3, .int (nI (z_su (z_sd st z x) y + z_su (fun k => if z_k st z y k ≤ x then 2 ^ y else 0) k))), (0, .ref m), (1, .int (nI z)), (2, .int x)] → W p l e (mRm 0 0 0 0) s mt ([.ref m, .int (nI z), .int x] : List Value).toArray below meth c H locs 0 0 (MQ below (mQc G s0 (fun v h9 => (v = some (.int (nI (z_std st z x))) ∧ h9 = h0))) ([.ref m, .int (nI z), .int x] : List Value).toArray s 0 0 (fun q => s0.heap.size ≤ q)) (F0 mt 24 ls []) := by
          intro fu2
          induction fu2 with
          | zero => intro k hfu _; exact absurd hfu (by omega)
          | succ fu2 ih2 =>
            intro k hfu hk9 H locs hM hS ls hl
            have hzl := hZ y (by omega)
            refine lv_iload hx hb dX6_standing_24 (lv_at hl 0 rfl) ?_
            refine lv_aload_n hx hb dX6_standing_26 rfl (lv_at hl 4 rfl) ?_
            refine m_get Z C hM hW.o K_X6 10 (by decide) fl_X6_32 (v := .ref (q 10)) rfl dX6_standing_27 ?_
            refine lv_iload hx hb dX6_standing_30 (lv_at hl 1 rfl) ?_
            refine m_iald Z C hM (f := fun k => nI ((st_sz st) k)) hW.a10 (6 * z + y) rfl (by omega) (by decide) dX6_standing_32 ?_
            refine lv_icmp_ge (tgt := 70) hx hb dX6_standing_33 (by decide) (fun c_4 => ?_) (fun c_4 => ?_)
            · -- 33 t
              have c_4 : (st_sz st) (6 * z + y) ≤ k := (nI_leI (by omega) (by omega)).mp c_4
              refine lv_iinc (v := nI (y + 1)) (lv' := [(4, .int (nI (y + 1))), (6, .int (nI k)), (5, .int (nI (6 * z + y))), (3, .int (nI (z_su (z_sd st z x) y + z_su (fun k => if z_k st z y k ≤ x then 2 ^ y else 0) k))), (0, .ref m), (1, .int (nI z)), (2, .int x)]) hx hb dX6_standing_70 hl (k := 2) rfl (nI_add _ _) (by decide) rfl (fun ls hl => ?_)
              refine lv_goto (tgt := 5) hx hb dX6_standing_73 (by decide) ?_
              have e_3 : z_su (z_sd st z x) (y + 1) = z_su (z_sd st z x) y + z_su (fun k => if z_k st z y k ≤ x then 2 ^ y else 0) k := by rw [show k = st_sz st (6 * z + y) by omega]; rfl
              rw [← e_3] at hl
              exact ih (y + 1) (by omega) (by omega) H locs hM hS ls (lv_sub hl [0, 3, 4, 5, 6] rfl)
            · -- 33 f
              have c_4 : ¬ (st_sz st) (6 * z + y) ≤ k := fun q => c_4 ((nI_leI (by omega) (by omega)).mpr q)
              refine lv_iload_n hx hb dX6_standing_36 rfl (lv_at hl 3 rfl) ?_
              refine lv_aload_n hx hb dX6_standing_37 rfl (lv_at hl 4 rfl) ?_
              refine m_get Z C hM hW.o K_X6 9 (by decide) fl_X6_29 (v := .ref (q 9)) rfl dX6_standing_38 ?_
              refine lv_bipush (v := nI 8) hx hb dX6_standing_41 (by decide) ?_
              refine lv_iload hx hb dX6_standing_43 (lv_at hl 1 rfl) ?_
              refine n_imul hx hb dX6_standing_45 ?_
              refine lv_iload hx hb dX6_standing_46 (lv_at hl 0 rfl) ?_
              refine n_iadd hx hb dX6_standing_48 ?_
              refine m_iald Z C hM (f := st_sk st) hW.a9 (8 * (6 * z + y) + k) rfl (by omega) (by decide) dX6_standing_49 ?_
              refine lv_iload_n hx hb dX6_standing_50 rfl (lv_at hl 6 rfl) ?_
              refine lv_icmp_gt (tgt := 61) hx hb dX6_standing_51 (by decide) (fun c_5 => ?_) (fun c_5 => ?_)
              · -- 51 t
                refine lv_iconst (v := nI 0) hx hb dX6_standing_61 (by decide) ?_
                refine n_iadd hx hb dX6_standing_62 ?_
                refine lv_istore_n (lv' := [(3, .int (nI (z_su (z_sd st z x) y + z_su (fun k => if z_k st z y k ≤ x then 2 ^ y else 0) k + 0))), (6, .int (nI k)), (5, .int (nI (6 * z + y))), (4, .int (nI y)), (0, .ref m), (1, .int (nI z)), (2, .int x)]) hx hb dX6_standing_63 rfl hl (by decide) rfl (fun ls hl => ?_)
                refine lv_iinc (v := nI (k + 1)) (lv' := [(6, .int (nI (k + 1))), (3, .int (nI (z_su (z_sd st z x) y + z_su (fun k => if z_k st z y k ≤ x then 2 ^ y else 0) k + 0))), (5, .int (nI (6 * z + y))), (4, .int (nI y)), (0, .ref m), (1, .int (nI z)), (2, .int x)]) hx hb dX6_standing_64 hl (k := 1) rfl (nI_add _ _) (by decide) rfl (fun ls hl => ?_)
                refine lv_goto (tgt := 24) hx hb dX6_standing_67 (by decide) ?_
                have e_3 : z_su (z_sd st z x) y + z_su (fun k => if z_k st z y k ≤ x then 2 ^ y else 0) (k + 1) = z_su (z_sd st z x) y + z_su (fun k => if z_k st z y k ≤ x then 2 ^ y else 0) k + 0 := by show z_su (z_sd st z x) y + (z_su (fun k => if z_k st z y k ≤ x then 2 ^ y else 0) k + (if st_sk st (8 * (6 * z + y) + k) ≤ x then 2 ^ y else 0)) = _; rw [if_neg (i_ltn c_5), Nat.add_assoc]
                rw [← e_3] at hl
                exact ih2 (k + 1) (by omega) (by omega) H locs hM hS ls (lv_sub hl [0, 2, 3, 1, 4, 5, 6] rfl)
              · -- 51 f
                refine lv_iconst (v := nI 1) hx hb dX6_standing_54 (by decide) ?_
                refine lv_iload hx hb dX6_standing_55 (lv_at hl 2 rfl) ?_
                refine n_ishl1 hx hb (by omega) dX6_standing_57 ?_
                refine lv_goto (tgt := 62) hx hb dX6_standing_58 (by decide) ?_
                refine n_iadd hx hb dX6_standing_62 ?_
                refine lv_istore_n (lv' := [(3, .int (nI (z_su (z_sd st z x) y + z_su (fun k => if z_k st z y k ≤ x then 2 ^ y else 0) k + 2 ^ y))), (6, .int (nI k)), (5, .int (nI (6 * z + y))), (4, .int (nI y)), (0, .ref m), (1, .int (nI z)), (2, .int x)]) hx hb dX6_standing_63 rfl hl (by decide) rfl (fun ls hl => ?_)
                refine lv_iinc (v := nI (k + 1)) (lv' := [(6, .int (nI (k + 1))), (3, .int (nI (z_su (z_sd st z x) y + z_su (fun k => if z_k st z y k ≤ x then 2 ^ y else 0) k + 2 ^ y))), (5, .int (nI (6 * z + y))), (4, .int (nI y)), (0, .ref m), (1, .int (nI z)), (2, .int x)]) hx hb dX6_standing_64 hl (k := 1) rfl (nI_add _ _) (by decide) rfl (fun ls hl => ?_)
                refine lv_goto (tgt := 24) hx hb dX6_standing_67 (by decide) ?_
                have e_3 : z_su (z_sd st z x) y + z_su (fun k => if z_k st z y k ≤ x then 2 ^ y else 0) (k + 1) = z_su (z_sd st z x) y + z_su (fun k => if z_k st z y k ≤ x then 2 ^ y else 0) k + 2 ^ y := by show z_su (z_sd st z x) y + (z_su (fun k => if z_k st z y k ≤ x then 2 ^ y else 0) k + (if st_sk st (8 * (6 * z + y) + k) ≤ x then 2 ^ y else 0)) = _; rw [if_pos (i_nlt c_5), Nat.add_assoc]
                rw [← e_3] at hl
                exact ih2 (k + 1) (by omega) (by omega) H locs hM hS ls (lv_sub hl [0, 2, 3, 1, 4, 5, 6] rfl)
        exact lp_3 (st_sz st (6 * z + y) + 1) 0 (by omega) (Nat.zero_le _) H locs hM hS ls (lv_sub hl [0, 1, 2, 3, 4, 5, 6] rfl)
  exact lp_1 7 0 (by omega) (by omega) H locs hM hS ls (lv_sub hl [0, 1, 2, 3, 4] rfl)
set_option maxRecDepth 100000 in
set_option maxHeartbeats 4000000 in
theorem c_X6_sketched {l : Launch} {G : mG} {a0 : Array Value} {s0 : State} (Z : mZ l G a0 s0) (h0 : Hp) (m : Nat) (q : Nat → Nat) (st : Ms) (hW : MdlW G h0 m q st) (z : Nat) (d : Nat) (hk : Mok st) (hz : z < st_many st) (hd : d ≤ 100) : mM l G s0 yX6_sketched cX6_sketched 8 (some .int) 1 26 0 0 h0 [.ref m, .int (nI z), .int (nI d)] (fun v h9 => (v = some (.int (z_sq st z d)) ∧ h9 = h0)) := by
  refine mM_in RX6 "sketched" rfl rfl (by decide +kernel) (Nat.le_of_ble_eq_true rfl) ?_
  intro p e s mt below meth c H locs C hM hS ls hl
  have hx := C.1
  have hb := C.2.1
  have hown := C.2.2.2.1
  have hE := C.2.2.2.2.2.2.1
  have hl : lv_has ls 8 [(0, .ref m), (1, .int (nI z)), (2, .int (nI d))] := hl
  have hF : mFr h0 h0 m q := mFr.rf
  obtain ⟨h, hh⟩ : ∃ z, z = h0 := ⟨_, rfl⟩
  rw [← hh] at hM hW
  have hm := hk.1
  have hnow := hk.2.1
  obtain ⟨hn, hT, hZ, hsi, hbd, hhv⟩ := hk.2.2 z hz
  have hZ : ∀ y : Nat, y < 6 → st_sz st (6 * z + y) ≤ 8 := hZ
  have hmul : st_n st z * d ≤ 120 * 100 := Nat.mul_le_mul hn hd
  have htg : z_tg st z d < 2147483648 := by unfold z_tg; omega
  refine lv_sipush (v := nI 20000) hx hb dX6_sketched_0 (by decide) ?_
  refine lv_istore_n (lv' := [(3, .int (nI 20000)), (0, .ref m), (1, .int (nI z)), (2, .int (nI d))]) hx hb dX6_sketched_3 rfl hl (by decide) rfl (fun ls hl => ?_)
  refine lv_iconst (v := nI 0) hx hb dX6_sketched_4 (by decide) ?_
  refine lv_istore (lv' := [(4, .int (nI 0)), (3, .int (nI 20000)), (0, .ref m), (1, .int (nI z)), (2, .int (nI d))]) hx hb dX6_sketched_5 hl (by decide) rfl (fun ls hl => ?_)
  have lp_1 : ∀ (fu : Nat) (y : Nat), 6 < y + fu → y ≤ 6 → ∀ (H : Heap) (locs : List Loc), MW G s0.heap.size h H → va_S (fun q => s0.heap.size ≤ q) s.heap H locs → ∀ ls : Array Slot, lv_has ls 8 [(4, .int (nI y)), (3, .int (z_qo st z (z_tg st z d) (nI 20000) y)), (0, .ref m), (1, .int (nI z)), (2, .int (nI d))] → W p l e (mRm 1 26 0 0) s mt ([.ref m, .int (nI z), .int (nI d)] : List Value).toArray below meth c H locs 0 0 (MQ below (mQc G s0 (fun v h9 => (v = some (.int (z_sq st z d)) ∧ h9 = h0))) ([.ref m, .int (nI z), .int (nI d)] : List Value).toArray s 0 0 (fun q => s0.heap.size ≤ q)) (F0 mt 7 ls []) := by
    intro fu
    induction fu with
    | zero => intro y hfu _; exact absurd hfu (by omega)
    | succ fu ih =>
      intro y hfu hl6 H locs hM hS ls hl
      refine lv_iload hx hb dX6_sketched_7 (lv_at hl 0 rfl) ?_
      refine lv_bipush (v := nI 6) hx hb dX6_sketched_9 (by decide) ?_
      refine lv_icmp_ge (tgt := 90) hx hb dX6_sketched_11 (by decide) (fun c_2 => ?_) (fun c_2 => ?_)
      · -- 11 t
        have c_2 : 6 ≤ y := (nI_leI (by decide) (by omega)).mp c_2
        refine lv_iload_n hx hb dX6_sketched_90 rfl (lv_at hl 1 rfl) ?_
        exact m_iret C hM hS (Nat.le_of_ble_eq_true rfl) (Nat.le_of_ble_eq_true rfl) dX6_sketched_91 ⟨by rw [show y = 6 by omega]; rfl, hh⟩
      · -- 11 f
        have c_2 : ¬ 6 ≤ y := fun q => c_2 ((nI_leI (by decide) (by omega)).mpr q)
        have hzl := hZ y (by omega)
        refine lv_bipush (v := nI 6) hx hb dX6_sketched_14 (by decide) ?_
        refine lv_iload_n hx hb dX6_sketched_16 rfl (lv_at hl 3 rfl) ?_
        refine n_imul hx hb dX6_sketched_17 ?_
        refine lv_iload hx hb dX6_sketched_18 (lv_at hl 0 rfl) ?_
        refine n_iadd hx hb dX6_sketched_20 ?_
        refine lv_istore (lv' := [(5, .int (nI (6 * z + y))), (4, .int (nI y)), (3, .int (z_qo st z (z_tg st z d) (nI 20000) y)), (0, .ref m), (1, .int (nI z)), (2, .int (nI d))]) hx hb dX6_sketched_21 hl (by decide) rfl (fun ls hl => ?_)
        refine lv_iconst (v := nI 0) hx hb dX6_sketched_23 (by decide) ?_
        refine lv_istore (lv' := [(6, .int (nI 0)), (5, .int (nI (6 * z + y))), (4, .int (nI y)), (3, .int (z_qo st z (z_tg st z d) (nI 20000) y)), (0, .ref m), (1, .int (nI z)), (2, .int (nI d))]) hx hb dX6_sketched_24 hl (by decide) rfl (fun ls hl => ?_)
        have lp_3 : ∀ (fu2 : Nat) (k : Nat), st_sz st (6 * z + y) < k + fu2 → k ≤ st_sz st (6 * z + y) → ∀ (H : Heap) (locs : List Loc), MW G s0.heap.size h H → va_S (fun q => s0.heap.size ≤ q) s.heap H locs → ∀ ls : Array Slot, lv_has ls 8 [(6, .int (nI k)), (5, .int (nI (6 * z + y))), (4, .int (nI y)), (3, .int (z_qi st z (z_tg st z d) y (z_qo st z (z_tg st z d) (nI 20000) y) k)), (0, .ref m), (1, .int (nI z)), (2, .int (nI d))] → W p l e (mRm 1 26 0 0) s mt ([.ref m, .int (nI z), .int (nI d)] : List Value).toArray below meth c H locs 0 0 (MQ below (mQc G s0 (fun v h9 => (v = some (.int (z_sq st z d)) ∧ h9 = h0))) ([.ref m, .int (nI z), .int (nI d)] : List Value).toArray s 0 0 (fun q => s0.heap.size ≤ q)) (F0 mt 26 ls []) := by
          intro fu2
          induction fu2 with
          | zero => intro k hfu _; exact absurd hfu (by omega)
          | succ fu2 ih2 =>
            intro k hfu hk9 H locs hM hS ls hl
            have hzl := hZ y (by omega)
            refine lv_iload hx hb dX6_sketched_26 (lv_at hl 0 rfl) ?_
            refine lv_aload_n hx hb dX6_sketched_28 rfl (lv_at hl 4 rfl) ?_
            refine m_get Z C hM hW.o K_X6 10 (by decide) fl_X6_32 (v := .ref (q 10)) rfl dX6_sketched_29 ?_
            refine lv_iload hx hb dX6_sketched_32 (lv_at hl 1 rfl) ?_
            refine m_iald Z C hM (f := fun k => nI ((st_sz st) k)) hW.a10 (6 * z + y) rfl (by omega) (by decide) dX6_sketched_34 ?_
            refine lv_icmp_ge (tgt := 84) hx hb dX6_sketched_35 (by decide) (fun c_4 => ?_) (fun c_4 => ?_)
            · -- 35 t
              have c_4 : (st_sz st) (6 * z + y) ≤ k := (nI_leI (by omega) (by omega)).mp c_4
              refine lv_iinc (v := nI (y + 1)) (lv' := [(4, .int (nI (y + 1))), (6, .int (nI k)), (5, .int (nI (6 * z + y))), (3, .int (z_qi st z (z_tg st z d) y (z_qo st z (z_tg st z d) (nI 20000) y) k)), (0, .ref m), (1, .int (nI z)), (2, .int (nI d))]) hx hb dX6_sketched_84 hl (k := 2) rfl (nI_add _ _) (by decide) rfl (fun ls hl => ?_)
              refine lv_goto (tgt := 7) hx hb dX6_sketched_87 (by decide) ?_
              have e_3 : z_qo st z (z_tg st z d) (nI 20000) (y + 1) = z_qi st z (z_tg st z d) y (z_qo st z (z_tg st z d) (nI 20000) y) k := by rw [show k = st_sz st (6 * z + y) by omega]; rfl
              rw [← e_3] at hl
              exact ih (y + 1) (by omega) (by omega) H locs hM hS ls (lv_sub hl [0, 3, 4, 5, 6] rfl)
            · -- 35 f
              have c_4 : ¬ (st_sz st) (6 * z + y) ≤ k := fun q => c_4 ((nI_leI (by omega) (by omega)).mpr q)
              refine lv_aload_n hx hb dX6_sketched_38 rfl (lv_at hl 4 rfl) ?_
              refine m_get Z C hM hW.o K_X6 9 (by decide) fl_X6_29 (v := .ref (q 9)) rfl dX6_sketched_39 ?_
              refine lv_bipush (v := nI 8) hx hb dX6_sketched_42 (by decide) ?_
              refine lv_iload hx hb dX6_sketched_44 (lv_at hl 1 rfl) ?_
              refine n_imul hx hb dX6_sketched_46 ?_
              refine lv_iload hx hb dX6_sketched_47 (lv_at hl 0 rfl) ?_
              refine n_iadd hx hb dX6_sketched_49 ?_
              refine m_iald Z C hM (f := st_sk st) hW.a9 (8 * (6 * z + y) + k) rfl (by omega) (by decide) dX6_sketched_50 ?_
              refine lv_istore (lv' := [(7, .int ((st_sk st) (8 * (6 * z + y) + k))), (6, .int (nI k)), (5, .int (nI (6 * z + y))), (4, .int (nI y)), (3, .int (z_qi st z (z_tg st z d) y (z_qo st z (z_tg st z d) (nI 20000) y) k)), (0, .ref m), (1, .int (nI z)), (2, .int (nI d))]) hx hb dX6_sketched_51 hl (by decide) rfl (fun ls hl => ?_)
              refine lv_iload hx hb dX6_sketched_53 (lv_at hl 0 rfl) ?_
              refine lv_iload_n hx hb dX6_sketched_55 rfl (lv_at hl 4 rfl) ?_
              refine lv_icmp_ge (tgt := 78) hx hb dX6_sketched_56 (by decide) (fun c_5 => ?_) (fun c_5 => ?_)
              · -- 56 t
                refine lv_iinc (v := nI (k + 1)) (lv' := [(6, .int (nI (k + 1))), (7, .int ((st_sk st) (8 * (6 * z + y) + k))), (5, .int (nI (6 * z + y))), (4, .int (nI y)), (3, .int (z_qi st z (z_tg st z d) y (z_qo st z (z_tg st z d) (nI 20000) y) k)), (0, .ref m), (1, .int (nI z)), (2, .int (nI d))]) hx hb dX6_sketched_78 hl (k := 1) rfl (nI_add _ _) (by decide) rfl (fun ls hl => ?_)
                refine lv_goto (tgt := 26) hx hb dX6_sketched_81 (by decide) ?_
                have e_3 : z_qi st z (z_tg st z d) y (z_qo st z (z_tg st z d) (nI 20000) y) (k + 1) = z_qi st z (z_tg st z d) y (z_qo st z (z_tg st z d) (nI 20000) y) k := if_neg (fun q => absurd q.1 (i_len c_5))
                rw [← e_3] at hl
                exact ih2 (k + 1) (by omega) (by omega) H locs hM hS ls (lv_sub hl [0, 2, 3, 4, 5, 6, 7] rfl)
              · -- 56 f
                refine lv_aload_n hx hb dX6_sketched_59 rfl (lv_at hl 5 rfl) ?_
                refine lv_iload_n hx hb dX6_sketched_60 rfl (lv_at hl 6 rfl) ?_
                refine lv_iload hx hb dX6_sketched_61 (lv_at hl 0 rfl) ?_
                refine m_callV Z C hM hS (As := [.int (nI z), .int ((st_sk st) (8 * (6 * z + y) + k))]) (rest := []) (c_X6_standing Z h m q st hW z ((st_sk st) (8 * (6 * z + y) + k)) hk (show z < st_many st by omega)) yi_X6_standing ml_X6_140 hW.o rfl ⟨Nat.le_of_ble_eq_true rfl, Nat.le_of_ble_eq_true rfl⟩ (Nat.le_of_ble_eq_true rfl) hl.1 rfl rfl dX6_sketched_63 ⟨Nat.le_of_ble_eq_true rfl, Nat.le_of_ble_eq_true rfl⟩ (fun v h9 H locs hv hM hS => ?_)
                obtain ⟨hv, hh9⟩ := hv
                subst hv
                rw [hh9] at hM
                refine W.eq (g2 := F0 mt 66 ls [.int (nI (z_std st z ((st_sk st) (8 * (6 * z + y) + k))))]) rfl ?_
                have hstd : z_std st z (st_sk st (8 * (6 * z + y) + k)) < 2147483648 := Nat.lt_of_le_of_lt (z_std_le hZ _ 6 (by omega)) (by omega)
                refine lv_aload_n hx hb dX6_sketched_66 rfl (lv_at hl 5 rfl) ?_
                refine lv_iload_n hx hb dX6_sketched_67 rfl (lv_at hl 6 rfl) ?_
                refine lv_iload_n hx hb dX6_sketched_68 rfl (lv_at hl 7 rfl) ?_
                refine m_callV Z C hM hS (As := [.int (nI z), .int (nI d)]) (rest := [.int (nI (z_std st z ((st_sk st) (8 * (6 * z + y) + k))))]) (c_X6_target Z h m q st hW z d hk (show z < st_many st by omega) (show d ≤ 100 by omega)) yi_X6_target ml_X6_143 hW.o rfl ⟨Nat.le_of_ble_eq_true rfl, Nat.le_of_ble_eq_true rfl⟩ (Nat.le_of_ble_eq_true rfl) hl.1 rfl rfl dX6_sketched_69 ⟨Nat.le_of_ble_eq_true rfl, Nat.le_of_ble_eq_true rfl⟩ (fun v h9 H locs hv hM hS => ?_)
                obtain ⟨hv, hh9⟩ := hv
                subst hv
                rw [hh9] at hM
                refine W.eq (g2 := F0 mt 72 ls [.int (nI (z_tg st z d)), .int (nI (z_std st z ((st_sk st) (8 * (6 * z + y) + k))))]) rfl ?_
                refine lv_icmp_lt (tgt := 78) hx hb dX6_sketched_72 (by decide) (fun c_6 => ?_) (fun c_6 => ?_)
                · -- 72 t
                  have c_6 : z_std st z ((st_sk st) (8 * (6 * z + y) + k)) < z_tg st z d := (nI_ltI (by omega) (by omega)).mp c_6
                  refine lv_iinc (v := nI (k + 1)) (lv' := [(6, .int (nI (k + 1))), (7, .int ((st_sk st) (8 * (6 * z + y) + k))), (5, .int (nI (6 * z + y))), (4, .int (nI y)), (3, .int (z_qi st z (z_tg st z d) y (z_qo st z (z_tg st z d) (nI 20000) y) k)), (0, .ref m), (1, .int (nI z)), (2, .int (nI d))]) hx hb dX6_sketched_78 hl (k := 1) rfl (nI_add _ _) (by decide) rfl (fun ls hl => ?_)
                  refine lv_goto (tgt := 26) hx hb dX6_sketched_81 (by decide) ?_
                  have e_3 : z_qi st z (z_tg st z d) y (z_qo st z (z_tg st z d) (nI 20000) y) (k + 1) = z_qi st z (z_tg st z d) y (z_qo st z (z_tg st z d) (nI 20000) y) k := if_neg (fun q => absurd q.2 (Nat.not_le.mpr c_6))
                  rw [← e_3] at hl
                  exact ih2 (k + 1) (by omega) (by omega) H locs hM hS ls (lv_sub hl [0, 2, 3, 4, 5, 6, 7] rfl)
                · -- 72 f
                  have c_6 : ¬ z_std st z ((st_sk st) (8 * (6 * z + y) + k)) < z_tg st z d := fun q => c_6 ((nI_ltI (by omega) (by omega)).mpr q)
                  refine lv_iload hx hb dX6_sketched_75 (lv_at hl 0 rfl) ?_
                  refine lv_istore_n (lv' := [(3, .int ((st_sk st) (8 * (6 * z + y) + k))), (7, .int ((st_sk st) (8 * (6 * z + y) + k))), (6, .int (nI k)), (5, .int (nI (6 * z + y))), (4, .int (nI y)), (0, .ref m), (1, .int (nI z)), (2, .int (nI d))]) hx hb dX6_sketched_77 rfl hl (by decide) rfl (fun ls hl => ?_)
                  refine lv_iinc (v := nI (k + 1)) (lv' := [(6, .int (nI (k + 1))), (3, .int ((st_sk st) (8 * (6 * z + y) + k))), (7, .int ((st_sk st) (8 * (6 * z + y) + k))), (5, .int (nI (6 * z + y))), (4, .int (nI y)), (0, .ref m), (1, .int (nI z)), (2, .int (nI d))]) hx hb dX6_sketched_78 hl (k := 2) rfl (nI_add _ _) (by decide) rfl (fun ls hl => ?_)
                  refine lv_goto (tgt := 26) hx hb dX6_sketched_81 (by decide) ?_
                  have e_3 : z_qi st z (z_tg st z d) y (z_qo st z (z_tg st z d) (nI 20000) y) (k + 1) = st_sk st (8 * (6 * z + y) + k) := if_pos ⟨i_nle c_5, Nat.le_of_not_lt c_6⟩
                  rw [← e_3] at hl
                  exact ih2 (k + 1) (by omega) (by omega) H locs hM hS ls (lv_sub hl [0, 3, 4, 1, 5, 6, 7] rfl)
        exact lp_3 (st_sz st (6 * z + y) + 1) 0 (by omega) (Nat.zero_le _) H locs hM hS ls (lv_sub hl [0, 1, 2, 3, 4, 5, 6] rfl)
  exact lp_1 7 0 (by omega) (by omega) H locs hM hS ls (lv_sub hl [0, 1, 2, 3, 4] rfl)
set_option maxRecDepth 100000 in
set_option maxHeartbeats 4000000 in
theorem c_X6_state {l : Launch} {G : mG} {a0 : Array Value} {s0 : State} (Z : mZ l G a0 s0) (h0 : Hp) (m : Nat) (q : Nat → Nat) (st : Ms) (hW : MdlW G h0 m q st) (z : Nat) (hk : Mok st) (hz : z < st_many st) : mM l G s0 yX6_state cX6_state 2 (some .char) 0 0 0 0 h0 [.ref m, .int (nI z)] (fun v h9 => (v = some (.int (nI (z_al st z))) ∧ h9 = h0)) := by
  refine mM_in RX6 "state" rfl rfl (by decide +kernel) (Nat.le_of_ble_eq_true rfl) ?_
  intro p e s mt below meth c H locs C hM hS ls hl
  have hx := C.1
  have hb := C.2.1
  have hown := C.2.2.2.1
  have hE := C.2.2.2.2.2.2.1
  have hl : lv_has ls 2 [(0, .ref m), (1, .int (nI z))] := hl
  have hF : mFr h0 h0 m q := mFr.rf
  obtain ⟨h, hh⟩ : ∃ z, z = h0 := ⟨_, rfl⟩
  rw [← hh] at hM hW
  have hm := hk.1
  have hnow := hk.2.1
  obtain ⟨hn, hT, hZ, hsi, hbd, hhv⟩ := hk.2.2 z hz
  refine lv_aload_n hx hb dX6_state_0 rfl (lv_at hl 0 rfl) ?_
  refine m_get Z C hM hW.o K_X6 15 (by decide) fl_X6_47 (v := .ref (q 15)) rfl dX6_state_1 ?_
  refine lv_iload_n hx hb dX6_state_4 rfl (lv_at hl 1 rfl) ?_
  refine m_iald Z C hM (f := st_on st) hW.a15 z rfl (by omega) (by decide) dX6_state_5 ?_
  refine lv_if_ne (tgt := 14) hx hb dX6_state_6 (by decide) (fun c_1 => ?_) (fun c_1 => ?_)
  · -- 6 t
    refine lv_aload_n hx hb dX6_state_14 rfl (lv_at hl 0 rfl) ?_
    refine m_get Z C hM hW.o K_X6 2 (by decide) fl_X6_75 (v := .long (lN (st_now st))) rfl dX6_state_15 ?_
    refine lv_aload_n hx hb dX6_state_18 rfl (lv_at hl 0 rfl) ?_
    refine m_get Z C hM hW.o K_X6 16 (by decide) fl_X6_50 (v := .ref (q 16)) rfl dX6_state_19 ?_
    refine lv_iload_n hx hb dX6_state_22 rfl (lv_at hl 1 rfl) ?_
    refine m_lald Z C hM (f := fun k => lN ((st_si st) k)) hW.a16 z rfl (by omega) (by decide) dX6_state_23 ?_
    refine lv_lsub hx hb dX6_state_24 ?_
    refine lv_aload_n hx hb dX6_state_25 rfl (lv_at hl 0 rfl) ?_
    refine m_get Z C hM hW.o K_X6 14 (by decide) fl_X6_44 (v := .ref (q 14)) rfl dX6_state_26 ?_
    refine lv_iload_n hx hb dX6_state_29 rfl (lv_at hl 1 rfl) ?_
    refine m_iald Z C hM (f := st_wa st) hW.a14 z rfl (by omega) (by decide) dX6_state_30 ?_
    refine lv_i2l (v := ((st_wa st) z).toInt64) hx hb dX6_state_31 rfl ?_
    refine W.lcmp hx hb dX6_state_32 ?_
    refine n_lc_lt (tgt := 41) hx hb dX6_state_33 (by decide) (fun c_2 => ?_) (fun c_2 => ?_)
    · -- 33 t
      refine lv_bipush (v := nI 112) hx hb dX6_state_41 (by decide) ?_
      exact m_zret C hM hS (Nat.le_of_ble_eq_true rfl) (Nat.le_of_ble_eq_true rfl) rfl dX6_state_43 ⟨by rw [show z_al st z = 112 by rw [z_al, if_neg (show ¬ st_on st z = nI 0 from c_1), if_neg (l_ltn c_2)]], hh⟩
    · -- 33 f
      refine lv_bipush (v := nI 102) hx hb dX6_state_36 (by decide) ?_
      refine lv_goto (tgt := 43) hx hb dX6_state_38 (by decide) ?_
      exact m_zret C hM hS (Nat.le_of_ble_eq_true rfl) (Nat.le_of_ble_eq_true rfl) rfl dX6_state_43 ⟨by rw [show z_al st z = 102 by rw [z_al, if_neg (show ¬ st_on st z = nI 0 from c_1), if_pos (l_nlt c_2)]], hh⟩
  · -- 6 f
    refine lv_bipush (v := nI 111) hx hb dX6_state_9 (by decide) ?_
    refine lv_goto (tgt := 43) hx hb dX6_state_11 (by decide) ?_
    exact m_zret C hM hS (Nat.le_of_ble_eq_true rfl) (Nat.le_of_ble_eq_true rfl) rfl dX6_state_43 ⟨by rw [show z_al st z = 111 by rw [z_al, if_pos (show st_on st z = nI 0 from c_1)]], hh⟩
