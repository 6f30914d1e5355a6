set_option maxRecDepth 100000 in
set_option maxHeartbeats 4000000 in
theorem c_X3_put {l : Launch} {G : mG} {a0 : Array Value} {s0 : State} (Z : mZ l G a0 s0) (h0 : Hp) (A : Cd → Nat) (tg : Nat → Cd) (sg : Cd → Option va_E) (k : Nat) (F : Nat → Nat → Int32) (z : Nat → Nat) (v : Nat → Nat) (d : Nat) (hC : CW h0 A tg (skS G A sg k F z v d)) (y : Nat) (x : Int32) (hy : y < 5) (hz : z y < 8) : mM l G s0 yX3_put cX3_put 4 none 0 0 0 0 h0 [.ref (A (cd (k + 1) 5 0)), .int (nI y), .int x] (fun v9 h9 => (v9 = none ∧ CW h9 A tg (skS G A sg k (va_up F y (va_up (F y) (z y) x)) (va_up z y (z y + 1)) v d) ∧ cFr h0 tg h9 tg)) := by
  refine mM_in RX3 "put" rfl rfl (by decide +kernel) (Nat.le_of_ble_eq_true rfl) ?_
  intro p e s mt below meth c H locs C hM hS ls hl
  have hx := C.1
  have hb := C.2.1
  have hown := C.2.2.2.1
  have hE := C.2.2.2.2.2.2.1
  have hl : lv_has ls 4 [(0, .ref (A (cd (k + 1) 5 0))), (1, .int (nI y)), (2, .int x)] := hl
  have hF : cFr h0 tg h0 tg := cFr.rf
  obtain ⟨h, hM, hC, hF⟩ : ∃ h9, MW G s0.heap.size h9 H ∧ CW h9 A tg (skS G A sg k F z v d) ∧ cFr h0 tg h9 tg := ⟨_, hM, hC, hF⟩
  refine lv_iload_n hx hb dX3_put_0 rfl (lv_at hl 1 rfl) ?_
  refine lv_if_lt (tgt := 9) hx hb dX3_put_1 (by decide) (fun q => absurd q (nI_pos (by omega))) (fun _ => ?_)
  refine lv_iload_n hx hb dX3_put_4 rfl (lv_at hl 1 rfl) ?_
  refine lv_iconst (v := nI 5) hx hb dX3_put_5 (by decide) ?_
  refine lv_icmp_lt (tgt := 10) hx hb dX3_put_6 (by decide) (fun c_2 => ?_) (fun c_2 => ?_)
  · -- 6 t
    have c_2 : y < 5 := (nI_ltI (by omega) (by decide)).mp c_2
    refine lv_aload_n hx hb dX3_put_10 rfl (lv_at hl 0 rfl) ?_
    refine m_get Z C hM (hC.at (skS_5)) K_X3 1 (by decide) fl_X3_16 (v := .ref (A (cd (k + 1) 8 0))) rfl dX3_put_11 ?_
    refine lv_iload_n hx hb dX3_put_14 rfl (lv_at hl 1 rfl) ?_
    refine m_iald Z C hM (f := fun k => nI (z k)) (hC.at (skS_8)) y rfl (by omega) (by decide) dX3_put_15 ?_
    refine lv_istore_n (lv' := [(3, .int (nI (z y))), (0, .ref (A (cd (k + 1) 5 0))), (1, .int (nI y)), (2, .int x)]) hx hb dX3_put_16 rfl hl (by decide) rfl (fun ls hl => ?_)
    refine lv_iload_n hx hb dX3_put_17 rfl (lv_at hl 0 rfl) ?_
    refine lv_if_lt (tgt := 45) hx hb dX3_put_18 (by decide) (fun q => absurd q (nI_pos (by omega))) (fun _ => ?_)
    refine lv_iload_n hx hb dX3_put_21 rfl (lv_at hl 0 rfl) ?_
    refine lv_bipush (v := nI 8) hx hb dX3_put_22 (by decide) ?_
    refine lv_icmp_ge (tgt := 45) hx hb dX3_put_24 (by decide) (fun c_4 => ?_) (fun c_4 => ?_)
    · -- 24 t
      have c_4 : 8 ≤ z y := (nI_leI (by decide) (by omega)).mp c_4
      exact absurd hz (Nat.not_lt.mpr c_4)
    · -- 24 f
      have c_4 : ¬ 8 ≤ z y := fun q => c_4 ((nI_leI (by decide) (by omega)).mpr q)
      refine lv_aload_n hx hb dX3_put_27 rfl (lv_at hl 1 rfl) ?_
      refine m_get Z C hM (hC.at (skS_5)) K_X3 0 (by decide) fl_X3_11 (v := .ref (A (cd (k + 1) 6 0))) rfl dX3_put_28 ?_
      refine lv_iload_n hx hb dX3_put_31 rfl (lv_at hl 2 rfl) ?_
      refine m_aald Z C hM (hC.at (skS_6)) y rfl (by omega) (by decide) (v := .ref (A (cd (k + 1) 7 y))) (skL_at (by omega)) dX3_put_32 ?_
      refine lv_iload_n hx hb dX3_put_33 rfl (lv_at hl 0 rfl) ?_
      refine lv_iload_n hx hb dX3_put_34 rfl (lv_at hl 3 rfl) ?_
      refine m_iast Z C hM hS (hC.at (skS_7 (by omega))) (x := x) (z y) rfl (by omega) (by decide) dX3_put_35 (fun H locs hM hS => ?_)
      have hC9 := hC.put (skS_7 (by omega)) (eI G 8 (va_up (F y) (z y) x))
      have hF9 := hF.put hC (skS_7 (by omega)) (cd_r (by decide)) (eI G 8 (va_up (F y) (z y) x))
      rw [skS_p7 (by omega)] at hC9
      obtain ⟨h, hM, hC, hF⟩ : ∃ h9, MW G s0.heap.size h9 H ∧ CW h9 A tg (skS G A sg k (va_up F y (va_up (F y) (z y) x)) z v d) ∧ cFr h0 tg h9 tg := ⟨_, hM, hC9, hF9⟩
      refine lv_aload_n hx hb dX3_put_36 rfl (lv_at hl 1 rfl) ?_
      refine m_get Z C hM (hC.at (skS_5)) K_X3 1 (by decide) fl_X3_16 (v := .ref (A (cd (k + 1) 8 0))) rfl dX3_put_37 ?_
      refine lv_iload_n hx hb dX3_put_40 rfl (lv_at hl 2 rfl) ?_
      refine lv_iload_n hx hb dX3_put_41 rfl (lv_at hl 0 rfl) ?_
      refine lv_iconst (v := nI 1) hx hb dX3_put_42 (by decide) ?_
      refine n_iadd hx hb dX3_put_43 ?_
      refine m_iast Z C hM hS (hC.at (skS_8)) (x := nI (z y + 1)) y rfl (by omega) (by decide) dX3_put_44 (fun H locs hM hS => ?_)
      rw [nI_up] at hM
      have hC9 := hC.put (skS_8) (eI G 5 (fun k => nI ((va_up z y (z y + 1)) k)))
      have hF9 := hF.put hC (skS_8) (cd_r (by decide)) (eI G 5 (fun k => nI ((va_up z y (z y + 1)) k)))
      rw [skS_p8] at hC9
      obtain ⟨h, hM, hC, hF⟩ : ∃ h9, MW G s0.heap.size h9 H ∧ CW h9 A tg (skS G A sg k (va_up F y (va_up (F y) (z y) x)) (va_up z y (z y + 1)) v d) ∧ cFr h0 tg h9 tg := ⟨_, hM, hC9, hF9⟩
      exact m_vret C hM hS (Nat.le_of_ble_eq_true rfl) (Nat.le_of_ble_eq_true rfl) dX3_put_45 ⟨rfl, hC, hF⟩
  · -- 6 f
    have c_2 : ¬ y < 5 := fun q => c_2 ((nI_ltI (by omega) (by decide)).mpr q)
    exact absurd hy c_2
set_option maxRecDepth 100000 in
set_option maxHeartbeats 4000000 in
theorem c_X3_heldValues {l : Launch} {G : mG} {a0 : Array Value} {s0 : State} (Z : mZ l G a0 s0) (h0 : Hp) (A : Cd → Nat) (tg : Nat → Cd) (sg : Cd → Option va_E) (k : Nat) (F : Nat → Nat → Int32) (z : Nat → Nat) (v : Nat → Nat) (d : Nat) (hC : CW h0 A tg (skS G A sg k F z v d)) : mM l G s0 yX3_heldValues cX3_heldValues 6 (some .int) 0 0 0 0 h0 [.ref (A (cd (k + 1) 5 0))] (fun v9 h9 => (v9 = some (.int (nI (z_su z 5))) ∧ h9 = h0)) := by
  refine mM_in RX3 "heldValues" rfl rfl (by decide +kernel) (Nat.le_of_ble_eq_true rfl) ?_
  intro p e s mt below meth c H locs C hM hS ls hl
  have hx := C.1
  have hb := C.2.1
  have hown := C.2.2.2.1
  have hE := C.2.2.2.2.2.2.1
  have hl : lv_has ls 6 [(0, .ref (A (cd (k + 1) 5 0)))] := hl
  obtain ⟨h, hh⟩ : ∃ z, z = h0 := ⟨_, rfl⟩
  rw [← hh] at hM hC
  refine lv_iconst (v := nI 0) hx hb dX3_heldValues_0 (by decide) ?_
  refine lv_istore_n (lv' := [(1, .int (nI 0)), (0, .ref (A (cd (k + 1) 5 0)))]) hx hb dX3_heldValues_1 rfl hl (by decide) rfl (fun ls hl => ?_)
  refine lv_aload_n hx hb dX3_heldValues_2 rfl (lv_at hl 1 rfl) ?_
  refine m_get Z C hM (hC.at (skS_5)) K_X3 1 (by decide) fl_X3_16 (v := .ref (A (cd (k + 1) 8 0))) rfl dX3_heldValues_3 ?_
  refine lv_astore_n (lv' := [(2, .ref (A (cd (k + 1) 8 0))), (1, .int (nI 0)), (0, .ref (A (cd (k + 1) 5 0)))]) hx hb dX3_heldValues_6 rfl hl (by decide) rfl (fun ls hl => ?_)
  refine lv_aload_n hx hb dX3_heldValues_7 rfl (lv_at hl 0 rfl) ?_
  refine m_alen (t0 := 0) Z C hM rfl (hC.at (skS_8)) dX3_heldValues_8 ?_
  refine W.eq (g2 := F0 mt 9 ls [.int (nI 5)]) rfl ?_
  refine lv_istore_n (lv' := [(3, .int (nI 5)), (2, .ref (A (cd (k + 1) 8 0))), (1, .int (nI 0)), (0, .ref (A (cd (k + 1) 5 0)))]) hx hb dX3_heldValues_9 rfl hl (by decide) rfl (fun ls hl => ?_)
  refine lv_iconst (v := nI 0) hx hb dX3_heldValues_10 (by decide) ?_
  refine lv_istore (lv' := [(4, .int (nI 0)), (3, .int (nI 5)), (2, .ref (A (cd (k + 1) 8 0))), (1, .int (nI 0)), (0, .ref (A (cd (k + 1) 5 0)))]) hx hb dX3_heldValues_11 hl (by decide) rfl (fun ls hl => ?_)
  have lp_1 : ∀ (fu : Nat) (y : Nat), 5 < y + fu → y ≤ 5 → ∀ (H : Heap) (locs : List Loc), MW G s0.heap.size h H → va_S (fun q => s0.heap.size ≤ q) s.heap H locs → ∀ ls : Array Slot, lv_has ls 6 [(4, .int (nI y)), (3, .int (nI 5)), (2, .ref (A (cd (k + 1) 8 0))), (1, .int (nI (z_su z y))), (0, .ref (A (cd (k + 1) 5 0)))] → W p l e (mRm 0 0 0 0) s mt ([.ref (A (cd (k + 1) 5 0))] : List Value).toArray below meth c H locs 0 0 (MQ below (mQc G s0 (fun v9 h9 => (v9 = some (.int (nI (z_su z 5))) ∧ h9 = h0))) ([.ref (A (cd (k + 1) 5 0))] : List Value).toArray s 0 0 (fun q => s0.heap.size ≤ q)) (F0 mt 13 ls []) := by
    intro fu
    induction fu with
    | zero => intro y hfu _; exact absurd hfu (by omega)
    | succ fu ih =>
      intro y hfu hy H locs hM hS ls hl
      refine lv_iload hx hb dX3_heldValues_13 (lv_at hl 0 rfl) ?_
      refine lv_iload_n hx hb dX3_heldValues_15 rfl (lv_at hl 1 rfl) ?_
      refine lv_icmp_ge (tgt := 36) hx hb dX3_heldValues_16 (by decide) (fun c_2 => ?_) (fun c_2 => ?_)
      · -- 16 t
        have c_2 : 5 ≤ y := (nI_leI (by decide) (by omega)).mp c_2
        refine lv_iload_n hx hb dX3_heldValues_36 rfl (lv_at hl 3 rfl) ?_
        exact m_iret C hM hS (Nat.le_of_ble_eq_true rfl) (Nat.le_of_ble_eq_true rfl) dX3_heldValues_37 ⟨by rw [show y = 5 by omega], hh⟩
      · -- 16 f
        have c_2 : ¬ 5 ≤ y := fun q => c_2 ((nI_leI (by decide) (by omega)).mpr q)
        refine lv_aload_n hx hb dX3_heldValues_19 rfl (lv_at hl 2 rfl) ?_
        refine lv_iload hx hb dX3_heldValues_20 (lv_at hl 0 rfl) ?_
        refine m_iald Z C hM (f := fun k => nI (z k)) (hC.at (skS_8)) y rfl (by omega) (by decide) dX3_heldValues_22 ?_
        refine lv_istore (lv' := [(5, .int (nI (z y))), (4, .int (nI y)), (3, .int (nI 5)), (2, .ref (A (cd (k + 1) 8 0))), (1, .int (nI (z_su z y))), (0, .ref (A (cd (k + 1) 5 0)))]) hx hb dX3_heldValues_23 hl (by decide) rfl (fun ls hl => ?_)
        refine lv_iload_n hx hb dX3_heldValues_25 rfl (lv_at hl 4 rfl) ?_
        refine lv_iload hx hb dX3_heldValues_26 (lv_at hl 0 rfl) ?_
        refine n_iadd hx hb dX3_heldValues_28 ?_
        refine lv_istore_n (lv' := [(1, .int (nI (z_su z y + z y))), (5, .int (nI (z y))), (4, .int (nI y)), (3, .int (nI 5)), (2, .ref (A (cd (k + 1) 8 0))), (0, .ref (A (cd (k + 1) 5 0)))]) hx hb dX3_heldValues_29 rfl hl (by decide) rfl (fun ls hl => ?_)
        refine lv_iinc (v := nI (y + 1)) (lv' := [(4, .int (nI (y + 1))), (1, .int (nI (z_su z y + z y))), (5, .int (nI (z y))), (3, .int (nI 5)), (2, .ref (A (cd (k + 1) 8 0))), (0, .ref (A (cd (k + 1) 5 0)))]) hx hb dX3_heldValues_30 hl (k := 2) rfl (nI_add _ _) (by decide) rfl (fun ls hl => ?_)
        refine lv_goto (tgt := 13) hx hb dX3_heldValues_33 (by decide) ?_
        exact ih (y + 1) (by omega) (by omega) H locs hM hS ls (lv_sub hl [0, 3, 4, 1, 5] rfl)
  exact lp_1 6 0 (by omega) (by omega) H locs hM hS ls (lv_sub hl [0, 1, 2, 3, 4] rfl)
set_option maxRecDepth 100000 in
set_option maxHeartbeats 4000000 in
theorem c_X3_weightUpTo {l : Launch} {G : mG} {a0 : Array Value} {s0 : State} (Z : mZ l G a0 s0) (h0 : Hp) (A : Cd → Nat) (tg : Nat → Cd) (sg : Cd → Option va_E) (k : Nat) (F : Nat → Nat → Int32) (z : Nat → Nat) (v : Nat → Nat) (d : Nat) (hC : CW h0 A tg (skS G A sg k F z v d)) (x : Int32) (hz : ∀ i : Nat, i < 5 → z i ≤ 8) : mM l G s0 yX3_weightUpTo cX3_weightUpTo 6 (some .int) 0 0 0 0 h0 [.ref (A (cd (k + 1) 5 0)), .int x] (fun v9 h9 => (v9 = some (.int (nI (k_wt F z x 5))) ∧ h9 = h0)) := by
  refine mM_in RX3 "weightUpTo" rfl rfl (by decide +kernel) (Nat.le_of_ble_eq_true rfl) ?_
  intro p e s mt below meth c H locs C hM hS ls hl
  have hx := C.1
  have hb := C.2.1
  have hown := C.2.2.2.1
  have hE := C.2.2.2.2.2.2.1
  have hl : lv_has ls 6 [(0, .ref (A (cd (k + 1) 5 0))), (1, .int x)] := hl
  obtain ⟨h, hh⟩ : ∃ z, z = h0 := ⟨_, rfl⟩
  rw [← hh] at hM hC
  refine lv_iconst (v := nI 0) hx hb dX3_weightUpTo_0 (by decide) ?_
  refine lv_istore_n (lv' := [(2, .int (nI 0)), (0, .ref (A (cd (k + 1) 5 0))), (1, .int x)]) hx hb dX3_weightUpTo_1 rfl hl (by decide) rfl (fun ls hl => ?_)
  refine lv_iconst (v := nI 0) hx hb dX3_weightUpTo_2 (by decide) ?_
  refine lv_istore_n (lv' := [(3, .int (nI 0)), (2, .int (nI 0)), (0, .ref (A (cd (k + 1) 5 0))), (1, .int x)]) hx hb dX3_weightUpTo_3 rfl hl (by decide) rfl (fun ls hl => ?_)
  have lp_1 : ∀ (fu : Nat) (y : Nat), 5 < y + fu → y ≤ 5 → ∀ (H : Heap) (locs : List Loc), MW G s0.heap.size h H → va_S (fun q => s0.heap.size ≤ q) s.heap H locs → ∀ ls : Array Slot, lv_has ls 6 [(3, .int (nI y)), (2, .int (nI (k_wt F z x y))), (0, .ref (A (cd (k + 1) 5 0))), (1, .int x)] → W p l e (mRm 0 0 0 0) s mt ([.ref (A (cd (k + 1) 5 0)), .int x] : List Value).toArray below meth c H locs 0 0 (MQ below (mQc G s0 (fun v9 h9 => (v9 = some (.int (nI (k_wt F z x 5))) ∧ h9 = h0))) ([.ref (A (cd (k + 1) 5 0)), .int x] : List Value).toArray s 0 0 (fun q => s0.heap.size ≤ q)) (F0 mt 4 ls []) := by
    intro fu
    induction fu with
    | zero => intro y hfu _; exact absurd hfu (by omega)
    | succ fu ih =>
      intro y hfu hy H locs hM hS ls hl
      refine lv_iload_n hx hb dX3_weightUpTo_4 rfl (lv_at hl 0 rfl) ?_
      refine lv_iconst (v := nI 5) hx hb dX3_weightUpTo_5 (by decide) ?_
      refine lv_icmp_ge (tgt := 66) hx hb dX3_weightUpTo_6 (by decide) (fun c_2 => ?_) (fun c_2 => ?_)
      · -- 6 t
        have c_2 : 5 ≤ y := (nI_leI (by decide) (by omega)).mp c_2
        refine lv_iload_n hx hb dX3_weightUpTo_66 rfl (lv_at hl 1 rfl) ?_
        exact m_iret C hM hS (Nat.le_of_ble_eq_true rfl) (Nat.le_of_ble_eq_true rfl) dX3_weightUpTo_67 ⟨by rw [show y = 5 by omega], hh⟩
      · -- 6 f
        have c_2 : ¬ 5 ≤ y := fun q => c_2 ((nI_leI (by decide) (by omega)).mpr q)
        have hzy := hz y (by omega)
        refine lv_aload_n hx hb dX3_weightUpTo_9 rfl (lv_at hl 2 rfl) ?_
        refine m_get Z C hM (hC.at (skS_5)) K_X3 0 (by decide) fl_X3_11 (v := .ref (A (cd (k + 1) 6 0))) rfl dX3_weightUpTo_10 ?_
        refine lv_iload_n hx hb dX3_weightUpTo_13 rfl (lv_at hl 0 rfl) ?_
        refine m_aald Z C hM (hC.at (skS_6)) y rfl (by omega) (by decide) (v := .ref (A (cd (k + 1) 7 y))) (skL_at (by omega)) dX3_weightUpTo_14 ?_
        refine lv_astore (lv' := [(4, .ref (A (cd (k + 1) 7 y))), (3, .int (nI y)), (2, .int (nI (k_wt F z x y))), (0, .ref (A (cd (k + 1) 5 0))), (1, .int x)]) hx hb dX3_weightUpTo_15 hl (by decide) rfl (fun ls hl => ?_)
        refine lv_iconst (v := nI 0) hx hb dX3_weightUpTo_17 (by decide) ?_
        refine lv_istore (lv' := [(5, .int (nI 0)), (4, .ref (A (cd (k + 1) 7 y))), (3, .int (nI y)), (2, .int (nI (k_wt F z x y))), (0, .ref (A (cd (k + 1) 5 0))), (1, .int x)]) hx hb dX3_weightUpTo_18 hl (by decide) rfl (fun ls hl => ?_)
        have lp_3 : ∀ (fu2 : Nat) (r : Nat), z y < r + fu2 → r ≤ z y → ∀ (H : Heap) (locs : List Loc), MW G s0.heap.size h H → va_S (fun q => s0.heap.size ≤ q) s.heap H locs → ∀ ls : Array Slot, lv_has ls 6 [(5, .int (nI r)), (4, .ref (A (cd (k + 1) 7 y))), (3, .int (nI y)), (2, .int (nI (k_wt F z x y + z_su (fun r => if F y r ≤ x then 2 ^ y else 0) r))), (0, .ref (A (cd (k + 1) 5 0))), (1, .int x)] → W p l e (mRm 0 0 0 0) s mt ([.ref (A (cd (k + 1) 5 0)), .int x] : List Value).toArray below meth c H locs 0 0 (MQ below (mQc G s0 (fun v9 h9 => (v9 = some (.int (nI (k_wt F z x 5))) ∧ h9 = h0))) ([.ref (A (cd (k + 1) 5 0)), .int x] : List Value).toArray s 0 0 (fun q => s0.heap.size ≤ q)) (F0 mt 20 ls []) := by
          intro fu2
          induction fu2 with
          | zero => intro r hfu _; exact absurd hfu (by omega)
          | succ fu2 ih2 =>
            intro r hfu hr H locs hM hS ls hl
            refine lv_iload hx hb dX3_weightUpTo_20 (lv_at hl 0 rfl) ?_
            refine lv_aload_n hx hb dX3_weightUpTo_22 rfl (lv_at hl 4 rfl) ?_
            refine m_get Z C hM (hC.at (skS_5)) K_X3 1 (by decide) fl_X3_16 (v := .ref (A (cd (k + 1) 8 0))) rfl dX3_weightUpTo_23 ?_
            refine lv_iload_n hx hb dX3_weightUpTo_26 rfl (lv_at hl 2 rfl) ?_
            refine m_iald Z C hM (f := fun k => nI (z k)) (hC.at (skS_8)) y rfl (by omega) (by decide) dX3_weightUpTo_27 ?_
            refine lv_icmp_ge (tgt := 60) hx hb dX3_weightUpTo_28 (by decide) (fun c_4 => ?_) (fun c_4 => ?_)
            · -- 28 t
              have c_4 : z y ≤ r := (nI_leI (by omega) (by omega)).mp c_4
              refine lv_iinc (v := nI (y + 1)) (lv' := [(3, .int (nI (y + 1))), (5, .int (nI r)), (4, .ref (A (cd (k + 1) 7 y))), (2, .int (nI (k_wt F z x y + z_su (fun r => if F y r ≤ x then 2 ^ y else 0) r))), (0, .ref (A (cd (k + 1) 5 0))), (1, .int x)]) hx hb dX3_weightUpTo_60 hl (k := 2) rfl (nI_add _ _) (by decide) rfl (fun ls hl => ?_)
              refine lv_goto (tgt := 4) hx hb dX3_weightUpTo_63 (by decide) ?_
              have e9 : k_wt F z x (y + 1) = k_wt F z x y + z_su (fun r => if F y r ≤ x then 2 ^ y else 0) r := by rw [show r = z y by omega]; rfl
              rw [← e9] at hl
              exact ih (y + 1) (by omega) (by omega) H locs hM hS ls (lv_sub hl [0, 3, 4, 5] rfl)
            · -- 28 f
              have c_4 : ¬ z y ≤ r := fun q => c_4 ((nI_leI (by omega) (by omega)).mpr q)
              refine lv_iload hx hb dX3_weightUpTo_31 (lv_at hl 0 rfl) ?_
              refine lv_aload hx hb dX3_weightUpTo_33 (lv_at hl 1 rfl) ?_
              refine m_alen (t0 := 0) Z C hM rfl (hC.at (skS_7 (by omega))) dX3_weightUpTo_35 ?_
              refine W.eq (g2 := F0 mt 36 ls [.int (nI 8), .int (nI r)]) rfl ?_
              refine lv_icmp_ge (tgt := 60) hx hb dX3_weightUpTo_36 (by decide) (fun c_5 => ?_) (fun c_5 => ?_)
              · -- 36 t
                have c_5 : 8 ≤ r := (nI_leI (by decide) (by omega)).mp c_5
                refine lv_iinc (v := nI (y + 1)) (lv' := [(3, .int (nI (y + 1))), (5, .int (nI r)), (4, .ref (A (cd (k + 1) 7 y))), (2, .int (nI (k_wt F z x y + z_su (fun r => if F y r ≤ x then 2 ^ y else 0) r))), (0, .ref (A (cd (k + 1) 5 0))), (1, .int x)]) hx hb dX3_weightUpTo_60 hl (k := 2) rfl (nI_add _ _) (by decide) rfl (fun ls hl => ?_)
                refine lv_goto (tgt := 4) hx hb dX3_weightUpTo_63 (by decide) ?_
                have e9 : k_wt F z x (y + 1) = k_wt F z x y + z_su (fun r => if F y r ≤ x then 2 ^ y else 0) r := by rw [show r = z y by omega]; rfl
                rw [← e9] at hl
                exact ih (y + 1) (by omega) (by omega) H locs hM hS ls (lv_sub hl [0, 3, 4, 5] rfl)
              · -- 36 f
                have c_5 : ¬ 8 ≤ r := fun q => c_5 ((nI_leI (by decide) (by omega)).mpr q)
                refine lv_aload hx hb dX3_weightUpTo_39 (lv_at hl 1 rfl) ?_
                refine lv_iload hx hb dX3_weightUpTo_41 (lv_at hl 0 rfl) ?_
                refine m_iald Z C hM (f := F y) (hC.at (skS_7 (by omega))) r rfl (by omega) (by decide) dX3_weightUpTo_43 ?_
                refine lv_iload_n hx hb dX3_weightUpTo_44 rfl (lv_at hl 5 rfl) ?_
                refine lv_icmp_gt (tgt := 54) hx hb dX3_weightUpTo_45 (by decide) (fun c_6 => ?_) (fun c_6 => ?_)
                · -- 45 t
                  refine lv_iinc (v := nI (r + 1)) (lv' := [(5, .int (nI (r + 1))), (4, .ref (A (cd (k + 1) 7 y))), (3, .int (nI y)), (2, .int (nI (k_wt F z x y + z_su (fun r => if F y r ≤ x then 2 ^ y else 0) r))), (0, .ref (A (cd (k + 1) 5 0))), (1, .int x)]) hx hb dX3_weightUpTo_54 hl (k := 0) rfl (nI_add _ _) (by decide) rfl (fun ls hl => ?_)
                  refine lv_goto (tgt := 20) hx hb dX3_weightUpTo_57 (by decide) ?_
                  have e8 : k_wt F z x y + z_su (fun r => if F y r ≤ x then 2 ^ y else 0) (r + 1) = k_wt F z x y + z_su (fun r => if F y r ≤ x then 2 ^ y else 0) r := by show _ + (_ + (if F y r ≤ x then 2 ^ y else 0)) = _; rw [if_neg (i_ltn c_6), Nat.add_zero]
                  rw [← e8] at hl
                  exact ih2 (r + 1) (by omega) (by omega) H locs hM hS ls (lv_sub hl [0, 1, 2, 3, 4, 5] rfl)
                · -- 45 f
                  refine lv_iload_n hx hb dX3_weightUpTo_48 rfl (lv_at hl 3 rfl) ?_
                  refine lv_iconst (v := nI 1) hx hb dX3_weightUpTo_49 (by decide) ?_
                  refine lv_iload_n hx hb dX3_weightUpTo_50 rfl (lv_at hl 2 rfl) ?_
                  refine n_ishl1 hx hb (by omega) dX3_weightUpTo_51 ?_
                  refine n_iadd hx hb dX3_weightUpTo_52 ?_
                  refine lv_istore_n (lv' := [(2, .int (nI (k_wt F z x y + z_su (fun r => if F y r ≤ x then 2 ^ y else 0) r + 2 ^ y))), (5, .int (nI r)), (4, .ref (A (cd (k + 1) 7 y))), (3, .int (nI y)), (0, .ref (A (cd (k + 1) 5 0))), (1, .int x)]) hx hb dX3_weightUpTo_53 rfl hl (by decide) rfl (fun ls hl => ?_)
                  refine lv_iinc (v := nI (r + 1)) (lv' := [(5, .int (nI (r + 1))), (2, .int (nI (k_wt F z x y + z_su (fun r => if F y r ≤ x then 2 ^ y else 0) r + 2 ^ y))), (4, .ref (A (cd (k + 1) 7 y))), (3, .int (nI y)), (0, .ref (A (cd (k + 1) 5 0))), (1, .int x)]) hx hb dX3_weightUpTo_54 hl (k := 1) rfl (nI_add _ _) (by decide) rfl (fun ls hl => ?_)
                  refine lv_goto (tgt := 20) hx hb dX3_weightUpTo_57 (by decide) ?_
                  have e8 : k_wt F z x y + z_su (fun r => if F y r ≤ x then 2 ^ y else 0) (r + 1) = k_wt F z x y + z_su (fun r => if F y r ≤ x then 2 ^ y else 0) r + 2 ^ y := by show _ + (_ + (if F y r ≤ x then 2 ^ y else 0)) = _; rw [if_pos (i_nlt c_6), Nat.add_assoc]
                  rw [← e8] at hl
                  exact ih2 (r + 1) (by omega) (by omega) H locs hM hS ls (lv_sub hl [0, 2, 3, 1, 4, 5] rfl)
        exact lp_3 (z y + 1) 0 (by omega) (Nat.zero_le _) H locs hM hS ls (lv_sub hl [0, 1, 2, 3, 4, 5] rfl)
  exact lp_1 6 0 (by omega) (by omega) H locs hM hS ls (lv_sub hl [0, 1, 2, 3] rfl)
set_option maxRecDepth 100000 in
set_option maxHeartbeats 4000000 in
theorem c_X3_leastReaching {l : Launch} {G : mG} {a0 : Array Value} {s0 : State} (Z : mZ l G a0 s0) (h0 : Hp) (A : Cd → Nat) (tg : Nat → Cd) (sg : Cd → Option va_E) (k : Nat) (F : Nat → Nat → Int32) (z : Nat → Nat) (v : Nat → Nat) (d : Nat) (hC : CW h0 A tg (skS G A sg k F z v d)) (t9 : Nat) (hz : ∀ i : Nat, i < 5 → z i ≤ 8) (ht9 : t9 < 1000) : mM l G s0 yX3_leastReaching cX3_leastReaching 6 (some .int) 1 25 0 0 h0 [.ref (A (cd (k + 1) 5 0)), .int (nI t9)] (fun v9 h9 => (v9 = some (.int (k_lo F z t9 5)) ∧ h9 = h0)) := by
  refine mM_in RX3 "leastReaching" rfl rfl (by decide +kernel) (Nat.le_of_ble_eq_true rfl) ?_
  intro p e s mt below meth c H locs C hM hS ls hl
  have hx := C.1
  have hb := C.2.1
  have hown := C.2.2.2.1
  have hE := C.2.2.2.2.2.2.1
  have hl : lv_has ls 6 [(0, .ref (A (cd (k + 1) 5 0))), (1, .int (nI t9))] := hl
  obtain ⟨h, hh⟩ : ∃ z, z = h0 := ⟨_, rfl⟩
  rw [← hh] at hM hC
  refine lv_sipush (v := nI 10000) hx hb dX3_leastReaching_0 (by decide) ?_
  refine lv_istore_n (lv' := [(2, .int (nI 10000)), (0, .ref (A (cd (k + 1) 5 0))), (1, .int (nI t9))]) hx hb dX3_leastReaching_3 rfl hl (by decide) rfl (fun ls hl => ?_)
  refine lv_iconst (v := nI 0) hx hb dX3_leastReaching_4 (by decide) ?_
  refine lv_istore_n (lv' := [(3, .int (nI 0)), (2, .int (nI 10000)), (0, .ref (A (cd (k + 1) 5 0))), (1, .int (nI t9))]) hx hb dX3_leastReaching_5 rfl hl (by decide) rfl (fun ls hl => ?_)
  have lp_1 : ∀ (fu : Nat) (y : Nat), 5 < y + fu → y ≤ 5 → ∀ (H : Heap) (locs : List Loc), MW G s0.heap.size h H → va_S (fun q => s0.heap.size ≤ q) s.heap H locs → ∀ ls : Array Slot, lv_has ls 6 [(3, .int (nI y)), (2, .int (k_lo F z t9 y)), (0, .ref (A (cd (k + 1) 5 0))), (1, .int (nI t9))] → W p l e (mRm 1 25 0 0) s mt ([.ref (A (cd (k + 1) 5 0)), .int (nI t9)] : List Value).toArray below meth c H locs 0 0 (MQ below (mQc G s0 (fun v9 h9 => (v9 = some (.int (k_lo F z t9 5)) ∧ h9 = h0))) ([.ref (A (cd (k + 1) 5 0)), .int (nI t9)] : List Value).toArray s 0 0 (fun q => s0.heap.size ≤ q)) (F0 mt 6 ls []) := by
    intro fu
    induction fu with
    | zero => intro y hfu _; exact absurd hfu (by omega)
    | succ fu ih =>
      intro y hfu hy H locs hM hS ls hl
      refine lv_iload_n hx hb dX3_leastReaching_6 rfl (lv_at hl 0 rfl) ?_
      refine lv_iconst (v := nI 5) hx hb dX3_leastReaching_7 (by decide) ?_
      refine lv_icmp_ge (tgt := 81) hx hb dX3_leastReaching_8 (by decide) (fun c_2 => ?_) (fun c_2 => ?_)
      · -- 8 t
        have c_2 : 5 ≤ y := (nI_leI (by decide) (by omega)).mp c_2
        refine lv_iload_n hx hb dX3_leastReaching_81 rfl (lv_at hl 1 rfl) ?_
        exact m_iret C hM hS (Nat.le_of_ble_eq_true rfl) (Nat.le_of_ble_eq_true rfl) dX3_leastReaching_82 ⟨by rw [show y = 5 by omega], hh⟩
      · -- 8 f
        have c_2 : ¬ 5 ≤ y := fun q => c_2 ((nI_leI (by decide) (by omega)).mpr q)
        have hzy := hz y (by omega)
        refine lv_aload_n hx hb dX3_leastReaching_11 rfl (lv_at hl 2 rfl) ?_
        refine m_get Z C hM (hC.at (skS_5)) K_X3 0 (by decide) fl_X3_11 (v := .ref (A (cd (k + 1) 6 0))) rfl dX3_leastReaching_12 ?_
        refine lv_iload_n hx hb dX3_leastReaching_15 rfl (lv_at hl 0 rfl) ?_
        refine m_aald Z C hM (hC.at (skS_6)) y rfl (by omega) (by decide) (v := .ref (A (cd (k + 1) 7 y))) (skL_at (by omega)) dX3_leastReaching_16 ?_
        refine lv_astore (lv' := [(4, .ref (A (cd (k + 1) 7 y))), (3, .int (nI y)), (2, .int (k_lo F z t9 y)), (0, .ref (A (cd (k + 1) 5 0))), (1, .int (nI t9))]) hx hb dX3_leastReaching_17 hl (by decide) rfl (fun ls hl => ?_)
        refine lv_iconst (v := nI 0) hx hb dX3_leastReaching_19 (by decide) ?_
        refine lv_istore (lv' := [(5, .int (nI 0)), (4, .ref (A (cd (k + 1) 7 y))), (3, .int (nI y)), (2, .int (k_lo F z t9 y)), (0, .ref (A (cd (k + 1) 5 0))), (1, .int (nI t9))]) hx hb dX3_leastReaching_20 hl (by decide) rfl (fun ls hl => ?_)
        have lp_3 : ∀ (fu2 : Nat) (r : Nat), z y < r + fu2 → r ≤ z y → ∀ (H : Heap) (locs : List Loc), MW G s0.heap.size h H → va_S (fun q => s0.heap.size ≤ q) s.heap H locs → ∀ ls : Array Slot, lv_has ls 6 [(5, .int (nI r)), (4, .ref (A (cd (k + 1) 7 y))), (3, .int (nI y)), (2, .int (k_li F z t9 y (k_lo F z t9 y) r)), (0, .ref (A (cd (k + 1) 5 0))), (1, .int (nI t9))] → W p l e (mRm 1 25 0 0) s mt ([.ref (A (cd (k + 1) 5 0)), .int (nI t9)] : List Value).toArray below meth c H locs 0 0 (MQ below (mQc G s0 (fun v9 h9 => (v9 = some (.int (k_lo F z t9 5)) ∧ h9 = h0))) ([.ref (A (cd (k + 1) 5 0)), .int (nI t9)] : List Value).toArray s 0 0 (fun q => s0.heap.size ≤ q)) (F0 mt 22 ls []) := by
          intro fu2
          induction fu2 with
          | zero => intro r hfu _; exact absurd hfu (by omega)
          | succ fu2 ih2 =>
            intro r hfu hr H locs hM hS ls hl
            refine lv_iload hx hb dX3_leastReaching_22 (lv_at hl 0 rfl) ?_
            refine lv_aload_n hx hb dX3_leastReaching_24 rfl (lv_at hl 4 rfl) ?_
            refine m_get Z C hM (hC.at (skS_5)) K_X3 1 (by decide) fl_X3_16 (v := .ref (A (cd (k + 1) 8 0))) rfl dX3_leastReaching_25 ?_
            refine lv_iload_n hx hb dX3_leastReaching_28 rfl (lv_at hl 2 rfl) ?_
            refine m_iald Z C hM (f := fun k => nI (z k)) (hC.at (skS_8)) y rfl (by omega) (by decide) dX3_leastReaching_29 ?_
            refine lv_icmp_ge (tgt := 75) hx hb dX3_leastReaching_30 (by decide) (fun c_4 => ?_) (fun c_4 => ?_)
            · -- 30 t
              have c_4 : z y ≤ r := (nI_leI (by omega) (by omega)).mp c_4
              refine lv_iinc (v := nI (y + 1)) (lv' := [(3, .int (nI (y + 1))), (5, .int (nI r)), (4, .ref (A (cd (k + 1) 7 y))), (2, .int (k_li F z t9 y (k_lo F z t9 y) r)), (0, .ref (A (cd (k + 1) 5 0))), (1, .int (nI t9))]) hx hb dX3_leastReaching_75 hl (k := 2) rfl (nI_add _ _) (by decide) rfl (fun ls hl => ?_)
              refine lv_goto (tgt := 6) hx hb dX3_leastReaching_78 (by decide) ?_
              have e9 : k_lo F z t9 (y + 1) = k_li F z t9 y (k_lo F z t9 y) r := by rw [show r = z y by omega]; rfl
              rw [← e9] at hl
              exact ih (y + 1) (by omega) (by omega) H locs hM hS ls (lv_sub hl [0, 3, 4, 5] rfl)
            · -- 30 f
              have c_4 : ¬ z y ≤ r := fun q => c_4 ((nI_leI (by omega) (by omega)).mpr q)
              refine lv_iload hx hb dX3_leastReaching_33 (lv_at hl 0 rfl) ?_
              refine lv_aload hx hb dX3_leastReaching_35 (lv_at hl 1 rfl) ?_
              refine m_alen (t0 := 0) Z C hM rfl (hC.at (skS_7 (by omega))) dX3_leastReaching_37 ?_
              refine W.eq (g2 := F0 mt 38 ls [.int (nI 8), .int (nI r)]) rfl ?_
              refine lv_icmp_ge (tgt := 75) hx hb dX3_leastReaching_38 (by decide) (fun c_5 => ?_) (fun c_5 => ?_)
              · -- 38 t
                have c_5 : 8 ≤ r := (nI_leI (by decide) (by omega)).mp c_5
                refine lv_iinc (v := nI (y + 1)) (lv' := [(3, .int (nI (y + 1))), (5, .int (nI r)), (4, .ref (A (cd (k + 1) 7 y))), (2, .int (k_li F z t9 y (k_lo F z t9 y) r)), (0, .ref (A (cd (k + 1) 5 0))), (1, .int (nI t9))]) hx hb dX3_leastReaching_75 hl (k := 2) rfl (nI_add _ _) (by decide) rfl (fun ls hl => ?_)
                refine lv_goto (tgt := 6) hx hb dX3_leastReaching_78 (by decide) ?_
                have e9 : k_lo F z t9 (y + 1) = k_li F z t9 y (k_lo F z t9 y) r := by rw [show r = z y by omega]; rfl
                rw [← e9] at hl
                exact ih (y + 1) (by omega) (by omega) H locs hM hS ls (lv_sub hl [0, 3, 4, 5] rfl)
              · -- 38 f
                have c_5 : ¬ 8 ≤ r := fun q => c_5 ((nI_leI (by decide) (by omega)).mpr q)
                refine lv_aload hx hb dX3_leastReaching_41 (lv_at hl 1 rfl) ?_
                refine lv_iload hx hb dX3_leastReaching_43 (lv_at hl 0 rfl) ?_
                refine m_iald Z C hM (f := F y) (hC.at (skS_7 (by omega))) r rfl (by omega) (by decide) dX3_leastReaching_45 ?_
                refine lv_iload_n hx hb dX3_leastReaching_46 rfl (lv_at hl 3 rfl) ?_
                refine lv_icmp_ge (tgt := 69) hx hb dX3_leastReaching_47 (by decide) (fun c_6 => ?_) (fun c_6 => ?_)
                · -- 47 t
                  refine lv_iinc (v := nI (r + 1)) (lv' := [(5, .int (nI (r + 1))), (4, .ref (A (cd (k + 1) 7 y))), (3, .int (nI y)), (2, .int (k_li F z t9 y (k_lo F z t9 y) r)), (0, .ref (A (cd (k + 1) 5 0))), (1, .int (nI t9))]) hx hb dX3_leastReaching_69 hl (k := 0) rfl (nI_add _ _) (by decide) rfl (fun ls hl => ?_)
                  refine lv_goto (tgt := 22) hx hb dX3_leastReaching_72 (by decide) ?_
                  have e9 : k_li F z t9 y (k_lo F z t9 y) (r + 1) = k_li F z t9 y (k_lo F z t9 y) r := if_neg (fun q => absurd q.1 (i_len c_6))
                  rw [← e9] at hl
                  exact ih2 (r + 1) (by omega) (by omega) H locs hM hS ls (lv_sub hl [0, 1, 2, 3, 4, 5] rfl)
                · -- 47 f
                  refine lv_aload_n hx hb dX3_leastReaching_50 rfl (lv_at hl 4 rfl) ?_
                  refine lv_aload hx hb dX3_leastReaching_51 (lv_at hl 1 rfl) ?_
                  refine lv_iload hx hb dX3_leastReaching_53 (lv_at hl 0 rfl) ?_
                  refine m_iald Z C hM (f := F y) (hC.at (skS_7 (by omega))) r rfl (by omega) (by decide) dX3_leastReaching_55 ?_
                  refine m_callV Z C hM hS (As := [.int ((F y) r)]) (rest := []) (c_X3_weightUpTo Z h A tg sg k F z v d hC ((F y) r) hz) yi_X3_weightUpTo ml_X3_39 (hC.at (skS_5)) rfl ⟨Nat.le_of_ble_eq_true rfl, Nat.le_of_ble_eq_true rfl⟩ (Nat.le_of_ble_eq_true rfl) hl.1 rfl rfl dX3_leastReaching_56 ⟨Nat.le_of_ble_eq_true rfl, Nat.le_of_ble_eq_true rfl⟩ (fun v h9 H locs hv hM hS => ?_)
                  obtain ⟨hv, hh9⟩ := hv
                  subst hv
                  rw [hh9] at hM
                  refine W.eq (g2 := F0 mt 59 ls [.int (nI (k_wt F z ((F y) r) 5))]) rfl ?_
                  have hwt := k_wt_le hz (F y r) (F := F) 5 (Nat.le_refl 5)
                  refine lv_iload_n hx hb dX3_leastReaching_59 rfl (lv_at hl 5 rfl) ?_
                  refine lv_icmp_lt (tgt := 69) hx hb dX3_leastReaching_60 (by decide) (fun c_7 => ?_) (fun c_7 => ?_)
                  · -- 60 t
                    have c_7 : k_wt F z ((F y) r) 5 < t9 := (nI_ltI (by omega) (by omega)).mp c_7
                    refine lv_iinc (v := nI (r + 1)) (lv' := [(5, .int (nI (r + 1))), (4, .ref (A (cd (k + 1) 7 y))), (3, .int (nI y)), (2, .int (k_li F z t9 y (k_lo F z t9 y) r)), (0, .ref (A (cd (k + 1) 5 0))), (1, .int (nI t9))]) hx hb dX3_leastReaching_69 hl (k := 0) rfl (nI_add _ _) (by decide) rfl (fun ls hl => ?_)
                    refine lv_goto (tgt := 22) hx hb dX3_leastReaching_72 (by decide) ?_
                    have e9 : k_li F z t9 y (k_lo F z t9 y) (r + 1) = k_li F z t9 y (k_lo F z t9 y) r := if_neg (fun q => absurd q.2 (Nat.not_le.mpr c_7))
                    rw [← e9] at hl
                    exact ih2 (r + 1) (by omega) (by omega) H locs hM hS ls (lv_sub hl [0, 1, 2, 3, 4, 5] rfl)
                  · -- 60 f
                    have c_7 : ¬ k_wt F z ((F y) r) 5 < t9 := fun q => c_7 ((nI_ltI (by omega) (by omega)).mpr q)
                    refine lv_aload hx hb dX3_leastReaching_63 (lv_at hl 1 rfl) ?_
                    refine lv_iload hx hb dX3_leastReaching_65 (lv_at hl 0 rfl) ?_
                    refine m_iald Z C hM (f := F y) (hC.at (skS_7 (by omega))) r rfl (by omega) (by decide) dX3_leastReaching_67 ?_
                    refine lv_istore_n (lv' := [(2, .int ((F y) r)), (5, .int (nI r)), (4, .ref (A (cd (k + 1) 7 y))), (3, .int (nI y)), (0, .ref (A (cd (k + 1) 5 0))), (1, .int (nI t9))]) hx hb dX3_leastReaching_68 rfl hl (by decide) rfl (fun ls hl => ?_)
                    refine lv_iinc (v := nI (r + 1)) (lv' := [(5, .int (nI (r + 1))), (2, .int ((F y) r)), (4, .ref (A (cd (k + 1) 7 y))), (3, .int (nI y)), (0, .ref (A (cd (k + 1) 5 0))), (1, .int (nI t9))]) hx hb dX3_leastReaching_69 hl (k := 1) rfl (nI_add _ _) (by decide) rfl (fun ls hl => ?_)
                    refine lv_goto (tgt := 22) hx hb dX3_leastReaching_72 (by decide) ?_
                    have e9 : k_li F z t9 y (k_lo F z t9 y) (r + 1) = F y r := if_pos ⟨i_nle c_6, Nat.le_of_not_lt c_7⟩
                    rw [← e9] at hl
                    exact ih2 (r + 1) (by omega) (by omega) H locs hM hS ls (lv_sub hl [0, 2, 3, 1, 4, 5] rfl)
        exact lp_3 (z y + 1) 0 (by omega) (Nat.zero_le _) H locs hM hS ls (lv_sub hl [0, 1, 2, 3, 4, 5] rfl)
  exact lp_1 6 0 (by omega) (by omega) H locs hM hS ls (lv_sub hl [0, 1, 2, 3] rfl)
