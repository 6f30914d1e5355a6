set_option maxRecDepth 100000 in
set_option maxHeartbeats 4000000 in
theorem c_X3_take {l : Launch} {G : mG} {a0 : Array Value} {s0 : State} (Z : mZ l G a0 s0) (h0 : Hp) (A : Cd → Nat) (tg : Nat → Cd) (sg : Cd → Option va_E) (k : Nat) (F : Nat → Nat → Int32) (z : Nat → Nat) (v : Nat → Nat) (d : Nat) (hC : CW h0 A tg (skS G A sg k F z v d)) (x : Int32) (hz0 : z 0 < 8) (hT : TkOK (k_put (F, z, v, d) 0 x)) : mM l G s0 yX3_take cX3_take 3 none 2 46 0 0 h0 [.ref (A (cd (k + 1) 5 0)), .int x] (fun v9 h9 => (v9 = none ∧ CW h9 A tg (skS G A sg k ((k_lv (k_put (F, z, v, d) 0 x) 4).1) ((k_lv (k_put (F, z, v, d) 0 x) 4).2.1) ((k_lv (k_put (F, z, v, d) 0 x) 4).2.2.1) ((k_lv (k_put (F, z, v, d) 0 x) 4).2.2.2)) ∧ cFr h0 tg h9 tg)) := by
  refine mM_in RX3 "take" rfl rfl (by decide +kernel) (Nat.le_of_ble_eq_true rfl) ?_
  intro p e s mt below meth c H locs C hM hS ls hl
  have hx := C.1
  have hb := C.2.1
  have hown := C.2.2.2.1
  have hE := C.2.2.2.2.2.2.1
  have hl : lv_has ls 3 [(0, .ref (A (cd (k + 1) 5 0))), (1, .int x)] := hl
  have hF : cFr h0 tg h0 tg := cFr.rf
  obtain ⟨h, hM, hC, hF⟩ : ∃ h9, MW G s0.heap.size h9 H ∧ CW h9 A tg (skS G A sg k F z v d) ∧ cFr h0 tg h9 tg := ⟨_, hM, hC, hF⟩
  refine lv_aload_n hx hb dX3_take_0 rfl (lv_at hl 0 rfl) ?_
  refine lv_iconst (v := nI 0) hx hb dX3_take_1 (by decide) ?_
  refine lv_iload_n hx hb dX3_take_2 rfl (lv_at hl 1 rfl) ?_
  refine m_callV Z C hM hS (As := [.int (nI 0), .int x]) (rest := []) (c_X3_put Z h A tg sg k F z v d hC 0 x (by decide) hz0) yi_X3_put ml_X3_27 (hC.at (skS_5)) rfl ⟨Nat.le_of_ble_eq_true rfl, Nat.le_of_ble_eq_true rfl⟩ (Nat.le_of_ble_eq_true rfl) hl.1 rfl rfl dX3_take_3 ⟨Nat.le_of_ble_eq_true rfl, Nat.le_of_ble_eq_true rfl⟩ (fun v h9 H locs hv hM hS => ?_)
  obtain ⟨hv, hC9, hF8⟩ := hv
  subst hv
  have hF := hF.trans hF8
  obtain ⟨h, hM, hC, hF⟩ : ∃ h8, MW G s0.heap.size h8 H ∧ CW h8 A tg (skS G A sg k (va_up F 0 (va_up (F 0) (z 0) x)) (va_up z 0 (z 0 + 1)) v d) ∧ cFr h0 tg h8 tg := ⟨_, hM, hC9, hF⟩
  refine W.eq (g2 := F0 mt 6 ls []) rfl ?_
  obtain ⟨u0, eu0⟩ : ∃ u, u = k_put (F, z, v, d) 0 x := ⟨_, rfl⟩
  replace hC : CW h A tg (skS G A sg k u0.1 u0.2.1 u0.2.2.1 u0.2.2.2) := by rw [eu0]; exact hC
  rw [← eu0] at hT
  refine lv_iconst (v := nI 0) hx hb dX3_take_6 (by decide) ?_
  refine lv_istore_n (lv' := [(2, .int (nI 0)), (0, .ref (A (cd (k + 1) 5 0))), (1, .int x)]) hx hb dX3_take_7 rfl hl (by decide) rfl (fun ls hl => ?_)
  have lp_1 : ∀ (fu : Nat) (h : Hp) (y : Nat), 4 < y + fu → y ≤ 4 → CW h A tg (skS G A sg k ((k_lv u0 y).1) ((k_lv u0 y).2.1) ((k_lv u0 y).2.2.1) ((k_lv u0 y).2.2.2)) → cFr h0 tg h tg → ∀ (H : Heap) (locs : List Loc), MW G s0.heap.size h H → va_S (fun q => s0.heap.size ≤ q) s.heap H locs → ∀ ls : Array Slot, lv_has ls 3 [(2, .int (nI y)), (0, .ref (A (cd (k + 1) 5 0))), (1, .int x)] → W p l e (mRm 2 46 0 0) s mt ([.ref (A (cd (k + 1) 5 0)), .int x] : List Value).toArray below meth c H locs 0 0 (MQ below (mQc G s0 (fun v9 h9 => (v9 = none ∧ CW h9 A tg (skS G A sg k ((k_lv (k_put (F, z, v, d) 0 x) 4).1) ((k_lv (k_put (F, z, v, d) 0 x) 4).2.1) ((k_lv (k_put (F, z, v, d) 0 x) 4).2.2.1) ((k_lv (k_put (F, z, v, d) 0 x) 4).2.2.2)) ∧ cFr h0 tg h9 tg))) ([.ref (A (cd (k + 1) 5 0)), .int x] : List Value).toArray s 0 0 (fun q => s0.heap.size ≤ q)) (F0 mt 8 ls []) := by
    intro fu
    induction fu with
    | zero => intro h y hfu _ _ _; exact absurd hfu (by omega)
    | succ fu ih =>
      intro h y hfu hy hC hF H locs hM hS ls hl
      have hTy := hT y
      obtain ⟨u, eu⟩ : ∃ u, u = k_lv u0 y := ⟨_, rfl⟩
      rw [← eu] at hC hTy
      refine lv_iload_n hx hb dX3_take_8 rfl (lv_at hl 0 rfl) ?_
      refine lv_iconst (v := nI 4) hx hb dX3_take_9 (by decide) ?_
      refine lv_icmp_ge (tgt := 35) hx hb dX3_take_10 (by decide) (fun c_2 => ?_) (fun c_2 => ?_)
      · -- 10 t
        have c_2 : 4 ≤ y := (nI_leI (by decide) (by omega)).mp c_2
        exact m_vret C hM hS (Nat.le_of_ble_eq_true rfl) (Nat.le_of_ble_eq_true rfl) dX3_take_35 ⟨rfl, (by obtain rfl : y = 4 := (by omega); rw [← eu0, ← eu]; exact hC), hF⟩
      · -- 10 f
        have c_2 : ¬ 4 ≤ y := fun q => c_2 ((nI_leI (by decide) (by omega)).mpr q)
        obtain ⟨hT1, hT2, hT3⟩ := hTy (by omega)
        refine lv_aload_n hx hb dX3_take_13 rfl (lv_at hl 1 rfl) ?_
        refine m_get Z C hM (hC.at (skS_5)) K_X3 1 (by decide) fl_X3_16 (v := .ref (A (cd (k + 1) 8 0))) rfl dX3_take_14 ?_
        refine lv_iload_n hx hb dX3_take_17 rfl (lv_at hl 0 rfl) ?_
        refine m_iald Z C hM (f := fun k => nI (u.2.1 k)) (hC.at (skS_8)) y rfl (by omega) (by decide) dX3_take_18 ?_
        refine lv_bipush (v := nI 8) hx hb dX3_take_19 (by decide) ?_
        refine lv_icmp_lt (tgt := 29) hx hb dX3_take_21 (by decide) (fun c_3 => ?_) (fun c_3 => ?_)
        · -- 21 t
          have c_3 : u.2.1 y < 8 := (nI_ltI (by omega) (by decide)).mp c_3
          refine lv_iinc (v := nI (y + 1)) (lv' := [(2, .int (nI (y + 1))), (0, .ref (A (cd (k + 1) 5 0))), (1, .int x)]) hx hb dX3_take_29 hl (k := 0) rfl (nI_add _ _) (by decide) rfl (fun ls hl => ?_)
          refine lv_goto (tgt := 8) hx hb dX3_take_32 (by decide) ?_
          have e9 : k_lv u0 (y + 1) = u := by rw [k_lv, ← eu, if_neg (by omega)]
          have hC8 : CW h A tg (skS G A sg k ((k_lv u0 (y + 1)).1) ((k_lv u0 (y + 1)).2.1) ((k_lv u0 (y + 1)).2.2.1) ((k_lv u0 (y + 1)).2.2.2)) := by rw [e9]; exact hC
          exact ih h (y + 1) (by omega) (by omega) hC8 hF H locs hM hS ls (lv_sub hl [0, 1, 2] rfl)
        · -- 21 f
          have c_3 : ¬ u.2.1 y < 8 := fun q => c_3 ((nI_ltI (by omega) (by decide)).mpr q)
          refine lv_aload_n hx hb dX3_take_24 rfl (lv_at hl 1 rfl) ?_
          refine lv_iload_n hx hb dX3_take_25 rfl (lv_at hl 0 rfl) ?_
          refine m_callV Z C hM hS (As := [.int (nI y)]) (rest := []) (c_X3_halve Z h A tg sg k u.1 u.2.1 u.2.2.1 u.2.2.2 hC y (by omega) (hT2 (by omega)) hT3) yi_X3_halve ml_X3_31 (hC.at (skS_5)) rfl ⟨Nat.le_of_ble_eq_true rfl, Nat.le_of_ble_eq_true rfl⟩ (Nat.le_of_ble_eq_true rfl) hl.1 rfl rfl dX3_take_26 ⟨Nat.le_of_ble_eq_true rfl, Nat.le_of_ble_eq_true rfl⟩ (fun v h9 H locs hv hM hS => ?_)
          obtain ⟨hv, hC9, hF8⟩ := hv
          subst hv
          have hF := hF.trans hF8
          obtain ⟨h, hM, hC, hF⟩ : ∃ h8, MW G s0.heap.size h8 H ∧ CW h8 A tg (skS G A sg k ((k_hs (u.1, u.2.1, u.2.2.1, u.2.2.2) y).1) ((k_hs (u.1, u.2.1, u.2.2.1, u.2.2.2) y).2.1) ((k_hs (u.1, u.2.1, u.2.2.1, u.2.2.2) y).2.2.1) ((k_hs (u.1, u.2.1, u.2.2.1, u.2.2.2) y).2.2.2)) ∧ cFr h0 tg h8 tg := ⟨_, hM, hC9, hF⟩
          refine W.eq (g2 := F0 mt 29 ls []) rfl ?_
          refine lv_iinc (v := nI (y + 1)) (lv' := [(2, .int (nI (y + 1))), (0, .ref (A (cd (k + 1) 5 0))), (1, .int x)]) hx hb dX3_take_29 hl (k := 0) rfl (nI_add _ _) (by decide) rfl (fun ls hl => ?_)
          refine lv_goto (tgt := 8) hx hb dX3_take_32 (by decide) ?_
          have e9 : k_lv u0 (y + 1) = k_hs u y := by rw [k_lv, ← eu, if_pos (by omega)]
          have hC8 : CW h A tg (skS G A sg k ((k_lv u0 (y + 1)).1) ((k_lv u0 (y + 1)).2.1) ((k_lv u0 (y + 1)).2.2.1) ((k_lv u0 (y + 1)).2.2.2)) := by rw [e9]; exact hC
          exact ih h (y + 1) (by omega) (by omega) hC8 hF H locs hM hS ls (lv_sub hl [0, 1, 2] rfl)
  exact lp_1 5 h 0 (by omega) (by omega) hC hF H locs hM hS ls (lv_sub hl [0, 1, 2] rfl)
