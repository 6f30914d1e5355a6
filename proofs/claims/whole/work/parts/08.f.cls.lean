set_option maxRecDepth 100000 in
set_option maxHeartbeats 4000000 in
theorem c_X3_halve {l : Launch} {G : mG} {a0 : Array Value} {s0 : State} (Z : mZ l G a0 s0) (h0 : Hp) (A : Cd → Nat) (tg : Nat → Cd) (sg : Cd → Option va_E) (k : Nat) (F : Nat → Nat → Int32) (z : Nat → Nat) (v : Nat → Nat) (d : Nat) (hC : CW h0 A tg (skS G A sg k F z v d)) (y : Nat) (hy : y < 4) (hz4 : z (y + 1) ≤ 4) (hv9 : v y < 1000000) : mM l G s0 yX3_halve cX3_halve 4 none 1 23 0 0 h0 [.ref (A (cd (k + 1) 5 0)), .int (nI y)] (fun v9 h9 => (v9 = none ∧ CW h9 A tg (skS G A sg k ((k_hs (F, z, v, d) y).1) ((k_hs (F, z, v, d) y).2.1) ((k_hs (F, z, v, d) y).2.2.1) ((k_hs (F, z, v, d) y).2.2.2)) ∧ cFr h0 tg h9 tg)) := by
  refine mM_in RX3 "halve" rfl rfl (by decide +kernel) (Nat.le_of_ble_eq_true rfl) ?_
  intro p e s mt below meth c H locs C hM hS ls hl
  have hx := C.1
  have hb := C.2.1
  have hown := C.2.2.2.1
  have hE := C.2.2.2.2.2.2.1
  have hl : lv_has ls 4 [(0, .ref (A (cd (k + 1) 5 0))), (1, .int (nI y))] := hl
  have hF : cFr h0 tg h0 tg := cFr.rf
  obtain ⟨h, hM, hC, hF⟩ : ∃ h9, MW G s0.heap.size h9 H ∧ CW h9 A tg (skS G A sg k F z v d) ∧ cFr h0 tg h9 tg := ⟨_, hM, hC, hF⟩
  refine lv_iload_n hx hb dX3_halve_0 rfl (lv_at hl 1 rfl) ?_
  refine lv_if_lt (tgt := 9) hx hb dX3_halve_1 (by decide) (fun q => absurd q (nI_pos (by omega))) (fun _ => ?_)
  refine lv_iload_n hx hb dX3_halve_4 rfl (lv_at hl 1 rfl) ?_
  refine lv_iconst (v := nI 4) hx hb dX3_halve_5 (by decide) ?_
  refine lv_icmp_lt (tgt := 10) hx hb dX3_halve_6 (by decide) (fun c_2 => ?_) (fun c_2 => ?_)
  · -- 6 t
    have c_2 : y < 4 := (nI_ltI (by omega) (by decide)).mp c_2
    refine lv_aload_n hx hb dX3_halve_10 rfl (lv_at hl 0 rfl) ?_
    refine m_get Z C hM (hC.at (skS_5)) K_X3 0 (by decide) fl_X3_11 (v := .ref (A (cd (k + 1) 6 0))) rfl dX3_halve_11 ?_
    refine lv_iload_n hx hb dX3_halve_14 rfl (lv_at hl 1 rfl) ?_
    refine m_aald Z C hM (hC.at (skS_6)) y rfl (by omega) (by decide) (v := .ref (A (cd (k + 1) 7 y))) (skL_at (by omega)) dX3_halve_15 ?_
    refine lv_astore_n (lv' := [(2, .ref (A (cd (k + 1) 7 y))), (0, .ref (A (cd (k + 1) 5 0))), (1, .int (nI y))]) hx hb dX3_halve_16 rfl hl (by decide) rfl (fun ls hl => ?_)
    refine lv_aload_n hx hb dX3_halve_17 rfl (lv_at hl 0 rfl) ?_
    refine m_callS Z C hM hS (As := [.ref (A (cd (k + 1) 7 y))]) (rest := []) (c_X3_sort Z h A tg (skS G A sg k F z v d) hC k y (F y) (skS_7 (by omega))) yi_X3_sort ml_X3_35 ⟨Nat.le_of_ble_eq_true rfl, Nat.le_of_ble_eq_true rfl⟩ (Nat.le_of_ble_eq_true rfl) hl.1 rfl rfl dX3_halve_18 ⟨Nat.le_of_ble_eq_true rfl, Nat.le_of_ble_eq_true rfl⟩ (fun v h9 H locs hv hM hS => ?_)
    obtain ⟨hv, hC9, hF8⟩ := hv
    subst hv
    have hF := hF.trans hF8
    rw [skS_p7 (by omega)] at hC9
    obtain ⟨h, hM, hC, hF⟩ : ∃ h8, MW G s0.heap.size h8 H ∧ CW h8 A tg (skS G A sg k (va_up F y (z_so (F y) 0 7)) z v d) ∧ cFr h0 tg h8 tg := ⟨_, hM, hC9, hF⟩
    refine W.eq (g2 := F0 mt 21 ls []) rfl ?_
    obtain ⟨u1, eu1⟩ : ∃ u, u = k_srt (F, z, v, d) y := ⟨_, rfl⟩
    replace hC : CW h A tg (skS G A sg k u1.1 u1.2.1 u1.2.2.1 u1.2.2.2) := by rw [eu1]; exact hC
    have hg1 : u1.1 y = (z_so (F y) 0 7) := by rw [eu1]; exact va_up_self _ _ _
    have hv1 : u1.2.2.1 = v := by rw [eu1]; rfl
    have hz1 : u1.2.1 = z := by rw [eu1]; rfl
    have hv2 : u1.2.2.1 y < 1000000 := by rw [hv1]; exact hv9
    refine lv_aload_n hx hb dX3_halve_21 rfl (lv_at hl 1 rfl) ?_
    refine m_get Z C hM (hC.at (skS_5)) K_X3 2 (by decide) fl_X3_20 (v := .ref (A (cd (k + 1) 9 0))) rfl dX3_halve_22 ?_
    refine lv_iload_n hx hb dX3_halve_25 rfl (lv_at hl 2 rfl) ?_
    refine m_iald Z C hM (f := fun k => nI (u1.2.2.1 k)) (hC.at (skS_9)) y rfl (by omega) (by decide) dX3_halve_26 ?_
    refine lv_iconst (v := nI 2) hx hb dX3_halve_27 (by decide) ?_
    refine n_irem hx hb (by omega) (by decide) (by decide) dX3_halve_28 ?_
    refine lv_if_ne (tgt := 36) hx hb dX3_halve_29 (by decide) (fun c_3 => ?_) (fun c_3 => ?_)
    · -- 29 t
      have c_3 : ¬ (u1.2.2.1 y) % 2 = 0 := fun q => c_3 ((nI_eq (by omega) (by decide)).mpr q)
      refine lv_iconst (v := nI 0) hx hb dX3_halve_36 (by decide) ?_
      refine lv_istore_n (lv' := [(3, .int (nI 0)), (2, .ref (A (cd (k + 1) 7 y))), (0, .ref (A (cd (k + 1) 5 0))), (1, .int (nI y))]) hx hb dX3_halve_37 rfl hl (by decide) rfl (fun ls hl => ?_)
      have lp_4 : ∀ (fu3 : Nat) (h : Hp) (t : Nat), 4 < t + fu3 → t ≤ 4 → CW h A tg (skS G A sg k ((k_pk u1 y 0 (z_so (F y) 0 7) t).1) ((k_pk u1 y 0 (z_so (F y) 0 7) t).2.1) ((k_pk u1 y 0 (z_so (F y) 0 7) t).2.2.1) ((k_pk u1 y 0 (z_so (F y) 0 7) t).2.2.2)) → cFr h0 tg h tg → ∀ (H : Heap) (locs : List Loc), MW G s0.heap.size h H → va_S (fun q => s0.heap.size ≤ q) s.heap H locs → ∀ ls : Array Slot, lv_has ls 4 [(3, .int (nI (0 + 2 * t))), (2, .ref (A (cd (k + 1) 7 y))), (0, .ref (A (cd (k + 1) 5 0))), (1, .int (nI y))] → W p l e (mRm 1 23 0 0) s mt ([.ref (A (cd (k + 1) 5 0)), .int (nI y)] : List Value).toArray below meth c H locs 0 0 (MQ below (mQc G s0 (fun v9 h9 => (v9 = none ∧ CW h9 A tg (skS G A sg k ((k_hs (F, z, v, d) y).1) ((k_hs (F, z, v, d) y).2.1) ((k_hs (F, z, v, d) y).2.2.1) ((k_hs (F, z, v, d) y).2.2.2)) ∧ cFr h0 tg h9 tg))) ([.ref (A (cd (k + 1) 5 0)), .int (nI y)] : List Value).toArray s 0 0 (fun q => s0.heap.size ≤ q)) (F0 mt 38 ls []) := by
        intro fu3
        induction fu3 with
        | zero => intro h t hfu _ _ _; exact absurd hfu (by omega)
        | succ fu3 ih3 =>
          intro h t hfu ht4 hC hF H locs hM hS ls hl
          obtain ⟨u, eu⟩ : ∃ u, u = k_pk u1 y 0 (z_so (F y) 0 7) t := ⟨_, rfl⟩
          rw [← eu] at hC
          have hg2 : u.1 y = (z_so (F y) 0 7) := by rw [eu, k_pk_row, hg1]
          have hz2 : u.2.1 (y + 1) = z (y + 1) + t := by rw [eu, (k_pk_keeps _ _ _ _ _).2, va_up_self, hz1]
          have hv3 : u.2.2.1 y < 1000000 := by rw [eu, (k_pk_keeps _ _ _ _ _).1]; exact hv2
          refine lv_iload_n hx hb dX3_halve_38 rfl (lv_at hl 0 rfl) ?_
          refine lv_aload_n hx hb dX3_halve_39 rfl (lv_at hl 1 rfl) ?_
          refine m_alen (t0 := 0) Z C hM rfl (hC.at ((skS_7 (by omega)).trans (by rw [hg2]))) dX3_halve_40 ?_
          refine W.eq (g2 := F0 mt 41 ls [.int (nI 8), .int (nI (0 + 2 * t))]) rfl ?_
          refine lv_icmp_ge (tgt := 60) hx hb dX3_halve_41 (by decide) (fun c_5 => ?_) (fun c_5 => ?_)
          · -- 41 t
            have c_5 : 8 ≤ 0 + 2 * t := (nI_leI (by decide) (by omega)).mp c_5
            obtain rfl : t = 4 := by omega
            refine lv_aload_n hx hb dX3_halve_60 rfl (lv_at hl 2 rfl) ?_
            refine m_get Z C hM (hC.at (skS_5)) K_X3 1 (by decide) fl_X3_16 (v := .ref (A (cd (k + 1) 8 0))) rfl dX3_halve_61 ?_
            refine lv_iload_n hx hb dX3_halve_64 rfl (lv_at hl 3 rfl) ?_
            refine lv_iconst (v := nI 0) hx hb dX3_halve_65 (by decide) ?_
            refine m_iast Z C hM hS (hC.at (skS_8)) (x := nI 0) y rfl (by omega) (by decide) dX3_halve_66 (fun H locs hM hS => ?_)
            rw [nI_up] at hM
            have hC9 := hC.put (skS_8) (eI G 5 (fun k => nI ((va_up u.2.1 y 0) k)))
            have hF9 := hF.put hC (skS_8) (cd_r (by decide)) (eI G 5 (fun k => nI ((va_up u.2.1 y 0) k)))
            rw [skS_p8] at hC9
            obtain ⟨h, hM, hC, hF⟩ : ∃ h9, MW G s0.heap.size h9 H ∧ CW h9 A tg (skS G A sg k u.1 (va_up u.2.1 y 0) u.2.2.1 u.2.2.2) ∧ cFr h0 tg h9 tg := ⟨_, hM, hC9, hF9⟩
            refine lv_aload_n hx hb dX3_halve_67 rfl (lv_at hl 2 rfl) ?_
            refine m_get Z C hM (hC.at (skS_5)) K_X3 2 (by decide) fl_X3_20 (v := .ref (A (cd (k + 1) 9 0))) rfl dX3_halve_68 ?_
            refine lv_iload_n hx hb dX3_halve_71 rfl (lv_at hl 3 rfl) ?_
            refine lv_dup2_11 hx hb dX3_halve_72 rfl rfl ?_
            refine m_iald Z C hM (f := fun k => nI (u.2.2.1 k)) (hC.at (skS_9)) y rfl (by omega) (by decide) dX3_halve_73 ?_
            refine lv_iconst (v := nI 1) hx hb dX3_halve_74 (by decide) ?_
            refine n_iadd hx hb dX3_halve_75 ?_
            refine m_iast Z C hM hS (hC.at (skS_9)) (x := nI (u.2.2.1 y + 1)) y rfl (by omega) (by decide) dX3_halve_76 (fun H locs hM hS => ?_)
            rw [nI_up] at hM
            have hC9 := hC.put (skS_9) (eI G 5 (fun k => nI ((va_up u.2.2.1 y (u.2.2.1 y + 1)) k)))
            have hF9 := hF.put hC (skS_9) (cd_r (by decide)) (eI G 5 (fun k => nI ((va_up u.2.2.1 y (u.2.2.1 y + 1)) k)))
            rw [skS_p9] at hC9
            obtain ⟨h, hM, hC, hF⟩ : ∃ h9, MW G s0.heap.size h9 H ∧ CW h9 A tg (skS G A sg k u.1 (va_up u.2.1 y 0) (va_up u.2.2.1 y (u.2.2.1 y + 1)) u.2.2.2) ∧ cFr h0 tg h9 tg := ⟨_, hM, hC9, hF9⟩
            refine lv_aload_n hx hb dX3_halve_77 rfl (lv_at hl 2 rfl) ?_
            refine lv_dup hx hb dX3_halve_78 rfl ?_
            refine m_get Z C hM (hC.at (skS_5)) K_X3 3 (by decide) fl_X3_23 (v := .int (nI u.2.2.2)) rfl dX3_halve_79 ?_
            refine lv_iconst (v := nI 1) hx hb dX3_halve_82 (by decide) ?_
            refine lv_iload_n hx hb dX3_halve_83 rfl (lv_at hl 3 rfl) ?_
            refine n_ishl1 hx hb (by omega) dX3_halve_84 ?_
            refine n_iadd hx hb dX3_halve_85 ?_
            refine m_put Z C hM hS (hC.at (skS_5)) K_X3 3 (by decide) fl_X3_23 (v := .int (nI (u.2.2.2 + 2 ^ y))) rfl rfl rfl (fs' := [.ref (A (cd (k + 1) 6 0)), .ref (A (cd (k + 1) 8 0)), .ref (A (cd (k + 1) 9 0)), .int (nI (u.2.2.2 + 2 ^ y))]) rfl (Nat.le_of_ble_eq_true rfl) dX3_halve_86 (fun H locs hM hS => ?_)
            have hC9 := hC.put (skS_5) (eO 3 [.ref (A (cd (k + 1) 6 0)), .ref (A (cd (k + 1) 8 0)), .ref (A (cd (k + 1) 9 0)), .int (nI (u.2.2.2 + 2 ^ y))])
            have hF9 := hF.put hC (skS_5) (cd_r (by decide)) (eO 3 [.ref (A (cd (k + 1) 6 0)), .ref (A (cd (k + 1) 8 0)), .ref (A (cd (k + 1) 9 0)), .int (nI (u.2.2.2 + 2 ^ y))])
            rw [skS_p5] at hC9
            obtain ⟨h, hM, hC, hF⟩ : ∃ h9, MW G s0.heap.size h9 H ∧ CW h9 A tg (skS G A sg k u.1 (va_up u.2.1 y 0) (va_up u.2.2.1 y (u.2.2.1 y + 1)) (u.2.2.2 + 2 ^ y)) ∧ cFr h0 tg h9 tg := ⟨_, hM, hC9, hF9⟩
            have e9 : k_hs (F, z, v, d) y = k_h2 u y := by unfold k_hs; rw [if_neg (show ¬ v y % 2 = 0 by rw [← hv1]; exact c_3), ← eu1, ← eu]
            exact m_vret C hM hS (Nat.le_of_ble_eq_true rfl) (Nat.le_of_ble_eq_true rfl) dX3_halve_89 ⟨rfl, (by rw [e9]; exact hC), hF⟩
          · -- 41 f
            have c_5 : ¬ 8 ≤ 0 + 2 * t := fun q => c_5 ((nI_leI (by decide) (by omega)).mpr q)
            refine lv_aload_n hx hb dX3_halve_44 rfl (lv_at hl 2 rfl) ?_
            refine lv_iload_n hx hb dX3_halve_45 rfl (lv_at hl 3 rfl) ?_
            refine lv_iconst (v := nI 1) hx hb dX3_halve_46 (by decide) ?_
            refine n_iadd hx hb dX3_halve_47 ?_
            refine lv_aload_n hx hb dX3_halve_48 rfl (lv_at hl 1 rfl) ?_
            refine lv_iload_n hx hb dX3_halve_49 rfl (lv_at hl 0 rfl) ?_
            refine m_iald Z C hM (f := z_so (F y) 0 7) (hC.at ((skS_7 (by omega)).trans (by rw [hg2]))) (0 + 2 * t) rfl (by omega) (by decide) dX3_halve_50 ?_
            refine m_callV Z C hM hS (As := [.int (nI (y + 1)), .int ((z_so (F y) 0 7) (0 + 2 * t))]) (rest := []) (c_X3_put Z h A tg sg k u.1 u.2.1 u.2.2.1 u.2.2.2 hC (y + 1) ((z_so (F y) 0 7) (0 + 2 * t)) (by omega) (by rw [hz2]; omega)) yi_X3_put ml_X3_27 (hC.at (skS_5)) rfl ⟨Nat.le_of_ble_eq_true rfl, Nat.le_of_ble_eq_true rfl⟩ (Nat.le_of_ble_eq_true rfl) hl.1 rfl rfl dX3_halve_51 ⟨Nat.le_of_ble_eq_true rfl, Nat.le_of_ble_eq_true rfl⟩ (fun v h9 H locs hv hM hS => ?_)
            obtain ⟨hv, hC9, hF8⟩ := hv
            subst hv
            have hF := hF.trans hF8
            obtain ⟨h, hM, hC, hF⟩ : ∃ h8, MW G s0.heap.size h8 H ∧ CW h8 A tg (skS G A sg k (va_up u.1 (y + 1) (va_up (u.1 (y + 1)) (u.2.1 (y + 1)) ((z_so (F y) 0 7) (0 + 2 * t)))) (va_up u.2.1 (y + 1) (u.2.1 (y + 1) + 1)) u.2.2.1 u.2.2.2) ∧ cFr h0 tg h8 tg := ⟨_, hM, hC9, hF⟩
            refine W.eq (g2 := F0 mt 54 ls []) rfl ?_
            refine lv_iinc (v := nI (0 + 2 * t + 2)) (lv' := [(3, .int (nI (0 + 2 * t + 2))), (2, .ref (A (cd (k + 1) 7 y))), (0, .ref (A (cd (k + 1) 5 0))), (1, .int (nI y))]) hx hb dX3_halve_54 hl (k := 0) rfl (nI_add _ _) (by decide) rfl (fun ls hl => ?_)
            refine lv_goto (tgt := 38) hx hb dX3_halve_57 (by decide) ?_
            have hC8 : CW h A tg (skS G A sg k ((k_pk u1 y 0 (z_so (F y) 0 7) (t + 1)).1) ((k_pk u1 y 0 (z_so (F y) 0 7) (t + 1)).2.1) ((k_pk u1 y 0 (z_so (F y) 0 7) (t + 1)).2.2.1) ((k_pk u1 y 0 (z_so (F y) 0 7) (t + 1)).2.2.2)) := by rw [eu] at hC; exact hC
            exact ih3 h (t + 1) (by omega) (by omega) hC8 hF H locs hM hS ls (lv_sub hl [0, 1, 2, 3] rfl)
      exact lp_4 5 h 0 (by omega) (by omega) hC hF H locs hM hS ls (lv_sub hl [0, 1, 2, 3] rfl)
    · -- 29 f
      have c_3 : (u1.2.2.1 y) % 2 = 0 := (nI_eq (by omega) (by decide)).mp c_3
      refine lv_iconst (v := nI 1) hx hb dX3_halve_32 (by decide) ?_
      refine lv_goto (tgt := 37) hx hb dX3_halve_33 (by decide) ?_
      refine lv_istore_n (lv' := [(3, .int (nI 1)), (2, .ref (A (cd (k + 1) 7 y))), (0, .ref (A (cd (k + 1) 5 0))), (1, .int (nI y))]) hx hb dX3_halve_37 rfl hl (by decide) rfl (fun ls hl => ?_)
      have lp_6 : ∀ (fu3 : Nat) (h : Hp) (t : Nat), 4 < t + fu3 → t ≤ 4 → CW h A tg (skS G A sg k ((k_pk u1 y 1 (z_so (F y) 0 7) t).1) ((k_pk u1 y 1 (z_so (F y) 0 7) t).2.1) ((k_pk u1 y 1 (z_so (F y) 0 7) t).2.2.1) ((k_pk u1 y 1 (z_so (F y) 0 7) t).2.2.2)) → cFr h0 tg h tg → ∀ (H : Heap) (locs : List Loc), MW G s0.heap.size h H → va_S (fun q => s0.heap.size ≤ q) s.heap H locs → ∀ ls : Array Slot, lv_has ls 4 [(3, .int (nI (1 + 2 * t))), (2, .ref (A (cd (k + 1) 7 y))), (0, .ref (A (cd (k + 1) 5 0))), (1, .int (nI y))] → W p l e (mRm 1 23 0 0) s mt ([.ref (A (cd (k + 1) 5 0)), .int (nI y)] : List Value).toArray below meth c H locs 0 0 (MQ below (mQc G s0 (fun v9 h9 => (v9 = none ∧ CW h9 A tg (skS G A sg k ((k_hs (F, z, v, d) y).1) ((k_hs (F, z, v, d) y).2.1) ((k_hs (F, z, v, d) y).2.2.1) ((k_hs (F, z, v, d) y).2.2.2)) ∧ cFr h0 tg h9 tg))) ([.ref (A (cd (k + 1) 5 0)), .int (nI y)] : List Value).toArray s 0 0 (fun q => s0.heap.size ≤ q)) (F0 mt 38 ls []) := by
        intro fu3
        induction fu3 with
        | zero => intro h t hfu _ _ _; exact absurd hfu (by omega)
        | succ fu3 ih3 =>
          intro h t hfu ht4 hC hF H locs hM hS ls hl
          obtain ⟨u, eu⟩ : ∃ u, u = k_pk u1 y 1 (z_so (F y) 0 7) t := ⟨_, rfl⟩
          rw [← eu] at hC
          have hg2 : u.1 y = (z_so (F y) 0 7) := by rw [eu, k_pk_row, hg1]
          have hz2 : u.2.1 (y + 1) = z (y + 1) + t := by rw [eu, (k_pk_keeps _ _ _ _ _).2, va_up_self, hz1]
          have hv3 : u.2.2.1 y < 1000000 := by rw [eu, (k_pk_keeps _ _ _ _ _).1]; exact hv2
          refine lv_iload_n hx hb dX3_halve_38 rfl (lv_at hl 0 rfl) ?_
          refine lv_aload_n hx hb dX3_halve_39 rfl (lv_at hl 1 rfl) ?_
          refine m_alen (t0 := 0) Z C hM rfl (hC.at ((skS_7 (by omega)).trans (by rw [hg2]))) dX3_halve_40 ?_
          refine W.eq (g2 := F0 mt 41 ls [.int (nI 8), .int (nI (1 + 2 * t))]) rfl ?_
          refine lv_icmp_ge (tgt := 60) hx hb dX3_halve_41 (by decide) (fun c_7 => ?_) (fun c_7 => ?_)
          · -- 41 t
            have c_7 : 8 ≤ 1 + 2 * t := (nI_leI (by decide) (by omega)).mp c_7
            obtain rfl : t = 4 := by omega
            refine lv_aload_n hx hb dX3_halve_60 rfl (lv_at hl 2 rfl) ?_
            refine m_get Z C hM (hC.at (skS_5)) K_X3 1 (by decide) fl_X3_16 (v := .ref (A (cd (k + 1) 8 0))) rfl dX3_halve_61 ?_
            refine lv_iload_n hx hb dX3_halve_64 rfl (lv_at hl 3 rfl) ?_
            refine lv_iconst (v := nI 0) hx hb dX3_halve_65 (by decide) ?_
            refine m_iast Z C hM hS (hC.at (skS_8)) (x := nI 0) y rfl (by omega) (by decide) dX3_halve_66 (fun H locs hM hS => ?_)
            rw [nI_up] at hM
            have hC9 := hC.put (skS_8) (eI G 5 (fun k => nI ((va_up u.2.1 y 0) k)))
            have hF9 := hF.put hC (skS_8) (cd_r (by decide)) (eI G 5 (fun k => nI ((va_up u.2.1 y 0) k)))
            rw [skS_p8] at hC9
            obtain ⟨h, hM, hC, hF⟩ : ∃ h9, MW G s0.heap.size h9 H ∧ CW h9 A tg (skS G A sg k u.1 (va_up u.2.1 y 0) u.2.2.1 u.2.2.2) ∧ cFr h0 tg h9 tg := ⟨_, hM, hC9, hF9⟩
            refine lv_aload_n hx hb dX3_halve_67 rfl (lv_at hl 2 rfl) ?_
            refine m_get Z C hM (hC.at (skS_5)) K_X3 2 (by decide) fl_X3_20 (v := .ref (A (cd (k + 1) 9 0))) rfl dX3_halve_68 ?_
            refine lv_iload_n hx hb dX3_halve_71 rfl (lv_at hl 3 rfl) ?_
            refine lv_dup2_11 hx hb dX3_halve_72 rfl rfl ?_
            refine m_iald Z C hM (f := fun k => nI (u.2.2.1 k)) (hC.at (skS_9)) y rfl (by omega) (by decide) dX3_halve_73 ?_
            refine lv_iconst (v := nI 1) hx hb dX3_halve_74 (by decide) ?_
            refine n_iadd hx hb dX3_halve_75 ?_
            refine m_iast Z C hM hS (hC.at (skS_9)) (x := nI (u.2.2.1 y + 1)) y rfl (by omega) (by decide) dX3_halve_76 (fun H locs hM hS => ?_)
            rw [nI_up] at hM
            have hC9 := hC.put (skS_9) (eI G 5 (fun k => nI ((va_up u.2.2.1 y (u.2.2.1 y + 1)) k)))
            have hF9 := hF.put hC (skS_9) (cd_r (by decide)) (eI G 5 (fun k => nI ((va_up u.2.2.1 y (u.2.2.1 y + 1)) k)))
            rw [skS_p9] at hC9
            obtain ⟨h, hM, hC, hF⟩ : ∃ h9, MW G s0.heap.size h9 H ∧ CW h9 A tg (skS G A sg k u.1 (va_up u.2.1 y 0) (va_up u.2.2.1 y (u.2.2.1 y + 1)) u.2.2.2) ∧ cFr h0 tg h9 tg := ⟨_, hM, hC9, hF9⟩
            refine lv_aload_n hx hb dX3_halve_77 rfl (lv_at hl 2 rfl) ?_
            refine lv_dup hx hb dX3_halve_78 rfl ?_
            refine m_get Z C hM (hC.at (skS_5)) K_X3 3 (by decide) fl_X3_23 (v := .int (nI u.2.2.2)) rfl dX3_halve_79 ?_
            refine lv_iconst (v := nI 1) hx hb dX3_halve_82 (by decide) ?_
            refine lv_iload_n hx hb dX3_halve_83 rfl (lv_at hl 3 rfl) ?_
            refine n_ishl1 hx hb (by omega) dX3_halve_84 ?_
            refine n_iadd hx hb dX3_halve_85 ?_
            refine m_put Z C hM hS (hC.at (skS_5)) K_X3 3 (by decide) fl_X3_23 (v := .int (nI (u.2.2.2 + 2 ^ y))) rfl rfl rfl (fs' := [.ref (A (cd (k + 1) 6 0)), .ref (A (cd (k + 1) 8 0)), .ref (A (cd (k + 1) 9 0)), .int (nI (u.2.2.2 + 2 ^ y))]) rfl (Nat.le_of_ble_eq_true rfl) dX3_halve_86 (fun H locs hM hS => ?_)
            have hC9 := hC.put (skS_5) (eO 3 [.ref (A (cd (k + 1) 6 0)), .ref (A (cd (k + 1) 8 0)), .ref (A (cd (k + 1) 9 0)), .int (nI (u.2.2.2 + 2 ^ y))])
            have hF9 := hF.put hC (skS_5) (cd_r (by decide)) (eO 3 [.ref (A (cd (k + 1) 6 0)), .ref (A (cd (k + 1) 8 0)), .ref (A (cd (k + 1) 9 0)), .int (nI (u.2.2.2 + 2 ^ y))])
            rw [skS_p5] at hC9
            obtain ⟨h, hM, hC, hF⟩ : ∃ h9, MW G s0.heap.size h9 H ∧ CW h9 A tg (skS G A sg k u.1 (va_up u.2.1 y 0) (va_up u.2.2.1 y (u.2.2.1 y + 1)) (u.2.2.2 + 2 ^ y)) ∧ cFr h0 tg h9 tg := ⟨_, hM, hC9, hF9⟩
            have e9 : k_hs (F, z, v, d) y = k_h2 u y := by unfold k_hs; rw [if_pos (show v y % 2 = 0 by rw [← hv1]; exact c_3), ← eu1, ← eu]
            exact m_vret C hM hS (Nat.le_of_ble_eq_true rfl) (Nat.le_of_ble_eq_true rfl) dX3_halve_89 ⟨rfl, (by rw [e9]; exact hC), hF⟩
          · -- 41 f
            have c_7 : ¬ 8 ≤ 1 + 2 * t := fun q => c_7 ((nI_leI (by decide) (by omega)).mpr q)
            refine lv_aload_n hx hb dX3_halve_44 rfl (lv_at hl 2 rfl) ?_
            refine lv_iload_n hx hb dX3_halve_45 rfl (lv_at hl 3 rfl) ?_
            refine lv_iconst (v := nI 1) hx hb dX3_halve_46 (by decide) ?_
            refine n_iadd hx hb dX3_halve_47 ?_
            refine lv_aload_n hx hb dX3_halve_48 rfl (lv_at hl 1 rfl) ?_
            refine lv_iload_n hx hb dX3_halve_49 rfl (lv_at hl 0 rfl) ?_
            refine m_iald Z C hM (f := z_so (F y) 0 7) (hC.at ((skS_7 (by omega)).trans (by rw [hg2]))) (1 + 2 * t) rfl (by omega) (by decide) dX3_halve_50 ?_
            refine m_callV Z C hM hS (As := [.int (nI (y + 1)), .int ((z_so (F y) 0 7) (1 + 2 * t))]) (rest := []) (c_X3_put Z h A tg sg k u.1 u.2.1 u.2.2.1 u.2.2.2 hC (y + 1) ((z_so (F y) 0 7) (1 + 2 * t)) (by omega) (by rw [hz2]; omega)) yi_X3_put ml_X3_27 (hC.at (skS_5)) rfl ⟨Nat.le_of_ble_eq_true rfl, Nat.le_of_ble_eq_true rfl⟩ (Nat.le_of_ble_eq_true rfl) hl.1 rfl rfl dX3_halve_51 ⟨Nat.le_of_ble_eq_true rfl, Nat.le_of_ble_eq_true rfl⟩ (fun v h9 H locs hv hM hS => ?_)
            obtain ⟨hv, hC9, hF8⟩ := hv
            subst hv
            have hF := hF.trans hF8
            obtain ⟨h, hM, hC, hF⟩ : ∃ h8, MW G s0.heap.size h8 H ∧ CW h8 A tg (skS G A sg k (va_up u.1 (y + 1) (va_up (u.1 (y + 1)) (u.2.1 (y + 1)) ((z_so (F y) 0 7) (1 + 2 * t)))) (va_up u.2.1 (y + 1) (u.2.1 (y + 1) + 1)) u.2.2.1 u.2.2.2) ∧ cFr h0 tg h8 tg := ⟨_, hM, hC9, hF⟩
            refine W.eq (g2 := F0 mt 54 ls []) rfl ?_
            refine lv_iinc (v := nI (1 + 2 * t + 2)) (lv' := [(3, .int (nI (1 + 2 * t + 2))), (2, .ref (A (cd (k + 1) 7 y))), (0, .ref (A (cd (k + 1) 5 0))), (1, .int (nI y))]) hx hb dX3_halve_54 hl (k := 0) rfl (nI_add _ _) (by decide) rfl (fun ls hl => ?_)
            refine lv_goto (tgt := 38) hx hb dX3_halve_57 (by decide) ?_
            have hC8 : CW h A tg (skS G A sg k ((k_pk u1 y 1 (z_so (F y) 0 7) (t + 1)).1) ((k_pk u1 y 1 (z_so (F y) 0 7) (t + 1)).2.1) ((k_pk u1 y 1 (z_so (F y) 0 7) (t + 1)).2.2.1) ((k_pk u1 y 1 (z_so (F y) 0 7) (t + 1)).2.2.2)) := by rw [eu] at hC; exact hC
            exact ih3 h (t + 1) (by omega) (by omega) hC8 hF H locs hM hS ls (lv_sub hl [0, 1, 2, 3] rfl)
      exact lp_6 5 h 0 (by omega) (by omega) hC hF H locs hM hS ls (lv_sub hl [0, 1, 2, 3] rfl)
  · -- 6 f
    have c_2 : ¬ y < 4 := fun q => c_2 ((nI_ltI (by omega) (by decide)).mpr q)
    exact absurd hy c_2
