set_option maxRecDepth 100000 in
set_option maxHeartbeats 4000000 in
theorem c_X2_sketchIsWithin {l : Launch} {G : mG} {a0 : Array Value} {s0 : State} (Z : mZ l G a0 s0) (h0 : Hp) (A : Cd → Nat) (tg : Nat → Cd) (sg : Cd → Option va_E) (k : Nat) (F : Nat → Nat → Int32) (z v : Nat → Nat) (d : Nat) (hC : CW h0 A tg (skS G A sg k F z v d)) (d9 : Nat) (nm : Int32) (ho : Int32) (n : Nat) (av : Value) (S : Nat → Int32) (hs0 : sg (cd (k + 1) 0 0) = some (eO 2 [.int nm, .int ho, .ref (A (cd (k + 1) 1 0)), .ref (A (cd (k + 1) 2 0)), .ref (A (cd (k + 1) 3 0)), .ref (A (cd (k + 1) 4 0)), .ref (A (cd (k + 1) 5 0)), .int (nI n), av])) (hso : sg (cd (k + 1) 3 0) = some (eI G 120 (S))) (hn : n ≤ 120) (hd : d9 ≤ 100) (hz : ∀ i : Nat, i < 5 → z i ≤ 8) (hbd : d < 1000000) : mM l G s0 yX2_sketchIsWithin cX2_sketchIsWithin 4 (some .boolean) 2 50 0 0 h0 [.ref (A (cd (k + 1) 0 0)), .int (nI d9)] (fun v9 h9 => (v9 = some (.int (b2 (nI ((d9 * n + 99) / 100) - nI d ≤ nI (z_fr (fun i => ¬ S i ≤ k_lo F z ((d9 * n + 99) / 100) 5) n) ∧ z_fr (fun i => ¬ S i ≤ k_lo F z ((d9 * n + 99) / 100) 5 - nI 1) n < (d9 * n + 99) / 100 + d))) ∧ h9 = h0)) := by
  refine mM_in RX2 "sketchIsWithin" rfl rfl (by decide +kernel) (Nat.le_of_ble_eq_true rfl) ?_
  intro p e s mt below meth c H locs C hM hS ls hl
  have hx := C.1
  have hb := C.2.1
  have hown := C.2.2.2.1
  have hE := C.2.2.2.2.2.2.1
  have hl : lv_has ls 4 [(0, .ref (A (cd (k + 1) 0 0))), (1, .int (nI d9))] := hl
  obtain ⟨h, hh⟩ : ∃ z, z = h0 := ⟨_, rfl⟩
  rw [← hh] at hM hC
  have hmul : d9 * n ≤ 100 * 120 := Nat.mul_le_mul hd hn
  refine lv_aload_n hx hb dX2_sketchIsWithin_0 rfl (lv_at hl 0 rfl) ?_
  refine lv_iload_n hx hb dX2_sketchIsWithin_1 rfl (lv_at hl 1 rfl) ?_
  refine m_callV Z C hM hS (As := [.int (nI d9)]) (rest := []) (c_X2_targetOf Z h A tg (skS G A sg k F z v d) hC k d9 nm ho n av ((skS_ne (by simp [cd])).trans (hs0)) (show n ≤ 120 by omega) (show d9 ≤ 100 by omega)) yi_X2_targetOf ml_X2_93 (hC.at ((skS_ne (by simp [cd])).trans (hs0))) rfl ⟨Nat.le_of_ble_eq_true rfl, Nat.le_of_ble_eq_true rfl⟩ (Nat.le_of_ble_eq_true rfl) hl.1 rfl rfl dX2_sketchIsWithin_2 ⟨Nat.le_of_ble_eq_true rfl, Nat.le_of_ble_eq_true rfl⟩ (fun v h9 H locs hv hM hS => ?_)
  obtain ⟨hv, hh9⟩ := hv
  subst hv
  rw [hh9] at hM
  refine W.eq (g2 := F0 mt 5 ls [.int (nI ((d9 * n + 99) / 100))]) rfl ?_
  refine lv_istore_n (lv' := [(2, .int (nI ((d9 * n + 99) / 100))), (0, .ref (A (cd (k + 1) 0 0))), (1, .int (nI d9))]) hx hb dX2_sketchIsWithin_5 rfl hl (by decide) rfl (fun ls hl => ?_)
  refine lv_aload_n hx hb dX2_sketchIsWithin_6 rfl (lv_at hl 1 rfl) ?_
  refine m_get Z C hM (hC.at ((skS_ne (by simp [cd])).trans (hs0))) K_X2 6 (by decide) fl_X2_38 (v := .ref (A (cd (k + 1) 5 0))) rfl dX2_sketchIsWithin_7 ?_
  refine lv_iload_n hx hb dX2_sketchIsWithin_10 rfl (lv_at hl 0 rfl) ?_
  refine m_callVN Z C hM hS (As := [.int (nI ((d9 * n + 99) / 100))]) (rest := []) (c_X3_leastReaching Z h A tg sg k F z v d hC ((d9 * n + 99) / 100) hz (by omega)) yi_X3_leastReaching mn_X2_97 (hC.at (skS_5)) rfl ⟨Nat.le_of_ble_eq_true rfl, Nat.le_of_ble_eq_true rfl⟩ (Nat.le_of_ble_eq_true rfl) hl.1 rfl rfl dX2_sketchIsWithin_11 ⟨Nat.le_of_ble_eq_true rfl, Nat.le_of_ble_eq_true rfl⟩ (fun v h9 H locs hv hM hS => ?_)
  obtain ⟨hv, hh9⟩ := hv
  subst hv
  rw [hh9] at hM
  refine W.eq (g2 := F0 mt 14 ls [.int (k_lo F z ((d9 * n + 99) / 100) 5)]) rfl ?_
  refine lv_istore_n (lv' := [(3, .int (k_lo F z ((d9 * n + 99) / 100) 5)), (2, .int (nI ((d9 * n + 99) / 100))), (0, .ref (A (cd (k + 1) 0 0))), (1, .int (nI d9))]) hx hb dX2_sketchIsWithin_14 rfl hl (by decide) rfl (fun ls hl => ?_)
  refine lv_aload_n hx hb dX2_sketchIsWithin_15 rfl (lv_at hl 2 rfl) ?_
  refine lv_iload_n hx hb dX2_sketchIsWithin_16 rfl (lv_at hl 0 rfl) ?_
  refine m_callV Z C hM hS (As := [.int (k_lo F z ((d9 * n + 99) / 100) 5)]) (rest := []) (c_X2_samplesUpTo Z h A tg (skS G A sg k F z v d) hC k (k_lo F z ((d9 * n + 99) / 100) 5) nm ho n av S ((skS_ne (by simp [cd])).trans (hs0)) ((skS_ne (by simp [cd])).trans (hso)) (show n ≤ 120 by omega)) yi_X2_samplesUpTo ml_X2_100 (hC.at ((skS_ne (by simp [cd])).trans (hs0))) rfl ⟨Nat.le_of_ble_eq_true rfl, Nat.le_of_ble_eq_true rfl⟩ (Nat.le_of_ble_eq_true rfl) hl.1 rfl rfl dX2_sketchIsWithin_17 ⟨Nat.le_of_ble_eq_true rfl, Nat.le_of_ble_eq_true rfl⟩ (fun v h9 H locs hv hM hS => ?_)
  obtain ⟨r_1, f_2, f_3, f_4, hv, hh9⟩ := hv
  subst hv
  rw [hh9] at hM
  refine W.eq (g2 := F0 mt 20 ls [.int (nI r_1)]) rfl ?_
  have hp1 : z_fr (fun i => ¬ S i ≤ k_lo F z ((d9 * n + 99) / 100) 5) n = r_1 := by rcases Nat.lt_or_ge r_1 n with q | q; exact z_fr_at (f_4 q) (fun j hj => not_not_intro (f_3 j hj)) n q; exact (z_fr_none n (fun j hj => not_not_intro (f_3 j (by omega)))).trans (by omega)
  refine lv_iload_n hx hb dX2_sketchIsWithin_20 rfl (lv_at hl 1 rfl) ?_
  refine lv_aload_n hx hb dX2_sketchIsWithin_21 rfl (lv_at hl 2 rfl) ?_
  refine m_get Z C hM (hC.at ((skS_ne (by simp [cd])).trans (hs0))) K_X2 6 (by decide) fl_X2_38 (v := .ref (A (cd (k + 1) 5 0))) rfl dX2_sketchIsWithin_22 ?_
  refine m_getN Z C hM (hC.at (skS_5)) K_X3 3 (by decide) fn_X2_103 (v := .int (nI d)) rfl dX2_sketchIsWithin_25 ?_
  refine lv_isub hx hb dX2_sketchIsWithin_28 ?_
  refine lv_icmp_lt (tgt := 55) hx hb dX2_sketchIsWithin_29 (by decide) (fun c_5 => ?_) (fun c_5 => ?_)
  · -- 29 t
    refine lv_iconst (v := nI 0) hx hb dX2_sketchIsWithin_55 (by decide) ?_
    exact m_zret C hM hS (Nat.le_of_ble_eq_true rfl) (Nat.le_of_ble_eq_true rfl) rfl dX2_sketchIsWithin_56 ⟨by rw [b2_f (fun q => i_ltn c_5 (by rw [← hp1]; exact q.1))], hh⟩
  · -- 29 f
    refine lv_aload_n hx hb dX2_sketchIsWithin_32 rfl (lv_at hl 2 rfl) ?_
    refine lv_iload_n hx hb dX2_sketchIsWithin_33 rfl (lv_at hl 0 rfl) ?_
    refine lv_iconst (v := nI 1) hx hb dX2_sketchIsWithin_34 (by decide) ?_
    refine lv_isub hx hb dX2_sketchIsWithin_35 ?_
    refine m_callV Z C hM hS (As := [.int ((k_lo F z ((d9 * n + 99) / 100) 5) - nI 1)]) (rest := []) (c_X2_samplesUpTo Z h A tg (skS G A sg k F z v d) hC k ((k_lo F z ((d9 * n + 99) / 100) 5) - nI 1) nm ho n av S ((skS_ne (by simp [cd])).trans (hs0)) ((skS_ne (by simp [cd])).trans (hso)) (show n ≤ 120 by omega)) yi_X2_samplesUpTo ml_X2_100 (hC.at ((skS_ne (by simp [cd])).trans (hs0))) rfl ⟨Nat.le_of_ble_eq_true rfl, Nat.le_of_ble_eq_true rfl⟩ (Nat.le_of_ble_eq_true rfl) hl.1 rfl rfl dX2_sketchIsWithin_36 ⟨Nat.le_of_ble_eq_true rfl, Nat.le_of_ble_eq_true rfl⟩ (fun v h9 H locs hv hM hS => ?_)
    obtain ⟨r_6, f_7, f_8, f_9, hv, hh9⟩ := hv
    subst hv
    rw [hh9] at hM
    refine W.eq (g2 := F0 mt 39 ls [.int (nI r_6)]) rfl ?_
    have hp2 : z_fr (fun i => ¬ S i ≤ k_lo F z ((d9 * n + 99) / 100) 5 - nI 1) n = r_6 := by rcases Nat.lt_or_ge r_6 n with q | q; exact z_fr_at (f_9 q) (fun j hj => not_not_intro (f_8 j hj)) n q; exact (z_fr_none n (fun j hj => not_not_intro (f_8 j (by omega)))).trans (by omega)
    refine lv_iload_n hx hb dX2_sketchIsWithin_39 rfl (lv_at hl 1 rfl) ?_
    refine lv_aload_n hx hb dX2_sketchIsWithin_40 rfl (lv_at hl 2 rfl) ?_
    refine m_get Z C hM (hC.at ((skS_ne (by simp [cd])).trans (hs0))) K_X2 6 (by decide) fl_X2_38 (v := .ref (A (cd (k + 1) 5 0))) rfl dX2_sketchIsWithin_41 ?_
    refine m_getN Z C hM (hC.at (skS_5)) K_X3 3 (by decide) fn_X2_103 (v := .int (nI d)) rfl dX2_sketchIsWithin_44 ?_
    refine n_iadd hx hb dX2_sketchIsWithin_47 ?_
    refine lv_icmp_ge (tgt := 55) hx hb dX2_sketchIsWithin_48 (by decide) (fun c_10 => ?_) (fun c_10 => ?_)
    · -- 48 t
      have c_10 : (d9 * n + 99) / 100 + d ≤ r_6 := (nI_leI (by omega) (by omega)).mp c_10
      refine lv_iconst (v := nI 0) hx hb dX2_sketchIsWithin_55 (by decide) ?_
      exact m_zret C hM hS (Nat.le_of_ble_eq_true rfl) (Nat.le_of_ble_eq_true rfl) rfl dX2_sketchIsWithin_56 ⟨by rw [b2_f (fun q => absurd q.2 (by rw [hp2]; omega))], hh⟩
    · -- 48 f
      have c_10 : ¬ (d9 * n + 99) / 100 + d ≤ r_6 := fun q => c_10 ((nI_leI (by omega) (by omega)).mpr q)
      refine lv_iconst (v := nI 1) hx hb dX2_sketchIsWithin_51 (by decide) ?_
      refine lv_goto (tgt := 56) hx hb dX2_sketchIsWithin_52 (by decide) ?_
      exact m_zret C hM hS (Nat.le_of_ble_eq_true rfl) (Nat.le_of_ble_eq_true rfl) rfl dX2_sketchIsWithin_56 ⟨by rw [b2_t ⟨by rw [hp1]; exact i_nlt c_5, by rw [hp2]; omega⟩], hh⟩
