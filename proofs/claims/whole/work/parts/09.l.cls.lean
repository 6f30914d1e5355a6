set_option maxRecDepth 100000 in
set_option maxHeartbeats 4000000 in
theorem c_X2_holdsTogether {l : Launch} {G : mG} {a0 : Array Value} {s0 : State} (Z : mZ l G a0 s0) (h0 : Hp) (A : Cd → Nat) (tg : Nat → Cd) (sg : Cd → Option va_E) (k : Nat) (F : Nat → Nat → Int32) (z v : Nat → Nat) (d : Nat) (hC : CW h0 A tg (skS G A sg k F z v d)) (nm : Int32) (ho : Int32) (n : Nat) (av : Value) (nb : Nat) (ft : Nat → Int64) (fv : Nat → Int32) (sz : Nat → Nat) (bi : Nat → Nat) (lt : Nat → Int64) (lg : Nat → Int64) (lv : Nat → Int32) (f : Nat → Nat → Int64) (g : Nat → Nat → Int32) (T : Nat → Nat) (U : Nat → Int32) (S : Nat → Int32) (hs0 : sg (cd (k + 1) 0 0) = some (eO 2 [.int nm, .int ho, .ref (A (cd (k + 1) 1 0)), .ref (A (cd (k + 1) 2 0)), .ref (A (cd (k + 1) 3 0)), .ref (A (cd (k + 1) 4 0)), .ref (A (cd (k + 1) 5 0)), .int (nI n), av])) (hch : sg (cd (k + 1) 4 0) = some (eB G 15 (chL A k nb))) (ht0 : sg (cd (k + 1) 1 0) = some (eL G 120 (fun k => lN (T k)))) (hv0 : sg (cd (k + 1) 2 0) = some (eI G 120 (U))) (hso : sg (cd (k + 1) 3 0) = some (eI G 120 (S))) (hb0 : ∀ j : Nat, j < nb → sg (cd (k + 1) 14 j) = some (eO 1 [.long (ft j), .int (fv j), .ref (A (cd (k + 1) 15 j)), .ref (A (cd (k + 1) 16 j)), .int (nI (sz j)), .int (nI (bi j)), .long (lt j), .long (lg j), .int (lv j)])) (hb1 : ∀ j : Nat, j < nb → sg (cd (k + 1) 15 j) = some (eL G 8 (f j))) (hb2 : ∀ j : Nat, j < nb → sg (cd (k + 1) 16 j) = some (eI G 8 (g j))) (hnb : nb ≤ 15) (hn : n ≤ 120) (htell : ∀ r : Nat, r < n → r / 8 < nb ∧ z_tm (f (r / 8)) (ft (r / 8)) (r % 8 + 1) = lN (T r) ∧ z_vl (g (r / 8)) (fv (r / 8)) (r % 8 + 1) = U r) (hz : ∀ i : Nat, i < 5 → z i ≤ 8) (hbd : d < 1000000) (hwt : k_wt F z (nI 10000) 5 = n) (hw1 : 0 < n → nI ((10 * n + 99) / 100) - nI d ≤ nI (z_fr (fun i => ¬ S i ≤ k_lo F z ((10 * n + 99) / 100) 5) n) ∧ z_fr (fun i => ¬ S i ≤ k_lo F z ((10 * n + 99) / 100) 5 - nI 1) n < (10 * n + 99) / 100 + d) (hw5 : 0 < n → nI ((50 * n + 99) / 100) - nI d ≤ nI (z_fr (fun i => ¬ S i ≤ k_lo F z ((50 * n + 99) / 100) 5) n) ∧ z_fr (fun i => ¬ S i ≤ k_lo F z ((50 * n + 99) / 100) 5 - nI 1) n < (50 * n + 99) / 100 + d) (hw9 : 0 < n → nI ((90 * n + 99) / 100) - nI d ≤ nI (z_fr (fun i => ¬ S i ≤ k_lo F z ((90 * n + 99) / 100) 5) n) ∧ z_fr (fun i => ¬ S i ≤ k_lo F z ((90 * n + 99) / 100) 5 - nI 1) n < (90 * n + 99) / 100 + d) : mM l G s0 yX2_holdsTogether cX2_holdsTogether 1 (some .boolean) 3 73 0 0 h0 [.ref (A (cd (k + 1) 0 0))] (fun v9 h9 => (v9 = some (.int (nI 1)) ∧ h9 = h0)) := by
  refine mM_in RX2 "holdsTogether" rfl rfl (by decide +kernel) (Nat.le_of_ble_eq_true rfl) ?_
  intro p e s mt below meth c H locs C hM hS ls hl
  have hx := C.1
  have hb := C.2.1
  have hown := C.2.2.2.1
  have hE := C.2.2.2.2.2.2.1
  have hl : lv_has ls 1 [(0, .ref (A (cd (k + 1) 0 0)))] := hl
  obtain ⟨h, hh⟩ : ∃ z, z = h0 := ⟨_, rfl⟩
  rw [← hh] at hM hC
  refine lv_aload_n hx hb dX2_holdsTogether_0 rfl (lv_at hl 0 rfl) ?_
  refine m_callV Z C hM hS (As := []) (rest := []) (c_X2_blocksTellWhatCame Z h A tg (skS G A sg k F z v d) hC k nm ho n av nb ft fv sz bi lt lg lv f g T U ((skS_ne (by simp [cd])).trans (hs0)) ((skS_ne (by simp [cd])).trans (hch)) ((skS_ne (by simp [cd])).trans (ht0)) ((skS_ne (by simp [cd])).trans (hv0)) (fun j hj => (skS_ne (by simp [cd])).trans (hb0 j hj)) (fun j hj => (skS_ne (by simp [cd])).trans (hb1 j hj)) (fun j hj => (skS_ne (by simp [cd])).trans (hb2 j hj)) hnb hn htell) yi_X2_blocksTellWhatCame ml_X2_106 (hC.at ((skS_ne (by simp [cd])).trans (hs0))) rfl ⟨Nat.le_of_ble_eq_true rfl, Nat.le_of_ble_eq_true rfl⟩ (Nat.le_of_ble_eq_true rfl) hl.1 rfl rfl dX2_holdsTogether_1 ⟨Nat.le_of_ble_eq_true rfl, Nat.le_of_ble_eq_true rfl⟩ (fun v h9 H locs hv hM hS => ?_)
  obtain ⟨hv, hh9⟩ := hv
  subst hv
  rw [hh9] at hM
  refine W.eq (g2 := F0 mt 4 ls [.int (nI 1)]) rfl ?_
  refine lv_if_eq (tgt := 62) hx hb dX2_holdsTogether_4 (by decide) (fun q => absurd q (by decide)) (fun _ => ?_)
  refine lv_aload_n hx hb dX2_holdsTogether_7 rfl (lv_at hl 0 rfl) ?_
  refine m_get Z C hM (hC.at ((skS_ne (by simp [cd])).trans (hs0))) K_X2 6 (by decide) fl_X2_38 (v := .ref (A (cd (k + 1) 5 0))) rfl dX2_holdsTogether_8 ?_
  refine lv_sipush (v := nI 10000) hx hb dX2_holdsTogether_11 (by decide) ?_
  refine m_callVN Z C hM hS (As := [.int (nI 10000)]) (rest := []) (c_X3_weightUpTo Z h A tg sg k F z v d hC (nI 10000) hz) yi_X3_weightUpTo mn_X2_109 (hC.at (skS_5)) rfl ⟨Nat.le_of_ble_eq_true rfl, Nat.le_of_ble_eq_true rfl⟩ (Nat.le_of_ble_eq_true rfl) hl.1 rfl rfl dX2_holdsTogether_14 ⟨Nat.le_of_ble_eq_true rfl, Nat.le_of_ble_eq_true rfl⟩ (fun v h9 H locs hv hM hS => ?_)
  obtain ⟨hv, hh9⟩ := hv
  subst hv
  rw [hh9] at hM
  refine W.eq (g2 := F0 mt 17 ls [.int (nI (k_wt F z (nI 10000) 5))]) rfl ?_
  have hwl := k_wt_le hz (nI 10000) (F := F) 5 (Nat.le_refl 5)
  refine lv_aload_n hx hb dX2_holdsTogether_17 rfl (lv_at hl 0 rfl) ?_
  refine m_get Z C hM (hC.at ((skS_ne (by simp [cd])).trans (hs0))) K_X2 7 (by decide) fl_X2_42 (v := .int (nI n)) rfl dX2_holdsTogether_18 ?_
  refine lv_icmp_ne (tgt := 62) hx hb dX2_holdsTogether_21 (by decide) (fun c_2 => ?_) (fun c_2 => ?_)
  · -- 21 t
    have c_2 : ¬ k_wt F z (nI 10000) 5 = n := fun q => c_2 ((nI_eq (by omega) (by omega)).mpr q)
    exact absurd hwt c_2
  · -- 21 f
    have c_2 : k_wt F z (nI 10000) 5 = n := (nI_eq (by omega) (by omega)).mp c_2
    refine lv_aload_n hx hb dX2_holdsTogether_24 rfl (lv_at hl 0 rfl) ?_
    refine m_get Z C hM (hC.at ((skS_ne (by simp [cd])).trans (hs0))) K_X2 7 (by decide) fl_X2_42 (v := .int (nI n)) rfl dX2_holdsTogether_25 ?_
    refine lv_if_eq (tgt := 58) hx hb dX2_holdsTogether_28 (by decide) (fun c_3 => ?_) (fun c_3 => ?_)
    · -- 28 t
      have c_3 : n = 0 := (nI_eq (by omega) (by decide)).mp c_3
      refine lv_iconst (v := nI 1) hx hb dX2_holdsTogether_58 (by decide) ?_
      refine lv_goto (tgt := 63) hx hb dX2_holdsTogether_59 (by decide) ?_
      exact m_zret C hM hS (Nat.le_of_ble_eq_true rfl) (Nat.le_of_ble_eq_true rfl) rfl dX2_holdsTogether_63 ⟨rfl, hh⟩
    · -- 28 f
      have c_3 : ¬ n = 0 := fun q => c_3 ((nI_eq (by omega) (by decide)).mpr q)
      refine lv_aload_n hx hb dX2_holdsTogether_31 rfl (lv_at hl 0 rfl) ?_
      refine lv_bipush (v := nI 10) hx hb dX2_holdsTogether_32 (by decide) ?_
      refine m_callV Z C hM hS (As := [.int (nI 10)]) (rest := []) (c_X2_sketchIsWithin Z h A tg sg k F z v d hC 10 nm ho n av S (hs0) (hso) hn (by decide) hz hbd) yi_X2_sketchIsWithin ml_X2_112 (hC.at ((skS_ne (by simp [cd])).trans (hs0))) rfl ⟨Nat.le_of_ble_eq_true rfl, Nat.le_of_ble_eq_true rfl⟩ (Nat.le_of_ble_eq_true rfl) hl.1 rfl rfl dX2_holdsTogether_34 ⟨Nat.le_of_ble_eq_true rfl, Nat.le_of_ble_eq_true rfl⟩ (fun v h9 H locs hv hM hS => ?_)
      obtain ⟨hv, hh9⟩ := hv
      rcases Decidable.em (nI ((10 * n + 99) / 100) - nI d ≤ nI (z_fr (fun i => ¬ S i ≤ k_lo F z ((10 * n + 99) / 100) 5) n) ∧ z_fr (fun i => ¬ S i ≤ k_lo F z ((10 * n + 99) / 100) 5 - nI 1) n < (10 * n + 99) / 100 + d) with g_4 | g_4
      · -- of 34: True
        replace hv : v = some (.int (b2 (nI ((10 * n + 99) / 100) - nI d ≤ nI (z_fr (fun i => ¬ S i ≤ k_lo F z ((10 * n + 99) / 100) 5) n) ∧ z_fr (fun i => ¬ S i ≤ k_lo F z ((10 * n + 99) / 100) 5 - nI 1) n < (10 * n + 99) / 100 + d))) := hv
        rw [b2_t g_4] at hv
        subst hv
        rw [hh9] at hM
        refine W.eq (g2 := F0 mt 37 ls [.int (nI 1)]) rfl ?_
        refine lv_if_eq (tgt := 62) hx hb dX2_holdsTogether_37 (by decide) (fun q => absurd q (by decide)) (fun _ => ?_)
        refine lv_aload_n hx hb dX2_holdsTogether_40 rfl (lv_at hl 0 rfl) ?_
        refine lv_bipush (v := nI 50) hx hb dX2_holdsTogether_41 (by decide) ?_
        refine m_callV Z C hM hS (As := [.int (nI 50)]) (rest := []) (c_X2_sketchIsWithin Z h A tg sg k F z v d hC 50 nm ho n av S (hs0) (hso) hn (by decide) hz hbd) yi_X2_sketchIsWithin ml_X2_112 (hC.at ((skS_ne (by simp [cd])).trans (hs0))) rfl ⟨Nat.le_of_ble_eq_true rfl, Nat.le_of_ble_eq_true rfl⟩ (Nat.le_of_ble_eq_true rfl) hl.1 rfl rfl dX2_holdsTogether_43 ⟨Nat.le_of_ble_eq_true rfl, Nat.le_of_ble_eq_true rfl⟩ (fun v h9 H locs hv hM hS => ?_)
        obtain ⟨hv, hh9⟩ := hv
        rcases Decidable.em (nI ((50 * n + 99) / 100) - nI d ≤ nI (z_fr (fun i => ¬ S i ≤ k_lo F z ((50 * n + 99) / 100) 5) n) ∧ z_fr (fun i => ¬ S i ≤ k_lo F z ((50 * n + 99) / 100) 5 - nI 1) n < (50 * n + 99) / 100 + d) with g_6 | g_6
        · -- of 43: True
          replace hv : v = some (.int (b2 (nI ((50 * n + 99) / 100) - nI d ≤ nI (z_fr (fun i => ¬ S i ≤ k_lo F z ((50 * n + 99) / 100) 5) n) ∧ z_fr (fun i => ¬ S i ≤ k_lo F z ((50 * n + 99) / 100) 5 - nI 1) n < (50 * n + 99) / 100 + d))) := hv
          rw [b2_t g_6] at hv
          subst hv
          rw [hh9] at hM
          refine W.eq (g2 := F0 mt 46 ls [.int (nI 1)]) rfl ?_
          refine lv_if_eq (tgt := 62) hx hb dX2_holdsTogether_46 (by decide) (fun q => absurd q (by decide)) (fun _ => ?_)
          refine lv_aload_n hx hb dX2_holdsTogether_49 rfl (lv_at hl 0 rfl) ?_
          refine lv_bipush (v := nI 90) hx hb dX2_holdsTogether_50 (by decide) ?_
          refine m_callV Z C hM hS (As := [.int (nI 90)]) (rest := []) (c_X2_sketchIsWithin Z h A tg sg k F z v d hC 90 nm ho n av S (hs0) (hso) hn (by decide) hz hbd) yi_X2_sketchIsWithin ml_X2_112 (hC.at ((skS_ne (by simp [cd])).trans (hs0))) rfl ⟨Nat.le_of_ble_eq_true rfl, Nat.le_of_ble_eq_true rfl⟩ (Nat.le_of_ble_eq_true rfl) hl.1 rfl rfl dX2_holdsTogether_52 ⟨Nat.le_of_ble_eq_true rfl, Nat.le_of_ble_eq_true rfl⟩ (fun v h9 H locs hv hM hS => ?_)
          obtain ⟨hv, hh9⟩ := hv
          rcases Decidable.em (nI ((90 * n + 99) / 100) - nI d ≤ nI (z_fr (fun i => ¬ S i ≤ k_lo F z ((90 * n + 99) / 100) 5) n) ∧ z_fr (fun i => ¬ S i ≤ k_lo F z ((90 * n + 99) / 100) 5 - nI 1) n < (90 * n + 99) / 100 + d) with g_8 | g_8
          · -- of 52: True
            replace hv : v = some (.int (b2 (nI ((90 * n + 99) / 100) - nI d ≤ nI (z_fr (fun i => ¬ S i ≤ k_lo F z ((90 * n + 99) / 100) 5) n) ∧ z_fr (fun i => ¬ S i ≤ k_lo F z ((90 * n + 99) / 100) 5 - nI 1) n < (90 * n + 99) / 100 + d))) := hv
            rw [b2_t g_8] at hv
            subst hv
            rw [hh9] at hM
            refine W.eq (g2 := F0 mt 55 ls [.int (nI 1)]) rfl ?_
            refine lv_if_eq (tgt := 62) hx hb dX2_holdsTogether_55 (by decide) (fun q => absurd q (by decide)) (fun _ => ?_)
            refine lv_iconst (v := nI 1) hx hb dX2_holdsTogether_58 (by decide) ?_
            refine lv_goto (tgt := 63) hx hb dX2_holdsTogether_59 (by decide) ?_
            exact m_zret C hM hS (Nat.le_of_ble_eq_true rfl) (Nat.le_of_ble_eq_true rfl) rfl dX2_holdsTogether_63 ⟨rfl, hh⟩
          · -- of 52: False
            replace hv : v = some (.int (b2 (nI ((90 * n + 99) / 100) - nI d ≤ nI (z_fr (fun i => ¬ S i ≤ k_lo F z ((90 * n + 99) / 100) 5) n) ∧ z_fr (fun i => ¬ S i ≤ k_lo F z ((90 * n + 99) / 100) 5 - nI 1) n < (90 * n + 99) / 100 + d))) := hv
            rw [b2_f g_8] at hv
            subst hv
            rw [hh9] at hM
            refine W.eq (g2 := F0 mt 55 ls [.int (nI 0)]) rfl ?_
            exact absurd (hw9 (by omega)) g_8
        · -- of 43: False
          replace hv : v = some (.int (b2 (nI ((50 * n + 99) / 100) - nI d ≤ nI (z_fr (fun i => ¬ S i ≤ k_lo F z ((50 * n + 99) / 100) 5) n) ∧ z_fr (fun i => ¬ S i ≤ k_lo F z ((50 * n + 99) / 100) 5 - nI 1) n < (50 * n + 99) / 100 + d))) := hv
          rw [b2_f g_6] at hv
          subst hv
          rw [hh9] at hM
          refine W.eq (g2 := F0 mt 46 ls [.int (nI 0)]) rfl ?_
          exact absurd (hw5 (by omega)) g_6
      · -- of 34: False
        replace hv : v = some (.int (b2 (nI ((10 * n + 99) / 100) - nI d ≤ nI (z_fr (fun i => ¬ S i ≤ k_lo F z ((10 * n + 99) / 100) 5) n) ∧ z_fr (fun i => ¬ S i ≤ k_lo F z ((10 * n + 99) / 100) 5 - nI 1) n < (10 * n + 99) / 100 + d))) := hv
        rw [b2_f g_4] at hv
        subst hv
        rw [hh9] at hM
        refine W.eq (g2 := F0 mt 37 ls [.int (nI 0)]) rfl ?_
        exact absurd (hw1 (by omega)) g_4
