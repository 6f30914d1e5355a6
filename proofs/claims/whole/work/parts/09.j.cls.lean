set_option maxRecDepth 100000 in
set_option maxHeartbeats 4000000 in
theorem c_X2_blockAtJ {l : Launch} {G : mG} {a0 : Array Value} {s0 : State} (Z : mZ l G a0 s0) (h0 : Hp) (A : Cd → Nat) (tg : Nat → Cd) (sg : Cd → Option va_E) (hC : CW h0 A tg sg) (k : Nat) (j : Nat) (nm : Int32) (ho : Int32) (n : Nat) (av : Value) (nb : Nat) (hs0 : sg (cd (k + 1) 0 0) = some (eO 2 [.int nm, .int ho, .ref (A (cd (k + 1) 1 0)), .ref (A (cd (k + 1) 2 0)), .ref (A (cd (k + 1) 3 0)), .ref (A (cd (k + 1) 4 0)), .ref (A (cd (k + 1) 5 0)), .int (nI n), av])) (hch : sg (cd (k + 1) 4 0) = some (eB G 15 (chL A k nb))) (hj : j < nb) (hnb : nb ≤ 15) : mM l G s0 yX2_blockAt cX2_blockAt 2 (some (.object "GaugeHall$Block")) 0 0 0 0 h0 [.ref (A (cd (k + 1) 0 0)), .int (nI j)] (fun v h9 => (v = some (.ref (A (cd (k + 1) 14 j))) ∧ h9 = h0)) := by
  refine mM_in RX2 "blockAt" rfl rfl (by decide +kernel) (Nat.le_of_ble_eq_true rfl) ?_
  intro p e s mt below meth c H locs C hM hS ls hl
  have hx := C.1
  have hb := C.2.1
  have hown := C.2.2.2.1
  have hE := C.2.2.2.2.2.2.1
  have hl : lv_has ls 2 [(0, .ref (A (cd (k + 1) 0 0))), (1, .int (nI j))] := hl
  obtain ⟨h, hh⟩ : ∃ z, z = h0 := ⟨_, rfl⟩
  rw [← hh] at hM hC
  refine lv_iload_n hx hb dX2_blockAt_0 rfl (lv_at hl 1 rfl) ?_
  refine lv_if_lt (tgt := 22) hx hb dX2_blockAt_1 (by decide) (fun q => absurd q (nI_pos (by omega))) (fun _ => ?_)
  refine lv_iload_n hx hb dX2_blockAt_4 rfl (lv_at hl 1 rfl) ?_
  refine lv_aload_n hx hb dX2_blockAt_5 rfl (lv_at hl 0 rfl) ?_
  refine m_get Z C hM (hC.at (hs0)) K_X2 5 (by decide) fl_X2_31 (v := .ref (A (cd (k + 1) 4 0))) rfl dX2_blockAt_6 ?_
  refine m_alen (t0 := 2) Z C hM rfl (hC.at (hch)) dX2_blockAt_9 ?_
  refine W.eq (g2 := F0 mt 10 ls [.int (nI 15), .int (nI j)]) rfl ?_
  refine lv_icmp_ge (tgt := 22) hx hb dX2_blockAt_10 (by decide) (fun c_2 => ?_) (fun c_2 => ?_)
  · -- 10 t
    have c_2 : 15 ≤ j := (nI_leI (by decide) (by omega)).mp c_2
    exact absurd hj (by omega)
  · -- 10 f
    have c_2 : ¬ 15 ≤ j := fun q => c_2 ((nI_leI (by decide) (by omega)).mpr q)
    refine lv_aload_n hx hb dX2_blockAt_13 rfl (lv_at hl 0 rfl) ?_
    refine m_get Z C hM (hC.at (hs0)) K_X2 5 (by decide) fl_X2_31 (v := .ref (A (cd (k + 1) 4 0))) rfl dX2_blockAt_14 ?_
    refine lv_iload_n hx hb dX2_blockAt_17 rfl (lv_at hl 1 rfl) ?_
    refine m_bald Z C hM (hC.at (hch)) j rfl (by omega) (by decide) (v := .ref (A (cd (k + 1) 14 j))) (chL_at (by omega)) dX2_blockAt_18 ?_
    refine lv_goto (tgt := 23) hx hb dX2_blockAt_19 (by decide) ?_
    exact m_aret C hM hS (Nat.le_of_ble_eq_true rfl) (Nat.le_of_ble_eq_true rfl) dX2_blockAt_23 ⟨rfl, hh⟩
set_option maxRecDepth 100000 in
set_option maxHeartbeats 4000000 in
theorem c_X2_blocksTellWhatCame {l : Launch} {G : mG} {a0 : Array Value} {s0 : State} (Z : mZ l G a0 s0) (h0 : Hp) (A : Cd → Nat) (tg : Nat → Cd) (sg : Cd → Option va_E) (hC : CW h0 A tg sg) (k : Nat) (nm : Int32) (ho : Int32) (n : Nat) (av : Value) (nb : Nat) (ft : Nat → Int64) (fv : Nat → Int32) (sz : Nat → Nat) (bi : Nat → Nat) (lt : Nat → Int64) (lg : Nat → Int64) (lv : Nat → Int32) (f : Nat → Nat → Int64) (g : Nat → Nat → Int32) (T : Nat → Nat) (U : Nat → Int32) (hs0 : sg (cd (k + 1) 0 0) = some (eO 2 [.int nm, .int ho, .ref (A (cd (k + 1) 1 0)), .ref (A (cd (k + 1) 2 0)), .ref (A (cd (k + 1) 3 0)), .ref (A (cd (k + 1) 4 0)), .ref (A (cd (k + 1) 5 0)), .int (nI n), av])) (hch : sg (cd (k + 1) 4 0) = some (eB G 15 (chL A k nb))) (ht0 : sg (cd (k + 1) 1 0) = some (eL G 120 (fun k => lN (T k)))) (hv0 : sg (cd (k + 1) 2 0) = some (eI G 120 (U))) (hb0 : ∀ j : Nat, j < nb → sg (cd (k + 1) 14 j) = some (eO 1 [.long (ft j), .int (fv j), .ref (A (cd (k + 1) 15 j)), .ref (A (cd (k + 1) 16 j)), .int (nI (sz j)), .int (nI (bi j)), .long (lt j), .long (lg j), .int (lv j)])) (hb1 : ∀ j : Nat, j < nb → sg (cd (k + 1) 15 j) = some (eL G 8 (f j))) (hb2 : ∀ j : Nat, j < nb → sg (cd (k + 1) 16 j) = some (eI G 8 (g j))) (hnb : nb ≤ 15) (hn : n ≤ 120) (htell : ∀ r : Nat, r < n → r / 8 < nb ∧ z_tm (f (r / 8)) (ft (r / 8)) (r % 8 + 1) = lN (T r) ∧ z_vl (g (r / 8)) (fv (r / 8)) (r % 8 + 1) = U r) : mM l G s0 yX2_blocksTellWhatCame cX2_blocksTellWhatCame 4 (some .boolean) 1 26 0 0 h0 [.ref (A (cd (k + 1) 0 0))] (fun v h9 => (v = some (.int (nI 1)) ∧ h9 = h0)) := by
  refine mM_in RX2 "blocksTellWhatCame" rfl rfl (by decide +kernel) (Nat.le_of_ble_eq_true rfl) ?_
  intro p e s mt below meth c H locs C hM hS ls hl
  have hx := C.1
  have hb := C.2.1
  have hown := C.2.2.2.1
  have hE := C.2.2.2.2.2.2.1
  have hl : lv_has ls 4 [(0, .ref (A (cd (k + 1) 0 0)))] := hl
  obtain ⟨h, hh⟩ : ∃ z, z = h0 := ⟨_, rfl⟩
  rw [← hh] at hM hC
  refine lv_iconst (v := nI 0) hx hb dX2_blocksTellWhatCame_0 (by decide) ?_
  refine lv_istore_n (lv' := [(1, .int (nI 0)), (0, .ref (A (cd (k + 1) 0 0)))]) hx hb dX2_blocksTellWhatCame_1 rfl hl (by decide) rfl (fun ls hl => ?_)
  have lp_1 : ∀ (fu : Nat) (r : Nat), n < r + fu → r ≤ n → ∀ (H : Heap) (locs : List Loc), MW G s0.heap.size h H → va_S (fun q => s0.heap.size ≤ q) s.heap H locs → ∀ ls : Array Slot, lv_has ls 4 [(1, .int (nI r)), (0, .ref (A (cd (k + 1) 0 0)))] → W p l e (mRm 1 26 0 0) s mt ([.ref (A (cd (k + 1) 0 0))] : List Value).toArray below meth c H locs 0 0 (MQ below (mQc G s0 (fun v h9 => (v = some (.int (nI 1)) ∧ h9 = h0))) ([.ref (A (cd (k + 1) 0 0))] : List Value).toArray s 0 0 (fun q => s0.heap.size ≤ q)) (F0 mt 2 ls []) := by
    intro fu
    induction fu with
    | zero => intro r hfu _; exact absurd hfu (by omega)
    | succ fu ih =>
      intro r hfu hr H locs hM hS ls hl
      refine lv_iload_n hx hb dX2_blocksTellWhatCame_2 rfl (lv_at hl 0 rfl) ?_
      refine lv_aload_n hx hb dX2_blocksTellWhatCame_3 rfl (lv_at hl 1 rfl) ?_
      refine m_get Z C hM (hC.at (hs0)) K_X2 7 (by decide) fl_X2_42 (v := .int (nI n)) rfl dX2_blocksTellWhatCame_4 ?_
      refine lv_icmp_ge (tgt := 83) hx hb dX2_blocksTellWhatCame_7 (by decide) (fun c_2 => ?_) (fun c_2 => ?_)
      · -- 7 t
        have c_2 : n ≤ r := (nI_leI (by omega) (by omega)).mp c_2
        refine lv_iconst (v := nI 1) hx hb dX2_blocksTellWhatCame_83 (by decide) ?_
        exact m_zret C hM hS (Nat.le_of_ble_eq_true rfl) (Nat.le_of_ble_eq_true rfl) rfl dX2_blocksTellWhatCame_84 ⟨rfl, hh⟩
      · -- 7 f
        have c_2 : ¬ n ≤ r := fun q => c_2 ((nI_leI (by omega) (by omega)).mpr q)
        refine lv_iload_n hx hb dX2_blocksTellWhatCame_10 rfl (lv_at hl 0 rfl) ?_
        refine lv_aload_n hx hb dX2_blocksTellWhatCame_11 rfl (lv_at hl 1 rfl) ?_
        refine m_get Z C hM (hC.at (hs0)) K_X2 2 (by decide) fl_X2_18 (v := .ref (A (cd (k + 1) 1 0))) rfl dX2_blocksTellWhatCame_12 ?_
        refine m_alen (t0 := 1) Z C hM rfl (hC.at (ht0)) dX2_blocksTellWhatCame_15 ?_
        refine W.eq (g2 := F0 mt 16 ls [.int (nI 120), .int (nI r)]) rfl ?_
        refine lv_icmp_ge (tgt := 83) hx hb dX2_blocksTellWhatCame_16 (by decide) (fun c_3 => ?_) (fun c_3 => ?_)
        · -- 16 t
          have c_3 : 120 ≤ r := (nI_leI (by decide) (by omega)).mp c_3
          refine lv_iconst (v := nI 1) hx hb dX2_blocksTellWhatCame_83 (by decide) ?_
          exact m_zret C hM hS (Nat.le_of_ble_eq_true rfl) (Nat.le_of_ble_eq_true rfl) rfl dX2_blocksTellWhatCame_84 ⟨rfl, hh⟩
        · -- 16 f
          have c_3 : ¬ 120 ≤ r := fun q => c_3 ((nI_leI (by decide) (by omega)).mpr q)
          refine lv_iload_n hx hb dX2_blocksTellWhatCame_19 rfl (lv_at hl 0 rfl) ?_
          refine lv_aload_n hx hb dX2_blocksTellWhatCame_20 rfl (lv_at hl 1 rfl) ?_
          refine m_get Z C hM (hC.at (hs0)) K_X2 3 (by decide) fl_X2_22 (v := .ref (A (cd (k + 1) 2 0))) rfl dX2_blocksTellWhatCame_21 ?_
          refine m_alen (t0 := 0) Z C hM rfl (hC.at (hv0)) dX2_blocksTellWhatCame_24 ?_
          refine W.eq (g2 := F0 mt 25 ls [.int (nI 120), .int (nI r)]) rfl ?_
          refine lv_icmp_ge (tgt := 83) hx hb dX2_blocksTellWhatCame_25 (by decide) (fun c_4 => ?_) (fun c_4 => ?_)
          · -- 25 t
            have c_4 : 120 ≤ r := (nI_leI (by decide) (by omega)).mp c_4
            refine lv_iconst (v := nI 1) hx hb dX2_blocksTellWhatCame_83 (by decide) ?_
            exact m_zret C hM hS (Nat.le_of_ble_eq_true rfl) (Nat.le_of_ble_eq_true rfl) rfl dX2_blocksTellWhatCame_84 ⟨rfl, hh⟩
          · -- 25 f
            have c_4 : ¬ 120 ≤ r := fun q => c_4 ((nI_leI (by decide) (by omega)).mpr q)
            have hrb := (htell r (by omega)).1
            refine lv_aload_n hx hb dX2_blocksTellWhatCame_28 rfl (lv_at hl 1 rfl) ?_
            refine lv_iload_n hx hb dX2_blocksTellWhatCame_29 rfl (lv_at hl 0 rfl) ?_
            refine lv_bipush (v := nI 8) hx hb dX2_blocksTellWhatCame_30 (by decide) ?_
            refine n_idiv hx hb (by omega) (by decide) (by decide) dX2_blocksTellWhatCame_32 ?_
            refine m_callV Z C hM hS (As := [.int (nI (r / 8))]) (rest := []) (c_X2_blockAtJ Z h A tg sg hC k (r / 8) nm ho n av nb (hs0) (hch) (htell r (by omega)).1 hnb) yi_X2_blockAt ml_X2_116 (hC.at (hs0)) rfl ⟨Nat.le_of_ble_eq_true rfl, Nat.le_of_ble_eq_true rfl⟩ (Nat.le_of_ble_eq_true rfl) hl.1 rfl rfl dX2_blocksTellWhatCame_33 ⟨Nat.le_of_ble_eq_true rfl, Nat.le_of_ble_eq_true rfl⟩ (fun v h9 H locs hv hM hS => ?_)
            obtain ⟨hv, hh9⟩ := hv
            subst hv
            rw [hh9] at hM
            refine W.eq (g2 := F0 mt 36 ls [.ref (A (cd (k + 1) 14 (r / 8)))]) rfl ?_
            have htl := (htell r (by omega)).2
            refine lv_astore_n (lv' := [(2, .ref (A (cd (k + 1) 14 (r / 8)))), (1, .int (nI r)), (0, .ref (A (cd (k + 1) 0 0)))]) hx hb dX2_blocksTellWhatCame_36 rfl hl (by decide) rfl (fun ls hl => ?_)
            refine lv_iload_n hx hb dX2_blocksTellWhatCame_37 rfl (lv_at hl 1 rfl) ?_
            refine lv_bipush (v := nI 8) hx hb dX2_blocksTellWhatCame_38 (by decide) ?_
            refine n_irem hx hb (by omega) (by decide) (by decide) dX2_blocksTellWhatCame_40 ?_
            refine lv_istore_n (lv' := [(3, .int (nI (r % 8))), (2, .ref (A (cd (k + 1) 14 (r / 8)))), (1, .int (nI r)), (0, .ref (A (cd (k + 1) 0 0)))]) hx hb dX2_blocksTellWhatCame_41 rfl hl (by decide) rfl (fun ls hl => ?_)
            refine lv_aload_n hx hb dX2_blocksTellWhatCame_42 rfl (lv_at hl 1 rfl) ?_
            refine lv_ifnull hx hb dX2_blocksTellWhatCame_43 ?_
            refine lv_aload_n hx hb dX2_blocksTellWhatCame_46 rfl (lv_at hl 1 rfl) ?_
            refine lv_iload_n hx hb dX2_blocksTellWhatCame_47 rfl (lv_at hl 0 rfl) ?_
            refine m_callVN Z C hM hS (As := [.int (nI (r % 8))]) (rest := []) (c_X1_timeOfSample Z h A tg sg hC k (r / 8) (r % 8) (ft ((r / 8))) (fv ((r / 8))) (sz ((r / 8))) (bi ((r / 8))) (lt ((r / 8))) (lg ((r / 8))) (lv ((r / 8))) (f ((r / 8))) (g ((r / 8))) (hb0 ((r / 8)) (by omega)) (hb1 ((r / 8)) (by omega)) (hb2 ((r / 8)) (by omega)) (Nat.mod_lt _ (by decide))) yi_X1_timeOfSample mn_X2_120 (hC.at (hb0 (r / 8) (by omega))) rfl ⟨Nat.le_of_ble_eq_true rfl, Nat.le_of_ble_eq_true rfl⟩ (Nat.le_of_ble_eq_true rfl) hl.1 rfl rfl dX2_blocksTellWhatCame_48 ⟨Nat.le_of_ble_eq_true rfl, Nat.le_of_ble_eq_true rfl⟩ (fun v h9 H locs hv hM hS => ?_)
            obtain ⟨hv, hh9⟩ := hv
            subst hv
            rw [hh9] at hM
            refine W.eq (g2 := F0 mt 51 ls [.long (z_tm (f ((r / 8))) (ft ((r / 8))) ((r % 8) + 1))]) rfl ?_
            refine lv_aload_n hx hb dX2_blocksTellWhatCame_51 rfl (lv_at hl 3 rfl) ?_
            refine m_get Z C hM (hC.at (hs0)) K_X2 2 (by decide) fl_X2_18 (v := .ref (A (cd (k + 1) 1 0))) rfl dX2_blocksTellWhatCame_52 ?_
            refine lv_iload_n hx hb dX2_blocksTellWhatCame_55 rfl (lv_at hl 2 rfl) ?_
            refine m_lald Z C hM (f := fun k => lN (T k)) (hC.at (ht0)) r rfl (by omega) (by decide) dX2_blocksTellWhatCame_56 ?_
            refine W.lcmp hx hb dX2_blocksTellWhatCame_57 ?_
            refine n_lc_ne (tgt := 75) hx hb dX2_blocksTellWhatCame_58 (by decide) (fun c_6 => ?_) (fun c_6 => ?_)
            · -- 58 t
              exact absurd htl.1 c_6
            · -- 58 f
              refine lv_aload_n hx hb dX2_blocksTellWhatCame_61 rfl (lv_at hl 1 rfl) ?_
              refine lv_iload_n hx hb dX2_blocksTellWhatCame_62 rfl (lv_at hl 0 rfl) ?_
              refine m_callVN Z C hM hS (As := [.int (nI (r % 8))]) (rest := []) (c_X1_valueOfSample Z h A tg sg hC k (r / 8) (r % 8) (ft ((r / 8))) (fv ((r / 8))) (sz ((r / 8))) (bi ((r / 8))) (lt ((r / 8))) (lg ((r / 8))) (lv ((r / 8))) (f ((r / 8))) (g ((r / 8))) (hb0 ((r / 8)) (by omega)) (hb1 ((r / 8)) (by omega)) (hb2 ((r / 8)) (by omega)) (Nat.mod_lt _ (by decide))) yi_X1_valueOfSample mn_X2_124 (hC.at (hb0 (r / 8) (by omega))) rfl ⟨Nat.le_of_ble_eq_true rfl, Nat.le_of_ble_eq_true rfl⟩ (Nat.le_of_ble_eq_true rfl) hl.1 rfl rfl dX2_blocksTellWhatCame_63 ⟨Nat.le_of_ble_eq_true rfl, Nat.le_of_ble_eq_true rfl⟩ (fun v h9 H locs hv hM hS => ?_)
              obtain ⟨hv, hh9⟩ := hv
              subst hv
              rw [hh9] at hM
              refine W.eq (g2 := F0 mt 66 ls [.int (z_vl (g ((r / 8))) (fv ((r / 8))) ((r % 8) + 1))]) rfl ?_
              refine lv_aload_n hx hb dX2_blocksTellWhatCame_66 rfl (lv_at hl 3 rfl) ?_
              refine m_get Z C hM (hC.at (hs0)) K_X2 3 (by decide) fl_X2_22 (v := .ref (A (cd (k + 1) 2 0))) rfl dX2_blocksTellWhatCame_67 ?_
              refine lv_iload_n hx hb dX2_blocksTellWhatCame_70 rfl (lv_at hl 2 rfl) ?_
              refine m_iald Z C hM (f := U) (hC.at (hv0)) r rfl (by omega) (by decide) dX2_blocksTellWhatCame_71 ?_
              refine lv_icmp_eq (tgt := 77) hx hb dX2_blocksTellWhatCame_72 (by decide) (fun c_7 => ?_) (fun c_7 => ?_)
              · -- 72 t
                refine lv_iinc (v := nI (r + 1)) (lv' := [(1, .int (nI (r + 1))), (3, .int (nI (r % 8))), (2, .ref (A (cd (k + 1) 14 (r / 8)))), (0, .ref (A (cd (k + 1) 0 0)))]) hx hb dX2_blocksTellWhatCame_77 hl (k := 2) rfl (nI_add _ _) (by decide) rfl (fun ls hl => ?_)
                refine lv_goto (tgt := 2) hx hb dX2_blocksTellWhatCame_80 (by decide) ?_
                exact ih (r + 1) (by omega) (by omega) H locs hM hS ls (lv_sub hl [0, 3] rfl)
              · -- 72 f
                exact absurd htl.2 c_7
  exact lp_1 (n + 1) 0 (by omega) (by omega) H locs hM hS ls (lv_sub hl [0, 1] rfl)
