set_option maxRecDepth 100000 in
set_option maxHeartbeats 4000000 in
theorem c_X2_readSamples {l : Launch} {G : mG} {a0 : Array Value} {s0 : State} (Z : mZ l G a0 s0) (h0 : Hp) (A : Cd → Nat) (tg : Nat → Cd) (sg : Cd → Option va_E) (hC : CW h0 A tg sg) (k : Nat) (a : Int64) (d : Int64) (nm : Int32) (ho : Int32) (n : Nat) (av : Value) (T : Nat → Nat) (U : Nat → Int32) (fd : Nat) (tt : Int64) (gr : Int32) (hs0 : sg (cd (k + 1) 0 0) = some (eO 2 [.int nm, .int ho, .ref (A (cd (k + 1) 1 0)), .ref (A (cd (k + 1) 2 0)), .ref (A (cd (k + 1) 3 0)), .ref (A (cd (k + 1) 4 0)), .ref (A (cd (k + 1) 5 0)), .int (nI n), av])) (ht0 : sg (cd (k + 1) 1 0) = some (eL G 120 (fun k => lN (T k)))) (hv0 : sg (cd (k + 1) 2 0) = some (eI G 120 (U))) (htt : sg (cd 0 3 0) = some (eO 4 [.int (nI fd), .long tt, .int gr])) (hn : n ≤ 120) (hT : ∀ i : Nat, i < n → T i < 1073741824) : mM l G s0 yX2_readSamples cX2_readSamples 7 none 2 45 0 0 h0 [.ref (A (cd (k + 1) 0 0)), .ref (A (cd 0 3 0)), .long a, .long d] (fun v h9 => (v = none ∧ CW h9 A tg (up3 sg (cd 0 3 0) (some (eO 4 [.int (nI ((z_rs (z_s1 T a d) U (0, lN 0, -10000) n).1)), .long ((z_rs (z_s1 T a d) U (0, lN 0, -10000) n).2.1), .int ((z_rs (z_s1 T a d) U (0, lN 0, -10000) n).2.2)]))) ∧ cFr h0 tg h9 tg)) := by
  refine mM_in RX2 "readSamples" rfl rfl (by decide +kernel) (Nat.le_of_ble_eq_true rfl) ?_
  intro p e s mt below meth c H locs C hM hS ls hl
  have hx := C.1
  have hb := C.2.1
  have hown := C.2.2.2.1
  have hE := C.2.2.2.2.2.2.1
  have hl : lv_has ls 7 [(0, .ref (A (cd (k + 1) 0 0))), (1, .ref (A (cd 0 3 0))), (2, .long a), (4, .long d)] := hl
  have hF : cFr h0 tg h0 tg := cFr.rf
  obtain ⟨h, hM, hC, hF⟩ : ∃ h9, MW G s0.heap.size h9 H ∧ CW h9 A tg sg ∧ cFr h0 tg h9 tg := ⟨_, hM, hC, hF⟩
  refine lv_aload_n hx hb dX2_readSamples_0 rfl (lv_at hl 1 rfl) ?_
  refine m_callVN Z C hM hS (As := []) (rest := []) (c_X4_clear Z h A tg sg hC fd tt gr (htt)) yi_X4_clear mn_X2_77 (hC.at (htt)) rfl ⟨Nat.le_of_ble_eq_true rfl, Nat.le_of_ble_eq_true rfl⟩ (Nat.le_of_ble_eq_true rfl) hl.1 rfl rfl dX2_readSamples_1 ⟨Nat.le_of_ble_eq_true rfl, Nat.le_of_ble_eq_true rfl⟩ (fun v h9 H locs hv hM hS => ?_)
  obtain ⟨hv, hC9, hF8⟩ := hv
  subst hv
  have hF := hF.trans hF8
  obtain ⟨h, hM, hC, hF⟩ : ∃ h8, MW G s0.heap.size h8 H ∧ CW h8 A tg (up3 sg (cd 0 3 0) (some (eO 4 [.int (nI 0), .long (lN 0), .int ((-10000))]))) ∧ cFr h0 tg h8 tg := ⟨_, hM, hC9, hF⟩
  refine W.eq (g2 := F0 mt 4 ls []) rfl ?_
  refine lv_iconst (v := nI 0) hx hb dX2_readSamples_4 (by decide) ?_
  refine lv_istore (lv' := [(6, .int (nI 0)), (0, .ref (A (cd (k + 1) 0 0))), (1, .ref (A (cd 0 3 0))), (2, .long a), (4, .long d)]) hx hb dX2_readSamples_5 hl (by decide) rfl (fun ls hl => ?_)
  have lp_1 : ∀ (fu : Nat) (h : Hp) (r : Nat), n < r + fu → r ≤ n → CW h A tg (up3 sg (cd 0 3 0) (some (eO 4 [.int (nI ((z_rs (z_s1 T a d) U (0, lN 0, -10000) r).1)), .long ((z_rs (z_s1 T a d) U (0, lN 0, -10000) r).2.1), .int ((z_rs (z_s1 T a d) U (0, lN 0, -10000) r).2.2)]))) → cFr h0 tg h tg → ∀ (H : Heap) (locs : List Loc), MW G s0.heap.size h H → va_S (fun q => s0.heap.size ≤ q) s.heap H locs → ∀ ls : Array Slot, lv_has ls 7 [(6, .int (nI r)), (0, .ref (A (cd (k + 1) 0 0))), (1, .ref (A (cd 0 3 0))), (2, .long a), (4, .long d)] → W p l e (mRm 2 45 0 0) s mt ([.ref (A (cd (k + 1) 0 0)), .ref (A (cd 0 3 0)), .long a, .long d] : List Value).toArray below meth c H locs 0 0 (MQ below (mQc G s0 (fun v h9 => (v = none ∧ CW h9 A tg (up3 sg (cd 0 3 0) (some (eO 4 [.int (nI ((z_rs (z_s1 T a d) U (0, lN 0, -10000) n).1)), .long ((z_rs (z_s1 T a d) U (0, lN 0, -10000) n).2.1), .int ((z_rs (z_s1 T a d) U (0, lN 0, -10000) n).2.2)]))) ∧ cFr h0 tg h9 tg))) ([.ref (A (cd (k + 1) 0 0)), .ref (A (cd 0 3 0)), .long a, .long d] : List Value).toArray s 0 0 (fun q => s0.heap.size ≤ q)) (F0 mt 7 ls []) := by
    intro fu
    induction fu with
    | zero => intro h r hfu _ _ _; exact absurd hfu (by omega)
    | succ fu ih =>
      intro h r hfu hr hC hF H locs hM hS ls hl
      refine lv_iload hx hb dX2_readSamples_7 (lv_at hl 0 rfl) ?_
      refine lv_aload_n hx hb dX2_readSamples_9 rfl (lv_at hl 1 rfl) ?_
      refine m_get Z C hM (hC.at ((up3_ne _ _ (cd_r (by decide))).trans (hs0))) K_X2 7 (by decide) fl_X2_42 (v := .int (nI n)) rfl dX2_readSamples_10 ?_
      refine lv_icmp_ge (tgt := 78) hx hb dX2_readSamples_13 (by decide) (fun c_2 => ?_) (fun c_2 => ?_)
      · -- 13 t
        have c_2 : n ≤ r := (nI_leI (by omega) (by omega)).mp c_2
        exact m_vret C hM hS (Nat.le_of_ble_eq_true rfl) (Nat.le_of_ble_eq_true rfl) dX2_readSamples_78 ⟨rfl, (by rw [show n = r by omega]; exact hC), hF⟩
      · -- 13 f
        have c_2 : ¬ n ≤ r := fun q => c_2 ((nI_leI (by omega) (by omega)).mpr q)
        have hTr := hT r (by omega)
        refine lv_iload hx hb dX2_readSamples_16 (lv_at hl 0 rfl) ?_
        refine lv_aload_n hx hb dX2_readSamples_18 rfl (lv_at hl 1 rfl) ?_
        refine m_get Z C hM (hC.at ((up3_ne _ _ (cd_r (by decide))).trans (hs0))) K_X2 2 (by decide) fl_X2_18 (v := .ref (A (cd (k + 1) 1 0))) rfl dX2_readSamples_19 ?_
        refine m_alen (t0 := 1) Z C hM rfl (hC.at ((up3_ne _ _ (cd_r (by decide))).trans (ht0))) dX2_readSamples_22 ?_
        refine W.eq (g2 := F0 mt 23 ls [.int (nI 120), .int (nI r)]) rfl ?_
        refine lv_icmp_ge (tgt := 78) hx hb dX2_readSamples_23 (by decide) (fun c_3 => ?_) (fun c_3 => ?_)
        · -- 23 t
          have c_3 : 120 ≤ r := (nI_leI (by decide) (by omega)).mp c_3
          exact m_vret C hM hS (Nat.le_of_ble_eq_true rfl) (Nat.le_of_ble_eq_true rfl) dX2_readSamples_78 ⟨rfl, (by rw [show n = r by omega]; exact hC), hF⟩
        · -- 23 f
          have c_3 : ¬ 120 ≤ r := fun q => c_3 ((nI_leI (by decide) (by omega)).mpr q)
          refine lv_iload hx hb dX2_readSamples_26 (lv_at hl 0 rfl) ?_
          refine lv_aload_n hx hb dX2_readSamples_28 rfl (lv_at hl 1 rfl) ?_
          refine m_get Z C hM (hC.at ((up3_ne _ _ (cd_r (by decide))).trans (hs0))) K_X2 3 (by decide) fl_X2_22 (v := .ref (A (cd (k + 1) 2 0))) rfl dX2_readSamples_29 ?_
          refine m_alen (t0 := 0) Z C hM rfl (hC.at ((up3_ne _ _ (cd_r (by decide))).trans (hv0))) dX2_readSamples_32 ?_
          refine W.eq (g2 := F0 mt 33 ls [.int (nI 120), .int (nI r)]) rfl ?_
          refine lv_icmp_ge (tgt := 78) hx hb dX2_readSamples_33 (by decide) (fun c_4 => ?_) (fun c_4 => ?_)
          · -- 33 t
            have c_4 : 120 ≤ r := (nI_leI (by decide) (by omega)).mp c_4
            exact m_vret C hM hS (Nat.le_of_ble_eq_true rfl) (Nat.le_of_ble_eq_true rfl) dX2_readSamples_78 ⟨rfl, (by rw [show n = r by omega]; exact hC), hF⟩
          · -- 33 f
            have c_4 : ¬ 120 ≤ r := fun q => c_4 ((nI_leI (by decide) (by omega)).mpr q)
            refine lv_aload_n hx hb dX2_readSamples_36 rfl (lv_at hl 1 rfl) ?_
            refine m_get Z C hM (hC.at ((up3_ne _ _ (cd_r (by decide))).trans (hs0))) K_X2 2 (by decide) fl_X2_18 (v := .ref (A (cd (k + 1) 1 0))) rfl dX2_readSamples_37 ?_
            refine lv_iload hx hb dX2_readSamples_40 (lv_at hl 0 rfl) ?_
            refine m_lald Z C hM (f := fun k => lN (T k)) (hC.at ((up3_ne _ _ (cd_r (by decide))).trans (ht0))) r rfl (by omega) (by decide) dX2_readSamples_42 ?_
            refine lv_lload_n hx hb dX2_readSamples_43 rfl (lv_at hl 3 rfl) ?_
            refine W.lcmp hx hb dX2_readSamples_44 ?_
            refine n_lc_lt (tgt := 72) hx hb dX2_readSamples_45 (by decide) (fun c_5 => ?_) (fun c_5 => ?_)
            · -- 45 t
              refine lv_iinc (v := nI (r + 1)) (lv' := [(6, .int (nI (r + 1))), (0, .ref (A (cd (k + 1) 0 0))), (1, .ref (A (cd 0 3 0))), (2, .long a), (4, .long d)]) hx hb dX2_readSamples_72 hl (k := 0) rfl (nI_add _ _) (by decide) rfl (fun ls hl => ?_)
              refine lv_goto (tgt := 7) hx hb dX2_readSamples_75 (by decide) ?_
              have e9 : z_rs (z_s1 T a d) U (0, lN 0, -10000) (r + 1) = _ := z_rs_f (fun q => l_ltn c_5 q.1)
              have hC8 : CW h A tg (up3 sg (cd 0 3 0) (some (eO 4 [.int (nI ((z_rs (z_s1 T a d) U (0, lN 0, -10000) (r + 1)).1)), .long ((z_rs (z_s1 T a d) U (0, lN 0, -10000) (r + 1)).2.1), .int ((z_rs (z_s1 T a d) U (0, lN 0, -10000) (r + 1)).2.2)]))) := by rw [e9]; exact hC
              exact ih h (r + 1) (by omega) (by omega) hC8 hF H locs hM hS ls (lv_sub hl [0, 1, 2, 3, 4] rfl)
            · -- 45 f
              refine lv_aload_n hx hb dX2_readSamples_48 rfl (lv_at hl 1 rfl) ?_
              refine m_get Z C hM (hC.at ((up3_ne _ _ (cd_r (by decide))).trans (hs0))) K_X2 2 (by decide) fl_X2_18 (v := .ref (A (cd (k + 1) 1 0))) rfl dX2_readSamples_49 ?_
              refine lv_iload hx hb dX2_readSamples_52 (lv_at hl 0 rfl) ?_
              refine m_lald Z C hM (f := fun k => lN (T k)) (hC.at ((up3_ne _ _ (cd_r (by decide))).trans (ht0))) r rfl (by omega) (by decide) dX2_readSamples_54 ?_
              refine lv_lload hx hb dX2_readSamples_55 (lv_at hl 4 rfl) ?_
              refine W.lcmp hx hb dX2_readSamples_57 ?_
              refine n_lc_gt (tgt := 72) hx hb dX2_readSamples_58 (by decide) (fun c_6 => ?_) (fun c_6 => ?_)
              · -- 58 t
                refine lv_iinc (v := nI (r + 1)) (lv' := [(6, .int (nI (r + 1))), (0, .ref (A (cd (k + 1) 0 0))), (1, .ref (A (cd 0 3 0))), (2, .long a), (4, .long d)]) hx hb dX2_readSamples_72 hl (k := 0) rfl (nI_add _ _) (by decide) rfl (fun ls hl => ?_)
                refine lv_goto (tgt := 7) hx hb dX2_readSamples_75 (by decide) ?_
                have e9 : z_rs (z_s1 T a d) U (0, lN 0, -10000) (r + 1) = _ := z_rs_f (fun q => l_ltn c_6 q.2)
                have hC8 : CW h A tg (up3 sg (cd 0 3 0) (some (eO 4 [.int (nI ((z_rs (z_s1 T a d) U (0, lN 0, -10000) (r + 1)).1)), .long ((z_rs (z_s1 T a d) U (0, lN 0, -10000) (r + 1)).2.1), .int ((z_rs (z_s1 T a d) U (0, lN 0, -10000) (r + 1)).2.2)]))) := by rw [e9]; exact hC
                exact ih h (r + 1) (by omega) (by omega) hC8 hF H locs hM hS ls (lv_sub hl [0, 1, 2, 3, 4] rfl)
              · -- 58 f
                refine lv_aload_n hx hb dX2_readSamples_61 rfl (lv_at hl 2 rfl) ?_
                refine lv_aload_n hx hb dX2_readSamples_62 rfl (lv_at hl 1 rfl) ?_
                refine m_get Z C hM (hC.at ((up3_ne _ _ (cd_r (by decide))).trans (hs0))) K_X2 3 (by decide) fl_X2_22 (v := .ref (A (cd (k + 1) 2 0))) rfl dX2_readSamples_63 ?_
                refine lv_iload hx hb dX2_readSamples_66 (lv_at hl 0 rfl) ?_
                refine m_iald Z C hM (f := U) (hC.at ((up3_ne _ _ (cd_r (by decide))).trans (hv0))) r rfl (by omega) (by decide) dX2_readSamples_68 ?_
                refine m_callVN Z C hM hS (As := [.int (U r)]) (rest := []) (c_X4_take Z h A tg (up3 sg (cd 0 3 0) (some (eO 4 [.int (nI ((z_rs (z_s1 T a d) U (0, lN 0, -10000) r).1)), .long ((z_rs (z_s1 T a d) U (0, lN 0, -10000) r).2.1), .int ((z_rs (z_s1 T a d) U (0, lN 0, -10000) r).2.2)]))) hC (U r) ((z_rs (z_s1 T a d) U (0, lN 0, -10000) r).1) ((z_rs (z_s1 T a d) U (0, lN 0, -10000) r).2.1) ((z_rs (z_s1 T a d) U (0, lN 0, -10000) r).2.2) (up3_self _ _ _)) yi_X4_take mn_X2_86 (hC.at (up3_self _ _ _)) rfl ⟨Nat.le_of_ble_eq_true rfl, Nat.le_of_ble_eq_true rfl⟩ (Nat.le_of_ble_eq_true rfl) hl.1 rfl rfl dX2_readSamples_69 ⟨Nat.le_of_ble_eq_true rfl, Nat.le_of_ble_eq_true rfl⟩ (fun v h9 H locs hv hM hS => ?_)
                obtain ⟨hv, hC9, hF8⟩ := hv
                subst hv
                have hF := hF.trans hF8
                rw [up3_up3 (x := cd 0 3 0)] at hC9
                obtain ⟨h, hM, hC, hF⟩ : ∃ h8, MW G s0.heap.size h8 H ∧ CW h8 A tg (up3 sg (cd 0 3 0) (some (eO 4 [.int (nI (((z_rs (z_s1 T a d) U (0, lN 0, -10000) r).1) + 1)), .long (((z_rs (z_s1 T a d) U (0, lN 0, -10000) r).2.1) + (U r).toInt64), .int (if ((z_rs (z_s1 T a d) U (0, lN 0, -10000) r).2.2) < (U r) then (U r) else ((z_rs (z_s1 T a d) U (0, lN 0, -10000) r).2.2))]))) ∧ cFr h0 tg h8 tg := ⟨_, hM, hC9, hF⟩
                refine W.eq (g2 := F0 mt 72 ls []) rfl ?_
                refine lv_iinc (v := nI (r + 1)) (lv' := [(6, .int (nI (r + 1))), (0, .ref (A (cd (k + 1) 0 0))), (1, .ref (A (cd 0 3 0))), (2, .long a), (4, .long d)]) hx hb dX2_readSamples_72 hl (k := 0) rfl (nI_add _ _) (by decide) rfl (fun ls hl => ?_)
                refine lv_goto (tgt := 7) hx hb dX2_readSamples_75 (by decide) ?_
                have e9 : z_rs (z_s1 T a d) U (0, lN 0, -10000) (r + 1) = _ := z_rs_t ⟨l_nlt c_5, l_nlt c_6⟩
                have hC8 : CW h A tg (up3 sg (cd 0 3 0) (some (eO 4 [.int (nI ((z_rs (z_s1 T a d) U (0, lN 0, -10000) (r + 1)).1)), .long ((z_rs (z_s1 T a d) U (0, lN 0, -10000) (r + 1)).2.1), .int ((z_rs (z_s1 T a d) U (0, lN 0, -10000) (r + 1)).2.2)]))) := by rw [e9]; exact hC
                exact ih h (r + 1) (by omega) (by omega) hC8 hF H locs hM hS ls (lv_sub hl [0, 1, 2, 3, 4] rfl)
  exact lp_1 (n + 1) h 0 (by omega) (by omega) hC hF H locs hM hS ls (lv_sub hl [0, 1, 2, 3, 4] rfl)
set_option maxRecDepth 100000 in
set_option maxHeartbeats 4000000 in
theorem c_X2_readRollupsInside {l : Launch} {G : mG} {a0 : Array Value} {s0 : State} (Z : mZ l G a0 s0) (h0 : Hp) (A : Cd → Nat) (tg : Nat → Cd) (sg : Cd → Option va_E) (hC : CW h0 A tg sg) (k : Nat) (a : Int64) (d : Int64) (nm : Int32) (ho : Int32) (n : Nat) (av : Value) (T : Nat → Nat) (U : Nat → Int32) (fd : Nat) (tt : Int64) (gr : Int32) (hs0 : sg (cd (k + 1) 0 0) = some (eO 2 [.int nm, .int ho, .ref (A (cd (k + 1) 1 0)), .ref (A (cd (k + 1) 2 0)), .ref (A (cd (k + 1) 3 0)), .ref (A (cd (k + 1) 4 0)), .ref (A (cd (k + 1) 5 0)), .int (nI n), av])) (ht0 : sg (cd (k + 1) 1 0) = some (eL G 120 (fun k => lN (T k)))) (hv0 : sg (cd (k + 1) 2 0) = some (eI G 120 (U))) (htt : sg (cd 0 3 0) = some (eO 4 [.int (nI fd), .long tt, .int gr])) (hn : n ≤ 120) (hT : ∀ i : Nat, i < n → T i < 1073741824) : mM l G s0 yX2_readRollupsInside cX2_readRollupsInside 9 none 2 45 0 0 h0 [.ref (A (cd (k + 1) 0 0)), .ref (A (cd 0 3 0)), .long a, .long d] (fun v h9 => (v = none ∧ CW h9 A tg (up3 sg (cd 0 3 0) (some (eO 4 [.int (nI ((z_rs (z_s2 T a d) U (0, lN 0, -10000) n).1)), .long ((z_rs (z_s2 T a d) U (0, lN 0, -10000) n).2.1), .int ((z_rs (z_s2 T a d) U (0, lN 0, -10000) n).2.2)]))) ∧ cFr h0 tg h9 tg)) := by
  refine mM_in RX2 "readRollupsInside" rfl rfl (by decide +kernel) (Nat.le_of_ble_eq_true rfl) ?_
  intro p e s mt below meth c H locs C hM hS ls hl
  have hx := C.1
  have hb := C.2.1
  have hown := C.2.2.2.1
  have hE := C.2.2.2.2.2.2.1
  have hl : lv_has ls 9 [(0, .ref (A (cd (k + 1) 0 0))), (1, .ref (A (cd 0 3 0))), (2, .long a), (4, .long d)] := hl
  have hF : cFr h0 tg h0 tg := cFr.rf
  obtain ⟨h, hM, hC, hF⟩ : ∃ h9, MW G s0.heap.size h9 H ∧ CW h9 A tg sg ∧ cFr h0 tg h9 tg := ⟨_, hM, hC, hF⟩
  refine lv_aload_n hx hb dX2_readRollupsInside_0 rfl (lv_at hl 1 rfl) ?_
  refine m_callVN Z C hM hS (As := []) (rest := []) (c_X4_clear Z h A tg sg hC fd tt gr (htt)) yi_X4_clear mn_X2_77 (hC.at (htt)) rfl ⟨Nat.le_of_ble_eq_true rfl, Nat.le_of_ble_eq_true rfl⟩ (Nat.le_of_ble_eq_true rfl) hl.1 rfl rfl dX2_readRollupsInside_1 ⟨Nat.le_of_ble_eq_true rfl, Nat.le_of_ble_eq_true rfl⟩ (fun v h9 H locs hv hM hS => ?_)
  obtain ⟨hv, hC9, hF8⟩ := hv
  subst hv
  have hF := hF.trans hF8
  obtain ⟨h, hM, hC, hF⟩ : ∃ h8, MW G s0.heap.size h8 H ∧ CW h8 A tg (up3 sg (cd 0 3 0) (some (eO 4 [.int (nI 0), .long (lN 0), .int ((-10000))]))) ∧ cFr h0 tg h8 tg := ⟨_, hM, hC9, hF⟩
  refine W.eq (g2 := F0 mt 4 ls []) rfl ?_
  refine lv_iconst (v := nI 0) hx hb dX2_readRollupsInside_4 (by decide) ?_
  refine lv_istore (lv' := [(6, .int (nI 0)), (0, .ref (A (cd (k + 1) 0 0))), (1, .ref (A (cd 0 3 0))), (2, .long a), (4, .long d)]) hx hb dX2_readRollupsInside_5 hl (by decide) rfl (fun ls hl => ?_)
  have lp_1 : ∀ (fu : Nat) (h : Hp) (r : Nat), n < r + fu → r ≤ n → CW h A tg (up3 sg (cd 0 3 0) (some (eO 4 [.int (nI ((z_rs (z_s2 T a d) U (0, lN 0, -10000) r).1)), .long ((z_rs (z_s2 T a d) U (0, lN 0, -10000) r).2.1), .int ((z_rs (z_s2 T a d) U (0, lN 0, -10000) r).2.2)]))) → cFr h0 tg h tg → ∀ (H : Heap) (locs : List Loc), MW G s0.heap.size h H → va_S (fun q => s0.heap.size ≤ q) s.heap H locs → ∀ ls : Array Slot, lv_has ls 9 [(6, .int (nI r)), (0, .ref (A (cd (k + 1) 0 0))), (1, .ref (A (cd 0 3 0))), (2, .long a), (4, .long d)] → W p l e (mRm 2 45 0 0) s mt ([.ref (A (cd (k + 1) 0 0)), .ref (A (cd 0 3 0)), .long a, .long d] : List Value).toArray below meth c H locs 0 0 (MQ below (mQc G s0 (fun v h9 => (v = none ∧ CW h9 A tg (up3 sg (cd 0 3 0) (some (eO 4 [.int (nI ((z_rs (z_s2 T a d) U (0, lN 0, -10000) n).1)), .long ((z_rs (z_s2 T a d) U (0, lN 0, -10000) n).2.1), .int ((z_rs (z_s2 T a d) U (0, lN 0, -10000) n).2.2)]))) ∧ cFr h0 tg h9 tg))) ([.ref (A (cd (k + 1) 0 0)), .ref (A (cd 0 3 0)), .long a, .long d] : List Value).toArray s 0 0 (fun q => s0.heap.size ≤ q)) (F0 mt 7 ls []) := by
    intro fu
    induction fu with
    | zero => intro h r hfu _ _ _; exact absurd hfu (by omega)
    | succ fu ih =>
      intro h r hfu hr hC hF H locs hM hS ls hl
      refine lv_iload hx hb dX2_readRollupsInside_7 (lv_at hl 0 rfl) ?_
      refine lv_aload_n hx hb dX2_readRollupsInside_9 rfl (lv_at hl 1 rfl) ?_
      refine m_get Z C hM (hC.at ((up3_ne _ _ (cd_r (by decide))).trans (hs0))) K_X2 7 (by decide) fl_X2_42 (v := .int (nI n)) rfl dX2_readRollupsInside_10 ?_
      refine lv_icmp_ge (tgt := 86) hx hb dX2_readRollupsInside_13 (by decide) (fun c_2 => ?_) (fun c_2 => ?_)
      · -- 13 t
        have c_2 : n ≤ r := (nI_leI (by omega) (by omega)).mp c_2
        exact m_vret C hM hS (Nat.le_of_ble_eq_true rfl) (Nat.le_of_ble_eq_true rfl) dX2_readRollupsInside_86 ⟨rfl, (by rw [show n = r by omega]; exact hC), hF⟩
      · -- 13 f
        have c_2 : ¬ n ≤ r := fun q => c_2 ((nI_leI (by omega) (by omega)).mpr q)
        have hTr := hT r (by omega)
        refine lv_iload hx hb dX2_readRollupsInside_16 (lv_at hl 0 rfl) ?_
        refine lv_aload_n hx hb dX2_readRollupsInside_18 rfl (lv_at hl 1 rfl) ?_
        refine m_get Z C hM (hC.at ((up3_ne _ _ (cd_r (by decide))).trans (hs0))) K_X2 2 (by decide) fl_X2_18 (v := .ref (A (cd (k + 1) 1 0))) rfl dX2_readRollupsInside_19 ?_
        refine m_alen (t0 := 1) Z C hM rfl (hC.at ((up3_ne _ _ (cd_r (by decide))).trans (ht0))) dX2_readRollupsInside_22 ?_
        refine W.eq (g2 := F0 mt 23 ls [.int (nI 120), .int (nI r)]) rfl ?_
        refine lv_icmp_ge (tgt := 86) hx hb dX2_readRollupsInside_23 (by decide) (fun c_3 => ?_) (fun c_3 => ?_)
        · -- 23 t
          have c_3 : 120 ≤ r := (nI_leI (by decide) (by omega)).mp c_3
          exact m_vret C hM hS (Nat.le_of_ble_eq_true rfl) (Nat.le_of_ble_eq_true rfl) dX2_readRollupsInside_86 ⟨rfl, (by rw [show n = r by omega]; exact hC), hF⟩
        · -- 23 f
          have c_3 : ¬ 120 ≤ r := fun q => c_3 ((nI_leI (by decide) (by omega)).mpr q)
          refine lv_iload hx hb dX2_readRollupsInside_26 (lv_at hl 0 rfl) ?_
          refine lv_aload_n hx hb dX2_readRollupsInside_28 rfl (lv_at hl 1 rfl) ?_
          refine m_get Z C hM (hC.at ((up3_ne _ _ (cd_r (by decide))).trans (hs0))) K_X2 3 (by decide) fl_X2_22 (v := .ref (A (cd (k + 1) 2 0))) rfl dX2_readRollupsInside_29 ?_
          refine m_alen (t0 := 0) Z C hM rfl (hC.at ((up3_ne _ _ (cd_r (by decide))).trans (hv0))) dX2_readRollupsInside_32 ?_
          refine W.eq (g2 := F0 mt 33 ls [.int (nI 120), .int (nI r)]) rfl ?_
          refine lv_icmp_ge (tgt := 86) hx hb dX2_readRollupsInside_33 (by decide) (fun c_4 => ?_) (fun c_4 => ?_)
          · -- 33 t
            have c_4 : 120 ≤ r := (nI_leI (by decide) (by omega)).mp c_4
            exact m_vret C hM hS (Nat.le_of_ble_eq_true rfl) (Nat.le_of_ble_eq_true rfl) dX2_readRollupsInside_86 ⟨rfl, (by rw [show n = r by omega]; exact hC), hF⟩
          · -- 33 f
            have c_4 : ¬ 120 ≤ r := fun q => c_4 ((nI_leI (by decide) (by omega)).mpr q)
            refine lv_aload_n hx hb dX2_readRollupsInside_36 rfl (lv_at hl 1 rfl) ?_
            refine m_get Z C hM (hC.at ((up3_ne _ _ (cd_r (by decide))).trans (hs0))) K_X2 2 (by decide) fl_X2_18 (v := .ref (A (cd (k + 1) 1 0))) rfl dX2_readRollupsInside_37 ?_
            refine lv_iload hx hb dX2_readRollupsInside_40 (lv_at hl 0 rfl) ?_
            refine m_lald Z C hM (f := fun k => lN (T k)) (hC.at ((up3_ne _ _ (cd_r (by decide))).trans (ht0))) r rfl (by omega) (by decide) dX2_readRollupsInside_42 ?_
            refine m_callS Z C hM hS (As := [.long (lN (T r))]) (rest := []) (c_X2_rollupStart Z h (T r) (show (T r) < 1073741824 by omega)) yi_X2_rollupStart ml_X2_87 ⟨Nat.le_of_ble_eq_true rfl, Nat.le_of_ble_eq_true rfl⟩ (Nat.le_of_ble_eq_true rfl) hl.1 rfl rfl dX2_readRollupsInside_43 ⟨Nat.le_of_ble_eq_true rfl, Nat.le_of_ble_eq_true rfl⟩ (fun v h9 H locs hv hM hS => ?_)
            obtain ⟨hv, hh9⟩ := hv
            subst hv
            rw [hh9] at hM
            refine W.eq (g2 := F0 mt 46 ls [.long (lN ((T r) - (T r) % 10))]) rfl ?_
            refine lv_lstore (lv' := [(7, .long (lN ((T r) - (T r) % 10))), (6, .int (nI r)), (0, .ref (A (cd (k + 1) 0 0))), (1, .ref (A (cd 0 3 0))), (2, .long a), (4, .long d)]) hx hb dX2_readRollupsInside_46 hl (by decide) rfl (fun ls hl => ?_)
            refine lv_lload hx hb dX2_readRollupsInside_48 (lv_at hl 0 rfl) ?_
            refine lv_lload_n hx hb dX2_readRollupsInside_50 rfl (lv_at hl 4 rfl) ?_
            refine W.lcmp hx hb dX2_readRollupsInside_51 ?_
            refine n_lc_lt (tgt := 80) hx hb dX2_readRollupsInside_52 (by decide) (fun c_5 => ?_) (fun c_5 => ?_)
            · -- 52 t
              refine lv_iinc (v := nI (r + 1)) (lv' := [(6, .int (nI (r + 1))), (7, .long (lN ((T r) - (T r) % 10))), (0, .ref (A (cd (k + 1) 0 0))), (1, .ref (A (cd 0 3 0))), (2, .long a), (4, .long d)]) hx hb dX2_readRollupsInside_80 hl (k := 1) rfl (nI_add _ _) (by decide) rfl (fun ls hl => ?_)
              refine lv_goto (tgt := 7) hx hb dX2_readRollupsInside_83 (by decide) ?_
              have e9 : z_rs (z_s2 T a d) U (0, lN 0, -10000) (r + 1) = _ := z_rs_f (fun q => l_ltn c_5 q.1)
              have hC8 : CW h A tg (up3 sg (cd 0 3 0) (some (eO 4 [.int (nI ((z_rs (z_s2 T a d) U (0, lN 0, -10000) (r + 1)).1)), .long ((z_rs (z_s2 T a d) U (0, lN 0, -10000) (r + 1)).2.1), .int ((z_rs (z_s2 T a d) U (0, lN 0, -10000) (r + 1)).2.2)]))) := by rw [e9]; exact hC
              exact ih h (r + 1) (by omega) (by omega) hC8 hF H locs hM hS ls (lv_sub hl [0, 2, 3, 4, 5] rfl)
            · -- 52 f
              refine lv_lload hx hb dX2_readRollupsInside_55 (lv_at hl 0 rfl) ?_
              refine lv_ldc2 (v := lN 10) hx hb hown (hE.good Z kl_X2_91 _) dX2_readRollupsInside_57 ?_
              refine n_ladd hx hb dX2_readRollupsInside_60 ?_
              refine lv_lconst (v := lN 1) hx hb dX2_readRollupsInside_61 (by decide) ?_
              refine n_lsub hx hb (by omega) dX2_readRollupsInside_62 ?_
              refine lv_lload hx hb dX2_readRollupsInside_63 (lv_at hl 5 rfl) ?_
              refine W.lcmp hx hb dX2_readRollupsInside_65 ?_
              refine n_lc_gt (tgt := 80) hx hb dX2_readRollupsInside_66 (by decide) (fun c_6 => ?_) (fun c_6 => ?_)
              · -- 66 t
                refine lv_iinc (v := nI (r + 1)) (lv' := [(6, .int (nI (r + 1))), (7, .long (lN ((T r) - (T r) % 10))), (0, .ref (A (cd (k + 1) 0 0))), (1, .ref (A (cd 0 3 0))), (2, .long a), (4, .long d)]) hx hb dX2_readRollupsInside_80 hl (k := 1) rfl (nI_add _ _) (by decide) rfl (fun ls hl => ?_)
                refine lv_goto (tgt := 7) hx hb dX2_readRollupsInside_83 (by decide) ?_
                have e9 : z_rs (z_s2 T a d) U (0, lN 0, -10000) (r + 1) = _ := z_rs_f (fun q => l_ltn c_6 q.2)
                have hC8 : CW h A tg (up3 sg (cd 0 3 0) (some (eO 4 [.int (nI ((z_rs (z_s2 T a d) U (0, lN 0, -10000) (r + 1)).1)), .long ((z_rs (z_s2 T a d) U (0, lN 0, -10000) (r + 1)).2.1), .int ((z_rs (z_s2 T a d) U (0, lN 0, -10000) (r + 1)).2.2)]))) := by rw [e9]; exact hC
                exact ih h (r + 1) (by omega) (by omega) hC8 hF H locs hM hS ls (lv_sub hl [0, 2, 3, 4, 5] rfl)
              · -- 66 f
                refine lv_aload_n hx hb dX2_readRollupsInside_69 rfl (lv_at hl 3 rfl) ?_
                refine lv_aload_n hx hb dX2_readRollupsInside_70 rfl (lv_at hl 2 rfl) ?_
                refine m_get Z C hM (hC.at ((up3_ne _ _ (cd_r (by decide))).trans (hs0))) K_X2 3 (by decide) fl_X2_22 (v := .ref (A (cd (k + 1) 2 0))) rfl dX2_readRollupsInside_71 ?_
                refine lv_iload hx hb dX2_readRollupsInside_74 (lv_at hl 1 rfl) ?_
                refine m_iald Z C hM (f := U) (hC.at ((up3_ne _ _ (cd_r (by decide))).trans (hv0))) r rfl (by omega) (by decide) dX2_readRollupsInside_76 ?_
                refine m_callVN Z C hM hS (As := [.int (U r)]) (rest := []) (c_X4_take Z h A tg (up3 sg (cd 0 3 0) (some (eO 4 [.int (nI ((z_rs (z_s2 T a d) U (0, lN 0, -10000) r).1)), .long ((z_rs (z_s2 T a d) U (0, lN 0, -10000) r).2.1), .int ((z_rs (z_s2 T a d) U (0, lN 0, -10000) r).2.2)]))) hC (U r) ((z_rs (z_s2 T a d) U (0, lN 0, -10000) r).1) ((z_rs (z_s2 T a d) U (0, lN 0, -10000) r).2.1) ((z_rs (z_s2 T a d) U (0, lN 0, -10000) r).2.2) (up3_self _ _ _)) yi_X4_take mn_X2_86 (hC.at (up3_self _ _ _)) rfl ⟨Nat.le_of_ble_eq_true rfl, Nat.le_of_ble_eq_true rfl⟩ (Nat.le_of_ble_eq_true rfl) hl.1 rfl rfl dX2_readRollupsInside_77 ⟨Nat.le_of_ble_eq_true rfl, Nat.le_of_ble_eq_true rfl⟩ (fun v h9 H locs hv hM hS => ?_)
                obtain ⟨hv, hC9, hF8⟩ := hv
                subst hv
                have hF := hF.trans hF8
                rw [up3_up3 (x := cd 0 3 0)] at hC9
                obtain ⟨h, hM, hC, hF⟩ : ∃ h8, MW G s0.heap.size h8 H ∧ CW h8 A tg (up3 sg (cd 0 3 0) (some (eO 4 [.int (nI (((z_rs (z_s2 T a d) U (0, lN 0, -10000) r).1) + 1)), .long (((z_rs (z_s2 T a d) U (0, lN 0, -10000) r).2.1) + (U r).toInt64), .int (if ((z_rs (z_s2 T a d) U (0, lN 0, -10000) r).2.2) < (U r) then (U r) else ((z_rs (z_s2 T a d) U (0, lN 0, -10000) r).2.2))]))) ∧ cFr h0 tg h8 tg := ⟨_, hM, hC9, hF⟩
                refine W.eq (g2 := F0 mt 80 ls []) rfl ?_
                refine lv_iinc (v := nI (r + 1)) (lv' := [(6, .int (nI (r + 1))), (7, .long (lN ((T r) - (T r) % 10))), (0, .ref (A (cd (k + 1) 0 0))), (1, .ref (A (cd 0 3 0))), (2, .long a), (4, .long d)]) hx hb dX2_readRollupsInside_80 hl (k := 1) rfl (nI_add _ _) (by decide) rfl (fun ls hl => ?_)
                refine lv_goto (tgt := 7) hx hb dX2_readRollupsInside_83 (by decide) ?_
                have e9 : z_rs (z_s2 T a d) U (0, lN 0, -10000) (r + 1) = _ := z_rs_t ⟨l_nlt c_5, l_nlt c_6⟩
                have hC8 : CW h A tg (up3 sg (cd 0 3 0) (some (eO 4 [.int (nI ((z_rs (z_s2 T a d) U (0, lN 0, -10000) (r + 1)).1)), .long ((z_rs (z_s2 T a d) U (0, lN 0, -10000) (r + 1)).2.1), .int ((z_rs (z_s2 T a d) U (0, lN 0, -10000) (r + 1)).2.2)]))) := by rw [e9]; exact hC
                exact ih h (r + 1) (by omega) (by omega) hC8 hF H locs hM hS ls (lv_sub hl [0, 2, 3, 4, 5] rfl)
  exact lp_1 (n + 1) h 0 (by omega) (by omega) hC hF H locs hM hS ls (lv_sub hl [0, 1, 2, 3, 4] rfl)
set_option maxRecDepth 100000 in
set_option maxHeartbeats 4000000 in
theorem c_X2_readRollupsTouching {l : Launch} {G : mG} {a0 : Array Value} {s0 : State} (Z : mZ l G a0 s0) (h0 : Hp) (A : Cd → Nat) (tg : Nat → Cd) (sg : Cd → Option va_E) (hC : CW h0 A tg sg) (k : Nat) (a : Int64) (d : Int64) (nm : Int32) (ho : Int32) (n : Nat) (av : Value) (T : Nat → Nat) (U : Nat → Int32) (fd : Nat) (tt : Int64) (gr : Int32) (hs0 : sg (cd (k + 1) 0 0) = some (eO 2 [.int nm, .int ho, .ref (A (cd (k + 1) 1 0)), .ref (A (cd (k + 1) 2 0)), .ref (A (cd (k + 1) 3 0)), .ref (A (cd (k + 1) 4 0)), .ref (A (cd (k + 1) 5 0)), .int (nI n), av])) (ht0 : sg (cd (k + 1) 1 0) = some (eL G 120 (fun k => lN (T k)))) (hv0 : sg (cd (k + 1) 2 0) = some (eI G 120 (U))) (htt : sg (cd 0 3 0) = some (eO 4 [.int (nI fd), .long tt, .int gr])) (hn : n ≤ 120) (hT : ∀ i : Nat, i < n → T i < 1073741824) : mM l G s0 yX2_readRollupsTouching cX2_readRollupsTouching 9 none 2 45 0 0 h0 [.ref (A (cd (k + 1) 0 0)), .ref (A (cd 0 3 0)), .long a, .long d] (fun v h9 => (v = none ∧ CW h9 A tg (up3 sg (cd 0 3 0) (some (eO 4 [.int (nI ((z_rs (z_s3 T a d) U (0, lN 0, -10000) n).1)), .long ((z_rs (z_s3 T a d) U (0, lN 0, -10000) n).2.1), .int ((z_rs (z_s3 T a d) U (0, lN 0, -10000) n).2.2)]))) ∧ cFr h0 tg h9 tg)) := by
  refine mM_in RX2 "readRollupsTouching" rfl rfl (by decide +kernel) (Nat.le_of_ble_eq_true rfl) ?_
  intro p e s mt below meth c H locs C hM hS ls hl
  have hx := C.1
  have hb := C.2.1
  have hown := C.2.2.2.1
  have hE := C.2.2.2.2.2.2.1
  have hl : lv_has ls 9 [(0, .ref (A (cd (k + 1) 0 0))), (1, .ref (A (cd 0 3 0))), (2, .long a), (4, .long d)] := hl
  have hF : cFr h0 tg h0 tg := cFr.rf
  obtain ⟨h, hM, hC, hF⟩ : ∃ h9, MW G s0.heap.size h9 H ∧ CW h9 A tg sg ∧ cFr h0 tg h9 tg := ⟨_, hM, hC, hF⟩
  refine lv_aload_n hx hb dX2_readRollupsTouching_0 rfl (lv_at hl 1 rfl) ?_
  refine m_callVN Z C hM hS (As := []) (rest := []) (c_X4_clear Z h A tg sg hC fd tt gr (htt)) yi_X4_clear mn_X2_77 (hC.at (htt)) rfl ⟨Nat.le_of_ble_eq_true rfl, Nat.le_of_ble_eq_true rfl⟩ (Nat.le_of_ble_eq_true rfl) hl.1 rfl rfl dX2_readRollupsTouching_1 ⟨Nat.le_of_ble_eq_true rfl, Nat.le_of_ble_eq_true rfl⟩ (fun v h9 H locs hv hM hS => ?_)
  obtain ⟨hv, hC9, hF8⟩ := hv
  subst hv
  have hF := hF.trans hF8
  obtain ⟨h, hM, hC, hF⟩ : ∃ h8, MW G s0.heap.size h8 H ∧ CW h8 A tg (up3 sg (cd 0 3 0) (some (eO 4 [.int (nI 0), .long (lN 0), .int ((-10000))]))) ∧ cFr h0 tg h8 tg := ⟨_, hM, hC9, hF⟩
  refine W.eq (g2 := F0 mt 4 ls []) rfl ?_
  refine lv_iconst (v := nI 0) hx hb dX2_readRollupsTouching_4 (by decide) ?_
  refine lv_istore (lv' := [(6, .int (nI 0)), (0, .ref (A (cd (k + 1) 0 0))), (1, .ref (A (cd 0 3 0))), (2, .long a), (4, .long d)]) hx hb dX2_readRollupsTouching_5 hl (by decide) rfl (fun ls hl => ?_)
  have lp_1 : ∀ (fu : Nat) (h : Hp) (r : Nat), n < r + fu → r ≤ n → CW h A tg (up3 sg (cd 0 3 0) (some (eO 4 [.int (nI ((z_rs (z_s3 T a d) U (0, lN 0, -10000) r).1)), .long ((z_rs (z_s3 T a d) U (0, lN 0, -10000) r).2.1), .int ((z_rs (z_s3 T a d) U (0, lN 0, -10000) r).2.2)]))) → cFr h0 tg h tg → ∀ (H : Heap) (locs : List Loc), MW G s0.heap.size h H → va_S (fun q => s0.heap.size ≤ q) s.heap H locs → ∀ ls : Array Slot, lv_has ls 9 [(6, .int (nI r)), (0, .ref (A (cd (k + 1) 0 0))), (1, .ref (A (cd 0 3 0))), (2, .long a), (4, .long d)] → W p l e (mRm 2 45 0 0) s mt ([.ref (A (cd (k + 1) 0 0)), .ref (A (cd 0 3 0)), .long a, .long d] : List Value).toArray below meth c H locs 0 0 (MQ below (mQc G s0 (fun v h9 => (v = none ∧ CW h9 A tg (up3 sg (cd 0 3 0) (some (eO 4 [.int (nI ((z_rs (z_s3 T a d) U (0, lN 0, -10000) n).1)), .long ((z_rs (z_s3 T a d) U (0, lN 0, -10000) n).2.1), .int ((z_rs (z_s3 T a d) U (0, lN 0, -10000) n).2.2)]))) ∧ cFr h0 tg h9 tg))) ([.ref (A (cd (k + 1) 0 0)), .ref (A (cd 0 3 0)), .long a, .long d] : List Value).toArray s 0 0 (fun q => s0.heap.size ≤ q)) (F0 mt 7 ls []) := by
    intro fu
    induction fu with
    | zero => intro h r hfu _ _ _; exact absurd hfu (by omega)
    | succ fu ih =>
      intro h r hfu hr hC hF H locs hM hS ls hl
      refine lv_iload hx hb dX2_readRollupsTouching_7 (lv_at hl 0 rfl) ?_
      refine lv_aload_n hx hb dX2_readRollupsTouching_9 rfl (lv_at hl 1 rfl) ?_
      refine m_get Z C hM (hC.at ((up3_ne _ _ (cd_r (by decide))).trans (hs0))) K_X2 7 (by decide) fl_X2_42 (v := .int (nI n)) rfl dX2_readRollupsTouching_10 ?_
      refine lv_icmp_ge (tgt := 86) hx hb dX2_readRollupsTouching_13 (by decide) (fun c_2 => ?_) (fun c_2 => ?_)
      · -- 13 t
        have c_2 : n ≤ r := (nI_leI (by omega) (by omega)).mp c_2
        exact m_vret C hM hS (Nat.le_of_ble_eq_true rfl) (Nat.le_of_ble_eq_true rfl) dX2_readRollupsTouching_86 ⟨rfl, (by rw [show n = r by omega]; exact hC), hF⟩
      · -- 13 f
        have c_2 : ¬ n ≤ r := fun q => c_2 ((nI_leI (by omega) (by omega)).mpr q)
        have hTr := hT r (by omega)
        refine lv_iload hx hb dX2_readRollupsTouching_16 (lv_at hl 0 rfl) ?_
        refine lv_aload_n hx hb dX2_readRollupsTouching_18 rfl (lv_at hl 1 rfl) ?_
        refine m_get Z C hM (hC.at ((up3_ne _ _ (cd_r (by decide))).trans (hs0))) K_X2 2 (by decide) fl_X2_18 (v := .ref (A (cd (k + 1) 1 0))) rfl dX2_readRollupsTouching_19 ?_
        refine m_alen (t0 := 1) Z C hM rfl (hC.at ((up3_ne _ _ (cd_r (by decide))).trans (ht0))) dX2_readRollupsTouching_22 ?_
        refine W.eq (g2 := F0 mt 23 ls [.int (nI 120), .int (nI r)]) rfl ?_
        refine lv_icmp_ge (tgt := 86) hx hb dX2_readRollupsTouching_23 (by decide) (fun c_3 => ?_) (fun c_3 => ?_)
        · -- 23 t
          have c_3 : 120 ≤ r := (nI_leI (by decide) (by omega)).mp c_3
          exact m_vret C hM hS (Nat.le_of_ble_eq_true rfl) (Nat.le_of_ble_eq_true rfl) dX2_readRollupsTouching_86 ⟨rfl, (by rw [show n = r by omega]; exact hC), hF⟩
        · -- 23 f
          have c_3 : ¬ 120 ≤ r := fun q => c_3 ((nI_leI (by decide) (by omega)).mpr q)
          refine lv_iload hx hb dX2_readRollupsTouching_26 (lv_at hl 0 rfl) ?_
          refine lv_aload_n hx hb dX2_readRollupsTouching_28 rfl (lv_at hl 1 rfl) ?_
          refine m_get Z C hM (hC.at ((up3_ne _ _ (cd_r (by decide))).trans (hs0))) K_X2 3 (by decide) fl_X2_22 (v := .ref (A (cd (k + 1) 2 0))) rfl dX2_readRollupsTouching_29 ?_
          refine m_alen (t0 := 0) Z C hM rfl (hC.at ((up3_ne _ _ (cd_r (by decide))).trans (hv0))) dX2_readRollupsTouching_32 ?_
          refine W.eq (g2 := F0 mt 33 ls [.int (nI 120), .int (nI r)]) rfl ?_
          refine lv_icmp_ge (tgt := 86) hx hb dX2_readRollupsTouching_33 (by decide) (fun c_4 => ?_) (fun c_4 => ?_)
          · -- 33 t
            have c_4 : 120 ≤ r := (nI_leI (by decide) (by omega)).mp c_4
            exact m_vret C hM hS (Nat.le_of_ble_eq_true rfl) (Nat.le_of_ble_eq_true rfl) dX2_readRollupsTouching_86 ⟨rfl, (by rw [show n = r by omega]; exact hC), hF⟩
          · -- 33 f
            have c_4 : ¬ 120 ≤ r := fun q => c_4 ((nI_leI (by decide) (by omega)).mpr q)
            refine lv_aload_n hx hb dX2_readRollupsTouching_36 rfl (lv_at hl 1 rfl) ?_
            refine m_get Z C hM (hC.at ((up3_ne _ _ (cd_r (by decide))).trans (hs0))) K_X2 2 (by decide) fl_X2_18 (v := .ref (A (cd (k + 1) 1 0))) rfl dX2_readRollupsTouching_37 ?_
            refine lv_iload hx hb dX2_readRollupsTouching_40 (lv_at hl 0 rfl) ?_
            refine m_lald Z C hM (f := fun k => lN (T k)) (hC.at ((up3_ne _ _ (cd_r (by decide))).trans (ht0))) r rfl (by omega) (by decide) dX2_readRollupsTouching_42 ?_
            refine m_callS Z C hM hS (As := [.long (lN (T r))]) (rest := []) (c_X2_rollupStart Z h (T r) (show (T r) < 1073741824 by omega)) yi_X2_rollupStart ml_X2_87 ⟨Nat.le_of_ble_eq_true rfl, Nat.le_of_ble_eq_true rfl⟩ (Nat.le_of_ble_eq_true rfl) hl.1 rfl rfl dX2_readRollupsTouching_43 ⟨Nat.le_of_ble_eq_true rfl, Nat.le_of_ble_eq_true rfl⟩ (fun v h9 H locs hv hM hS => ?_)
            obtain ⟨hv, hh9⟩ := hv
            subst hv
            rw [hh9] at hM
            refine W.eq (g2 := F0 mt 46 ls [.long (lN ((T r) - (T r) % 10))]) rfl ?_
            refine lv_lstore (lv' := [(7, .long (lN ((T r) - (T r) % 10))), (6, .int (nI r)), (0, .ref (A (cd (k + 1) 0 0))), (1, .ref (A (cd 0 3 0))), (2, .long a), (4, .long d)]) hx hb dX2_readRollupsTouching_46 hl (by decide) rfl (fun ls hl => ?_)
            refine lv_lload hx hb dX2_readRollupsTouching_48 (lv_at hl 0 rfl) ?_
            refine lv_ldc2 (v := lN 10) hx hb hown (hE.good Z kl_X2_91 _) dX2_readRollupsTouching_50 ?_
            refine n_ladd hx hb dX2_readRollupsTouching_53 ?_
            refine lv_lconst (v := lN 1) hx hb dX2_readRollupsTouching_54 (by decide) ?_
            refine n_lsub hx hb (by omega) dX2_readRollupsTouching_55 ?_
            refine lv_lload_n hx hb dX2_readRollupsTouching_56 rfl (lv_at hl 4 rfl) ?_
            refine W.lcmp hx hb dX2_readRollupsTouching_57 ?_
            refine n_lc_lt (tgt := 80) hx hb dX2_readRollupsTouching_58 (by decide) (fun c_5 => ?_) (fun c_5 => ?_)
            · -- 58 t
              refine lv_iinc (v := nI (r + 1)) (lv' := [(6, .int (nI (r + 1))), (7, .long (lN ((T r) - (T r) % 10))), (0, .ref (A (cd (k + 1) 0 0))), (1, .ref (A (cd 0 3 0))), (2, .long a), (4, .long d)]) hx hb dX2_readRollupsTouching_80 hl (k := 1) rfl (nI_add _ _) (by decide) rfl (fun ls hl => ?_)
              refine lv_goto (tgt := 7) hx hb dX2_readRollupsTouching_83 (by decide) ?_
              have e9 : z_rs (z_s3 T a d) U (0, lN 0, -10000) (r + 1) = _ := z_rs_f (fun q => l_ltn c_5 q.1)
              have hC8 : CW h A tg (up3 sg (cd 0 3 0) (some (eO 4 [.int (nI ((z_rs (z_s3 T a d) U (0, lN 0, -10000) (r + 1)).1)), .long ((z_rs (z_s3 T a d) U (0, lN 0, -10000) (r + 1)).2.1), .int ((z_rs (z_s3 T a d) U (0, lN 0, -10000) (r + 1)).2.2)]))) := by rw [e9]; exact hC
              exact ih h (r + 1) (by omega) (by omega) hC8 hF H locs hM hS ls (lv_sub hl [0, 2, 3, 4, 5] rfl)
            · -- 58 f
              refine lv_lload hx hb dX2_readRollupsTouching_61 (lv_at hl 0 rfl) ?_
              refine lv_lload hx hb dX2_readRollupsTouching_63 (lv_at hl 5 rfl) ?_
              refine W.lcmp hx hb dX2_readRollupsTouching_65 ?_
              refine n_lc_gt (tgt := 80) hx hb dX2_readRollupsTouching_66 (by decide) (fun c_6 => ?_) (fun c_6 => ?_)
              · -- 66 t
                refine lv_iinc (v := nI (r + 1)) (lv' := [(6, .int (nI (r + 1))), (7, .long (lN ((T r) - (T r) % 10))), (0, .ref (A (cd (k + 1) 0 0))), (1, .ref (A (cd 0 3 0))), (2, .long a), (4, .long d)]) hx hb dX2_readRollupsTouching_80 hl (k := 1) rfl (nI_add _ _) (by decide) rfl (fun ls hl => ?_)
                refine lv_goto (tgt := 7) hx hb dX2_readRollupsTouching_83 (by decide) ?_
                have e9 : z_rs (z_s3 T a d) U (0, lN 0, -10000) (r + 1) = _ := z_rs_f (fun q => l_ltn c_6 q.2)
                have hC8 : CW h A tg (up3 sg (cd 0 3 0) (some (eO 4 [.int (nI ((z_rs (z_s3 T a d) U (0, lN 0, -10000) (r + 1)).1)), .long ((z_rs (z_s3 T a d) U (0, lN 0, -10000) (r + 1)).2.1), .int ((z_rs (z_s3 T a d) U (0, lN 0, -10000) (r + 1)).2.2)]))) := by rw [e9]; exact hC
                exact ih h (r + 1) (by omega) (by omega) hC8 hF H locs hM hS ls (lv_sub hl [0, 2, 3, 4, 5] rfl)
              · -- 66 f
                refine lv_aload_n hx hb dX2_readRollupsTouching_69 rfl (lv_at hl 3 rfl) ?_
                refine lv_aload_n hx hb dX2_readRollupsTouching_70 rfl (lv_at hl 2 rfl) ?_
                refine m_get Z C hM (hC.at ((up3_ne _ _ (cd_r (by decide))).trans (hs0))) K_X2 3 (by decide) fl_X2_22 (v := .ref (A (cd (k + 1) 2 0))) rfl dX2_readRollupsTouching_71 ?_
                refine lv_iload hx hb dX2_readRollupsTouching_74 (lv_at hl 1 rfl) ?_
                refine m_iald Z C hM (f := U) (hC.at ((up3_ne _ _ (cd_r (by decide))).trans (hv0))) r rfl (by omega) (by decide) dX2_readRollupsTouching_76 ?_
                refine m_callVN Z C hM hS (As := [.int (U r)]) (rest := []) (c_X4_take Z h A tg (up3 sg (cd 0 3 0) (some (eO 4 [.int (nI ((z_rs (z_s3 T a d) U (0, lN 0, -10000) r).1)), .long ((z_rs (z_s3 T a d) U (0, lN 0, -10000) r).2.1), .int ((z_rs (z_s3 T a d) U (0, lN 0, -10000) r).2.2)]))) hC (U r) ((z_rs (z_s3 T a d) U (0, lN 0, -10000) r).1) ((z_rs (z_s3 T a d) U (0, lN 0, -10000) r).2.1) ((z_rs (z_s3 T a d) U (0, lN 0, -10000) r).2.2) (up3_self _ _ _)) yi_X4_take mn_X2_86 (hC.at (up3_self _ _ _)) rfl ⟨Nat.le_of_ble_eq_true rfl, Nat.le_of_ble_eq_true rfl⟩ (Nat.le_of_ble_eq_true rfl) hl.1 rfl rfl dX2_readRollupsTouching_77 ⟨Nat.le_of_ble_eq_true rfl, Nat.le_of_ble_eq_true rfl⟩ (fun v h9 H locs hv hM hS => ?_)
                obtain ⟨hv, hC9, hF8⟩ := hv
                subst hv
                have hF := hF.trans hF8
                rw [up3_up3 (x := cd 0 3 0)] at hC9
                obtain ⟨h, hM, hC, hF⟩ : ∃ h8, MW G s0.heap.size h8 H ∧ CW h8 A tg (up3 sg (cd 0 3 0) (some (eO 4 [.int (nI (((z_rs (z_s3 T a d) U (0, lN 0, -10000) r).1) + 1)), .long (((z_rs (z_s3 T a d) U (0, lN 0, -10000) r).2.1) + (U r).toInt64), .int (if ((z_rs (z_s3 T a d) U (0, lN 0, -10000) r).2.2) < (U r) then (U r) else ((z_rs (z_s3 T a d) U (0, lN 0, -10000) r).2.2))]))) ∧ cFr h0 tg h8 tg := ⟨_, hM, hC9, hF⟩
                refine W.eq (g2 := F0 mt 80 ls []) rfl ?_
                refine lv_iinc (v := nI (r + 1)) (lv' := [(6, .int (nI (r + 1))), (7, .long (lN ((T r) - (T r) % 10))), (0, .ref (A (cd (k + 1) 0 0))), (1, .ref (A (cd 0 3 0))), (2, .long a), (4, .long d)]) hx hb dX2_readRollupsTouching_80 hl (k := 1) rfl (nI_add _ _) (by decide) rfl (fun ls hl => ?_)
                refine lv_goto (tgt := 7) hx hb dX2_readRollupsTouching_83 (by decide) ?_
                have e9 : z_rs (z_s3 T a d) U (0, lN 0, -10000) (r + 1) = _ := z_rs_t ⟨l_nlt c_5, l_nlt c_6⟩
                have hC8 : CW h A tg (up3 sg (cd 0 3 0) (some (eO 4 [.int (nI ((z_rs (z_s3 T a d) U (0, lN 0, -10000) (r + 1)).1)), .long ((z_rs (z_s3 T a d) U (0, lN 0, -10000) (r + 1)).2.1), .int ((z_rs (z_s3 T a d) U (0, lN 0, -10000) (r + 1)).2.2)]))) := by rw [e9]; exact hC
                exact ih h (r + 1) (by omega) (by omega) hC8 hF H locs hM hS ls (lv_sub hl [0, 2, 3, 4, 5] rfl)
  exact lp_1 (n + 1) h 0 (by omega) (by omega) hC hF H locs hM hS ls (lv_sub hl [0, 1, 2, 3, 4] rfl)
