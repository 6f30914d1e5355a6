set_option maxRecDepth 100000 in
set_option maxHeartbeats 4000000 in
theorem c_X1_read {l : Launch} {G : mG} {a0 : Array Value} {s0 : State} (Z : mZ l G a0 s0) (h0 : Hp) (A : Cd → Nat) (tg : Nat → Cd) (sg : Cd → Option va_E) (hC : CW h0 A tg sg) (k : Nat) (j : Nat) (a : Int64) (d : Int64) (ft : Int64) (fv : Int32) (sz : Nat) (bi : Nat) (lt : Int64) (lg : Int64) (lv : Int32) (f : Nat → Int64) (g : Nat → Int32) (fd : Nat) (tt : Int64) (gr : Int32) (hb0 : sg (cd (k + 1) 14 j) = some (eO 1 [.long ft, .int fv, .ref (A (cd (k + 1) 15 j)), .ref (A (cd (k + 1) 16 j)), .int (nI sz), .int (nI bi), .long lt, .long lg, .int lv])) (hb1 : sg (cd (k + 1) 15 j) = some (eL G 8 (f))) (hb2 : sg (cd (k + 1) 16 j) = some (eI G 8 (g))) (ht : sg (cd 0 3 0) = some (eO 4 [.int (nI fd), .long tt, .int gr])) (hs : sz ≤ 8) : mM l G s0 yX1_read cX1_read 12 none 2 45 0 0 h0 [.ref (A (cd (k + 1) 14 j)), .ref (A (cd 0 3 0)), .long a, .long d] (fun v h9 => (v = none ∧ CW h9 A tg (up3 sg (cd 0 3 0) (some (eO 4 [.int (nI ((z_rs (z_bp f ft a d) (fun y => z_vl g fv (y + 1)) (fd, tt, gr) sz).1)), .long ((z_rs (z_bp f ft a d) (fun y => z_vl g fv (y + 1)) (fd, tt, gr) sz).2.1), .int ((z_rs (z_bp f ft a d) (fun y => z_vl g fv (y + 1)) (fd, tt, gr) sz).2.2)]))) ∧ cFr h0 tg h9 tg)) := by
  refine mM_in RX1 "read" rfl rfl (by decide +kernel) (Nat.le_of_ble_eq_true rfl) ?_
  intro p e s mt below meth c H locs C hM hS ls hl
  have hx := C.1
  have hb := C.2.1
  have hown := C.2.2.2.1
  have hE := C.2.2.2.2.2.2.1
  have hl : lv_has ls 12 [(0, .ref (A (cd (k + 1) 14 j))), (1, .ref (A (cd 0 3 0))), (2, .long a), (4, .long d)] := hl
  have hF : cFr h0 tg h0 tg := cFr.rf
  obtain ⟨h, hM, hC, hF⟩ : ∃ h9, MW G s0.heap.size h9 H ∧ CW h9 A tg sg ∧ cFr h0 tg h9 tg := ⟨_, hM, hC, hF⟩
  refine lv_aload_n hx hb dX1_read_0 rfl (lv_at hl 0 rfl) ?_
  refine m_get Z C hM (hC.at (hb0)) K_X1 0 (by decide) fl_X1_9 (v := .long ft) rfl dX1_read_1 ?_
  refine lv_lstore (lv' := [(6, .long ft), (0, .ref (A (cd (k + 1) 14 j))), (1, .ref (A (cd 0 3 0))), (2, .long a), (4, .long d)]) hx hb dX1_read_4 hl (by decide) rfl (fun ls hl => ?_)
  refine lv_lconst (v := lN 0) hx hb dX1_read_6 (by decide) ?_
  refine lv_lstore (lv' := [(8, .long (lN 0)), (6, .long ft), (0, .ref (A (cd (k + 1) 14 j))), (1, .ref (A (cd 0 3 0))), (2, .long a), (4, .long d)]) hx hb dX1_read_7 hl (by decide) rfl (fun ls hl => ?_)
  refine lv_aload_n hx hb dX1_read_9 rfl (lv_at hl 2 rfl) ?_
  refine m_get Z C hM (hC.at (hb0)) K_X1 1 (by decide) fl_X1_15 (v := .int fv) rfl dX1_read_10 ?_
  refine lv_istore (lv' := [(10, .int fv), (8, .long (lN 0)), (6, .long ft), (0, .ref (A (cd (k + 1) 14 j))), (1, .ref (A (cd 0 3 0))), (2, .long a), (4, .long d)]) hx hb dX1_read_13 hl (by decide) rfl (fun ls hl => ?_)
  refine lv_iconst (v := nI 0) hx hb dX1_read_15 (by decide) ?_
  refine lv_istore (lv' := [(11, .int (nI 0)), (10, .int fv), (8, .long (lN 0)), (6, .long ft), (0, .ref (A (cd (k + 1) 14 j))), (1, .ref (A (cd 0 3 0))), (2, .long a), (4, .long d)]) hx hb dX1_read_16 hl (by decide) rfl (fun ls hl => ?_)
  have lp_1 : ∀ (fu : Nat) (h : Hp) (y : Nat), sz < y + fu → y ≤ sz → CW h A tg (up3 sg (cd 0 3 0) (some (eO 4 [.int (nI ((z_rs (z_bp f ft a d) (fun y => z_vl g fv (y + 1)) (fd, tt, gr) y).1)), .long ((z_rs (z_bp f ft a d) (fun y => z_vl g fv (y + 1)) (fd, tt, gr) y).2.1), .int ((z_rs (z_bp f ft a d) (fun y => z_vl g fv (y + 1)) (fd, tt, gr) y).2.2)]))) → cFr h0 tg h tg → ∀ (H : Heap) (locs : List Loc), MW G s0.heap.size h H → va_S (fun q => s0.heap.size ≤ q) s.heap H locs → ∀ ls : Array Slot, lv_has ls 12 [(11, .int (nI y)), (10, .int (z_vl g fv y)), (8, .long (z_gp f y)), (6, .long (z_tm f ft y)), (0, .ref (A (cd (k + 1) 14 j))), (1, .ref (A (cd 0 3 0))), (2, .long a), (4, .long d)] → W p l e (mRm 2 45 0 0) s mt ([.ref (A (cd (k + 1) 14 j)), .ref (A (cd 0 3 0)), .long a, .long d] : List Value).toArray below meth c H locs 0 0 (MQ below (mQc G s0 (fun v h9 => (v = none ∧ CW h9 A tg (up3 sg (cd 0 3 0) (some (eO 4 [.int (nI ((z_rs (z_bp f ft a d) (fun y => z_vl g fv (y + 1)) (fd, tt, gr) sz).1)), .long ((z_rs (z_bp f ft a d) (fun y => z_vl g fv (y + 1)) (fd, tt, gr) sz).2.1), .int ((z_rs (z_bp f ft a d) (fun y => z_vl g fv (y + 1)) (fd, tt, gr) sz).2.2)]))) ∧ cFr h0 tg h9 tg))) ([.ref (A (cd (k + 1) 14 j)), .ref (A (cd 0 3 0)), .long a, .long d] : List Value).toArray s 0 0 (fun q => s0.heap.size ≤ q)) (F0 mt 18 ls []) := by
    intro fu
    induction fu with
    | zero => intro h y hfu _ _ _; exact absurd hfu (by omega)
    | succ fu ih =>
      intro h y hfu hy hC hF H locs hM hS ls hl
      refine lv_iload hx hb dX1_read_18 (lv_at hl 0 rfl) ?_
      refine lv_aload_n hx hb dX1_read_20 rfl (lv_at hl 4 rfl) ?_
      refine m_get Z C hM (hC.at ((up3_ne _ _ (cd_r (by decide))).trans (hb0))) K_X1 4 (by decide) fl_X1_27 (v := .int (nI sz)) rfl dX1_read_21 ?_
      refine lv_icmp_ge (tgt := 105) hx hb dX1_read_24 (by decide) (fun c_2 => ?_) (fun c_2 => ?_)
      · -- 24 t
        have c_2 : sz ≤ y := (nI_leI (by omega) (by omega)).mp c_2
        exact m_vret C hM hS (Nat.le_of_ble_eq_true rfl) (Nat.le_of_ble_eq_true rfl) dX1_read_105 ⟨rfl, (by rw [show sz = y by omega]; exact hC), hF⟩
      · -- 24 f
        have c_2 : ¬ sz ≤ y := fun q => c_2 ((nI_leI (by omega) (by omega)).mpr q)
        refine lv_iload hx hb dX1_read_27 (lv_at hl 0 rfl) ?_
        refine lv_aload_n hx hb dX1_read_29 rfl (lv_at hl 4 rfl) ?_
        refine m_get Z C hM (hC.at ((up3_ne _ _ (cd_r (by decide))).trans (hb0))) K_X1 2 (by decide) fl_X1_19 (v := .ref (A (cd (k + 1) 15 j))) rfl dX1_read_30 ?_
        refine m_alen (t0 := 1) Z C hM rfl (hC.at ((up3_ne _ _ (cd_r (by decide))).trans (hb1))) dX1_read_33 ?_
        refine W.eq (g2 := F0 mt 34 ls [.int (nI 8), .int (nI y)]) rfl ?_
        refine lv_icmp_ge (tgt := 105) hx hb dX1_read_34 (by decide) (fun c_3 => ?_) (fun c_3 => ?_)
        · -- 34 t
          have c_3 : 8 ≤ y := (nI_leI (by decide) (by omega)).mp c_3
          exact m_vret C hM hS (Nat.le_of_ble_eq_true rfl) (Nat.le_of_ble_eq_true rfl) dX1_read_105 ⟨rfl, (by rw [show sz = y by omega]; exact hC), hF⟩
        · -- 34 f
          have c_3 : ¬ 8 ≤ y := fun q => c_3 ((nI_leI (by decide) (by omega)).mpr q)
          refine lv_iload hx hb dX1_read_37 (lv_at hl 0 rfl) ?_
          refine lv_aload_n hx hb dX1_read_39 rfl (lv_at hl 4 rfl) ?_
          refine m_get Z C hM (hC.at ((up3_ne _ _ (cd_r (by decide))).trans (hb0))) K_X1 3 (by decide) fl_X1_23 (v := .ref (A (cd (k + 1) 16 j))) rfl dX1_read_40 ?_
          refine m_alen (t0 := 0) Z C hM rfl (hC.at ((up3_ne _ _ (cd_r (by decide))).trans (hb2))) dX1_read_43 ?_
          refine W.eq (g2 := F0 mt 44 ls [.int (nI 8), .int (nI y)]) rfl ?_
          refine lv_icmp_ge (tgt := 105) hx hb dX1_read_44 (by decide) (fun c_4 => ?_) (fun c_4 => ?_)
          · -- 44 t
            have c_4 : 8 ≤ y := (nI_leI (by decide) (by omega)).mp c_4
            exact m_vret C hM hS (Nat.le_of_ble_eq_true rfl) (Nat.le_of_ble_eq_true rfl) dX1_read_105 ⟨rfl, (by rw [show sz = y by omega]; exact hC), hF⟩
          · -- 44 f
            have c_4 : ¬ 8 ≤ y := fun q => c_4 ((nI_leI (by decide) (by omega)).mpr q)
            refine lv_lload hx hb dX1_read_47 (lv_at hl 2 rfl) ?_
            refine lv_aload_n hx hb dX1_read_49 rfl (lv_at hl 4 rfl) ?_
            refine m_get Z C hM (hC.at ((up3_ne _ _ (cd_r (by decide))).trans (hb0))) K_X1 2 (by decide) fl_X1_19 (v := .ref (A (cd (k + 1) 15 j))) rfl dX1_read_50 ?_
            refine lv_iload hx hb dX1_read_53 (lv_at hl 0 rfl) ?_
            refine m_lald Z C hM (f := f) (hC.at ((up3_ne _ _ (cd_r (by decide))).trans (hb1))) y rfl (by omega) (by decide) dX1_read_55 ?_
            refine lv_ladd hx hb dX1_read_56 ?_
            refine lv_lstore (lv' := [(8, .long ((z_gp f y) + (f y))), (11, .int (nI y)), (10, .int (z_vl g fv y)), (6, .long (z_tm f ft y)), (0, .ref (A (cd (k + 1) 14 j))), (1, .ref (A (cd 0 3 0))), (2, .long a), (4, .long d)]) hx hb dX1_read_57 hl (by decide) rfl (fun ls hl => ?_)
            refine lv_lload hx hb dX1_read_59 (lv_at hl 3 rfl) ?_
            refine lv_lload hx hb dX1_read_61 (lv_at hl 0 rfl) ?_
            refine lv_ladd hx hb dX1_read_63 ?_
            refine lv_lstore (lv' := [(6, .long ((z_tm f ft y) + ((z_gp f y) + (f y)))), (8, .long ((z_gp f y) + (f y))), (11, .int (nI y)), (10, .int (z_vl g fv y)), (0, .ref (A (cd (k + 1) 14 j))), (1, .ref (A (cd 0 3 0))), (2, .long a), (4, .long d)]) hx hb dX1_read_64 hl (by decide) rfl (fun ls hl => ?_)
            refine lv_iload hx hb dX1_read_66 (lv_at hl 3 rfl) ?_
            refine lv_aload_n hx hb dX1_read_68 rfl (lv_at hl 4 rfl) ?_
            refine m_get Z C hM (hC.at ((up3_ne _ _ (cd_r (by decide))).trans (hb0))) K_X1 3 (by decide) fl_X1_23 (v := .ref (A (cd (k + 1) 16 j))) rfl dX1_read_69 ?_
            refine lv_iload hx hb dX1_read_72 (lv_at hl 2 rfl) ?_
            refine m_iald Z C hM (f := g) (hC.at ((up3_ne _ _ (cd_r (by decide))).trans (hb2))) y rfl (by omega) (by decide) dX1_read_74 ?_
            refine lv_iadd hx hb dX1_read_75 ?_
            refine lv_istore (lv' := [(10, .int ((z_vl g fv y) + (g y))), (6, .long ((z_tm f ft y) + ((z_gp f y) + (f y)))), (8, .long ((z_gp f y) + (f y))), (11, .int (nI y)), (0, .ref (A (cd (k + 1) 14 j))), (1, .ref (A (cd 0 3 0))), (2, .long a), (4, .long d)]) hx hb dX1_read_76 hl (by decide) rfl (fun ls hl => ?_)
            refine lv_lload hx hb dX1_read_78 (lv_at hl 1 rfl) ?_
            refine lv_lload_n hx hb dX1_read_80 rfl (lv_at hl 6 rfl) ?_
            refine W.lcmp hx hb dX1_read_81 ?_
            refine n_lc_lt (tgt := 99) hx hb dX1_read_82 (by decide) (fun c_5 => ?_) (fun c_5 => ?_)
            · -- 82 t
              refine lv_iinc (v := nI (y + 1)) (lv' := [(11, .int (nI (y + 1))), (10, .int ((z_vl g fv y) + (g y))), (6, .long ((z_tm f ft y) + ((z_gp f y) + (f y)))), (8, .long ((z_gp f y) + (f y))), (0, .ref (A (cd (k + 1) 14 j))), (1, .ref (A (cd 0 3 0))), (2, .long a), (4, .long d)]) hx hb dX1_read_99 hl (k := 3) rfl (nI_add _ _) (by decide) rfl (fun ls hl => ?_)
              refine lv_goto (tgt := 18) hx hb dX1_read_102 (by decide) ?_
              have e9 : z_rs (z_bp f ft a d) (fun y => z_vl g fv (y + 1)) (fd, tt, gr) (y + 1) = _ := z_rs_f (fun q => l_ltn c_5 q.1)
              have hC8 : CW h A tg (up3 sg (cd 0 3 0) (some (eO 4 [.int (nI ((z_rs (z_bp f ft a d) (fun y => z_vl g fv (y + 1)) (fd, tt, gr) (y + 1)).1)), .long ((z_rs (z_bp f ft a d) (fun y => z_vl g fv (y + 1)) (fd, tt, gr) (y + 1)).2.1), .int ((z_rs (z_bp f ft a d) (fun y => z_vl g fv (y + 1)) (fd, tt, gr) (y + 1)).2.2)]))) := by rw [e9]; exact hC
              exact ih h (y + 1) (by omega) (by omega) hC8 hF H locs hM hS ls (lv_sub hl [0, 1, 3, 2, 4, 5, 6, 7] rfl)
            · -- 82 f
              refine lv_lload hx hb dX1_read_85 (lv_at hl 1 rfl) ?_
              refine lv_lload hx hb dX1_read_87 (lv_at hl 7 rfl) ?_
              refine W.lcmp hx hb dX1_read_89 ?_
              refine n_lc_gt (tgt := 99) hx hb dX1_read_90 (by decide) (fun c_6 => ?_) (fun c_6 => ?_)
              · -- 90 t
                refine lv_iinc (v := nI (y + 1)) (lv' := [(11, .int (nI (y + 1))), (10, .int ((z_vl g fv y) + (g y))), (6, .long ((z_tm f ft y) + ((z_gp f y) + (f y)))), (8, .long ((z_gp f y) + (f y))), (0, .ref (A (cd (k + 1) 14 j))), (1, .ref (A (cd 0 3 0))), (2, .long a), (4, .long d)]) hx hb dX1_read_99 hl (k := 3) rfl (nI_add _ _) (by decide) rfl (fun ls hl => ?_)
                refine lv_goto (tgt := 18) hx hb dX1_read_102 (by decide) ?_
                have e9 : z_rs (z_bp f ft a d) (fun y => z_vl g fv (y + 1)) (fd, tt, gr) (y + 1) = _ := z_rs_f (fun q => l_ltn c_6 q.2)
                have hC8 : CW h A tg (up3 sg (cd 0 3 0) (some (eO 4 [.int (nI ((z_rs (z_bp f ft a d) (fun y => z_vl g fv (y + 1)) (fd, tt, gr) (y + 1)).1)), .long ((z_rs (z_bp f ft a d) (fun y => z_vl g fv (y + 1)) (fd, tt, gr) (y + 1)).2.1), .int ((z_rs (z_bp f ft a d) (fun y => z_vl g fv (y + 1)) (fd, tt, gr) (y + 1)).2.2)]))) := by rw [e9]; exact hC
                exact ih h (y + 1) (by omega) (by omega) hC8 hF H locs hM hS ls (lv_sub hl [0, 1, 3, 2, 4, 5, 6, 7] rfl)
              · -- 90 f
                refine lv_aload_n hx hb dX1_read_93 rfl (lv_at hl 5 rfl) ?_
                refine lv_iload hx hb dX1_read_94 (lv_at hl 0 rfl) ?_
                refine m_callVN Z C hM hS (As := [.int ((z_vl g fv y) + (g y))]) (rest := []) (c_X4_take Z h A tg (up3 sg (cd 0 3 0) (some (eO 4 [.int (nI ((z_rs (z_bp f ft a d) (fun y => z_vl g fv (y + 1)) (fd, tt, gr) y).1)), .long ((z_rs (z_bp f ft a d) (fun y => z_vl g fv (y + 1)) (fd, tt, gr) y).2.1), .int ((z_rs (z_bp f ft a d) (fun y => z_vl g fv (y + 1)) (fd, tt, gr) y).2.2)]))) hC ((z_vl g fv y) + (g y)) ((z_rs (z_bp f ft a d) (fun y => z_vl g fv (y + 1)) (fd, tt, gr) y).1) ((z_rs (z_bp f ft a d) (fun y => z_vl g fv (y + 1)) (fd, tt, gr) y).2.1) ((z_rs (z_bp f ft a d) (fun y => z_vl g fv (y + 1)) (fd, tt, gr) y).2.2) (up3_self _ _ _)) yi_X4_take mn_X1_54 (hC.at (up3_self _ _ _)) rfl ⟨Nat.le_of_ble_eq_true rfl, Nat.le_of_ble_eq_true rfl⟩ (Nat.le_of_ble_eq_true rfl) hl.1 rfl rfl dX1_read_96 ⟨Nat.le_of_ble_eq_true rfl, Nat.le_of_ble_eq_true rfl⟩ (fun v h9 H locs hv hM hS => ?_)
                obtain ⟨hv, hC9, hF8⟩ := hv
                subst hv
                have hF := hF.trans hF8
                rw [up3_up3 (x := cd 0 3 0)] at hC9
                obtain ⟨h, hM, hC, hF⟩ : ∃ h8, MW G s0.heap.size h8 H ∧ CW h8 A tg (up3 sg (cd 0 3 0) (some (eO 4 [.int (nI (((z_rs (z_bp f ft a d) (fun y => z_vl g fv (y + 1)) (fd, tt, gr) y).1) + 1)), .long (((z_rs (z_bp f ft a d) (fun y => z_vl g fv (y + 1)) (fd, tt, gr) y).2.1) + ((z_vl g fv y) + (g y)).toInt64), .int (if ((z_rs (z_bp f ft a d) (fun y => z_vl g fv (y + 1)) (fd, tt, gr) y).2.2) < ((z_vl g fv y) + (g y)) then ((z_vl g fv y) + (g y)) else ((z_rs (z_bp f ft a d) (fun y => z_vl g fv (y + 1)) (fd, tt, gr) y).2.2))]))) ∧ cFr h0 tg h8 tg := ⟨_, hM, hC9, hF⟩
                refine W.eq (g2 := F0 mt 99 ls []) rfl ?_
                refine lv_iinc (v := nI (y + 1)) (lv' := [(11, .int (nI (y + 1))), (10, .int ((z_vl g fv y) + (g y))), (6, .long ((z_tm f ft y) + ((z_gp f y) + (f y)))), (8, .long ((z_gp f y) + (f y))), (0, .ref (A (cd (k + 1) 14 j))), (1, .ref (A (cd 0 3 0))), (2, .long a), (4, .long d)]) hx hb dX1_read_99 hl (k := 3) rfl (nI_add _ _) (by decide) rfl (fun ls hl => ?_)
                refine lv_goto (tgt := 18) hx hb dX1_read_102 (by decide) ?_
                have e9 : z_rs (z_bp f ft a d) (fun y => z_vl g fv (y + 1)) (fd, tt, gr) (y + 1) = _ := z_rs_t ⟨l_nlt c_5, l_nlt c_6⟩
                have hC8 : CW h A tg (up3 sg (cd 0 3 0) (some (eO 4 [.int (nI ((z_rs (z_bp f ft a d) (fun y => z_vl g fv (y + 1)) (fd, tt, gr) (y + 1)).1)), .long ((z_rs (z_bp f ft a d) (fun y => z_vl g fv (y + 1)) (fd, tt, gr) (y + 1)).2.1), .int ((z_rs (z_bp f ft a d) (fun y => z_vl g fv (y + 1)) (fd, tt, gr) (y + 1)).2.2)]))) := by rw [e9]; exact hC
                exact ih h (y + 1) (by omega) (by omega) hC8 hF H locs hM hS ls (lv_sub hl [0, 1, 3, 2, 4, 5, 6, 7] rfl)
  exact lp_1 (sz + 1) h 0 (by omega) (by omega) (show CW h A tg (up3 sg (cd 0 3 0) (some (eO 4 [.int (nI fd), .long tt, .int gr]))) from by rw [up3_id ht]; exact hC) hF H locs hM hS ls (lv_sub hl [0, 1, 2, 3, 4, 5, 6, 7] rfl)
