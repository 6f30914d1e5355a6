set_option maxRecDepth 100000 in
set_option maxHeartbeats 4000000 in
theorem c_X2_readBlocks {l : Launch} {G : mG} {a0 : Array Value} {s0 : State} (Z : mZ l G a0 s0) (h0 : Hp) (A : Cd → Nat) (tg : Nat → Cd) (sg : Cd → Option va_E) (hC : CW h0 A tg sg) (k : Nat) (a : Int64) (d : Int64) (nm : Int32) (ho : Int32) (n : Nat) (av : Value) (nb : Nat) (ft : Nat → Int64) (fv : Nat → Int32) (sz : Nat → Nat) (bi : Nat → Nat) (lt : Nat → Int64) (lg : Nat → Int64) (lv : Nat → Int32) (f : Nat → Nat → Int64) (g : Nat → Nat → Int32) (fd : Nat) (tt : Int64) (gr : Int32) (hs0 : sg (cd (k + 1) 0 0) = some (eO 2 [.int nm, .int ho, .ref (A (cd (k + 1) 1 0)), .ref (A (cd (k + 1) 2 0)), .ref (A (cd (k + 1) 3 0)), .ref (A (cd (k + 1) 4 0)), .ref (A (cd (k + 1) 5 0)), .int (nI n), av])) (hch : sg (cd (k + 1) 4 0) = some (eB G 15 (chL A k nb))) (htt : sg (cd 0 3 0) = some (eO 4 [.int (nI fd), .long tt, .int gr])) (hb0 : ∀ j : Nat, j < nb → sg (cd (k + 1) 14 j) = some (eO 1 [.long (ft j), .int (fv j), .ref (A (cd (k + 1) 15 j)), .ref (A (cd (k + 1) 16 j)), .int (nI (sz j)), .int (nI (bi j)), .long (lt j), .long (lg j), .int (lv j)])) (hb1 : ∀ j : Nat, j < nb → sg (cd (k + 1) 15 j) = some (eL G 8 (f j))) (hb2 : ∀ j : Nat, j < nb → sg (cd (k + 1) 16 j) = some (eI G 8 (g j))) (hnb : nb ≤ 15) (hsz : ∀ j : Nat, j < nb → sz j ≤ 8) : mM l G s0 yX2_readBlocks cX2_readBlocks 10 none 3 76 0 0 h0 [.ref (A (cd (k + 1) 0 0)), .ref (A (cd 0 3 0)), .long a, .long d] (fun v h9 => (v = none ∧ CW h9 A tg (up3 sg (cd 0 3 0) (some (eO 4 [.int (nI ((k_rb f g ft fv sz a d nb).1)), .long ((k_rb f g ft fv sz a d nb).2.1), .int ((k_rb f g ft fv sz a d nb).2.2)]))) ∧ cFr h0 tg h9 tg)) := by
  refine mM_in RX2 "readBlocks" rfl rfl (by decide +kernel) (Nat.le_of_ble_eq_true rfl) ?_
  intro p e s mt below meth c H locs C hM hS ls hl
  have hx := C.1
  have hb := C.2.1
  have hown := C.2.2.2.1
  have hE := C.2.2.2.2.2.2.1
  have hl : lv_has ls 10 [(0, .ref (A (cd (k + 1) 0 0))), (1, .ref (A (cd 0 3 0))), (2, .long a), (4, .long d)] := hl
  have hF : cFr h0 tg h0 tg := cFr.rf
  obtain ⟨h, hM, hC, hF⟩ : ∃ h9, MW G s0.heap.size h9 H ∧ CW h9 A tg sg ∧ cFr h0 tg h9 tg := ⟨_, hM, hC, hF⟩
  refine lv_aload_n hx hb dX2_readBlocks_0 rfl (lv_at hl 1 rfl) ?_
  refine m_callVN Z C hM hS (As := []) (rest := []) (c_X4_clear Z h A tg sg hC fd tt gr (htt)) yi_X4_clear mn_X2_77 (hC.at (htt)) rfl ⟨Nat.le_of_ble_eq_true rfl, Nat.le_of_ble_eq_true rfl⟩ (Nat.le_of_ble_eq_true rfl) hl.1 rfl rfl dX2_readBlocks_1 ⟨Nat.le_of_ble_eq_true rfl, Nat.le_of_ble_eq_true rfl⟩ (fun v h9 H locs hv hM hS => ?_)
  obtain ⟨hv, hC9, hF8⟩ := hv
  subst hv
  have hF := hF.trans hF8
  obtain ⟨h, hM, hC, hF⟩ : ∃ h8, MW G s0.heap.size h8 H ∧ CW h8 A tg (up3 sg (cd 0 3 0) (some (eO 4 [.int (nI 0), .long (lN 0), .int ((-10000))]))) ∧ cFr h0 tg h8 tg := ⟨_, hM, hC9, hF⟩
  refine W.eq (g2 := F0 mt 4 ls []) rfl ?_
  refine lv_aload_n hx hb dX2_readBlocks_4 rfl (lv_at hl 0 rfl) ?_
  refine m_get Z C hM (hC.at ((up3_ne _ _ (cd_r (by decide))).trans (hs0))) K_X2 5 (by decide) fl_X2_31 (v := .ref (A (cd (k + 1) 4 0))) rfl dX2_readBlocks_5 ?_
  refine lv_astore (lv' := [(6, .ref (A (cd (k + 1) 4 0))), (0, .ref (A (cd (k + 1) 0 0))), (1, .ref (A (cd 0 3 0))), (2, .long a), (4, .long d)]) hx hb dX2_readBlocks_8 hl (by decide) rfl (fun ls hl => ?_)
  refine lv_aload hx hb dX2_readBlocks_10 (lv_at hl 0 rfl) ?_
  refine m_alen (t0 := 2) Z C hM rfl (hC.at ((up3_ne _ _ (cd_r (by decide))).trans (hch))) dX2_readBlocks_12 ?_
  refine W.eq (g2 := F0 mt 13 ls [.int (nI 15)]) rfl ?_
  refine lv_istore (lv' := [(7, .int (nI 15)), (6, .ref (A (cd (k + 1) 4 0))), (0, .ref (A (cd (k + 1) 0 0))), (1, .ref (A (cd 0 3 0))), (2, .long a), (4, .long d)]) hx hb dX2_readBlocks_13 hl (by decide) rfl (fun ls hl => ?_)
  refine lv_iconst (v := nI 0) hx hb dX2_readBlocks_15 (by decide) ?_
  refine lv_istore (lv' := [(8, .int (nI 0)), (7, .int (nI 15)), (6, .ref (A (cd (k + 1) 4 0))), (0, .ref (A (cd (k + 1) 0 0))), (1, .ref (A (cd 0 3 0))), (2, .long a), (4, .long d)]) hx hb dX2_readBlocks_16 hl (by decide) rfl (fun ls hl => ?_)
  have lp_1 : ∀ (fu : Nat) (h : Hp) (y : Nat), 15 < y + fu → y ≤ 15 → CW h A tg (up3 sg (cd 0 3 0) (some (eO 4 [.int (nI ((k_rb f g ft fv sz a d (min y nb)).1)), .long ((k_rb f g ft fv sz a d (min y nb)).2.1), .int ((k_rb f g ft fv sz a d (min y nb)).2.2)]))) → cFr h0 tg h tg → ∀ (H : Heap) (locs : List Loc), MW G s0.heap.size h H → va_S (fun q => s0.heap.size ≤ q) s.heap H locs → ∀ ls : Array Slot, lv_has ls 10 [(8, .int (nI y)), (7, .int (nI 15)), (6, .ref (A (cd (k + 1) 4 0))), (0, .ref (A (cd (k + 1) 0 0))), (1, .ref (A (cd 0 3 0))), (2, .long a), (4, .long d)] → W p l e (mRm 3 76 0 0) s mt ([.ref (A (cd (k + 1) 0 0)), .ref (A (cd 0 3 0)), .long a, .long d] : List Value).toArray below meth c H locs 0 0 (MQ below (mQc G s0 (fun v h9 => (v = none ∧ CW h9 A tg (up3 sg (cd 0 3 0) (some (eO 4 [.int (nI ((k_rb f g ft fv sz a d nb).1)), .long ((k_rb f g ft fv sz a d nb).2.1), .int ((k_rb f g ft fv sz a d nb).2.2)]))) ∧ cFr h0 tg h9 tg))) ([.ref (A (cd (k + 1) 0 0)), .ref (A (cd 0 3 0)), .long a, .long d] : List Value).toArray s 0 0 (fun q => s0.heap.size ≤ q)) (F0 mt 18 ls []) := by
    intro fu
    induction fu with
    | zero => intro h y hfu _ _ _; exact absurd hfu (by omega)
    | succ fu ih =>
      intro h y hfu hy hC hF H locs hM hS ls hl
      refine lv_iload hx hb dX2_readBlocks_18 (lv_at hl 0 rfl) ?_
      refine lv_iload hx hb dX2_readBlocks_20 (lv_at hl 1 rfl) ?_
      refine lv_icmp_ge (tgt := 52) hx hb dX2_readBlocks_22 (by decide) (fun c_2 => ?_) (fun c_2 => ?_)
      · -- 22 t
        have c_2 : 15 ≤ y := (nI_leI (by decide) (by omega)).mp c_2
        exact m_vret C hM hS (Nat.le_of_ble_eq_true rfl) (Nat.le_of_ble_eq_true rfl) dX2_readBlocks_52 ⟨rfl, (by rw [show y = 15 by omega, Nat.min_eq_right hnb] at hC; exact hC), hF⟩
      · -- 22 f
        have c_2 : ¬ 15 ≤ y := fun q => c_2 ((nI_leI (by decide) (by omega)).mpr q)
        refine lv_aload hx hb dX2_readBlocks_25 (lv_at hl 2 rfl) ?_
        refine lv_iload hx hb dX2_readBlocks_27 (lv_at hl 0 rfl) ?_
        rcases Nat.lt_or_ge y nb with hyn | hyn
        · -- lt
          refine m_bald Z C hM (hC.at ((up3_ne _ _ (cd_r (by decide))).trans (hch))) y rfl (by omega) (by decide) (v := .ref (A (cd (k + 1) 14 y))) (chL_at (by omega)) dX2_readBlocks_29 ?_
          refine lv_astore (lv' := [(9, .ref (A (cd (k + 1) 14 y))), (8, .int (nI y)), (7, .int (nI 15)), (6, .ref (A (cd (k + 1) 4 0))), (0, .ref (A (cd (k + 1) 0 0))), (1, .ref (A (cd 0 3 0))), (2, .long a), (4, .long d)]) hx hb dX2_readBlocks_30 hl (by decide) rfl (fun ls hl => ?_)
          refine lv_aload hx hb dX2_readBlocks_32 (lv_at hl 0 rfl) ?_
          refine lv_ifnull hx hb dX2_readBlocks_34 ?_
          refine lv_aload hx hb dX2_readBlocks_37 (lv_at hl 0 rfl) ?_
          refine lv_aload_n hx hb dX2_readBlocks_39 rfl (lv_at hl 5 rfl) ?_
          refine lv_lload_n hx hb dX2_readBlocks_40 rfl (lv_at hl 6 rfl) ?_
          refine lv_lload hx hb dX2_readBlocks_41 (lv_at hl 7 rfl) ?_
          refine m_callVN Z C hM hS (As := [.ref (A (cd 0 3 0)), .long a, .long d]) (rest := []) (c_X1_read Z h A tg (up3 sg (cd 0 3 0) (some (eO 4 [.int (nI ((k_rb f g ft fv sz a d (min y nb)).1)), .long ((k_rb f g ft fv sz a d (min y nb)).2.1), .int ((k_rb f g ft fv sz a d (min y nb)).2.2)]))) hC k y a d (ft y) (fv y) (sz y) (bi y) (lt y) (lg y) (lv y) (f y) (g y) ((k_rb f g ft fv sz a d (min y nb)).1) ((k_rb f g ft fv sz a d (min y nb)).2.1) ((k_rb f g ft fv sz a d (min y nb)).2.2) ((up3_ne _ _ (cd_r (by decide))).trans (hb0 y (by omega))) ((up3_ne _ _ (cd_r (by decide))).trans (hb1 y (by omega))) ((up3_ne _ _ (cd_r (by decide))).trans (hb2 y (by omega))) (up3_self _ _ _) (hsz y (by omega))) yi_X1_read mn_X2_82 (hC.at ((up3_ne _ _ (cd_r (by decide))).trans (hb0 y (by omega)))) rfl ⟨Nat.le_of_ble_eq_true rfl, Nat.le_of_ble_eq_true rfl⟩ (Nat.le_of_ble_eq_true rfl) hl.1 rfl rfl dX2_readBlocks_43 ⟨Nat.le_of_ble_eq_true rfl, Nat.le_of_ble_eq_true rfl⟩ (fun v h9 H locs hv hM hS => ?_)
          obtain ⟨hv, hC9, hF8⟩ := hv
          subst hv
          have hF := hF.trans hF8
          rw [up3_up3 (x := cd 0 3 0)] at hC9
          obtain ⟨h, hM, hC, hF⟩ : ∃ h8, MW G s0.heap.size h8 H ∧ CW h8 A tg (up3 sg (cd 0 3 0) (some (eO 4 [.int (nI ((z_rs (z_bp (f y) (ft y) a d) (fun i9 => z_vl (g y) (fv y) (i9 + 1)) (((k_rb f g ft fv sz a d (min y nb)).1), ((k_rb f g ft fv sz a d (min y nb)).2.1), ((k_rb f g ft fv sz a d (min y nb)).2.2)) (sz y)).1)), .long ((z_rs (z_bp (f y) (ft y) a d) (fun i9 => z_vl (g y) (fv y) (i9 + 1)) (((k_rb f g ft fv sz a d (min y nb)).1), ((k_rb f g ft fv sz a d (min y nb)).2.1), ((k_rb f g ft fv sz a d (min y nb)).2.2)) (sz y)).2.1), .int ((z_rs (z_bp (f y) (ft y) a d) (fun i9 => z_vl (g y) (fv y) (i9 + 1)) (((k_rb f g ft fv sz a d (min y nb)).1), ((k_rb f g ft fv sz a d (min y nb)).2.1), ((k_rb f g ft fv sz a d (min y nb)).2.2)) (sz y)).2.2)]))) ∧ cFr h0 tg h8 tg := ⟨_, hM, hC9, hF⟩
          refine W.eq (g2 := F0 mt 46 ls []) rfl ?_
          refine lv_iinc (v := nI (y + 1)) (lv' := [(8, .int (nI (y + 1))), (9, .ref (A (cd (k + 1) 14 y))), (7, .int (nI 15)), (6, .ref (A (cd (k + 1) 4 0))), (0, .ref (A (cd (k + 1) 0 0))), (1, .ref (A (cd 0 3 0))), (2, .long a), (4, .long d)]) hx hb dX2_readBlocks_46 hl (k := 1) rfl (nI_add _ _) (by decide) rfl (fun ls hl => ?_)
          refine lv_goto (tgt := 18) hx hb dX2_readBlocks_49 (by decide) ?_
          have e9 : k_rb f g ft fv sz a d (min (y + 1) nb) = z_rs (z_bp (f y) (ft y) a d) (fun r => z_vl (g y) (fv y) (r + 1)) (k_rb f g ft fv sz a d (min y nb)) (sz y) := by rw [Nat.min_eq_left (by omega), Nat.min_eq_left (by omega)]; rfl
          have hC8 : CW h A tg (up3 sg (cd 0 3 0) (some (eO 4 [.int (nI ((k_rb f g ft fv sz a d (min (y + 1) nb)).1)), .long ((k_rb f g ft fv sz a d (min (y + 1) nb)).2.1), .int ((k_rb f g ft fv sz a d (min (y + 1) nb)).2.2)]))) := by rw [e9]; exact hC
          exact ih h (y + 1) (by omega) (by omega) hC8 hF H locs hM hS ls (lv_sub hl [0, 2, 3, 4, 5, 6, 7] rfl)
        · -- ge
          refine m_bald Z C hM (hC.at ((up3_ne _ _ (cd_r (by decide))).trans (hch))) y rfl (by omega) (by decide) (v := .null) (chL_no (by omega)) dX2_readBlocks_29 ?_
          refine lv_astoreN (lv' := [(9, .null), (8, .int (nI y)), (7, .int (nI 15)), (6, .ref (A (cd (k + 1) 4 0))), (0, .ref (A (cd (k + 1) 0 0))), (1, .ref (A (cd 0 3 0))), (2, .long a), (4, .long d)]) hx hb dX2_readBlocks_30 hl (by decide) rfl (fun ls hl => ?_)
          refine lv_aloadN hx hb dX2_readBlocks_32 (lv_at hl 0 rfl) ?_
          refine lv_ifnullN (tgt := 46) hx hb dX2_readBlocks_34 (by decide) ?_
          refine lv_iinc (v := nI (y + 1)) (lv' := [(8, .int (nI (y + 1))), (9, .null), (7, .int (nI 15)), (6, .ref (A (cd (k + 1) 4 0))), (0, .ref (A (cd (k + 1) 0 0))), (1, .ref (A (cd 0 3 0))), (2, .long a), (4, .long d)]) hx hb dX2_readBlocks_46 hl (k := 1) rfl (nI_add _ _) (by decide) rfl (fun ls hl => ?_)
          refine lv_goto (tgt := 18) hx hb dX2_readBlocks_49 (by decide) ?_
          have e9 : k_rb f g ft fv sz a d (min (y + 1) nb) = k_rb f g ft fv sz a d (min y nb) := by rw [Nat.min_eq_right (by omega), Nat.min_eq_right (by omega)]
          have hC8 : CW h A tg (up3 sg (cd 0 3 0) (some (eO 4 [.int (nI ((k_rb f g ft fv sz a d (min (y + 1) nb)).1)), .long ((k_rb f g ft fv sz a d (min (y + 1) nb)).2.1), .int ((k_rb f g ft fv sz a d (min (y + 1) nb)).2.2)]))) := by rw [e9]; exact hC
          exact ih h (y + 1) (by omega) (by omega) hC8 hF H locs hM hS ls (lv_sub hl [0, 2, 3, 4, 5, 6, 7] rfl)
  exact lp_1 16 h 0 (by omega) (by omega) (by rw [Nat.zero_min]; exact hC) hF H locs hM hS ls (lv_sub hl [0, 1, 2, 3, 4, 5, 6] rfl)
