set_option maxRecDepth 100000 in
set_option maxHeartbeats 4000000 in
theorem c_X2_blockBits {l : Launch} {G : mG} {a0 : Array Value} {s0 : State} (Z : mZ l G a0 s0) (h0 : Hp) (A : Cd → Nat) (tg : Nat → Cd) (sg : Cd → Option va_E) (hC : CW h0 A tg sg) (k : Nat) (nm : Int32) (ho : Int32) (n : Nat) (av : Value) (nb : Nat) (ft : Nat → Int64) (fv : Nat → Int32) (sz : Nat → Nat) (bi : Nat → Nat) (lt : Nat → Int64) (lg : Nat → Int64) (lv : Nat → Int32) (f : Nat → Nat → Int64) (g : Nat → Nat → Int32) (hs0 : sg (cd (k + 1) 0 0) = some (eO 2 [.int nm, .int ho, .ref (A (cd (k + 1) 1 0)), .ref (A (cd (k + 1) 2 0)), .ref (A (cd (k + 1) 3 0)), .ref (A (cd (k + 1) 4 0)), .ref (A (cd (k + 1) 5 0)), .int (nI n), av])) (hch : sg (cd (k + 1) 4 0) = some (eB G 15 (chL A k nb))) (hb0 : ∀ j : Nat, j < nb → sg (cd (k + 1) 14 j) = some (eO 1 [.long (ft j), .int (fv j), .ref (A (cd (k + 1) 15 j)), .ref (A (cd (k + 1) 16 j)), .int (nI (sz j)), .int (nI (bi j)), .long (lt j), .long (lg j), .int (lv j)])) (hb1 : ∀ j : Nat, j < nb → sg (cd (k + 1) 15 j) = some (eL G 8 (f j))) (hb2 : ∀ j : Nat, j < nb → sg (cd (k + 1) 16 j) = some (eI G 8 (g j))) (hnb : nb ≤ 15) (hbi : ∀ j : Nat, j < nb → bi j < 1000000) : mM l G s0 yX2_blockBits cX2_blockBits 7 (some .long) 0 0 0 0 h0 [.ref (A (cd (k + 1) 0 0))] (fun v h9 => (v = some (.long (lN (z_su bi nb))) ∧ h9 = h0)) := by
  refine mM_in RX2 "blockBits" rfl rfl (by decide +kernel) (Nat.le_of_ble_eq_true rfl) ?_
  intro p e s mt below meth c H locs C hM hS ls hl
  have hx := C.1
  have hb := C.2.1
  have hown := C.2.2.2.1
  have hE := C.2.2.2.2.2.2.1
  have hl : lv_has ls 7 [(0, .ref (A (cd (k + 1) 0 0)))] := hl
  obtain ⟨h, hh⟩ : ∃ z, z = h0 := ⟨_, rfl⟩
  rw [← hh] at hM hC
  refine lv_lconst (v := lN 0) hx hb dX2_blockBits_0 (by decide) ?_
  refine lv_lstore_n (lv' := [(1, .long (lN 0)), (0, .ref (A (cd (k + 1) 0 0)))]) hx hb dX2_blockBits_1 rfl hl (by decide) rfl (fun ls hl => ?_)
  refine lv_aload_n hx hb dX2_blockBits_2 rfl (lv_at hl 1 rfl) ?_
  refine m_get Z C hM (hC.at (hs0)) K_X2 5 (by decide) fl_X2_31 (v := .ref (A (cd (k + 1) 4 0))) rfl dX2_blockBits_3 ?_
  refine lv_astore_n (lv' := [(3, .ref (A (cd (k + 1) 4 0))), (1, .long (lN 0)), (0, .ref (A (cd (k + 1) 0 0)))]) hx hb dX2_blockBits_6 rfl hl (by decide) rfl (fun ls hl => ?_)
  refine lv_aload_n hx hb dX2_blockBits_7 rfl (lv_at hl 0 rfl) ?_
  refine m_alen (t0 := 2) Z C hM rfl (hC.at (hch)) dX2_blockBits_8 ?_
  refine W.eq (g2 := F0 mt 9 ls [.int (nI 15)]) rfl ?_
  refine lv_istore (lv' := [(4, .int (nI 15)), (3, .ref (A (cd (k + 1) 4 0))), (1, .long (lN 0)), (0, .ref (A (cd (k + 1) 0 0)))]) hx hb dX2_blockBits_9 hl (by decide) rfl (fun ls hl => ?_)
  refine lv_iconst (v := nI 0) hx hb dX2_blockBits_11 (by decide) ?_
  refine lv_istore (lv' := [(5, .int (nI 0)), (4, .int (nI 15)), (3, .ref (A (cd (k + 1) 4 0))), (1, .long (lN 0)), (0, .ref (A (cd (k + 1) 0 0)))]) hx hb dX2_blockBits_12 hl (by decide) rfl (fun ls hl => ?_)
  have lp_1 : ∀ (fu : Nat) (y : Nat), 15 < y + fu → y ≤ 15 → ∀ (H : Heap) (locs : List Loc), MW G s0.heap.size h H → va_S (fun q => s0.heap.size ≤ q) s.heap H locs → ∀ ls : Array Slot, lv_has ls 7 [(5, .int (nI y)), (4, .int (nI 15)), (3, .ref (A (cd (k + 1) 4 0))), (1, .long (lN (z_su bi (min y nb)))), (0, .ref (A (cd (k + 1) 0 0)))] → W p l e (mRm 0 0 0 0) s mt ([.ref (A (cd (k + 1) 0 0))] : List Value).toArray below meth c H locs 0 0 (MQ below (mQc G s0 (fun v h9 => (v = some (.long (lN (z_su bi nb))) ∧ h9 = h0))) ([.ref (A (cd (k + 1) 0 0))] : List Value).toArray s 0 0 (fun q => s0.heap.size ≤ q)) (F0 mt 14 ls []) := by
    intro fu
    induction fu with
    | zero => intro y hfu _; exact absurd hfu (by omega)
    | succ fu ih =>
      intro y hfu hy H locs hM hS ls hl
      refine lv_iload hx hb dX2_blockBits_14 (lv_at hl 0 rfl) ?_
      refine lv_iload hx hb dX2_blockBits_16 (lv_at hl 1 rfl) ?_
      refine lv_icmp_ge (tgt := 47) hx hb dX2_blockBits_18 (by decide) (fun c_2 => ?_) (fun c_2 => ?_)
      · -- 18 t
        have c_2 : 15 ≤ y := (nI_leI (by decide) (by omega)).mp c_2
        refine lv_lload_n hx hb dX2_blockBits_47 rfl (lv_at hl 3 rfl) ?_
        exact m_lret C hM hS (Nat.le_of_ble_eq_true rfl) (Nat.le_of_ble_eq_true rfl) dX2_blockBits_48 ⟨by rw [show y = 15 by omega, Nat.min_eq_right hnb], hh⟩
      · -- 18 f
        have c_2 : ¬ 15 ≤ y := fun q => c_2 ((nI_leI (by decide) (by omega)).mpr q)
        refine lv_aload_n hx hb dX2_blockBits_21 rfl (lv_at hl 2 rfl) ?_
        refine lv_iload hx hb dX2_blockBits_22 (lv_at hl 0 rfl) ?_
        rcases Nat.lt_or_ge y nb with hyn | hyn
        · -- lt
          refine m_bald Z C hM (hC.at (hch)) y rfl (by omega) (by decide) (v := .ref (A (cd (k + 1) 14 y))) (chL_at (by omega)) dX2_blockBits_24 ?_
          have hby := hbi y (by omega)
          refine lv_astore (lv' := [(6, .ref (A (cd (k + 1) 14 y))), (5, .int (nI y)), (4, .int (nI 15)), (3, .ref (A (cd (k + 1) 4 0))), (1, .long (lN (z_su bi (min y nb)))), (0, .ref (A (cd (k + 1) 0 0)))]) hx hb dX2_blockBits_25 hl (by decide) rfl (fun ls hl => ?_)
          refine lv_aload hx hb dX2_blockBits_27 (lv_at hl 0 rfl) ?_
          refine lv_ifnull hx hb dX2_blockBits_29 ?_
          refine lv_lload_n hx hb dX2_blockBits_32 rfl (lv_at hl 4 rfl) ?_
          refine lv_aload hx hb dX2_blockBits_33 (lv_at hl 0 rfl) ?_
          refine m_getN Z C hM (hC.at (hb0 y (by omega))) K_X1 5 (by decide) fn_X2_74 (v := .int (nI (bi y))) rfl dX2_blockBits_35 ?_
          refine n_i2l hx hb (by omega) dX2_blockBits_38 ?_
          refine n_ladd hx hb dX2_blockBits_39 ?_
          refine lv_lstore_n (lv' := [(1, .long (lN (z_su bi (min y nb) + bi y))), (6, .ref (A (cd (k + 1) 14 y))), (5, .int (nI y)), (4, .int (nI 15)), (3, .ref (A (cd (k + 1) 4 0))), (0, .ref (A (cd (k + 1) 0 0)))]) hx hb dX2_blockBits_40 rfl hl (by decide) rfl (fun ls hl => ?_)
          refine lv_iinc (v := nI (y + 1)) (lv' := [(5, .int (nI (y + 1))), (1, .long (lN (z_su bi (min y nb) + bi y))), (6, .ref (A (cd (k + 1) 14 y))), (4, .int (nI 15)), (3, .ref (A (cd (k + 1) 4 0))), (0, .ref (A (cd (k + 1) 0 0)))]) hx hb dX2_blockBits_41 hl (k := 2) rfl (nI_add _ _) (by decide) rfl (fun ls hl => ?_)
          refine lv_goto (tgt := 14) hx hb dX2_blockBits_44 (by decide) ?_
          have e9 : z_su bi (min (y + 1) nb) = z_su bi (min y nb) + bi y := by rw [Nat.min_eq_left (by omega), Nat.min_eq_left (by omega)]; rfl
          rw [← e9] at hl
          exact ih (y + 1) (by omega) (by omega) H locs hM hS ls (lv_sub hl [0, 3, 4, 1, 5] rfl)
        · -- ge
          refine m_bald Z C hM (hC.at (hch)) y rfl (by omega) (by decide) (v := .null) (chL_no (by omega)) dX2_blockBits_24 ?_
          refine lv_astoreN (lv' := [(6, .null), (5, .int (nI y)), (4, .int (nI 15)), (3, .ref (A (cd (k + 1) 4 0))), (1, .long (lN (z_su bi (min y nb)))), (0, .ref (A (cd (k + 1) 0 0)))]) hx hb dX2_blockBits_25 hl (by decide) rfl (fun ls hl => ?_)
          refine lv_aloadN hx hb dX2_blockBits_27 (lv_at hl 0 rfl) ?_
          refine lv_ifnullN (tgt := 41) hx hb dX2_blockBits_29 (by decide) ?_
          refine lv_iinc (v := nI (y + 1)) (lv' := [(5, .int (nI (y + 1))), (6, .null), (4, .int (nI 15)), (3, .ref (A (cd (k + 1) 4 0))), (1, .long (lN (z_su bi (min y nb)))), (0, .ref (A (cd (k + 1) 0 0)))]) hx hb dX2_blockBits_41 hl (k := 1) rfl (nI_add _ _) (by decide) rfl (fun ls hl => ?_)
          refine lv_goto (tgt := 14) hx hb dX2_blockBits_44 (by decide) ?_
          have e9 : z_su bi (min (y + 1) nb) = z_su bi (min y nb) := by rw [Nat.min_eq_right (by omega), Nat.min_eq_right (by omega)]
          rw [← e9] at hl
          exact ih (y + 1) (by omega) (by omega) H locs hM hS ls (lv_sub hl [0, 2, 3, 4, 5] rfl)
  exact lp_1 16 0 (by omega) (by omega) H locs hM hS ls (lv_sub hl [0, 1, 2, 3, 4] rfl)
