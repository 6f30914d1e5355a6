set_option maxRecDepth 100000 in
set_option maxHeartbeats 4000000 in
theorem c_X2_toBlockN {l : Launch} {G : mG} {a0 : Array Value} {s0 : State} (Z : mZ l G a0 s0) (h0 : Hp) (A : Cd → Nat) (tg : Nat → Cd) (sg : Cd → Option va_E) (hC : CW h0 A tg sg) (k : Nat) (ti : Int64) (x : Int32) (nm : Int32) (ho : Int32) (n : Nat) (av : Value) (nb : Nat) (hs0 : sg (cd (k + 1) 0 0) = some (eO 2 [.int nm, .int ho, .ref (A (cd (k + 1) 1 0)), .ref (A (cd (k + 1) 2 0)), .ref (A (cd (k + 1) 3 0)), .ref (A (cd (k + 1) 4 0)), .ref (A (cd (k + 1) 5 0)), .int (nI n), av])) (hch : sg (cd (k + 1) 4 0) = some (eB G 15 (chL A k nb))) (hnb : nb = n / 8) (hn : n < 120) : mM l G s0 yX2_toBlock cX2_toBlock 6 none 2 47 3 25 h0 [.ref (A (cd (k + 1) 0 0)), .long ti, .int x] (fun v h9 => v = none ∧ ∃ (A9 : Cd → Nat) (tg9 : Nat → Cd), (∀ y : Cd, y ≠ cd (k + 1) 14 nb → y ≠ cd (k + 1) 15 nb → y ≠ cd (k + 1) 16 nb → A9 y = A y) ∧ CW h9 A9 tg9 (up3 (up3 (up3 (up3 sg (cd (k + 1) 4 0) (some (eB G 15 (chL A9 k (nb + 1))))) (cd (k + 1) 14 nb) (some (eO 1 [.long ti, .int x, .ref (A9 (cd (k + 1) 15 nb)), .ref (A9 (cd (k + 1) 16 nb)), .int (nI 1), .int (nI 64), .long ti, .long (lN 0), .int x]))) (cd (k + 1) 15 nb) (some (eL G 8 (fun _ => 0)))) (cd (k + 1) 16 nb) (some (eI G 8 (fun _ => 0)))) ∧ cFr h0 tg h9 tg9) := by
  refine mM_in RX2 "toBlock" rfl rfl (by decide +kernel) (Nat.le_of_ble_eq_true rfl) ?_
  intro p e s mt below meth c H locs C hM hS ls hl
  have hx := C.1
  have hb := C.2.1
  have hown := C.2.2.2.1
  have hE := C.2.2.2.2.2.2.1
  have hl : lv_has ls 6 [(0, .ref (A (cd (k + 1) 0 0))), (1, .long ti), (3, .int x)] := hl
  have hF : cFr h0 tg h0 tg := cFr.rf
  obtain ⟨h, hM, hC, hF⟩ : ∃ h9, MW G s0.heap.size h9 H ∧ CW h9 A tg sg ∧ cFr h0 tg h9 tg := ⟨_, hM, hC, hF⟩
  refine lv_aload_n hx hb dX2_toBlock_0 rfl (lv_at hl 0 rfl) ?_
  refine m_get Z C hM (hC.at (hs0)) K_X2 7 (by decide) fl_X2_42 (v := .int (nI n)) rfl dX2_toBlock_1 ?_
  refine lv_bipush (v := nI 8) hx hb dX2_toBlock_4 (by decide) ?_
  refine n_idiv hx hb (by omega) (by decide) (by decide) dX2_toBlock_6 ?_
  refine lv_istore (lv' := [(4, .int (nI (n / 8))), (0, .ref (A (cd (k + 1) 0 0))), (1, .long ti), (3, .int x)]) hx hb dX2_toBlock_7 hl (by decide) rfl (fun ls hl => ?_)
  refine lv_iload hx hb dX2_toBlock_9 (lv_at hl 0 rfl) ?_
  refine lv_aload_n hx hb dX2_toBlock_11 rfl (lv_at hl 1 rfl) ?_
  refine m_get Z C hM (hC.at (hs0)) K_X2 5 (by decide) fl_X2_31 (v := .ref (A (cd (k + 1) 4 0))) rfl dX2_toBlock_12 ?_
  refine m_alen (t0 := 2) Z C hM rfl (hC.at (hch)) dX2_toBlock_15 ?_
  refine W.eq (g2 := F0 mt 16 ls [.int (nI 15), .int (nI (n / 8))]) rfl ?_
  refine lv_icmp_lt (tgt := 20) hx hb dX2_toBlock_16 (by decide) (fun c_1 => ?_) (fun c_1 => ?_)
  · -- 16 t
    have c_1 : n / 8 < 15 := (nI_ltI (by omega) (by decide)).mp c_1
    refine lv_aload_n hx hb dX2_toBlock_20 rfl (lv_at hl 1 rfl) ?_
    refine m_get Z C hM (hC.at (hs0)) K_X2 5 (by decide) fl_X2_31 (v := .ref (A (cd (k + 1) 4 0))) rfl dX2_toBlock_21 ?_
    refine lv_iload hx hb dX2_toBlock_24 (lv_at hl 0 rfl) ?_
    refine m_bald Z C hM (hC.at (hch)) nb (congrArg nI hnb.symm) (by omega) (by decide) (v := .null) (chL_no (by omega)) dX2_toBlock_26 ?_
    refine lv_astoreN (lv' := [(5, .null), (4, .int (nI (n / 8))), (0, .ref (A (cd (k + 1) 0 0))), (1, .long ti), (3, .int x)]) hx hb dX2_toBlock_27 hl (by decide) rfl (fun ls hl => ?_)
    refine lv_aloadN hx hb dX2_toBlock_29 (lv_at hl 0 rfl) ?_
    refine lv_ifnonnullN hx hb dX2_toBlock_31 ?_
    refine lv_aload_n hx hb dX2_toBlock_34 rfl (lv_at hl 2 rfl) ?_
    refine m_get Z C hM (hC.at (hs0)) K_X2 5 (by decide) fl_X2_31 (v := .ref (A (cd (k + 1) 4 0))) rfl dX2_toBlock_35 ?_
    refine lv_iload hx hb dX2_toBlock_38 (lv_at hl 1 rfl) ?_
    refine m_new Z C hM hS K_X1 cl_X2_29 ci_X1 cn_X1 (fs := [.long 0, .int 0, .null, .null, .int 0, .int 0, .long 0, .long 0, .int 0]) (fun j hj => match j, hj with | 0, _ => rfl | 1, _ => rfl | 2, _ => rfl | 3, _ => rfl | 4, _ => rfl | 5, _ => rfl | 6, _ => rfl | 7, _ => rfl | 8, _ => rfl | n + 9, z => absurd z (by omega)) (Nat.le_of_ble_eq_true rfl) (Nat.le_of_ble_eq_true rfl) dX2_toBlock_40 (fun qn H hq hM hS => ?_)
    have hQ0 := hC.out hq
    have hq0 : qn ∉ h0.1 := fun z => hq (hF qn z).1
    obtain ⟨h, hM, hC, hF, hX_q⟩ : ∃ h9, MW G s0.heap.size h9 H ∧ CW h9 A tg (sg) ∧ cFr h0 tg h9 tg ∧ hat h9 qn (eO 1 [.long 0, .int 0, .null, .null, .int 0, .int 0, .long 0, .long 0, .int 0]) := ⟨_, hM, hC.keep hq, hF.keep hq _, hat_new⟩
    refine lv_dup hx hb dX2_toBlock_43 rfl ?_
    refine lv_lload_n hx hb dX2_toBlock_44 rfl (lv_at hl 3 rfl) ?_
    refine lv_iload_n hx hb dX2_toBlock_45 rfl (lv_at hl 4 rfl) ?_
    refine m_callIN Z C hM hS (As := [.long ti, .int x]) (rest := [.ref qn, .int (nI (n / 8)), .ref (A (cd (k + 1) 4 0))]) (c_X1_init Z h qn ti x hX_q) yi_X1_init mn_X2_69 ⟨Nat.le_of_ble_eq_true rfl, Nat.le_of_ble_eq_true rfl⟩ (Nat.le_of_ble_eq_true rfl) hl.1 rfl rfl dX2_toBlock_46 ⟨Nat.le_of_ble_eq_true rfl, Nat.le_of_ble_eq_true rfl⟩ (fun v h9 H locs hv hM hS => ?_)
    have hX_q0 := hX_q
    obtain ⟨hv, t1, t2, hX_q, hX_1, hX_2, hf1, hf2, hn12, hFr9⟩ := hv
    subst hv
    have hQ1 := hC.out hf1
    have hQ2 := hC.out hf2
    have hq1 : t1 ∉ h0.1 := fun z => hf1 (hF t1 z).1
    have hq2 : t2 ∉ h0.1 := fun z => hf2 (hF t2 z).1
    have hn1 : qn ≠ t1 := fun z => hf1 (z ▸ hX_q0.1)
    have hn2 : qn ≠ t2 := fun z => hf2 (z ▸ hX_q0.1)
    refine W.eq (g2 := F0 mt 49 ls [.ref qn, .int (nI (n / 8)), .ref (A (cd (k + 1) 4 0))]) rfl ?_
    obtain ⟨h, hM, hC, hF, hX_q, hX_1, hX_2⟩ : ∃ h8, MW G s0.heap.size h8 H ∧ CW h8 A tg (sg) ∧ cFr h0 tg h8 tg ∧ hat h8 qn (eO 1 [.long ti, .int x, .ref t1, .ref t2, .int (nI 1), .int (nI 64), .long ti, .long (lN 0), .int x]) ∧ hat h8 t1 (eL G 8 (fun _ => 0)) ∧ hat h8 t2 (eI G 8 (fun _ => 0)) := ⟨_, hM, hC.keepN hFr9 hQ0, hF.keepN hFr9 hq0, hX_q, hX_1, hX_2⟩
    refine m_bast Z C hM hS (hC.at (hch)) hX_q nb (congrArg nI hnb.symm) (by omega) (by decide) dX2_toBlock_49 (fun H locs hM hS => ?_)
    have hC9 := hC.put (hch) (eB G 15 (va_up (chL A k nb) nb (some qn)))
    have hF9 := hF.put hC (hch) (cd_r (by decide)) (eB G 15 (va_up (chL A k nb) nb (some qn)))
    have hX_q9 := hat_put_ne (e := eB G 15 (va_up (chL A k nb) nb (some qn))) hX_q (fun z => hQ0 _ _ (hch) z.symm)
    have hX_19 := hat_put_ne (e := eB G 15 (va_up (chL A k nb) nb (some qn))) hX_1 (fun z => hQ1 _ _ (hch) z.symm)
    have hX_29 := hat_put_ne (e := eB G 15 (va_up (chL A k nb) nb (some qn))) hX_2 (fun z => hQ2 _ _ (hch) z.symm)
    obtain ⟨h, hM, hC, hF, hX_q, hX_1, hX_2⟩ : ∃ h9, MW G s0.heap.size h9 H ∧ CW h9 A tg (up3 sg (cd (k + 1) 4 0) (some (eB G 15 (va_up (chL A k nb) nb (some qn))))) ∧ cFr h0 tg h9 tg ∧ hat h9 qn (eO 1 [.long ti, .int x, .ref t1, .ref t2, .int (nI 1), .int (nI 64), .long ti, .long (lN 0), .int x]) ∧ hat h9 t1 (eL G 8 (fun _ => 0)) ∧ hat h9 t2 (eI G 8 (fun _ => 0)) := ⟨_, hM, hC9, hF9, hX_q9, hX_19, hX_29⟩
    refine lv_goto (tgt := 60) hx hb dX2_toBlock_50 (by decide) ?_
    have hL0 := up3_live (v := some (eB G 15 (va_up (chL A k nb) nb (some qn)))) hch hQ0
    have hL1 := up3_live (v := some (eB G 15 (va_up (chL A k nb) nb (some qn)))) hch hQ1
    have hL2 := up3_live (v := some (eB G 15 (va_up (chL A k nb) nb (some qn)))) hch hQ2
    have hC1 := hC.name hX_q hL0 (cd (k + 1) 14 nb)
    have hC2 := hC1.name hX_1 (up3_out hL1 hn1) (cd (k + 1) 15 nb)
    have hC3 := hC2.name hX_2 (up3_out (up3_out hL2 hn2) hn12) (cd (k + 1) 16 nb)
    have hF3 := ((hF.name hq0 (cd (k + 1) 14 nb)).name hq1 (cd (k + 1) 15 nb)).name hq2 (cd (k + 1) 16 nb)
    obtain ⟨A9, eA9⟩ : ∃ z, z = up3 (up3 (up3 A (cd (k + 1) 14 nb) qn) (cd (k + 1) 15 nb) t1) (cd (k + 1) 16 nb) t2 := ⟨_, rfl⟩
    rw [← eA9] at hC3
    have eA1 : A9 (cd (k + 1) 14 nb) = qn := by rw [eA9, up3_ne _ _ (cd_r (by decide)), up3_ne _ _ (cd_r (by decide)), up3_self]
    have eA2 : A9 (cd (k + 1) 15 nb) = t1 := by rw [eA9, up3_ne _ _ (cd_r (by decide)), up3_self]
    have eA3 : A9 (cd (k + 1) 16 nb) = t2 := by rw [eA9, up3_self]
    have eA : ∀ y : Cd, y ≠ cd (k + 1) 14 nb → y ≠ cd (k + 1) 15 nb → y ≠ cd (k + 1) 16 nb → A9 y = A y := fun y n1 n2 n3 => by rw [eA9, up3_ne _ _ n3, up3_ne _ _ n2, up3_ne _ _ n1]
    exact m_vret C hM hS (Nat.le_of_ble_eq_true rfl) (Nat.le_of_ble_eq_true rfl) dX2_toBlock_60 ⟨rfl, A9, _, eA, (by rw [← chL_up (A := A) (b := qn) (fun i hi => eA _ (cd_j (by omega)) (cd_r (by decide)) (cd_r (by decide))) eA1, eA2, eA3]; exact hC3), hF3⟩
  · -- 16 f
    have c_1 : ¬ n / 8 < 15 := fun q => c_1 ((nI_ltI (by omega) (by decide)).mpr q)
    exact absurd c_1 (by omega)
