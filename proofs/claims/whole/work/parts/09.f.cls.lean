set_option maxRecDepth 100000 in
set_option maxHeartbeats 4000000 in
theorem c_X2_toBlockA {l : Launch} {G : mG} {a0 : Array Value} {s0 : State} (Z : mZ l G a0 s0) (h0 : Hp) (A : Cd → Nat) (tg : Nat → Cd) (sg : Cd → Option va_E) (hC : CW h0 A tg sg) (k : Nat) (j : Nat) (ti : Int64) (x : Int32) (nm : Int32) (ho : Int32) (n : Nat) (av : Value) (nb : Nat) (ft : Int64) (fv : Int32) (sz : Nat) (bi : Nat) (lt : Int64) (lg : Int64) (lv : Int32) (f : Nat → Int64) (g : Nat → Int32) (hs0 : sg (cd (k + 1) 0 0) = some (eO 2 [.int nm, .int ho, .ref (A (cd (k + 1) 1 0)), .ref (A (cd (k + 1) 2 0)), .ref (A (cd (k + 1) 3 0)), .ref (A (cd (k + 1) 4 0)), .ref (A (cd (k + 1) 5 0)), .int (nI n), av])) (hch : sg (cd (k + 1) 4 0) = some (eB G 15 (chL A k nb))) (hb0 : sg (cd (k + 1) 14 j) = some (eO 1 [.long ft, .int fv, .ref (A (cd (k + 1) 15 j)), .ref (A (cd (k + 1) 16 j)), .int (nI sz), .int (nI bi), .long lt, .long lg, .int lv])) (hb1 : sg (cd (k + 1) 15 j) = some (eL G 8 (f))) (hb2 : sg (cd (k + 1) 16 j) = some (eI G 8 (g))) (hj : j = n / 8) (hjn : j < nb) (hn : n < 120) (hs : sz < 8) : mM l G s0 yX2_toBlock cX2_toBlock 6 none 2 47 0 0 h0 [.ref (A (cd (k + 1) 0 0)), .long ti, .int x] (fun v h9 => (v = none ∧ CW h9 A tg (up3 (up3 (up3 sg (cd (k + 1) 15 j) (some (eL G 8 (va_up f sz (ti - lt - lg))))) (cd (k + 1) 16 j) (some (eI G 8 (va_up g sz (x - lv))))) (cd (k + 1) 14 j) (some (eO 1 [.long ft, .int fv, .ref (A (cd (k + 1) 15 j)), .ref (A (cd (k + 1) 16 j)), .int (nI (sz + 1)), .int (nI (bi + (z_tb (ti - lt - lg) + z_vb (x - lv)))), .long ti, .long (ti - lt), .int x]))) ∧ cFr h0 tg h9 tg)) := by
  refine mM_in RX2 "toBlock" rfl rfl (by decide +kernel) (Nat.le_of_ble_eq_true rfl) ?_
  intro p e s mt below meth c H locs C hM hS ls hl
  have hx := C.1
  have hb := C.2.1
  have hown := C.2.2.2.1
  have hE := C.2.2.2.2.2.2.1
  have hl : lv_has ls 6 [(0, .ref (A (cd (k + 1) 0 0))), (1, .long ti), (3, .int x)] := hl
  have hF : cFr h0 tg h0 tg := cFr.rf
  obtain ⟨h, hM, hC, hF⟩ : ∃ h9, MW G s0.heap.size h9 H ∧ CW h9 A tg sg ∧ cFr h0 tg h9 tg := ⟨_, hM, hC, hF⟩
  refine lv_aload_n hx hb dX2_toBlock_0 rfl (lv_at hl 0 rfl) ?_
  refine m_get Z C hM (hC.at (hs0)) K_X2 7 (by decide) fl_X2_42 (v := .int (nI n)) rfl dX2_toBlock_1 ?_
  refine lv_bipush (v := nI 8) hx hb dX2_toBlock_4 (by decide) ?_
  refine n_idiv hx hb (by omega) (by decide) (by decide) dX2_toBlock_6 ?_
  refine lv_istore (lv' := [(4, .int (nI (n / 8))), (0, .ref (A (cd (k + 1) 0 0))), (1, .long ti), (3, .int x)]) hx hb dX2_toBlock_7 hl (by decide) rfl (fun ls hl => ?_)
  refine lv_iload hx hb dX2_toBlock_9 (lv_at hl 0 rfl) ?_
  refine lv_aload_n hx hb dX2_toBlock_11 rfl (lv_at hl 1 rfl) ?_
  refine m_get Z C hM (hC.at (hs0)) K_X2 5 (by decide) fl_X2_31 (v := .ref (A (cd (k + 1) 4 0))) rfl dX2_toBlock_12 ?_
  refine m_alen (t0 := 2) Z C hM rfl (hC.at (hch)) dX2_toBlock_15 ?_
  refine W.eq (g2 := F0 mt 16 ls [.int (nI 15), .int (nI (n / 8))]) rfl ?_
  refine lv_icmp_lt (tgt := 20) hx hb dX2_toBlock_16 (by decide) (fun c_1 => ?_) (fun c_1 => ?_)
  · -- 16 t
    have c_1 : n / 8 < 15 := (nI_ltI (by omega) (by decide)).mp c_1
    refine lv_aload_n hx hb dX2_toBlock_20 rfl (lv_at hl 1 rfl) ?_
    refine m_get Z C hM (hC.at (hs0)) K_X2 5 (by decide) fl_X2_31 (v := .ref (A (cd (k + 1) 4 0))) rfl dX2_toBlock_21 ?_
    refine lv_iload hx hb dX2_toBlock_24 (lv_at hl 0 rfl) ?_
    refine m_bald Z C hM (hC.at (hch)) j (congrArg nI hj.symm) (by omega) (by decide) (v := .ref (A (cd (k + 1) 14 j))) (chL_at (by omega)) dX2_toBlock_26 ?_
    refine lv_astore (lv' := [(5, .ref (A (cd (k + 1) 14 j))), (4, .int (nI (n / 8))), (0, .ref (A (cd (k + 1) 0 0))), (1, .long ti), (3, .int x)]) hx hb dX2_toBlock_27 hl (by decide) rfl (fun ls hl => ?_)
    refine lv_aload hx hb dX2_toBlock_29 (lv_at hl 0 rfl) ?_
    refine lv_ifnonnull (tgt := 53) hx hb dX2_toBlock_31 (by decide) ?_
    refine lv_aload hx hb dX2_toBlock_53 (lv_at hl 0 rfl) ?_
    refine lv_lload_n hx hb dX2_toBlock_55 rfl (lv_at hl 3 rfl) ?_
    refine lv_iload_n hx hb dX2_toBlock_56 rfl (lv_at hl 4 rfl) ?_
    refine m_callVN Z C hM hS (As := [.long ti, .int x]) (rest := []) (c_X1_append Z h A tg sg hC k j ti x ft fv sz bi lt lg lv f g (hb0) (hb1) (hb2) hs) yi_X1_append mn_X2_71 (hC.at (hb0)) rfl ⟨Nat.le_of_ble_eq_true rfl, Nat.le_of_ble_eq_true rfl⟩ (Nat.le_of_ble_eq_true rfl) hl.1 rfl rfl dX2_toBlock_57 ⟨Nat.le_of_ble_eq_true rfl, Nat.le_of_ble_eq_true rfl⟩ (fun v h9 H locs hv hM hS => ?_)
    obtain ⟨hv, hC9, hF8⟩ := hv
    subst hv
    have hF := hF.trans hF8
    obtain ⟨h, hM, hC, hF⟩ : ∃ h8, MW G s0.heap.size h8 H ∧ CW h8 A tg (up3 (up3 (up3 sg (cd (k + 1) 15 j) (some (eL G 8 (va_up f sz (ti - lt - lg))))) (cd (k + 1) 16 j) (some (eI G 8 (va_up g sz (x - lv))))) (cd (k + 1) 14 j) (some (eO 1 [.long ft, .int fv, .ref (A (cd (k + 1) 15 j)), .ref (A (cd (k + 1) 16 j)), .int (nI (sz + 1)), .int (nI (bi + (z_tb (ti - lt - lg) + z_vb (x - lv)))), .long ti, .long (ti - lt), .int x]))) ∧ cFr h0 tg h8 tg := ⟨_, hM, hC9, hF⟩
    refine W.eq (g2 := F0 mt 60 ls []) rfl ?_
    exact m_vret C hM hS (Nat.le_of_ble_eq_true rfl) (Nat.le_of_ble_eq_true rfl) dX2_toBlock_60 ⟨rfl, hC, hF⟩
  · -- 16 f
    have c_1 : ¬ n / 8 < 15 := fun q => c_1 ((nI_ltI (by omega) (by decide)).mpr q)
    exact absurd c_1 (by omega)
