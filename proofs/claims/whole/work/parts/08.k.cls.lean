set_option maxRecDepth 100000 in
set_option maxHeartbeats 4000000 in
theorem c_X2_sortIn {l : Launch} {G : mG} {a0 : Array Value} {s0 : State} (Z : mZ l G a0 s0) (h0 : Hp) (A : Cd → Nat) (tg : Nat → Cd) (sg : Cd → Option va_E) (hC : CW h0 A tg sg) (k : Nat) (x : Int32) (nm : Int32) (ho : Int32) (n : Nat) (av : Value) (S : Nat → Int32) (hs0 : sg (cd (k + 1) 0 0) = some (eO 2 [.int nm, .int ho, .ref (A (cd (k + 1) 1 0)), .ref (A (cd (k + 1) 2 0)), .ref (A (cd (k + 1) 3 0)), .ref (A (cd (k + 1) 4 0)), .ref (A (cd (k + 1) 5 0)), .int (nI n), av])) (hso : sg (cd (k + 1) 3 0) = some (eI G 120 (S))) (hn : n < 120) : mM l G s0 yX2_sortIn cX2_sortIn 3 none 0 0 0 0 h0 [.ref (A (cd (k + 1) 0 0)), .int x] (fun v h9 => (v = none ∧ CW h9 A tg (up3 sg (cd (k + 1) 3 0) (some (eI G 120 (z_ins 0 x n S)))) ∧ cFr h0 tg h9 tg)) := by
  refine mM_in RX2 "sortIn" rfl rfl (by decide +kernel) (Nat.le_of_ble_eq_true rfl) ?_
  intro p e s mt below meth c H locs C hM hS ls hl
  have hx := C.1
  have hb := C.2.1
  have hown := C.2.2.2.1
  have hE := C.2.2.2.2.2.2.1
  have hl : lv_has ls 3 [(0, .ref (A (cd (k + 1) 0 0))), (1, .int x)] := hl
  have hF : cFr h0 tg h0 tg := cFr.rf
  obtain ⟨h, hM, hC, hF⟩ : ∃ h9, MW G s0.heap.size h9 H ∧ CW h9 A tg sg ∧ cFr h0 tg h9 tg := ⟨_, hM, hC, hF⟩
  refine lv_aload_n hx hb dX2_sortIn_0 rfl (lv_at hl 0 rfl) ?_
  refine m_get Z C hM (hC.at (hs0)) K_X2 7 (by decide) fl_X2_42 (v := .int (nI n)) rfl dX2_sortIn_1 ?_
  refine lv_istore_n (lv' := [(2, .int (nI n)), (0, .ref (A (cd (k + 1) 0 0))), (1, .int x)]) hx hb dX2_sortIn_4 rfl hl (by decide) rfl (fun ls hl => ?_)
  have lp_1 : ∀ (fu : Nat) (h : Hp) (F : Nat → Int32) (r : Nat), r < fu → r ≤ n → z_ins 0 x r F = z_ins 0 x n S → CW h A tg (up3 sg (cd (k + 1) 3 0) (some (eI G 120 (F)))) → cFr h0 tg h tg → ∀ (H : Heap) (locs : List Loc), MW G s0.heap.size h H → va_S (fun q => s0.heap.size ≤ q) s.heap H locs → ∀ ls : Array Slot, lv_has ls 3 [(2, .int (nI r)), (0, .ref (A (cd (k + 1) 0 0))), (1, .int x)] → W p l e (mRm 0 0 0 0) s mt ([.ref (A (cd (k + 1) 0 0)), .int x] : List Value).toArray below meth c H locs 0 0 (MQ below (mQc G s0 (fun v h9 => (v = none ∧ CW h9 A tg (up3 sg (cd (k + 1) 3 0) (some (eI G 120 (z_ins 0 x n S)))) ∧ cFr h0 tg h9 tg))) ([.ref (A (cd (k + 1) 0 0)), .int x] : List Value).toArray s 0 0 (fun q => s0.heap.size ≤ q)) (F0 mt 5 ls []) := by
    intro fu
    induction fu with
    | zero => intro h F r hfu _ _ _ _; exact absurd hfu (by omega)
    | succ fu ih =>
      intro h F r hfu hr hR hC hF H locs hM hS ls hl
      refine lv_iload_n hx hb dX2_sortIn_5 rfl (lv_at hl 0 rfl) ?_
      refine lv_if_le (tgt := 50) hx hb dX2_sortIn_6 (by decide) (fun c_2 => ?_) (fun c_2 => ?_)
      · -- 6 t
        have c_2 : r ≤ 0 := (nI_leI (by omega) (by decide)).mp c_2
        refine lv_iload_n hx hb dX2_sortIn_50 rfl (lv_at hl 0 rfl) ?_
        refine lv_if_lt (tgt := 70) hx hb dX2_sortIn_51 (by decide) (fun q => absurd q (nI_pos (by omega))) (fun _ => ?_)
        refine lv_iload_n hx hb dX2_sortIn_54 rfl (lv_at hl 0 rfl) ?_
        refine lv_aload_n hx hb dX2_sortIn_55 rfl (lv_at hl 1 rfl) ?_
        refine m_get Z C hM (hC.at ((up3_ne _ _ (cd_r (by decide))).trans (hs0))) K_X2 4 (by decide) fl_X2_26 (v := .ref (A (cd (k + 1) 3 0))) rfl dX2_sortIn_56 ?_
        refine m_alen (t0 := 0) Z C hM rfl (hC.at (up3_self _ _ _)) dX2_sortIn_59 ?_
        refine W.eq (g2 := F0 mt 60 ls [.int (nI 120), .int (nI r)]) rfl ?_
        refine lv_icmp_ge (tgt := 70) hx hb dX2_sortIn_60 (by decide) (fun c_4 => ?_) (fun c_4 => ?_)
        · -- 60 t
          have c_4 : 120 ≤ r := (nI_leI (by decide) (by omega)).mp c_4
          exact absurd hn (by omega)
        · -- 60 f
          have c_4 : ¬ 120 ≤ r := fun q => c_4 ((nI_leI (by decide) (by omega)).mpr q)
          refine lv_aload_n hx hb dX2_sortIn_63 rfl (lv_at hl 1 rfl) ?_
          refine m_get Z C hM (hC.at ((up3_ne _ _ (cd_r (by decide))).trans (hs0))) K_X2 4 (by decide) fl_X2_26 (v := .ref (A (cd (k + 1) 3 0))) rfl dX2_sortIn_64 ?_
          refine lv_iload_n hx hb dX2_sortIn_67 rfl (lv_at hl 0 rfl) ?_
          refine lv_iload_n hx hb dX2_sortIn_68 rfl (lv_at hl 2 rfl) ?_
          refine m_iast Z C hM hS (hC.at (up3_self _ _ _)) (x := x) (0 + r) (congrArg nI (by omega)) (by omega) (by decide) dX2_sortIn_69 (fun H locs hM hS => ?_)
          have hC9 := hC.put (up3_self _ _ _) (eI G 120 (va_up F (0 + r) x))
          have hF9 := hF.put hC (up3_self _ _ _) (cd_r (by decide)) (eI G 120 (va_up F (0 + r) x))
          rw [up3_up3 (x := cd (k + 1) 3 0)] at hC9
          obtain ⟨h, hM, hC, hF⟩ : ∃ h9, MW G s0.heap.size h9 H ∧ CW h9 A tg (up3 sg (cd (k + 1) 3 0) (some (eI G 120 (va_up F (0 + r) x)))) ∧ cFr h0 tg h9 tg := ⟨_, hM, hC9, hF9⟩
          have e9 : va_up F (0 + r) x = z_ins 0 x n S := by obtain rfl : r = 0 := (by omega); exact hR
          exact m_vret C hM hS (Nat.le_of_ble_eq_true rfl) (Nat.le_of_ble_eq_true rfl) dX2_sortIn_70 ⟨rfl, (by rw [← e9]; exact hC), hF⟩
      · -- 6 f
        have c_2 : ¬ r ≤ 0 := fun q => c_2 ((nI_leI (by omega) (by decide)).mpr q)
        obtain ⟨k9, hk0⟩ : ∃ t, r = t + 1 := ⟨r - 1, by omega⟩
        subst hk0
        refine lv_iload_n hx hb dX2_sortIn_9 rfl (lv_at hl 0 rfl) ?_
        refine lv_aload_n hx hb dX2_sortIn_10 rfl (lv_at hl 1 rfl) ?_
        refine m_get Z C hM (hC.at ((up3_ne _ _ (cd_r (by decide))).trans (hs0))) K_X2 4 (by decide) fl_X2_26 (v := .ref (A (cd (k + 1) 3 0))) rfl dX2_sortIn_11 ?_
        refine m_alen (t0 := 0) Z C hM rfl (hC.at (up3_self _ _ _)) dX2_sortIn_14 ?_
        refine W.eq (g2 := F0 mt 15 ls [.int (nI 120), .int (nI (k9 + 1))]) rfl ?_
        refine lv_icmp_ge (tgt := 50) hx hb dX2_sortIn_15 (by decide) (fun c_5 => ?_) (fun c_5 => ?_)
        · -- 15 t
          have c_5 : 120 ≤ k9 + 1 := (nI_leI (by decide) (by omega)).mp c_5
          exact absurd hn (by omega)
        · -- 15 f
          have c_5 : ¬ 120 ≤ k9 + 1 := fun q => c_5 ((nI_leI (by decide) (by omega)).mpr q)
          refine lv_aload_n hx hb dX2_sortIn_18 rfl (lv_at hl 1 rfl) ?_
          refine m_get Z C hM (hC.at ((up3_ne _ _ (cd_r (by decide))).trans (hs0))) K_X2 4 (by decide) fl_X2_26 (v := .ref (A (cd (k + 1) 3 0))) rfl dX2_sortIn_19 ?_
          refine lv_iload_n hx hb dX2_sortIn_22 rfl (lv_at hl 0 rfl) ?_
          refine lv_iconst (v := nI 1) hx hb dX2_sortIn_23 (by decide) ?_
          refine n_isub hx hb (by omega) dX2_sortIn_24 ?_
          refine m_iald Z C hM (f := F) (hC.at (up3_self _ _ _)) (0 + k9) (congrArg nI (by omega)) (by omega) (by decide) dX2_sortIn_25 ?_
          refine lv_iload_n hx hb dX2_sortIn_26 rfl (lv_at hl 2 rfl) ?_
          refine lv_icmp_le (tgt := 50) hx hb dX2_sortIn_27 (by decide) (fun c_6 => ?_) (fun c_6 => ?_)
          · -- 27 t
            refine lv_iload_n hx hb dX2_sortIn_50 rfl (lv_at hl 0 rfl) ?_
            refine lv_if_lt (tgt := 70) hx hb dX2_sortIn_51 (by decide) (fun q => absurd q (nI_pos (by omega))) (fun _ => ?_)
            refine lv_iload_n hx hb dX2_sortIn_54 rfl (lv_at hl 0 rfl) ?_
            refine lv_aload_n hx hb dX2_sortIn_55 rfl (lv_at hl 1 rfl) ?_
            refine m_get Z C hM (hC.at ((up3_ne _ _ (cd_r (by decide))).trans (hs0))) K_X2 4 (by decide) fl_X2_26 (v := .ref (A (cd (k + 1) 3 0))) rfl dX2_sortIn_56 ?_
            refine m_alen (t0 := 0) Z C hM rfl (hC.at (up3_self _ _ _)) dX2_sortIn_59 ?_
            refine W.eq (g2 := F0 mt 60 ls [.int (nI 120), .int (nI (k9 + 1))]) rfl ?_
            refine lv_icmp_ge (tgt := 70) hx hb dX2_sortIn_60 (by decide) (fun c_8 => ?_) (fun c_8 => ?_)
            · -- 60 t
              have c_8 : 120 ≤ k9 + 1 := (nI_leI (by decide) (by omega)).mp c_8
              exact absurd hn (by omega)
            · -- 60 f
              have c_8 : ¬ 120 ≤ k9 + 1 := fun q => c_8 ((nI_leI (by decide) (by omega)).mpr q)
              refine lv_aload_n hx hb dX2_sortIn_63 rfl (lv_at hl 1 rfl) ?_
              refine m_get Z C hM (hC.at ((up3_ne _ _ (cd_r (by decide))).trans (hs0))) K_X2 4 (by decide) fl_X2_26 (v := .ref (A (cd (k + 1) 3 0))) rfl dX2_sortIn_64 ?_
              refine lv_iload_n hx hb dX2_sortIn_67 rfl (lv_at hl 0 rfl) ?_
              refine lv_iload_n hx hb dX2_sortIn_68 rfl (lv_at hl 2 rfl) ?_
              refine m_iast Z C hM hS (hC.at (up3_self _ _ _)) (x := x) (0 + (k9 + 1)) (congrArg nI (by omega)) (by omega) (by decide) dX2_sortIn_69 (fun H locs hM hS => ?_)
              have hC9 := hC.put (up3_self _ _ _) (eI G 120 (va_up F (0 + (k9 + 1)) x))
              have hF9 := hF.put hC (up3_self _ _ _) (cd_r (by decide)) (eI G 120 (va_up F (0 + (k9 + 1)) x))
              rw [up3_up3 (x := cd (k + 1) 3 0)] at hC9
              obtain ⟨h, hM, hC, hF⟩ : ∃ h9, MW G s0.heap.size h9 H ∧ CW h9 A tg (up3 sg (cd (k + 1) 3 0) (some (eI G 120 (va_up F (0 + (k9 + 1)) x)))) ∧ cFr h0 tg h9 tg := ⟨_, hM, hC9, hF9⟩
              have e9 : va_up F (0 + (k9 + 1)) x = z_ins 0 x n S := by exact (z_ins_f (i_len c_6)).symm.trans hR
              exact m_vret C hM hS (Nat.le_of_ble_eq_true rfl) (Nat.le_of_ble_eq_true rfl) dX2_sortIn_70 ⟨rfl, (by rw [← e9]; exact hC), hF⟩
          · -- 27 f
            refine lv_aload_n hx hb dX2_sortIn_30 rfl (lv_at hl 1 rfl) ?_
            refine m_get Z C hM (hC.at ((up3_ne _ _ (cd_r (by decide))).trans (hs0))) K_X2 4 (by decide) fl_X2_26 (v := .ref (A (cd (k + 1) 3 0))) rfl dX2_sortIn_31 ?_
            refine lv_iload_n hx hb dX2_sortIn_34 rfl (lv_at hl 0 rfl) ?_
            refine lv_aload_n hx hb dX2_sortIn_35 rfl (lv_at hl 1 rfl) ?_
            refine m_get Z C hM (hC.at ((up3_ne _ _ (cd_r (by decide))).trans (hs0))) K_X2 4 (by decide) fl_X2_26 (v := .ref (A (cd (k + 1) 3 0))) rfl dX2_sortIn_36 ?_
            refine lv_iload_n hx hb dX2_sortIn_39 rfl (lv_at hl 0 rfl) ?_
            refine lv_iconst (v := nI 1) hx hb dX2_sortIn_40 (by decide) ?_
            refine n_isub hx hb (by omega) dX2_sortIn_41 ?_
            refine m_iald Z C hM (f := F) (hC.at (up3_self _ _ _)) (0 + k9) (congrArg nI (by omega)) (by omega) (by decide) dX2_sortIn_42 ?_
            refine m_iast Z C hM hS (hC.at (up3_self _ _ _)) (x := F (0 + k9)) (0 + (k9 + 1)) (congrArg nI (by omega)) (by omega) (by decide) dX2_sortIn_43 (fun H locs hM hS => ?_)
            have hC9 := hC.put (up3_self _ _ _) (eI G 120 (va_up F (0 + (k9 + 1)) (F (0 + k9))))
            have hF9 := hF.put hC (up3_self _ _ _) (cd_r (by decide)) (eI G 120 (va_up F (0 + (k9 + 1)) (F (0 + k9))))
            rw [up3_up3 (x := cd (k + 1) 3 0)] at hC9
            obtain ⟨h, hM, hC, hF⟩ : ∃ h9, MW G s0.heap.size h9 H ∧ CW h9 A tg (up3 sg (cd (k + 1) 3 0) (some (eI G 120 (va_up F (0 + (k9 + 1)) (F (0 + k9)))))) ∧ cFr h0 tg h9 tg := ⟨_, hM, hC9, hF9⟩
            refine lv_iinc (v := nI k9) (lv' := [(2, .int (nI k9)), (0, .ref (A (cd (k + 1) 0 0))), (1, .int x)]) hx hb dX2_sortIn_44 hl (k := 0) rfl (pk_m1 _) (by decide) rfl (fun ls hl => ?_)
            refine lv_goto (tgt := 5) hx hb dX2_sortIn_47 (by decide) ?_
            exact ih h (va_up F (0 + (k9 + 1)) (F (0 + k9))) k9 (by omega) (by omega) ((z_ins_t (i_nle c_6)).symm.trans hR) hC hF H locs hM hS ls (lv_sub hl [0, 1, 2] rfl)
  exact lp_1 (n + 1) h S n (by omega) (Nat.le_refl _) rfl (by rw [up3_id hso]; exact hC) hF H locs hM hS ls (lv_sub hl [0, 1, 2] rfl)
