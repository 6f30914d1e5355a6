set_option maxRecDepth 100000 in
set_option maxHeartbeats 4000000 in
theorem c_X3_sort {l : Launch} {G : mG} {a0 : Array Value} {s0 : State} (Z : mZ l G a0 s0) (h0 : Hp) (A : Cd → Nat) (tg : Nat → Cd) (sg : Cd → Option va_E) (hC : CW h0 A tg sg) (k : Nat) (j : Nat) (f : Nat → Int32) (hr : sg (cd (k + 1) 7 j) = some (eI G 8 (f))) : mM l G s0 yX3_sort cX3_sort 4 none 0 0 0 0 h0 [.ref (A (cd (k + 1) 7 j))] (fun v h9 => (v = none ∧ CW h9 A tg (up3 sg (cd (k + 1) 7 j) (some (eI G 8 (z_so f 0 7)))) ∧ cFr h0 tg h9 tg)) := by
  refine mM_in RX3 "sort" rfl rfl (by decide +kernel) (Nat.le_of_ble_eq_true rfl) ?_
  intro p e s mt below meth c H locs C hM hS ls hl
  have hx := C.1
  have hb := C.2.1
  have hown := C.2.2.2.1
  have hE := C.2.2.2.2.2.2.1
  have hl : lv_has ls 4 [(0, .ref (A (cd (k + 1) 7 j)))] := hl
  have hF : cFr h0 tg h0 tg := cFr.rf
  obtain ⟨h, hM, hC, hF⟩ : ∃ h9, MW G s0.heap.size h9 H ∧ CW h9 A tg sg ∧ cFr h0 tg h9 tg := ⟨_, hM, hC, hF⟩
  refine lv_iconst (v := nI 1) hx hb dX3_sort_0 (by decide) ?_
  refine lv_istore_n (lv' := [(1, .int (nI 1)), (0, .ref (A (cd (k + 1) 7 j)))]) hx hb dX3_sort_1 rfl hl (by decide) rfl (fun ls hl => ?_)
  have lp_1 : ∀ (fu : Nat) (h : Hp) (y : Nat), 8 < y + fu → y ≤ 7 → CW h A tg (up3 sg (cd (k + 1) 7 j) (some (eI G 8 (z_so f 0 y)))) → cFr h0 tg h tg → ∀ (H : Heap) (locs : List Loc), MW G s0.heap.size h H → va_S (fun q => s0.heap.size ≤ q) s.heap H locs → ∀ ls : Array Slot, lv_has ls 4 [(1, .int (nI (y + 1))), (0, .ref (A (cd (k + 1) 7 j)))] → W p l e (mRm 0 0 0 0) s mt ([.ref (A (cd (k + 1) 7 j))] : List Value).toArray below meth c H locs 0 0 (MQ below (mQc G s0 (fun v h9 => (v = none ∧ CW h9 A tg (up3 sg (cd (k + 1) 7 j) (some (eI G 8 (z_so f 0 7)))) ∧ cFr h0 tg h9 tg))) ([.ref (A (cd (k + 1) 7 j))] : List Value).toArray s 0 0 (fun q => s0.heap.size ≤ q)) (F0 mt 2 ls []) := by
    intro fu
    induction fu with
    | zero => intro h y hfu _ _ _; exact absurd hfu (by omega)
    | succ fu ih =>
      intro h y hfu hy hC hF H locs hM hS ls hl
      refine lv_iload_n hx hb dX3_sort_2 rfl (lv_at hl 0 rfl) ?_
      refine lv_aload_n hx hb dX3_sort_3 rfl (lv_at hl 1 rfl) ?_
      refine m_alen (t0 := 0) Z C hM rfl (hC.at (up3_self _ _ _)) dX3_sort_4 ?_
      refine W.eq (g2 := F0 mt 5 ls [.int (nI 8), .int (nI (y + 1))]) rfl ?_
      refine lv_icmp_ge (tgt := 51) hx hb dX3_sort_5 (by decide) (fun c_2 => ?_) (fun c_2 => ?_)
      · -- 5 t
        have c_2 : 8 ≤ y + 1 := (nI_leI (by decide) (by omega)).mp c_2
        exact m_vret C hM hS (Nat.le_of_ble_eq_true rfl) (Nat.le_of_ble_eq_true rfl) dX3_sort_51 ⟨rfl, (by obtain rfl : y = 7 := (by omega); exact hC), hF⟩
      · -- 5 f
        have c_2 : ¬ 8 ≤ y + 1 := fun q => c_2 ((nI_leI (by decide) (by omega)).mpr q)
        refine lv_aload_n hx hb dX3_sort_8 rfl (lv_at hl 1 rfl) ?_
        refine lv_iload_n hx hb dX3_sort_9 rfl (lv_at hl 0 rfl) ?_
        refine m_iald Z C hM (f := z_so f 0 y) (hC.at (up3_self _ _ _)) (0 + (y + 1)) (congrArg nI (by omega)) (by omega) (by decide) dX3_sort_10 ?_
        refine lv_istore_n (lv' := [(2, .int ((z_so f 0 y) (0 + (y + 1)))), (1, .int (nI (y + 1))), (0, .ref (A (cd (k + 1) 7 j)))]) hx hb dX3_sort_11 rfl hl (by decide) rfl (fun ls hl => ?_)
        refine lv_iload_n hx hb dX3_sort_12 rfl (lv_at hl 1 rfl) ?_
        refine lv_istore_n (lv' := [(3, .int (nI (y + 1))), (2, .int ((z_so f 0 y) (0 + (y + 1)))), (1, .int (nI (y + 1))), (0, .ref (A (cd (k + 1) 7 j)))]) hx hb dX3_sort_13 rfl hl (by decide) rfl (fun ls hl => ?_)
        have lp_3 : ∀ (fu2 : Nat) (h : Hp) (F : Nat → Int32) (r : Nat), r < fu2 → r ≤ y + 1 → z_ins 0 (z_so f 0 y (0 + (y + 1))) r F = z_so f 0 (y + 1) → CW h A tg (up3 sg (cd (k + 1) 7 j) (some (eI G 8 (F)))) → cFr h0 tg h tg → ∀ (H : Heap) (locs : List Loc), MW G s0.heap.size h H → va_S (fun q => s0.heap.size ≤ q) s.heap H locs → ∀ ls : Array Slot, lv_has ls 4 [(3, .int (nI r)), (2, .int ((z_so f 0 y) (0 + (y + 1)))), (1, .int (nI (y + 1))), (0, .ref (A (cd (k + 1) 7 j)))] → W p l e (mRm 0 0 0 0) s mt ([.ref (A (cd (k + 1) 7 j))] : List Value).toArray below meth c H locs 0 0 (MQ below (mQc G s0 (fun v h9 => (v = none ∧ CW h9 A tg (up3 sg (cd (k + 1) 7 j) (some (eI G 8 (z_so f 0 7)))) ∧ cFr h0 tg h9 tg))) ([.ref (A (cd (k + 1) 7 j))] : List Value).toArray s 0 0 (fun q => s0.heap.size ≤ q)) (F0 mt 14 ls []) := by
          intro fu2
          induction fu2 with
          | zero => intro h F r hfu _ _ _ _; exact absurd hfu (by omega)
          | succ fu2 ih2 =>
            intro h F r hfu hr9 hR hC hF H locs hM hS ls hl
            refine lv_iload_n hx hb dX3_sort_14 rfl (lv_at hl 0 rfl) ?_
            refine lv_if_le (tgt := 41) hx hb dX3_sort_15 (by decide) (fun c_4 => ?_) (fun c_4 => ?_)
            · -- 15 t
              have c_4 : r ≤ 0 := (nI_leI (by omega) (by decide)).mp c_4
              refine lv_aload_n hx hb dX3_sort_41 rfl (lv_at hl 3 rfl) ?_
              refine lv_iload_n hx hb dX3_sort_42 rfl (lv_at hl 0 rfl) ?_
              refine lv_iload_n hx hb dX3_sort_43 rfl (lv_at hl 1 rfl) ?_
              refine m_iast Z C hM hS (hC.at (up3_self _ _ _)) (x := (z_so f 0 y) (0 + (y + 1))) (0 + r) (congrArg nI (by omega)) (by omega) (by decide) dX3_sort_44 (fun H locs hM hS => ?_)
              have hC9 := hC.put (up3_self _ _ _) (eI G 8 (va_up F (0 + r) ((z_so f 0 y) (0 + (y + 1)))))
              have hF9 := hF.put hC (up3_self _ _ _) (cd_r (by decide)) (eI G 8 (va_up F (0 + r) ((z_so f 0 y) (0 + (y + 1)))))
              rw [up3_up3 (x := cd (k + 1) 7 j)] at hC9
              obtain ⟨h, hM, hC, hF⟩ : ∃ h9, MW G s0.heap.size h9 H ∧ CW h9 A tg (up3 sg (cd (k + 1) 7 j) (some (eI G 8 (va_up F (0 + r) ((z_so f 0 y) (0 + (y + 1))))))) ∧ cFr h0 tg h9 tg := ⟨_, hM, hC9, hF9⟩
              refine lv_iinc (v := nI (y + 1 + 1)) (lv' := [(1, .int (nI (y + 1 + 1))), (3, .int (nI r)), (2, .int ((z_so f 0 y) (0 + (y + 1)))), (0, .ref (A (cd (k + 1) 7 j)))]) hx hb dX3_sort_45 hl (k := 2) rfl (nI_add _ _) (by decide) rfl (fun ls hl => ?_)
              refine lv_goto (tgt := 2) hx hb dX3_sort_48 (by decide) ?_
              have e9 : va_up F (0 + r) ((z_so f 0 y) (0 + (y + 1))) = z_so f 0 (y + 1) := by obtain rfl : r = 0 := (by omega); exact hR
              rw [e9] at hC
              exact ih h (y + 1) (by omega) (by omega) hC hF H locs hM hS ls (lv_sub hl [0, 3] rfl)
            · -- 15 f
              have c_4 : ¬ r ≤ 0 := fun q => c_4 ((nI_leI (by omega) (by decide)).mpr q)
              obtain ⟨k9, hk0⟩ : ∃ t, r = t + 1 := ⟨r - 1, by omega⟩
              subst hk0
              refine lv_aload_n hx hb dX3_sort_18 rfl (lv_at hl 3 rfl) ?_
              refine lv_iload_n hx hb dX3_sort_19 rfl (lv_at hl 0 rfl) ?_
              refine lv_iconst (v := nI 1) hx hb dX3_sort_20 (by decide) ?_
              refine n_isub hx hb (by omega) dX3_sort_21 ?_
              refine m_iald Z C hM (f := F) (hC.at (up3_self _ _ _)) (0 + k9) (congrArg nI (by omega)) (by omega) (by decide) dX3_sort_22 ?_
              refine lv_iload_n hx hb dX3_sort_23 rfl (lv_at hl 1 rfl) ?_
              refine lv_icmp_le (tgt := 41) hx hb dX3_sort_24 (by decide) (fun c_5 => ?_) (fun c_5 => ?_)
              · -- 24 t
                refine lv_aload_n hx hb dX3_sort_41 rfl (lv_at hl 3 rfl) ?_
                refine lv_iload_n hx hb dX3_sort_42 rfl (lv_at hl 0 rfl) ?_
                refine lv_iload_n hx hb dX3_sort_43 rfl (lv_at hl 1 rfl) ?_
                refine m_iast Z C hM hS (hC.at (up3_self _ _ _)) (x := (z_so f 0 y) (0 + (y + 1))) (0 + (k9 + 1)) (congrArg nI (by omega)) (by omega) (by decide) dX3_sort_44 (fun H locs hM hS => ?_)
                have hC9 := hC.put (up3_self _ _ _) (eI G 8 (va_up F (0 + (k9 + 1)) ((z_so f 0 y) (0 + (y + 1)))))
                have hF9 := hF.put hC (up3_self _ _ _) (cd_r (by decide)) (eI G 8 (va_up F (0 + (k9 + 1)) ((z_so f 0 y) (0 + (y + 1)))))
                rw [up3_up3 (x := cd (k + 1) 7 j)] at hC9
                obtain ⟨h, hM, hC, hF⟩ : ∃ h9, MW G s0.heap.size h9 H ∧ CW h9 A tg (up3 sg (cd (k + 1) 7 j) (some (eI G 8 (va_up F (0 + (k9 + 1)) ((z_so f 0 y) (0 + (y + 1))))))) ∧ cFr h0 tg h9 tg := ⟨_, hM, hC9, hF9⟩
                refine lv_iinc (v := nI (y + 1 + 1)) (lv' := [(1, .int (nI (y + 1 + 1))), (3, .int (nI (k9 + 1))), (2, .int ((z_so f 0 y) (0 + (y + 1)))), (0, .ref (A (cd (k + 1) 7 j)))]) hx hb dX3_sort_45 hl (k := 2) rfl (nI_add _ _) (by decide) rfl (fun ls hl => ?_)
                refine lv_goto (tgt := 2) hx hb dX3_sort_48 (by decide) ?_
                have e9 : va_up F (0 + (k9 + 1)) ((z_so f 0 y) (0 + (y + 1))) = z_so f 0 (y + 1) := by exact (z_ins_f (i_len c_5)).symm.trans hR
                rw [e9] at hC
                exact ih h (y + 1) (by omega) (by omega) hC hF H locs hM hS ls (lv_sub hl [0, 3] rfl)
              · -- 24 f
                refine lv_aload_n hx hb dX3_sort_27 rfl (lv_at hl 3 rfl) ?_
                refine lv_iload_n hx hb dX3_sort_28 rfl (lv_at hl 0 rfl) ?_
                refine lv_aload_n hx hb dX3_sort_29 rfl (lv_at hl 3 rfl) ?_
                refine lv_iload_n hx hb dX3_sort_30 rfl (lv_at hl 0 rfl) ?_
                refine lv_iconst (v := nI 1) hx hb dX3_sort_31 (by decide) ?_
                refine n_isub hx hb (by omega) dX3_sort_32 ?_
                refine m_iald Z C hM (f := F) (hC.at (up3_self _ _ _)) (0 + k9) (congrArg nI (by omega)) (by omega) (by decide) dX3_sort_33 ?_
                refine m_iast Z C hM hS (hC.at (up3_self _ _ _)) (x := F (0 + k9)) (0 + (k9 + 1)) (congrArg nI (by omega)) (by omega) (by decide) dX3_sort_34 (fun H locs hM hS => ?_)
                have hC9 := hC.put (up3_self _ _ _) (eI G 8 (va_up F (0 + (k9 + 1)) (F (0 + k9))))
                have hF9 := hF.put hC (up3_self _ _ _) (cd_r (by decide)) (eI G 8 (va_up F (0 + (k9 + 1)) (F (0 + k9))))
                rw [up3_up3 (x := cd (k + 1) 7 j)] at hC9
                obtain ⟨h, hM, hC, hF⟩ : ∃ h9, MW G s0.heap.size h9 H ∧ CW h9 A tg (up3 sg (cd (k + 1) 7 j) (some (eI G 8 (va_up F (0 + (k9 + 1)) (F (0 + k9)))))) ∧ cFr h0 tg h9 tg := ⟨_, hM, hC9, hF9⟩
                refine lv_iinc (v := nI k9) (lv' := [(3, .int (nI k9)), (2, .int ((z_so f 0 y) (0 + (y + 1)))), (1, .int (nI (y + 1))), (0, .ref (A (cd (k + 1) 7 j)))]) hx hb dX3_sort_35 hl (k := 0) rfl (pk_m1 _) (by decide) rfl (fun ls hl => ?_)
                refine lv_goto (tgt := 14) hx hb dX3_sort_38 (by decide) ?_
                exact ih2 h (va_up F (0 + (k9 + 1)) (F (0 + k9))) k9 (by omega) (by omega) ((z_ins_t (i_nle c_5)).symm.trans hR) hC hF H locs hM hS ls (lv_sub hl [0, 1, 2, 3] rfl)
        exact lp_3 (y + 2) h (z_so f 0 y) (y + 1) (by omega) (Nat.le_refl _) rfl hC hF H locs hM hS ls (lv_sub hl [0, 1, 2, 3] rfl)
  exact lp_1 9 h 0 (by omega) (by omega) (show CW h A tg (up3 sg (cd (k + 1) 7 j) (some (eI G 8 f))) from by rw [up3_id hr]; exact hC) hF H locs hM hS ls (lv_sub hl [0, 1] rfl)
