set_option maxRecDepth 100000 in
set_option maxHeartbeats 4000000 in
theorem c_X6_joined {l : Launch} {G : mG} {a0 : Array Value} {s0 : State} (Z : mZ l G a0 s0) (h0 : Hp) (m : Nat) (q : Nat → Nat) (st : Ms) (hW : MdlW G h0 m q st) (a : Int32) (d : Int32) (sm : Nat) (hk : Mok st) (hsm : sm < 2) : mM l G s0 yX6_joined cX6_joined 9 (some .long) 2 43 0 0 h0 [.ref m, .int a, .int d, .int (nI sm)] (fun v h9 => (v = some (.long (z_js st a d (fun u v => if sm = 0 then lN 1 else (z_la st u).toInt64 * (z_la st v).toInt64) 10)) ∧ h9 = h0)) := by
  refine mM_in RX6 "joined" rfl rfl (by decide +kernel) (Nat.le_of_ble_eq_true rfl) ?_
  intro p e s mt below meth c H locs C hM hS ls hl
  have hx := C.1
  have hb := C.2.1
  have hown := C.2.2.2.1
  have hE := C.2.2.2.2.2.2.1
  have hl : lv_has ls 9 [(0, .ref m), (1, .int a), (2, .int d), (3, .int (nI sm))] := hl
  have hF : mFr h0 h0 m q := mFr.rf
  obtain ⟨h, hh⟩ : ∃ z, z = h0 := ⟨_, rfl⟩
  rw [← hh] at hM hW
  have hm := hk.1
  have hnow := hk.2.1
  refine lv_lconst (v := lN 0) hx hb dX6_joined_0 (by decide) ?_
  refine lv_lstore (lv' := [(4, .long (lN 0)), (0, .ref m), (1, .int a), (2, .int d), (3, .int (nI sm))]) hx hb dX6_joined_1 hl (by decide) rfl (fun ls hl => ?_)
  refine lv_iconst (v := nI 0) hx hb dX6_joined_3 (by decide) ?_
  refine lv_istore (lv' := [(6, .int (nI 0)), (4, .long (lN 0)), (0, .ref m), (1, .int a), (2, .int d), (3, .int (nI sm))]) hx hb dX6_joined_4 hl (by decide) rfl (fun ls hl => ?_)
  have lp_1 : ∀ (fu : Nat) (y : Nat), 10 < y + fu → y ≤ 10 → ∀ (H : Heap) (locs : List Loc), MW G s0.heap.size h H → va_S (fun q => s0.heap.size ≤ q) s.heap H locs → ∀ ls : Array Slot, lv_has ls 9 [(6, .int (nI y)), (4, .long (z_js st a d (fun u v => if sm = 0 then lN 1 else (z_la st u).toInt64 * (z_la st v).toInt64) y)), (0, .ref m), (1, .int a), (2, .int d), (3, .int (nI sm))] → W p l e (mRm 2 43 0 0) s mt ([.ref m, .int a, .int d, .int (nI sm)] : List Value).toArray below meth c H locs 0 0 (MQ below (mQc G s0 (fun v h9 => (v = some (.long (z_js st a d (fun u v => if sm = 0 then lN 1 else (z_la st u).toInt64 * (z_la st v).toInt64) 10)) ∧ h9 = h0))) ([.ref m, .int a, .int d, .int (nI sm)] : List Value).toArray s 0 0 (fun q => s0.heap.size ≤ q)) (F0 mt 6 ls []) := by
    intro fu
    induction fu with
    | zero => intro y hfu _; exact absurd hfu (by omega)
    | succ fu ih =>
      intro y hfu hy9 H locs hM hS ls hl
      refine lv_iload hx hb dX6_joined_6 (lv_at hl 0 rfl) ?_
      refine lv_bipush (v := nI 10) hx hb dX6_joined_8 (by decide) ?_
      refine lv_icmp_ge (tgt := 98) hx hb dX6_joined_10 (by decide) (fun c_2 => ?_) (fun c_2 => ?_)
      · -- 10 t
        have c_2 : 10 ≤ y := (nI_leI (by decide) (by omega)).mp c_2
        refine lv_lload hx hb dX6_joined_98 (lv_at hl 1 rfl) ?_
        exact m_lret C hM hS (Nat.le_of_ble_eq_true rfl) (Nat.le_of_ble_eq_true rfl) dX6_joined_100 ⟨by rw [show y = 10 by omega], hh⟩
      · -- 10 f
        have c_2 : ¬ 10 ≤ y := fun q => c_2 ((nI_leI (by decide) (by omega)).mpr q)
        refine lv_aload_n hx hb dX6_joined_13 rfl (lv_at hl 2 rfl) ?_
        refine lv_iload_n hx hb dX6_joined_14 rfl (lv_at hl 3 rfl) ?_
        refine lv_iload hx hb dX6_joined_15 (lv_at hl 0 rfl) ?_
        refine m_callV Z C hM hS (As := [.int a, .int (nI y)]) (rest := []) (c_X6_search Z h m q st hW a (nI y) (show st_many st ≤ 10 by omega)) yi_X6_search ml_X6_72 hW.o rfl ⟨Nat.le_of_ble_eq_true rfl, Nat.le_of_ble_eq_true rfl⟩ (Nat.le_of_ble_eq_true rfl) hl.1 rfl rfl dX6_joined_17 ⟨Nat.le_of_ble_eq_true rfl, Nat.le_of_ble_eq_true rfl⟩ (fun v h9 H locs hv hM hS => ?_)
        rcases hv with ⟨k_3, f_4, f_5, f_6, hv, hh9⟩ | ⟨f_7, hv, hh9⟩
        · -- of 17
          subst hv
          rw [hh9] at hM
          refine W.eq (g2 := F0 mt 20 ls [.int (nI k_3)]) rfl ?_
          have hn1 := (hk.2.2 _ f_4).1
          refine lv_istore (lv' := [(7, .int (nI k_3)), (6, .int (nI y)), (4, .long (z_js st a d (fun u v => if sm = 0 then lN 1 else (z_la st u).toInt64 * (z_la st v).toInt64) y)), (0, .ref m), (1, .int a), (2, .int d), (3, .int (nI sm))]) hx hb dX6_joined_20 hl (by decide) rfl (fun ls hl => ?_)
          refine lv_aload_n hx hb dX6_joined_22 rfl (lv_at hl 3 rfl) ?_
          refine lv_iload_n hx hb dX6_joined_23 rfl (lv_at hl 5 rfl) ?_
          refine lv_iload hx hb dX6_joined_24 (lv_at hl 1 rfl) ?_
          refine m_callV Z C hM hS (As := [.int d, .int (nI y)]) (rest := []) (c_X6_search Z h m q st hW d (nI y) (show st_many st ≤ 10 by omega)) yi_X6_search ml_X6_72 hW.o rfl ⟨Nat.le_of_ble_eq_true rfl, Nat.le_of_ble_eq_true rfl⟩ (Nat.le_of_ble_eq_true rfl) hl.1 rfl rfl dX6_joined_26 ⟨Nat.le_of_ble_eq_true rfl, Nat.le_of_ble_eq_true rfl⟩ (fun v h9 H locs hv hM hS => ?_)
          rcases hv with ⟨k_8, f_9, f_10, f_11, hv, hh9⟩ | ⟨f_12, hv, hh9⟩
          · -- of 26
            subst hv
            rw [hh9] at hM
            refine W.eq (g2 := F0 mt 29 ls [.int (nI k_8)]) rfl ?_
            have hn2 := (hk.2.2 _ f_9).1
            refine lv_istore (lv' := [(8, .int (nI k_8)), (7, .int (nI k_3)), (6, .int (nI y)), (4, .long (z_js st a d (fun u v => if sm = 0 then lN 1 else (z_la st u).toInt64 * (z_la st v).toInt64) y)), (0, .ref m), (1, .int a), (2, .int d), (3, .int (nI sm))]) hx hb dX6_joined_29 hl (by decide) rfl (fun ls hl => ?_)
            refine lv_iload hx hb dX6_joined_31 (lv_at hl 1 rfl) ?_
            refine lv_if_lt (tgt := 92) hx hb dX6_joined_33 (by decide) (fun q => absurd q (nI_pos (by omega))) (fun _ => ?_)
            refine lv_iload hx hb dX6_joined_36 (lv_at hl 0 rfl) ?_
            refine lv_if_lt (tgt := 92) hx hb dX6_joined_38 (by decide) (fun q => absurd q (nI_pos (by omega))) (fun _ => ?_)
            refine lv_aload_n hx hb dX6_joined_41 rfl (lv_at hl 4 rfl) ?_
            refine m_get Z C hM hW.o K_X6 5 (by decide) fl_X6_16 (v := .ref (q 5)) rfl dX6_joined_42 ?_
            refine lv_iload hx hb dX6_joined_45 (lv_at hl 1 rfl) ?_
            refine m_iald Z C hM (f := fun k => nI ((st_n st) k)) hW.a5 k_3 rfl (by omega) (by decide) dX6_joined_47 ?_
            refine lv_if_eq (tgt := 92) hx hb dX6_joined_48 (by decide) (fun c_15 => ?_) (fun c_15 => ?_)
            · -- 48 t
              have c_15 : (st_n st) k_3 = 0 := (nI_eq (by omega) (by decide)).mp c_15
              refine lv_iinc (v := nI (y + 1)) (lv' := [(6, .int (nI (y + 1))), (8, .int (nI k_8)), (7, .int (nI k_3)), (4, .long (z_js st a d (fun u v => if sm = 0 then lN 1 else (z_la st u).toInt64 * (z_la st v).toInt64) y)), (0, .ref m), (1, .int a), (2, .int d), (3, .int (nI sm))]) hx hb dX6_joined_92 hl (k := 2) rfl (nI_add _ _) (by decide) rfl (fun ls hl => ?_)
              refine lv_goto (tgt := 6) hx hb dX6_joined_95 (by decide) ?_
              have z1 : z_f st a (nI y) = k_3 := z_fr_at f_5 f_6 _ f_4
              have z2 : z_f st d (nI y) = k_8 := z_fr_at f_10 f_11 _ f_9
              have e_4 : z_js st a d (fun u v => if sm = 0 then lN 1 else (z_la st u).toInt64 * (z_la st v).toInt64) (y + 1) = z_js st a d (fun u v => if sm = 0 then lN 1 else (z_la st u).toInt64 * (z_la st v).toInt64) y := if_neg (show ¬ z_jp st a d y by unfold z_jp; rw [z1, z2]; omega)
              rw [← e_4] at hl
              exact ih (y + 1) (by omega) (by omega) H locs hM hS ls (lv_sub hl [0, 3, 4, 5, 6, 7] rfl)
            · -- 48 f
              have c_15 : ¬ (st_n st) k_3 = 0 := fun q => c_15 ((nI_eq (by omega) (by decide)).mpr q)
              refine lv_aload_n hx hb dX6_joined_51 rfl (lv_at hl 4 rfl) ?_
              refine m_get Z C hM hW.o K_X6 5 (by decide) fl_X6_16 (v := .ref (q 5)) rfl dX6_joined_52 ?_
              refine lv_iload hx hb dX6_joined_55 (lv_at hl 0 rfl) ?_
              refine m_iald Z C hM (f := fun k => nI ((st_n st) k)) hW.a5 k_8 rfl (by omega) (by decide) dX6_joined_57 ?_
              refine lv_if_ne (tgt := 64) hx hb dX6_joined_58 (by decide) (fun c_16 => ?_) (fun c_16 => ?_)
              · -- 58 t
                have c_16 : ¬ (st_n st) k_8 = 0 := fun q => c_16 ((nI_eq (by omega) (by decide)).mpr q)
                refine lv_lload hx hb dX6_joined_64 (lv_at hl 3 rfl) ?_
                refine lv_iload_n hx hb dX6_joined_66 rfl (lv_at hl 7 rfl) ?_
                refine lv_if_eq (tgt := 88) hx hb dX6_joined_67 (by decide) (fun c_17 => ?_) (fun c_17 => ?_)
                · -- 67 t
                  have c_17 : sm = 0 := (nI_eq (by omega) (by decide)).mp c_17
                  refine lv_lconst (v := lN 1) hx hb dX6_joined_88 (by decide) ?_
                  refine lv_ladd hx hb dX6_joined_89 ?_
                  refine lv_lstore (lv' := [(4, .long ((z_js st a d (fun u v => if sm = 0 then lN 1 else (z_la st u).toInt64 * (z_la st v).toInt64) y) + lN 1)), (8, .int (nI k_8)), (7, .int (nI k_3)), (6, .int (nI y)), (0, .ref m), (1, .int a), (2, .int d), (3, .int (nI sm))]) hx hb dX6_joined_90 hl (by decide) rfl (fun ls hl => ?_)
                  refine lv_iinc (v := nI (y + 1)) (lv' := [(6, .int (nI (y + 1))), (4, .long ((z_js st a d (fun u v => if sm = 0 then lN 1 else (z_la st u).toInt64 * (z_la st v).toInt64) y) + lN 1)), (8, .int (nI k_8)), (7, .int (nI k_3)), (0, .ref m), (1, .int a), (2, .int d), (3, .int (nI sm))]) hx hb dX6_joined_92 hl (k := 3) rfl (nI_add _ _) (by decide) rfl (fun ls hl => ?_)
                  refine lv_goto (tgt := 6) hx hb dX6_joined_95 (by decide) ?_
                  have z1 : z_f st a (nI y) = k_3 := z_fr_at f_5 f_6 _ f_4
                  have z2 : z_f st d (nI y) = k_8 := z_fr_at f_10 f_11 _ f_9
                  have e_4 : z_js st a d (fun u v => if sm = 0 then lN 1 else (z_la st u).toInt64 * (z_la st v).toInt64) (y + 1) = z_js st a d (fun u v => if sm = 0 then lN 1 else (z_la st u).toInt64 * (z_la st v).toInt64) y + lN 1 := by show (if _ then _ else _) = _; rw [if_pos (show z_jp st a d y by unfold z_jp; rw [z1, z2]; omega), z1, z2]; show _ + (if sm = 0 then _ else _) = _; rw [if_pos c_17]
                  rw [← e_4] at hl
                  exact ih (y + 1) (by omega) (by omega) H locs hM hS ls (lv_sub hl [0, 1, 4, 5, 6, 7] rfl)
                · -- 67 f
                  have c_17 : ¬ sm = 0 := fun q => c_17 ((nI_eq (by omega) (by decide)).mpr q)
                  refine lv_aload_n hx hb dX6_joined_70 rfl (lv_at hl 4 rfl) ?_
                  refine lv_iload hx hb dX6_joined_71 (lv_at hl 1 rfl) ?_
                  refine m_callV Z C hM hS (As := [.int (nI k_3)]) (rest := [.long (z_js st a d (fun u v => if sm = 0 then lN 1 else (z_la st u).toInt64 * (z_la st v).toInt64) y)]) (c_X6_last Z h m q st hW k_3 (show k_3 < 10 by omega) (show 0 < st_n st k_3 by omega) (show st_n st k_3 ≤ 120 by omega)) yi_X6_last ml_X6_95 hW.o rfl ⟨Nat.le_of_ble_eq_true rfl, Nat.le_of_ble_eq_true rfl⟩ (Nat.le_of_ble_eq_true rfl) hl.1 rfl rfl dX6_joined_73 ⟨Nat.le_of_ble_eq_true rfl, Nat.le_of_ble_eq_true rfl⟩ (fun v h9 H locs hv hM hS => ?_)
                  obtain ⟨hv, hh9⟩ := hv
                  subst hv
                  rw [hh9] at hM
                  refine W.eq (g2 := F0 mt 76 ls [.int (st_V st (120 * k_3 + (st_n st k_3 - 1))), .long (z_js st a d (fun u v => if sm = 0 then lN 1 else (z_la st u).toInt64 * (z_la st v).toInt64) y)]) rfl ?_
                  refine lv_i2l (v := (st_V st (120 * k_3 + (st_n st k_3 - 1))).toInt64) hx hb dX6_joined_76 rfl ?_
                  refine lv_aload_n hx hb dX6_joined_77 rfl (lv_at hl 4 rfl) ?_
                  refine lv_iload hx hb dX6_joined_78 (lv_at hl 0 rfl) ?_
                  refine m_callV Z C hM hS (As := [.int (nI k_8)]) (rest := [.long ((st_V st (120 * k_3 + (st_n st k_3 - 1))).toInt64), .long (z_js st a d (fun u v => if sm = 0 then lN 1 else (z_la st u).toInt64 * (z_la st v).toInt64) y)]) (c_X6_last Z h m q st hW k_8 (show k_8 < 10 by omega) (show 0 < st_n st k_8 by omega) (show st_n st k_8 ≤ 120 by omega)) yi_X6_last ml_X6_95 hW.o rfl ⟨Nat.le_of_ble_eq_true rfl, Nat.le_of_ble_eq_true rfl⟩ (Nat.le_of_ble_eq_true rfl) hl.1 rfl rfl dX6_joined_80 ⟨Nat.le_of_ble_eq_true rfl, Nat.le_of_ble_eq_true rfl⟩ (fun v h9 H locs hv hM hS => ?_)
                  obtain ⟨hv, hh9⟩ := hv
                  subst hv
                  rw [hh9] at hM
                  refine W.eq (g2 := F0 mt 83 ls [.int (st_V st (120 * k_8 + (st_n st k_8 - 1))), .long ((st_V st (120 * k_3 + (st_n st k_3 - 1))).toInt64), .long (z_js st a d (fun u v => if sm = 0 then lN 1 else (z_la st u).toInt64 * (z_la st v).toInt64) y)]) rfl ?_
                  refine lv_i2l (v := (st_V st (120 * k_8 + (st_n st k_8 - 1))).toInt64) hx hb dX6_joined_83 rfl ?_
                  refine lv_lmul hx hb dX6_joined_84 ?_
                  refine lv_goto (tgt := 89) hx hb dX6_joined_85 (by decide) ?_
                  refine lv_ladd hx hb dX6_joined_89 ?_
                  refine lv_lstore (lv' := [(4, .long ((z_js st a d (fun u v => if sm = 0 then lN 1 else (z_la st u).toInt64 * (z_la st v).toInt64) y) + (((st_V st (120 * k_3 + (st_n st k_3 - 1))).toInt64) * ((st_V st (120 * k_8 + (st_n st k_8 - 1))).toInt64)))), (8, .int (nI k_8)), (7, .int (nI k_3)), (6, .int (nI y)), (0, .ref m), (1, .int a), (2, .int d), (3, .int (nI sm))]) hx hb dX6_joined_90 hl (by decide) rfl (fun ls hl => ?_)
                  refine lv_iinc (v := nI (y + 1)) (lv' := [(6, .int (nI (y + 1))), (4, .long ((z_js st a d (fun u v => if sm = 0 then lN 1 else (z_la st u).toInt64 * (z_la st v).toInt64) y) + (((st_V st (120 * k_3 + (st_n st k_3 - 1))).toInt64) * ((st_V st (120 * k_8 + (st_n st k_8 - 1))).toInt64)))), (8, .int (nI k_8)), (7, .int (nI k_3)), (0, .ref m), (1, .int a), (2, .int d), (3, .int (nI sm))]) hx hb dX6_joined_92 hl (k := 3) rfl (nI_add _ _) (by decide) rfl (fun ls hl => ?_)
                  refine lv_goto (tgt := 6) hx hb dX6_joined_95 (by decide) ?_
                  have z1 : z_f st a (nI y) = k_3 := z_fr_at f_5 f_6 _ f_4
                  have z2 : z_f st d (nI y) = k_8 := z_fr_at f_10 f_11 _ f_9
                  have e_4 : z_js st a d (fun u v => if sm = 0 then lN 1 else (z_la st u).toInt64 * (z_la st v).toInt64) (y + 1) = z_js st a d (fun u v => if sm = 0 then lN 1 else (z_la st u).toInt64 * (z_la st v).toInt64) y + (z_la st k_3).toInt64 * (z_la st k_8).toInt64 := by show (if _ then _ else _) = _; rw [if_pos (show z_jp st a d y by unfold z_jp; rw [z1, z2]; omega), z1, z2]; show _ + (if sm = 0 then _ else _) = _; rw [if_neg c_17]
                  rw [← e_4] at hl
                  exact ih (y + 1) (by omega) (by omega) H locs hM hS ls (lv_sub hl [0, 1, 4, 5, 6, 7] rfl)
              · -- 58 f
                have c_16 : (st_n st) k_8 = 0 := (nI_eq (by omega) (by decide)).mp c_16
                refine lv_goto (tgt := 92) hx hb dX6_joined_61 (by decide) ?_
                refine lv_iinc (v := nI (y + 1)) (lv' := [(6, .int (nI (y + 1))), (8, .int (nI k_8)), (7, .int (nI k_3)), (4, .long (z_js st a d (fun u v => if sm = 0 then lN 1 else (z_la st u).toInt64 * (z_la st v).toInt64) y)), (0, .ref m), (1, .int a), (2, .int d), (3, .int (nI sm))]) hx hb dX6_joined_92 hl (k := 2) rfl (nI_add _ _) (by decide) rfl (fun ls hl => ?_)
                refine lv_goto (tgt := 6) hx hb dX6_joined_95 (by decide) ?_
                have z1 : z_f st a (nI y) = k_3 := z_fr_at f_5 f_6 _ f_4
                have z2 : z_f st d (nI y) = k_8 := z_fr_at f_10 f_11 _ f_9
                have e_4 : z_js st a d (fun u v => if sm = 0 then lN 1 else (z_la st u).toInt64 * (z_la st v).toInt64) (y + 1) = z_js st a d (fun u v => if sm = 0 then lN 1 else (z_la st u).toInt64 * (z_la st v).toInt64) y := if_neg (show ¬ z_jp st a d y by unfold z_jp; rw [z1, z2]; omega)
                rw [← e_4] at hl
                exact ih (y + 1) (by omega) (by omega) H locs hM hS ls (lv_sub hl [0, 3, 4, 5, 6, 7] rfl)
          · -- of 26
            subst hv
            rw [hh9] at hM
            refine W.eq (g2 := F0 mt 29 ls [.int ((-1))]) rfl ?_
            refine lv_istore (lv' := [(8, .int ((-1))), (7, .int (nI k_3)), (6, .int (nI y)), (4, .long (z_js st a d (fun u v => if sm = 0 then lN 1 else (z_la st u).toInt64 * (z_la st v).toInt64) y)), (0, .ref m), (1, .int a), (2, .int d), (3, .int (nI sm))]) hx hb dX6_joined_29 hl (by decide) rfl (fun ls hl => ?_)
            refine lv_iload hx hb dX6_joined_31 (lv_at hl 1 rfl) ?_
            refine lv_if_lt (tgt := 92) hx hb dX6_joined_33 (by decide) (fun q => absurd q (nI_pos (by omega))) (fun _ => ?_)
            refine lv_iload hx hb dX6_joined_36 (lv_at hl 0 rfl) ?_
            refine lv_if_lt (tgt := 92) hx hb dX6_joined_38 (by decide) (fun _ => ?_) (fun q => absurd (by decide) q)
            refine lv_iinc (v := nI (y + 1)) (lv' := [(6, .int (nI (y + 1))), (8, .int ((-1))), (7, .int (nI k_3)), (4, .long (z_js st a d (fun u v => if sm = 0 then lN 1 else (z_la st u).toInt64 * (z_la st v).toInt64) y)), (0, .ref m), (1, .int a), (2, .int d), (3, .int (nI sm))]) hx hb dX6_joined_92 hl (k := 2) rfl (nI_add _ _) (by decide) rfl (fun ls hl => ?_)
            refine lv_goto (tgt := 6) hx hb dX6_joined_95 (by decide) ?_
            have z1 : z_f st a (nI y) = k_3 := z_fr_at f_5 f_6 _ f_4
            have z2 : z_f st d (nI y) = st_many st := z_fr_none _ f_12
            have e_4 : z_js st a d (fun u v => if sm = 0 then lN 1 else (z_la st u).toInt64 * (z_la st v).toInt64) (y + 1) = z_js st a d (fun u v => if sm = 0 then lN 1 else (z_la st u).toInt64 * (z_la st v).toInt64) y := if_neg (show ¬ z_jp st a d y by unfold z_jp; rw [z1, z2]; omega)
            rw [← e_4] at hl
            exact ih (y + 1) (by omega) (by omega) H locs hM hS ls (lv_sub hl [0, 3, 4, 5, 6, 7] rfl)
        · -- of 17
          subst hv
          rw [hh9] at hM
          refine W.eq (g2 := F0 mt 20 ls [.int ((-1))]) rfl ?_
          refine lv_istore (lv' := [(7, .int ((-1))), (6, .int (nI y)), (4, .long (z_js st a d (fun u v => if sm = 0 then lN 1 else (z_la st u).toInt64 * (z_la st v).toInt64) y)), (0, .ref m), (1, .int a), (2, .int d), (3, .int (nI sm))]) hx hb dX6_joined_20 hl (by decide) rfl (fun ls hl => ?_)
          refine lv_aload_n hx hb dX6_joined_22 rfl (lv_at hl 3 rfl) ?_
          refine lv_iload_n hx hb dX6_joined_23 rfl (lv_at hl 5 rfl) ?_
          refine lv_iload hx hb dX6_joined_24 (lv_at hl 1 rfl) ?_
          refine m_callV Z C hM hS (As := [.int d, .int (nI y)]) (rest := []) (c_X6_search Z h m q st hW d (nI y) (show st_many st ≤ 10 by omega)) yi_X6_search ml_X6_72 hW.o rfl ⟨Nat.le_of_ble_eq_true rfl, Nat.le_of_ble_eq_true rfl⟩ (Nat.le_of_ble_eq_true rfl) hl.1 rfl rfl dX6_joined_26 ⟨Nat.le_of_ble_eq_true rfl, Nat.le_of_ble_eq_true rfl⟩ (fun v h9 H locs hv hM hS => ?_)
          rcases hv with ⟨k_20, f_21, f_22, f_23, hv, hh9⟩ | ⟨f_24, hv, hh9⟩
          · -- of 26
            subst hv
            rw [hh9] at hM
            refine W.eq (g2 := F0 mt 29 ls [.int (nI k_20)]) rfl ?_
            have hn2 := (hk.2.2 _ f_21).1
            refine lv_istore (lv' := [(8, .int (nI k_20)), (7, .int ((-1))), (6, .int (nI y)), (4, .long (z_js st a d (fun u v => if sm = 0 then lN 1 else (z_la st u).toInt64 * (z_la st v).toInt64) y)), (0, .ref m), (1, .int a), (2, .int d), (3, .int (nI sm))]) hx hb dX6_joined_29 hl (by decide) rfl (fun ls hl => ?_)
            refine lv_iload hx hb dX6_joined_31 (lv_at hl 1 rfl) ?_
            refine lv_if_lt (tgt := 92) hx hb dX6_joined_33 (by decide) (fun _ => ?_) (fun q => absurd (by decide) q)
            refine lv_iinc (v := nI (y + 1)) (lv' := [(6, .int (nI (y + 1))), (8, .int (nI k_20)), (7, .int ((-1))), (4, .long (z_js st a d (fun u v => if sm = 0 then lN 1 else (z_la st u).toInt64 * (z_la st v).toInt64) y)), (0, .ref m), (1, .int a), (2, .int d), (3, .int (nI sm))]) hx hb dX6_joined_92 hl (k := 2) rfl (nI_add _ _) (by decide) rfl (fun ls hl => ?_)
            refine lv_goto (tgt := 6) hx hb dX6_joined_95 (by decide) ?_
            have z1 : z_f st a (nI y) = st_many st := z_fr_none _ f_7
            have z2 : z_f st d (nI y) = k_20 := z_fr_at f_22 f_23 _ f_21
            have e_4 : z_js st a d (fun u v => if sm = 0 then lN 1 else (z_la st u).toInt64 * (z_la st v).toInt64) (y + 1) = z_js st a d (fun u v => if sm = 0 then lN 1 else (z_la st u).toInt64 * (z_la st v).toInt64) y := if_neg (show ¬ z_jp st a d y by unfold z_jp; rw [z1, z2]; omega)
            rw [← e_4] at hl
            exact ih (y + 1) (by omega) (by omega) H locs hM hS ls (lv_sub hl [0, 3, 4, 5, 6, 7] rfl)
          · -- of 26
            subst hv
            rw [hh9] at hM
            refine W.eq (g2 := F0 mt 29 ls [.int ((-1))]) rfl ?_
            refine lv_istore (lv' := [(8, .int ((-1))), (7, .int ((-1))), (6, .int (nI y)), (4, .long (z_js st a d (fun u v => if sm = 0 then lN 1 else (z_la st u).toInt64 * (z_la st v).toInt64) y)), (0, .ref m), (1, .int a), (2, .int d), (3, .int (nI sm))]) hx hb dX6_joined_29 hl (by decide) rfl (fun ls hl => ?_)
            refine lv_iload hx hb dX6_joined_31 (lv_at hl 1 rfl) ?_
            refine lv_if_lt (tgt := 92) hx hb dX6_joined_33 (by decide) (fun _ => ?_) (fun q => absurd (by decide) q)
            refine lv_iinc (v := nI (y + 1)) (lv' := [(6, .int (nI (y + 1))), (8, .int ((-1))), (7, .int ((-1))), (4, .long (z_js st a d (fun u v => if sm = 0 then lN 1 else (z_la st u).toInt64 * (z_la st v).toInt64) y)), (0, .ref m), (1, .int a), (2, .int d), (3, .int (nI sm))]) hx hb dX6_joined_92 hl (k := 2) rfl (nI_add _ _) (by decide) rfl (fun ls hl => ?_)
            refine lv_goto (tgt := 6) hx hb dX6_joined_95 (by decide) ?_
            have z1 : z_f st a (nI y) = st_many st := z_fr_none _ f_7
            have z2 : z_f st d (nI y) = st_many st := z_fr_none _ f_24
            have e_4 : z_js st a d (fun u v => if sm = 0 then lN 1 else (z_la st u).toInt64 * (z_la st v).toInt64) (y + 1) = z_js st a d (fun u v => if sm = 0 then lN 1 else (z_la st u).toInt64 * (z_la st v).toInt64) y := if_neg (show ¬ z_jp st a d y by unfold z_jp; rw [z1, z2]; omega)
            rw [← e_4] at hl
            exact ih (y + 1) (by omega) (by omega) H locs hM hS ls (lv_sub hl [0, 3, 4, 5, 6, 7] rfl)
  exact lp_1 11 0 (by omega) (by omega) H locs hM hS ls (lv_sub hl [0, 1, 2, 3, 4, 5] rfl)
