set_option maxRecDepth 100000 in
set_option maxHeartbeats 4000000 in
theorem c_L_open {l : Launch} {G : mG} {a0 : Array Value} {s0 : State} (Z : mZ l G a0 s0) (No : mNo s0) (h0 : Hp) (x m : Nat) (q : Nat → Nat) (o o2 : Nat) (f : Nat → Int64) (g : Nat → UInt64) (st : Ms) (hJ : LJ G h0 x m q o o2 f g st st) (hk : Iv st) (a9 : Int32) (d9 : Int32) : mH l G s0 yL_open cL_open 5 (some .int) [(0, 10, 13, 13), (0, 10, 17, 15)] 7 112 15 449 h0 [.ref x, .int a9, .int d9, .ref o] (fun v9 h9 => v9 = some (.int (st_thr (T_open st a9 d9).1)) ∧ ∃ f9 : Nat → Int64, LJ G h9 x m q o o2 f9 g (T_open st a9 d9).1 st ∧ (st_thr (T_open st a9 d9).1 = nI 0 → f9 0 = (T_open st a9 d9).2)) := by
  refine mH_in RL "open" rfl rfl (by decide +kernel) (Nat.le_of_ble_eq_true rfl) ?_
  intro p e s mt below meth c H locs C ht hM hS ls hl
  have hx := C.1
  have hb := C.2.1
  have hown := C.2.2.2.1
  have hE := C.2.2.2.2.2.2.1
  have hl : lv_has ls 5 [(0, .ref x), (1, .int a9), (2, .int d9), (3, .ref o)] := hl
  have hJ0 := hJ
  obtain ⟨A, tg, X, fd, tt, gr, hA, hC, hR, hW, ho, ho2, t1, t2, t3, t4, n1, n2, n3, n4, n5⟩ := hJ
  subst hA
  refine lv_aload_n hx hb dL_open_0 rfl (lv_at hl 3 rfl) ?_
  refine lv_iconst (v := nI 0) hx hb dL_open_1 (by decide) ?_
  refine lv_aload_n hx hb dL_open_2 rfl (lv_at hl 0 rfl) ?_
  refine lv_iload_n hx hb dL_open_3 rfl (lv_at hl 1 rfl) ?_
  refine lv_iload_n hx hb dL_open_4 rfl (lv_at hl 2 rfl) ?_
  refine m_xcallV Z C hM hS (As := [.int a9, .int d9]) (rest := [.int (nI 0), .ref o]) (c_X5_open Z h0 A tg st X fd tt gr hC hk hR a9 d9) yi_X5_open ml_L_7 (hC.at clS_h) rfl ⟨Nat.le_of_ble_eq_true rfl, Nat.le_of_ble_eq_true rfl⟩ (Nat.le_of_ble_eq_true rfl) hl.1 rfl rfl dL_open_5 ⟨Nat.le_of_ble_eq_true rfl, Nat.le_of_ble_eq_true rfl⟩ (fun E ce q9 h9 H locs hv hM hS g1 g2 g3 => ?_) (fun v h9 H locs hv hM hS => ?_)
  · -- thrown
    rcases hv with ⟨hE9, c0, hN⟩ | ⟨hE9, c0, c1, c2, hN⟩
    · -- java/lang/IllegalArgumentException
      have e9 := RA_open_1 (st := st) (a := a9) (d := d9) hk.m10 c0
      have hJ9 : LJ G h9 (A (cd 0 1 0)) m q o o2 f g (T_open st a9 d9).1 st := by
        rw [e9]
        exact LJ.cls (X := X) (fd := fd) (tt := tt) (gr := gr) hW ho ho2 ⟨t1, t2, t3, t4⟩ ⟨n1, n2, n3, n4, n5⟩ (NW_thr hN _)
      subst hE9
      refine m_catch Z No C ht [] (0, 10, 13, 13) [(0, 10, 17, 15)] rfl (fun z hz => by cases hz) (by decide) (by decide) cl_L_13 ca_IAE g1 g2 g3 ?_
      refine lv_astore hx hb dL_open_13 hl (lv' := [(4, .ref q9), (0, .ref (A (cd 0 1 0))), (1, .int a9), (2, .int d9), (3, .ref o)]) (by decide) rfl (fun ls hl => ?_)
      refine lv_iconst (v := nI 1) hx hb dL_open_15 (by decide) ?_
      exact m_iret C hM hS (Nat.le_of_ble_eq_true rfl) (Nat.le_of_ble_eq_true rfl) dL_open_16 ⟨by rw [e9]; rfl, f, hJ9, fun z => absurd (show nI 1 = nI 0 from (by rw [e9] at z; exact z)) (by decide)⟩
    · -- java/lang/IllegalStateException
      have e9 := RA_open_2 (st := st) (a := a9) (d := d9) hk.m10 c0 c1 c2
      have hJ9 : LJ G h9 (A (cd 0 1 0)) m q o o2 f g (T_open st a9 d9).1 st := by
        rw [e9]
        exact LJ.cls (X := X) (fd := fd) (tt := tt) (gr := gr) hW ho ho2 ⟨t1, t2, t3, t4⟩ ⟨n1, n2, n3, n4, n5⟩ (NW_thr hN _)
      subst hE9
      refine m_catch Z No C ht [(0, 10, 13, 13)] (0, 10, 17, 15) [] rfl (by simp only [List.forall_mem_cons]; exact ⟨⟨by decide, _, cl_L_13, by decide⟩, fun _ hz => absurd hz List.not_mem_nil⟩) (by decide) (by decide) cl_L_15 ca_ISE g1 g2 g3 ?_
      refine lv_astore hx hb dL_open_17 hl (lv' := [(4, .ref q9), (0, .ref (A (cd 0 1 0))), (1, .int a9), (2, .int d9), (3, .ref o)]) (by decide) rfl (fun ls hl => ?_)
      refine lv_iconst (v := nI 2) hx hb dL_open_19 (by decide) ?_
      exact m_iret C hM hS (Nat.le_of_ble_eq_true rfl) (Nat.le_of_ble_eq_true rfl) dL_open_20 ⟨by rw [e9]; rfl, f, hJ9, fun z => absurd (show nI 2 = nI 0 from (by rw [e9] at z; exact z)) (by decide)⟩
  · -- returned
    obtain ⟨c0, c1, c2, c3, hv, hN⟩ := hv
    have e9 := RA_open_0 (st := st) (a := a9) (d := d9) hk.m10 c0 c1 c2 c3
    have hJ9 : LJ G h9 (A (cd 0 1 0)) m q o o2 f g (T_open st a9 d9).1 st := by
      rw [e9]
      exact LJ.cls (X := X) (fd := fd) (tt := tt) (gr := gr) hW ho ho2 ⟨t1, t2, t3, t4⟩ ⟨n1, n2, n3, n4, n5⟩ hN
    subst hv
    refine W.eq (g2 := F0 mt 8 ls [.int (nI (st_many st)), .int (nI 0), .ref o]) rfl ?_
    refine lv_i2l hx hb dL_open_8 rfl ?_
    refine m_last Z C hM hS hJ9.oo 0 rfl (by decide) (by decide) dL_open_9 (fun H locs hM hS => ?_)
    refine lv_goto (tgt := 21) hx hb dL_open_10 (by decide) ?_
    refine lv_iconst (v := nI 0) hx hb dL_open_21 (by decide) ?_
    exact m_iret C hM hS (Nat.le_of_ble_eq_true rfl) (Nat.le_of_ble_eq_true rfl) dL_open_22 ⟨by rw [e9]; rfl, _, hJ9.put _, fun _ => (va_up_self _ _ _).trans (by rw [e9])⟩
set_option maxRecDepth 100000 in
set_option maxHeartbeats 4000000 in
theorem c_L_pass {l : Launch} {G : mG} {a0 : Array Value} {s0 : State} (Z : mZ l G a0 s0) (No : mNo s0) (h0 : Hp) (x m : Nat) (q : Nat → Nat) (o o2 : Nat) (f : Nat → Int64) (g : Nat → UInt64) (st : Ms) (hJ : LJ G h0 x m q o o2 f g st st) (hk : Iv st) (x9 : Int32) : mH l G s0 yL_pass cL_pass 4 (some .int) [(0, 8, 11, 13)] 7 111 1 6 h0 [.ref x, .int x9, .ref o] (fun v9 h9 => v9 = some (.int (st_thr (T_pass st x9).1)) ∧ ∃ f9 : Nat → Int64, LJ G h9 x m q o o2 f9 g (T_pass st x9).1 st ∧ (st_thr (T_pass st x9).1 = nI 0 → f9 0 = (T_pass st x9).2)) := by
  refine mH_in RL "pass" rfl rfl (by decide +kernel) (Nat.le_of_ble_eq_true rfl) ?_
  intro p e s mt below meth c H locs C ht hM hS ls hl
  have hx := C.1
  have hb := C.2.1
  have hown := C.2.2.2.1
  have hE := C.2.2.2.2.2.2.1
  have hl : lv_has ls 4 [(0, .ref x), (1, .int x9), (2, .ref o)] := hl
  have hJ0 := hJ
  obtain ⟨A, tg, X, fd, tt, gr, hA, hC, hR, hW, ho, ho2, t1, t2, t3, t4, n1, n2, n3, n4, n5⟩ := hJ
  subst hA
  refine lv_aload_n hx hb dL_pass_0 rfl (lv_at hl 2 rfl) ?_
  refine lv_iconst (v := nI 0) hx hb dL_pass_1 (by decide) ?_
  refine lv_aload_n hx hb dL_pass_2 rfl (lv_at hl 0 rfl) ?_
  refine lv_iload_n hx hb dL_pass_3 rfl (lv_at hl 1 rfl) ?_
  refine m_xcallV Z C hM hS (As := [.int x9]) (rest := [.int (nI 0), .ref o]) (c_X5_pass Z h0 A tg st X fd tt gr hC hk hR x9) yi_X5_pass ml_L_17 (hC.at clS_h) rfl ⟨Nat.le_of_ble_eq_true rfl, Nat.le_of_ble_eq_true rfl⟩ (Nat.le_of_ble_eq_true rfl) hl.1 rfl rfl dL_pass_4 ⟨Nat.le_of_ble_eq_true rfl, Nat.le_of_ble_eq_true rfl⟩ (fun E ce q9 h9 H locs hv hM hS g1 g2 g3 => ?_) (fun v h9 H locs hv hM hS => ?_)
  · -- thrown
    obtain ⟨hE9, c0, hN⟩ := hv
    have e9 := RA_pass_1 (st := st) (x := x9) hk.m10 c0
    have hJ9 : LJ G h9 (A (cd 0 1 0)) m q o o2 f g (T_pass st x9).1 st := by
      rw [e9]
      exact LJ.cls (X := X) (fd := fd) (tt := tt) (gr := gr) hW ho ho2 ⟨t1, t2, t3, t4⟩ ⟨n1, n2, n3, n4, n5⟩ (NW_thr hN _)
    subst hE9
    refine m_catch Z No C ht [] (0, 8, 11, 13) [] rfl (fun z hz => by cases hz) (by decide) (by decide) cl_L_13 ca_IAE g1 g2 g3 ?_
    refine lv_astore_n hx hb dL_pass_11 rfl hl (lv' := [(3, .ref q9), (0, .ref (A (cd 0 1 0))), (1, .int x9), (2, .ref o)]) (by decide) rfl (fun ls hl => ?_)
    refine lv_iconst (v := nI 1) hx hb dL_pass_12 (by decide) ?_
    exact m_iret C hM hS (Nat.le_of_ble_eq_true rfl) (Nat.le_of_ble_eq_true rfl) dL_pass_13 ⟨by rw [e9]; rfl, f, hJ9, fun z => absurd (show nI 1 = nI 0 from (by rw [e9] at z; exact z)) (by decide)⟩
  · -- returned
    obtain ⟨d, c0, c1, hv, hN⟩ := hv
    have e9 := RA_pass_0 (st := st) (x := x9) hk.m10 c0 c1
    have hJ9 : LJ G h9 (A (cd 0 1 0)) m q o o2 f g (T_pass st x9).1 st := by
      rw [e9]
      exact LJ.cls (X := X) (fd := fd) (tt := tt) (gr := gr) hW ho ho2 ⟨t1, t2, t3, t4⟩ ⟨n1, n2, n3, n4, n5⟩ hN
    subst hv
    refine W.eq (g2 := F0 mt 7 ls [.long (lN (st_now st + d)), .int (nI 0), .ref o]) rfl ?_
    refine m_last Z C hM hS hJ9.oo 0 rfl (by decide) (by decide) dL_pass_7 (fun H locs hM hS => ?_)
    refine lv_goto (tgt := 14) hx hb dL_pass_8 (by decide) ?_
    refine lv_iconst (v := nI 0) hx hb dL_pass_14 (by decide) ?_
    exact m_iret C hM hS (Nat.le_of_ble_eq_true rfl) (Nat.le_of_ble_eq_true rfl) dL_pass_15 ⟨by rw [e9]; rfl, _, hJ9.put _, fun _ => (va_up_self _ _ _).trans (by rw [e9])⟩
set_option maxRecDepth 100000 in
set_option maxHeartbeats 4000000 in
theorem c_L_add {l : Launch} {G : mG} {a0 : Array Value} {s0 : State} (Z : mZ l G a0 s0) (No : mNo s0) (h0 : Hp) (x m : Nat) (q : Nat → Nat) (o o2 : Nat) (f : Nat → Int64) (g : Nat → UInt64) (st : Ms) (hJ : LJ G h0 x m q o o2 f g st st) (hk : Iv st) (x9 : Int32) (w9 : Int32) : mH l G s0 yL_add cL_add 5 (some .int) [(0, 10, 13, 24), (0, 10, 17, 13), (0, 10, 21, 15)] 8 135 5 37 h0 [.ref x, .int x9, .int w9, .ref o] (fun v9 h9 => v9 = some (.int (st_thr (T_add st x9 w9).1)) ∧ ∃ f9 : Nat → Int64, LJ G h9 x m q o o2 f9 g (T_add st x9 w9).1 st ∧ (st_thr (T_add st x9 w9).1 = nI 0 → f9 0 = (T_add st x9 w9).2)) := by
  refine mH_in RL "add" rfl rfl (by decide +kernel) (Nat.le_of_ble_eq_true rfl) ?_
  intro p e s mt below meth c H locs C ht hM hS ls hl
  have hx := C.1
  have hb := C.2.1
  have hown := C.2.2.2.1
  have hE := C.2.2.2.2.2.2.1
  have hl : lv_has ls 5 [(0, .ref x), (1, .int x9), (2, .int w9), (3, .ref o)] := hl
  have hJ0 := hJ
  obtain ⟨A, tg, X, fd, tt, gr, hA, hC, hR, hW, ho, ho2, t1, t2, t3, t4, n1, n2, n3, n4, n5⟩ := hJ
  subst hA
  refine lv_aload_n hx hb dL_add_0 rfl (lv_at hl 3 rfl) ?_
  refine lv_iconst (v := nI 0) hx hb dL_add_1 (by decide) ?_
  refine lv_aload_n hx hb dL_add_2 rfl (lv_at hl 0 rfl) ?_
  refine lv_iload_n hx hb dL_add_3 rfl (lv_at hl 1 rfl) ?_
  refine lv_iload_n hx hb dL_add_4 rfl (lv_at hl 2 rfl) ?_
  refine m_xcallV Z C hM hS (As := [.int x9, .int w9]) (rest := [.int (nI 0), .ref o]) (c_X5_add Z h0 A tg st X fd tt gr hC hk hR x9 w9) yi_X5_add ml_L_21 (hC.at clS_h) rfl ⟨Nat.le_of_ble_eq_true rfl, Nat.le_of_ble_eq_true rfl⟩ (Nat.le_of_ble_eq_true rfl) hl.1 rfl rfl dL_add_5 ⟨Nat.le_of_ble_eq_true rfl, Nat.le_of_ble_eq_true rfl⟩ (fun E ce q9 h9 H locs hv hM hS g1 g2 g3 => ?_) (fun v h9 H locs hv hM hS => ?_)
  · -- thrown
    rcases hv with ⟨hE9, c0, hN⟩ | ⟨k, hE9, c0, c1, c2, hN⟩ | ⟨k, hE9, c0, c1, c2, c3, hN⟩
    · -- java/util/NoSuchElementException
      have e9 := RA_add_1 (st := st) (x := x9) (w := w9) hk.m10 c0
      have hJ9 : LJ G h9 (A (cd 0 1 0)) m q o o2 f g (T_add st x9 w9).1 st := by
        rw [e9]
        exact LJ.cls (X := X) (fd := fd) (tt := tt) (gr := gr) hW ho ho2 ⟨t1, t2, t3, t4⟩ ⟨n1, n2, n3, n4, n5⟩ (NW_thr hN _)
      subst hE9
      refine m_catch Z No C ht [] (0, 10, 13, 24) [(0, 10, 17, 13), (0, 10, 21, 15)] rfl (fun z hz => by cases hz) (by decide) (by decide) cl_L_24 ca_NSE g1 g2 g3 ?_
      refine lv_astore hx hb dL_add_13 hl (lv' := [(4, .ref q9), (0, .ref (A (cd 0 1 0))), (1, .int x9), (2, .int w9), (3, .ref o)]) (by decide) rfl (fun ls hl => ?_)
      refine lv_iconst (v := nI 1) hx hb dL_add_15 (by decide) ?_
      exact m_iret C hM hS (Nat.le_of_ble_eq_true rfl) (Nat.le_of_ble_eq_true rfl) dL_add_16 ⟨by rw [e9]; rfl, f, hJ9, fun z => absurd (show nI 1 = nI 0 from (by rw [e9] at z; exact z)) (by decide)⟩
    · -- java/lang/IllegalArgumentException
      have e9 := RA_add_2 (st := st) (x := x9) (w := w9) hk.m10 c0 c1 c2
      have hJ9 : LJ G h9 (A (cd 0 1 0)) m q o o2 f g (T_add st x9 w9).1 st := by
        rw [e9]
        exact LJ.cls (X := X) (fd := fd) (tt := tt) (gr := gr) hW ho ho2 ⟨t1, t2, t3, t4⟩ ⟨n1, n2, n3, n4, n5⟩ (NW_thr hN _)
      subst hE9
      refine m_catch Z No C ht [(0, 10, 13, 24)] (0, 10, 17, 13) [(0, 10, 21, 15)] rfl (by simp only [List.forall_mem_cons]; exact ⟨⟨by decide, _, cl_L_24, by decide⟩, fun _ hz => absurd hz List.not_mem_nil⟩) (by decide) (by decide) cl_L_13 ca_IAE g1 g2 g3 ?_
      refine lv_astore hx hb dL_add_17 hl (lv' := [(4, .ref q9), (0, .ref (A (cd 0 1 0))), (1, .int x9), (2, .int w9), (3, .ref o)]) (by decide) rfl (fun ls hl => ?_)
      refine lv_iconst (v := nI 2) hx hb dL_add_19 (by decide) ?_
      exact m_iret C hM hS (Nat.le_of_ble_eq_true rfl) (Nat.le_of_ble_eq_true rfl) dL_add_20 ⟨by rw [e9]; rfl, f, hJ9, fun z => absurd (show nI 2 = nI 0 from (by rw [e9] at z; exact z)) (by decide)⟩
    · -- java/lang/IllegalStateException
      have e9 := RA_add_3 (st := st) (x := x9) (w := w9) hk.m10 c0 c1 c2 c3
      have hJ9 : LJ G h9 (A (cd 0 1 0)) m q o o2 f g (T_add st x9 w9).1 st := by
        rw [e9]
        exact LJ.cls (X := X) (fd := fd) (tt := tt) (gr := gr) hW ho ho2 ⟨t1, t2, t3, t4⟩ ⟨n1, n2, n3, n4, n5⟩ (NW_thr hN _)
      subst hE9
      refine m_catch Z No C ht [(0, 10, 13, 24), (0, 10, 17, 13)] (0, 10, 21, 15) [] rfl (by simp only [List.forall_mem_cons]; exact ⟨⟨by decide, _, cl_L_24, by decide⟩, ⟨by decide, _, cl_L_13, by decide⟩, fun _ hz => absurd hz List.not_mem_nil⟩) (by decide) (by decide) cl_L_15 ca_ISE g1 g2 g3 ?_
      refine lv_astore hx hb dL_add_21 hl (lv' := [(4, .ref q9), (0, .ref (A (cd 0 1 0))), (1, .int x9), (2, .int w9), (3, .ref o)]) (by decide) rfl (fun ls hl => ?_)
      refine lv_iconst (v := nI 3) hx hb dL_add_23 (by decide) ?_
      exact m_iret C hM hS (Nat.le_of_ble_eq_true rfl) (Nat.le_of_ble_eq_true rfl) dL_add_24 ⟨by rw [e9]; rfl, f, hJ9, fun z => absurd (show nI 3 = nI 0 from (by rw [e9] at z; exact z)) (by decide)⟩
  · -- returned
    obtain ⟨k, c0, c1, c2, c3, hv, hN⟩ := hv
    have e9 := RA_add_0 (st := st) (x := x9) (w := w9) hk.m10 c0 c1 c2 c3
    have hJ9 : LJ G h9 (A (cd 0 1 0)) m q o o2 f g (T_add st x9 w9).1 st := by
      rw [e9]
      exact LJ.cls (X := X) (fd := fd) (tt := tt) (gr := gr) hW ho ho2 ⟨t1, t2, t3, t4⟩ ⟨n1, n2, n3, n4, n5⟩ hN
    subst hv
    refine W.eq (g2 := F0 mt 8 ls [.int (nI (st_n st k + 1)), .int (nI 0), .ref o]) rfl ?_
    refine lv_i2l hx hb dL_add_8 rfl ?_
    refine m_last Z C hM hS hJ9.oo 0 rfl (by decide) (by decide) dL_add_9 (fun H locs hM hS => ?_)
    refine lv_goto (tgt := 25) hx hb dL_add_10 (by decide) ?_
    refine lv_iconst (v := nI 0) hx hb dL_add_25 (by decide) ?_
    exact m_iret C hM hS (Nat.le_of_ble_eq_true rfl) (Nat.le_of_ble_eq_true rfl) dL_add_26 ⟨by rw [e9]; exact (congrArg (fun z => some (Value.int z)) (ad_thr _ _ _)).symm, _, hJ9.put _, fun _ => (va_up_self _ _ _).trans (by rw [e9])⟩
set_option maxRecDepth 100000 in
set_option maxHeartbeats 4000000 in
theorem c_L_find {l : Launch} {G : mG} {a0 : Array Value} {s0 : State} (Z : mZ l G a0 s0) (No : mNo s0) (h0 : Hp) (x m : Nat) (q : Nat → Nat) (o o2 : Nat) (f : Nat → Int64) (g : Nat → UInt64) (st : Ms) (hJ : LJ G h0 x m q o o2 f g st st) (hk : Iv st) (a9 : Int32) (d9 : Int32) : mH l G s0 yL_find cL_find 5 (some .int) [(0, 10, 13, 24)] 7 113 1 6 h0 [.ref x, .int a9, .int d9, .ref o] (fun v9 h9 => v9 = some (.int (st_thr (T_find st a9 d9).1)) ∧ ∃ f9 : Nat → Int64, LJ G h9 x m q o o2 f9 g (T_find st a9 d9).1 st ∧ (st_thr (T_find st a9 d9).1 = nI 0 → f9 0 = (T_find st a9 d9).2)) := by
  refine mH_in RL "find" rfl rfl (by decide +kernel) (Nat.le_of_ble_eq_true rfl) ?_
  intro p e s mt below meth c H locs C ht hM hS ls hl
  have hx := C.1
  have hb := C.2.1
  have hown := C.2.2.2.1
  have hE := C.2.2.2.2.2.2.1
  have hl : lv_has ls 5 [(0, .ref x), (1, .int a9), (2, .int d9), (3, .ref o)] := hl
  have hJ0 := hJ
  obtain ⟨A, tg, X, fd, tt, gr, hA, hC, hR, hW, ho, ho2, t1, t2, t3, t4, n1, n2, n3, n4, n5⟩ := hJ
  subst hA
  refine lv_aload_n hx hb dL_find_0 rfl (lv_at hl 3 rfl) ?_
  refine lv_iconst (v := nI 0) hx hb dL_find_1 (by decide) ?_
  refine lv_aload_n hx hb dL_find_2 rfl (lv_at hl 0 rfl) ?_
  refine lv_iload_n hx hb dL_find_3 rfl (lv_at hl 1 rfl) ?_
  refine lv_iload_n hx hb dL_find_4 rfl (lv_at hl 2 rfl) ?_
  refine m_xcallV Z C hM hS (As := [.int a9, .int d9]) (rest := [.int (nI 0), .ref o]) (c_X5_find Z h0 A tg st X fd tt gr hC hk hR a9 d9) yi_X5_find ml_L_26 (hC.at clS_h) rfl ⟨Nat.le_of_ble_eq_true rfl, Nat.le_of_ble_eq_true rfl⟩ (Nat.le_of_ble_eq_true rfl) hl.1 rfl rfl dL_find_5 ⟨Nat.le_of_ble_eq_true rfl, Nat.le_of_ble_eq_true rfl⟩ (fun E ce q9 h9 H locs hv hM hS g1 g2 g3 => ?_) (fun v h9 H locs hv hM hS => ?_)
  · -- thrown
    obtain ⟨hE9, c0, hN⟩ := hv
    have e9 := RA_find_1 (st := st) (a := a9) (d := d9) hk.m10 c0
    have hJ9 : LJ G h9 (A (cd 0 1 0)) m q o o2 f g (T_find st a9 d9).1 st := by
      rw [e9]
      exact LJ.cls (X := X) (fd := fd) (tt := tt) (gr := gr) hW ho ho2 ⟨t1, t2, t3, t4⟩ ⟨n1, n2, n3, n4, n5⟩ (NW_thr hN _)
    subst hE9
    refine m_catch Z No C ht [] (0, 10, 13, 24) [] rfl (fun z hz => by cases hz) (by decide) (by decide) cl_L_24 ca_NSE g1 g2 g3 ?_
    refine lv_astore hx hb dL_find_13 hl (lv' := [(4, .ref q9), (0, .ref (A (cd 0 1 0))), (1, .int a9), (2, .int d9), (3, .ref o)]) (by decide) rfl (fun ls hl => ?_)
    refine lv_iconst (v := nI 1) hx hb dL_find_15 (by decide) ?_
    exact m_iret C hM hS (Nat.le_of_ble_eq_true rfl) (Nat.le_of_ble_eq_true rfl) dL_find_16 ⟨by rw [e9]; rfl, f, hJ9, fun z => absurd (show nI 1 = nI 0 from (by rw [e9] at z; exact z)) (by decide)⟩
  · -- returned
    obtain ⟨k, c0, c1, c2, hv, hN⟩ := hv
    have e9 := RA_find_0 (st := st) (a := a9) (d := d9) hk.m10 c0 c1 c2
    have hJ9 : LJ G h9 (A (cd 0 1 0)) m q o o2 f g (T_find st a9 d9).1 st := by
      rw [e9]
      exact LJ.cls (X := X) (fd := fd) (tt := tt) (gr := gr) hW ho ho2 ⟨t1, t2, t3, t4⟩ ⟨n1, n2, n3, n4, n5⟩ (NW_thr hN _)
    subst hv
    refine W.eq (g2 := F0 mt 8 ls [.int (nI k), .int (nI 0), .ref o]) rfl ?_
    refine lv_i2l hx hb dL_find_8 rfl ?_
    refine m_last Z C hM hS hJ9.oo 0 rfl (by decide) (by decide) dL_find_9 (fun H locs hM hS => ?_)
    refine lv_goto (tgt := 17) hx hb dL_find_10 (by decide) ?_
    refine lv_iconst (v := nI 0) hx hb dL_find_17 (by decide) ?_
    exact m_iret C hM hS (Nat.le_of_ble_eq_true rfl) (Nat.le_of_ble_eq_true rfl) dL_find_18 ⟨by rw [e9]; rfl, _, hJ9.put _, fun _ => (va_up_self _ _ _).trans (by rw [e9])⟩
set_option maxRecDepth 100000 in
set_option maxHeartbeats 4000000 in
theorem c_L_nameOf {l : Launch} {G : mG} {a0 : Array Value} {s0 : State} (Z : mZ l G a0 s0) (No : mNo s0) (h0 : Hp) (x m : Nat) (q : Nat → Nat) (o o2 : Nat) (f : Nat → Int64) (g : Nat → UInt64) (st : Ms) (hJ : LJ G h0 x m q o o2 f g st st) (hk : Iv st) (x9 : Int32) : mH l G s0 yL_nameOf cL_nameOf 4 (some .int) [(0, 9, 12, 24)] 8 133 1 6 h0 [.ref x, .int x9, .ref o] (fun v9 h9 => v9 = some (.int (st_thr (T_nameOf st x9).1)) ∧ ∃ f9 : Nat → Int64, LJ G h9 x m q o o2 f9 g (T_nameOf st x9).1 st ∧ (st_thr (T_nameOf st x9).1 = nI 0 → f9 0 = (T_nameOf st x9).2)) := by
  refine mH_in RL "nameOf" rfl rfl (by decide +kernel) (Nat.le_of_ble_eq_true rfl) ?_
  intro p e s mt below meth c H locs C ht hM hS ls hl
  have hx := C.1
  have hb := C.2.1
  have hown := C.2.2.2.1
  have hE := C.2.2.2.2.2.2.1
  have hl : lv_has ls 4 [(0, .ref x), (1, .int x9), (2, .ref o)] := hl
  have hJ0 := hJ
  obtain ⟨A, tg, X, fd, tt, gr, hA, hC, hR, hW, ho, ho2, t1, t2, t3, t4, n1, n2, n3, n4, n5⟩ := hJ
  subst hA
  refine lv_aload_n hx hb dL_nameOf_0 rfl (lv_at hl 2 rfl) ?_
  refine lv_iconst (v := nI 0) hx hb dL_nameOf_1 (by decide) ?_
  refine lv_aload_n hx hb dL_nameOf_2 rfl (lv_at hl 0 rfl) ?_
  refine lv_iload_n hx hb dL_nameOf_3 rfl (lv_at hl 1 rfl) ?_
  refine m_xcallV Z C hM hS (As := [.int x9]) (rest := [.int (nI 0), .ref o]) (c_X5_nameOf Z h0 A tg st X fd tt gr hC hk hR x9) yi_X5_nameOf ml_L_29 (hC.at clS_h) rfl ⟨Nat.le_of_ble_eq_true rfl, Nat.le_of_ble_eq_true rfl⟩ (Nat.le_of_ble_eq_true rfl) hl.1 rfl rfl dL_nameOf_4 ⟨Nat.le_of_ble_eq_true rfl, Nat.le_of_ble_eq_true rfl⟩ (fun E ce q9 h9 H locs hv hM hS g1 g2 g3 => ?_) (fun v h9 H locs hv hM hS => ?_)
  · -- thrown
    obtain ⟨hE9, c0, hN⟩ := hv
    have e9 := RA_nameOf_1 (st := st) (x := x9) hk.m10 c0
    have hJ9 : LJ G h9 (A (cd 0 1 0)) m q o o2 f g (T_nameOf st x9).1 st := by
      rw [e9]
      exact LJ.cls (X := X) (fd := fd) (tt := tt) (gr := gr) hW ho ho2 ⟨t1, t2, t3, t4⟩ ⟨n1, n2, n3, n4, n5⟩ (NW_thr hN _)
    subst hE9
    refine m_catch Z No C ht [] (0, 9, 12, 24) [] rfl (fun z hz => by cases hz) (by decide) (by decide) cl_L_24 ca_NSE g1 g2 g3 ?_
    refine lv_astore_n hx hb dL_nameOf_12 rfl hl (lv' := [(3, .ref q9), (0, .ref (A (cd 0 1 0))), (1, .int x9), (2, .ref o)]) (by decide) rfl (fun ls hl => ?_)
    refine lv_iconst (v := nI 1) hx hb dL_nameOf_13 (by decide) ?_
    exact m_iret C hM hS (Nat.le_of_ble_eq_true rfl) (Nat.le_of_ble_eq_true rfl) dL_nameOf_14 ⟨by rw [e9]; rfl, f, hJ9, fun z => absurd (show nI 1 = nI 0 from (by rw [e9] at z; exact z)) (by decide)⟩
  · -- returned
    obtain ⟨k, c0, c1, hv, hN⟩ := hv
    have e9 := RA_nameOf_0 (st := st) (x := x9) hk.m10 c0 c1
    have hJ9 : LJ G h9 (A (cd 0 1 0)) m q o o2 f g (T_nameOf st x9).1 st := by
      rw [e9]
      exact LJ.cls (X := X) (fd := fd) (tt := tt) (gr := gr) hW ho ho2 ⟨t1, t2, t3, t4⟩ ⟨n1, n2, n3, n4, n5⟩ (NW_thr hN _)
    subst hv
    refine W.eq (g2 := F0 mt 7 ls [.int (st_nm st k), .int (nI 0), .ref o]) rfl ?_
    refine lv_i2l hx hb dL_nameOf_7 rfl ?_
    refine m_last Z C hM hS hJ9.oo 0 rfl (by decide) (by decide) dL_nameOf_8 (fun H locs hM hS => ?_)
    refine lv_goto (tgt := 15) hx hb dL_nameOf_9 (by decide) ?_
    refine lv_iconst (v := nI 0) hx hb dL_nameOf_15 (by decide) ?_
    exact m_iret C hM hS (Nat.le_of_ble_eq_true rfl) (Nat.le_of_ble_eq_true rfl) dL_nameOf_16 ⟨by rw [e9]; rfl, _, hJ9.put _, fun _ => (va_up_self _ _ _).trans (by rw [e9])⟩
set_option maxRecDepth 100000 in
set_option maxHeartbeats 4000000 in
theorem c_L_hostOf {l : Launch} {G : mG} {a0 : Array Value} {s0 : State} (Z : mZ l G a0 s0) (No : mNo s0) (h0 : Hp) (x m : Nat) (q : Nat → Nat) (o o2 : Nat) (f : Nat → Int64) (g : Nat → UInt64) (st : Ms) (hJ : LJ G h0 x m q o o2 f g st st) (hk : Iv st) (x9 : Int32) : mH l G s0 yL_hostOf cL_hostOf 4 (some .int) [(0, 9, 12, 24)] 8 133 1 6 h0 [.ref x, .int x9, .ref o] (fun v9 h9 => v9 = some (.int (st_thr (T_hostOf st x9).1)) ∧ ∃ f9 : Nat → Int64, LJ G h9 x m q o o2 f9 g (T_hostOf st x9).1 st ∧ (st_thr (T_hostOf st x9).1 = nI 0 → f9 0 = (T_hostOf st x9).2)) := by
  refine mH_in RL "hostOf" rfl rfl (by decide +kernel) (Nat.le_of_ble_eq_true rfl) ?_
  intro p e s mt below meth c H locs C ht hM hS ls hl
  have hx := C.1
  have hb := C.2.1
  have hown := C.2.2.2.1
  have hE := C.2.2.2.2.2.2.1
  have hl : lv_has ls 4 [(0, .ref x), (1, .int x9), (2, .ref o)] := hl
  have hJ0 := hJ
  obtain ⟨A, tg, X, fd, tt, gr, hA, hC, hR, hW, ho, ho2, t1, t2, t3, t4, n1, n2, n3, n4, n5⟩ := hJ
  subst hA
  refine lv_aload_n hx hb dL_hostOf_0 rfl (lv_at hl 2 rfl) ?_
  refine lv_iconst (v := nI 0) hx hb dL_hostOf_1 (by decide) ?_
  refine lv_aload_n hx hb dL_hostOf_2 rfl (lv_at hl 0 rfl) ?_
  refine lv_iload_n hx hb dL_hostOf_3 rfl (lv_at hl 1 rfl) ?_
  refine m_xcallV Z C hM hS (As := [.int x9]) (rest := [.int (nI 0), .ref o]) (c_X5_hostOf Z h0 A tg st X fd tt gr hC hk hR x9) yi_X5_hostOf ml_L_33 (hC.at clS_h) rfl ⟨Nat.le_of_ble_eq_true rfl, Nat.le_of_ble_eq_true rfl⟩ (Nat.le_of_ble_eq_true rfl) hl.1 rfl rfl dL_hostOf_4 ⟨Nat.le_of_ble_eq_true rfl, Nat.le_of_ble_eq_true rfl⟩ (fun E ce q9 h9 H locs hv hM hS g1 g2 g3 => ?_) (fun v h9 H locs hv hM hS => ?_)
  · -- thrown
    obtain ⟨hE9, c0, hN⟩ := hv
    have e9 := RA_hostOf_1 (st := st) (x := x9) hk.m10 c0
    have hJ9 : LJ G h9 (A (cd 0 1 0)) m q o o2 f g (T_hostOf st x9).1 st := by
      rw [e9]
      exact LJ.cls (X := X) (fd := fd) (tt := tt) (gr := gr) hW ho ho2 ⟨t1, t2, t3, t4⟩ ⟨n1, n2, n3, n4, n5⟩ (NW_thr hN _)
    subst hE9
    refine m_catch Z No C ht [] (0, 9, 12, 24) [] rfl (fun z hz => by cases hz) (by decide) (by decide) cl_L_24 ca_NSE g1 g2 g3 ?_
    refine lv_astore_n hx hb dL_hostOf_12 rfl hl (lv' := [(3, .ref q9), (0, .ref (A (cd 0 1 0))), (1, .int x9), (2, .ref o)]) (by decide) rfl (fun ls hl => ?_)
    refine lv_iconst (v := nI 1) hx hb dL_hostOf_13 (by decide) ?_
    exact m_iret C hM hS (Nat.le_of_ble_eq_true rfl) (Nat.le_of_ble_eq_true rfl) dL_hostOf_14 ⟨by rw [e9]; rfl, f, hJ9, fun z => absurd (show nI 1 = nI 0 from (by rw [e9] at z; exact z)) (by decide)⟩
  · -- returned
    obtain ⟨k, c0, c1, hv, hN⟩ := hv
    have e9 := RA_hostOf_0 (st := st) (x := x9) hk.m10 c0 c1
    have hJ9 : LJ G h9 (A (cd 0 1 0)) m q o o2 f g (T_hostOf st x9).1 st := by
      rw [e9]
      exact LJ.cls (X := X) (fd := fd) (tt := tt) (gr := gr) hW ho ho2 ⟨t1, t2, t3, t4⟩ ⟨n1, n2, n3, n4, n5⟩ (NW_thr hN _)
    subst hv
    refine W.eq (g2 := F0 mt 7 ls [.int (st_ho st k), .int (nI 0), .ref o]) rfl ?_
    refine lv_i2l hx hb dL_hostOf_7 rfl ?_
    refine m_last Z C hM hS hJ9.oo 0 rfl (by decide) (by decide) dL_hostOf_8 (fun H locs hM hS => ?_)
    refine lv_goto (tgt := 15) hx hb dL_hostOf_9 (by decide) ?_
    refine lv_iconst (v := nI 0) hx hb dL_hostOf_15 (by decide) ?_
    exact m_iret C hM hS (Nat.le_of_ble_eq_true rfl) (Nat.le_of_ble_eq_true rfl) dL_hostOf_16 ⟨by rw [e9]; rfl, _, hJ9.put _, fun _ => (va_up_self _ _ _).trans (by rw [e9])⟩
set_option maxRecDepth 100000 in
set_option maxHeartbeats 4000000 in
theorem c_L_samples {l : Launch} {G : mG} {a0 : Array Value} {s0 : State} (Z : mZ l G a0 s0) (No : mNo s0) (h0 : Hp) (x m : Nat) (q : Nat → Nat) (o o2 : Nat) (f : Nat → Int64) (g : Nat → UInt64) (st : Ms) (hJ : LJ G h0 x m q o o2 f g st st) (hk : Iv st) (x9 : Int32) : mH l G s0 yL_samples cL_samples 4 (some .int) [(0, 9, 12, 24)] 8 133 1 6 h0 [.ref x, .int x9, .ref o] (fun v9 h9 => v9 = some (.int (st_thr (T_samples st x9).1)) ∧ ∃ f9 : Nat → Int64, LJ G h9 x m q o o2 f9 g (T_samples st x9).1 st ∧ (st_thr (T_samples st x9).1 = nI 0 → f9 0 = (T_samples st x9).2)) := by
  refine mH_in RL "samples" rfl rfl (by decide +kernel) (Nat.le_of_ble_eq_true rfl) ?_
  intro p e s mt below meth c H locs C ht hM hS ls hl
  have hx := C.1
  have hb := C.2.1
  have hown := C.2.2.2.1
  have hE := C.2.2.2.2.2.2.1
  have hl : lv_has ls 4 [(0, .ref x), (1, .int x9), (2, .ref o)] := hl
  have hJ0 := hJ
  obtain ⟨A, tg, X, fd, tt, gr, hA, hC, hR, hW, ho, ho2, t1, t2, t3, t4, n1, n2, n3, n4, n5⟩ := hJ
  subst hA
  refine lv_aload_n hx hb dL_samples_0 rfl (lv_at hl 2 rfl) ?_
  refine lv_iconst (v := nI 0) hx hb dL_samples_1 (by decide) ?_
  refine lv_aload_n hx hb dL_samples_2 rfl (lv_at hl 0 rfl) ?_
  refine lv_iload_n hx hb dL_samples_3 rfl (lv_at hl 1 rfl) ?_
  refine m_xcallV Z C hM hS (As := [.int x9]) (rest := [.int (nI 0), .ref o]) (c_X5_samples Z h0 A tg st X fd tt gr hC hk hR x9) yi_X5_samples ml_L_36 (hC.at clS_h) rfl ⟨Nat.le_of_ble_eq_true rfl, Nat.le_of_ble_eq_true rfl⟩ (Nat.le_of_ble_eq_true rfl) hl.1 rfl rfl dL_samples_4 ⟨Nat.le_of_ble_eq_true rfl, Nat.le_of_ble_eq_true rfl⟩ (fun E ce q9 h9 H locs hv hM hS g1 g2 g3 => ?_) (fun v h9 H locs hv hM hS => ?_)
  · -- thrown
    obtain ⟨hE9, c0, hN⟩ := hv
    have e9 := RA_samples_1 (st := st) (x := x9) hk.m10 c0
    have hJ9 : LJ G h9 (A (cd 0 1 0)) m q o o2 f g (T_samples st x9).1 st := by
      rw [e9]
      exact LJ.cls (X := X) (fd := fd) (tt := tt) (gr := gr) hW ho ho2 ⟨t1, t2, t3, t4⟩ ⟨n1, n2, n3, n4, n5⟩ (NW_thr hN _)
    subst hE9
    refine m_catch Z No C ht [] (0, 9, 12, 24) [] rfl (fun z hz => by cases hz) (by decide) (by decide) cl_L_24 ca_NSE g1 g2 g3 ?_
    refine lv_astore_n hx hb dL_samples_12 rfl hl (lv' := [(3, .ref q9), (0, .ref (A (cd 0 1 0))), (1, .int x9), (2, .ref o)]) (by decide) rfl (fun ls hl => ?_)
    refine lv_iconst (v := nI 1) hx hb dL_samples_13 (by decide) ?_
    exact m_iret C hM hS (Nat.le_of_ble_eq_true rfl) (Nat.le_of_ble_eq_true rfl) dL_samples_14 ⟨by rw [e9]; rfl, f, hJ9, fun z => absurd (show nI 1 = nI 0 from (by rw [e9] at z; exact z)) (by decide)⟩
  · -- returned
    obtain ⟨k, c0, c1, hv, hN⟩ := hv
    have e9 := RA_samples_0 (st := st) (x := x9) hk.m10 c0 c1
    have hJ9 : LJ G h9 (A (cd 0 1 0)) m q o o2 f g (T_samples st x9).1 st := by
      rw [e9]
      exact LJ.cls (X := X) (fd := fd) (tt := tt) (gr := gr) hW ho ho2 ⟨t1, t2, t3, t4⟩ ⟨n1, n2, n3, n4, n5⟩ (NW_thr hN _)
    subst hv
    refine W.eq (g2 := F0 mt 7 ls [.int (nI (st_n st k)), .int (nI 0), .ref o]) rfl ?_
    refine lv_i2l hx hb dL_samples_7 rfl ?_
    refine m_last Z C hM hS hJ9.oo 0 rfl (by decide) (by decide) dL_samples_8 (fun H locs hM hS => ?_)
    refine lv_goto (tgt := 15) hx hb dL_samples_9 (by decide) ?_
    refine lv_iconst (v := nI 0) hx hb dL_samples_15 (by decide) ?_
    exact m_iret C hM hS (Nat.le_of_ble_eq_true rfl) (Nat.le_of_ble_eq_true rfl) dL_samples_16 ⟨by rw [e9]; rfl, _, hJ9.put _, fun _ => (va_up_self _ _ _).trans (by rw [e9])⟩
set_option maxRecDepth 100000 in
set_option maxHeartbeats 4000000 in
theorem c_L_latest {l : Launch} {G : mG} {a0 : Array Value} {s0 : State} (Z : mZ l G a0 s0) (No : mNo s0) (h0 : Hp) (x m : Nat) (q : Nat → Nat) (o o2 : Nat) (f : Nat → Int64) (g : Nat → UInt64) (st : Ms) (hJ : LJ G h0 x m q o o2 f g st st) (hk : Iv st) (x9 : Int32) : mH l G s0 yL_latest cL_latest 4 (some .int) [(0, 9, 12, 24), (0, 9, 15, 15)] 8 134 2 12 h0 [.ref x, .int x9, .ref o] (fun v9 h9 => v9 = some (.int (st_thr (T_latest st x9).1)) ∧ ∃ f9 : Nat → Int64, LJ G h9 x m q o o2 f9 g (T_latest st x9).1 st ∧ (st_thr (T_latest st x9).1 = nI 0 → f9 0 = (T_latest st x9).2)) := by
  refine mH_in RL "latest" rfl rfl (by decide +kernel) (Nat.le_of_ble_eq_true rfl) ?_
  intro p e s mt below meth c H locs C ht hM hS ls hl
  have hx := C.1
  have hb := C.2.1
  have hown := C.2.2.2.1
  have hE := C.2.2.2.2.2.2.1
  have hl : lv_has ls 4 [(0, .ref x), (1, .int x9), (2, .ref o)] := hl
  have hJ0 := hJ
  obtain ⟨A, tg, X, fd, tt, gr, hA, hC, hR, hW, ho, ho2, t1, t2, t3, t4, n1, n2, n3, n4, n5⟩ := hJ
  subst hA
  refine lv_aload_n hx hb dL_latest_0 rfl (lv_at hl 2 rfl) ?_
  refine lv_iconst (v := nI 0) hx hb dL_latest_1 (by decide) ?_
  refine lv_aload_n hx hb dL_latest_2 rfl (lv_at hl 0 rfl) ?_
  refine lv_iload_n hx hb dL_latest_3 rfl (lv_at hl 1 rfl) ?_
  refine m_xcallV Z C hM hS (As := [.int x9]) (rest := [.int (nI 0), .ref o]) (c_X5_latest Z h0 A tg st X fd tt gr hC hk hR x9) yi_X5_latest ml_L_39 (hC.at clS_h) rfl ⟨Nat.le_of_ble_eq_true rfl, Nat.le_of_ble_eq_true rfl⟩ (Nat.le_of_ble_eq_true rfl) hl.1 rfl rfl dL_latest_4 ⟨Nat.le_of_ble_eq_true rfl, Nat.le_of_ble_eq_true rfl⟩ (fun E ce q9 h9 H locs hv hM hS g1 g2 g3 => ?_) (fun v h9 H locs hv hM hS => ?_)
  · -- thrown
    rcases hv with ⟨hE9, c0, hN⟩ | ⟨k, hE9, c0, c1, c2, hN⟩
    · -- java/util/NoSuchElementException
      have e9 := RA_latest_1 (st := st) (x := x9) hk.m10 c0
      have hJ9 : LJ G h9 (A (cd 0 1 0)) m q o o2 f g (T_latest st x9).1 st := by
        rw [e9]
        exact LJ.cls (X := X) (fd := fd) (tt := tt) (gr := gr) hW ho ho2 ⟨t1, t2, t3, t4⟩ ⟨n1, n2, n3, n4, n5⟩ (NW_thr hN _)
      subst hE9
      refine m_catch Z No C ht [] (0, 9, 12, 24) [(0, 9, 15, 15)] rfl (fun z hz => by cases hz) (by decide) (by decide) cl_L_24 ca_NSE g1 g2 g3 ?_
      refine lv_astore_n hx hb dL_latest_12 rfl hl (lv' := [(3, .ref q9), (0, .ref (A (cd 0 1 0))), (1, .int x9), (2, .ref o)]) (by decide) rfl (fun ls hl => ?_)
      refine lv_iconst (v := nI 1) hx hb dL_latest_13 (by decide) ?_
      exact m_iret C hM hS (Nat.le_of_ble_eq_true rfl) (Nat.le_of_ble_eq_true rfl) dL_latest_14 ⟨by rw [e9]; rfl, f, hJ9, fun z => absurd (show nI 1 = nI 0 from (by rw [e9] at z; exact z)) (by decide)⟩
    · -- java/lang/IllegalStateException
      have e9 := RA_latest_2 (st := st) (x := x9) hk.m10 c0 c1 c2
      have hJ9 : LJ G h9 (A (cd 0 1 0)) m q o o2 f g (T_latest st x9).1 st := by
        rw [e9]
        exact LJ.cls (X := X) (fd := fd) (tt := tt) (gr := gr) hW ho ho2 ⟨t1, t2, t3, t4⟩ ⟨n1, n2, n3, n4, n5⟩ (NW_thr hN _)
      subst hE9
      refine m_catch Z No C ht [(0, 9, 12, 24)] (0, 9, 15, 15) [] rfl (by simp only [List.forall_mem_cons]; exact ⟨⟨by decide, _, cl_L_24, by decide⟩, fun _ hz => absurd hz List.not_mem_nil⟩) (by decide) (by decide) cl_L_15 ca_ISE g1 g2 g3 ?_
      refine lv_astore_n hx hb dL_latest_15 rfl hl (lv' := [(3, .ref q9), (0, .ref (A (cd 0 1 0))), (1, .int x9), (2, .ref o)]) (by decide) rfl (fun ls hl => ?_)
      refine lv_iconst (v := nI 2) hx hb dL_latest_16 (by decide) ?_
      exact m_iret C hM hS (Nat.le_of_ble_eq_true rfl) (Nat.le_of_ble_eq_true rfl) dL_latest_17 ⟨by rw [e9]; rfl, f, hJ9, fun z => absurd (show nI 2 = nI 0 from (by rw [e9] at z; exact z)) (by decide)⟩
  · -- returned
    obtain ⟨k, c0, c1, c2, hv, hN⟩ := hv
    have e9 := RA_latest_0 (st := st) (x := x9) hk.m10 c0 c1 c2
    have hJ9 : LJ G h9 (A (cd 0 1 0)) m q o o2 f g (T_latest st x9).1 st := by
      rw [e9]
      exact LJ.cls (X := X) (fd := fd) (tt := tt) (gr := gr) hW ho ho2 ⟨t1, t2, t3, t4⟩ ⟨n1, n2, n3, n4, n5⟩ (NW_thr hN _)
    subst hv
    refine W.eq (g2 := F0 mt 7 ls [.int (z_la st k), .int (nI 0), .ref o]) rfl ?_
    refine lv_i2l hx hb dL_latest_7 rfl ?_
    refine m_last Z C hM hS hJ9.oo 0 rfl (by decide) (by decide) dL_latest_8 (fun H locs hM hS => ?_)
    refine lv_goto (tgt := 18) hx hb dL_latest_9 (by decide) ?_
    refine lv_iconst (v := nI 0) hx hb dL_latest_18 (by decide) ?_
    exact m_iret C hM hS (Nat.le_of_ble_eq_true rfl) (Nat.le_of_ble_eq_true rfl) dL_latest_19 ⟨by rw [e9]; rfl, _, hJ9.put _, fun _ => (va_up_self _ _ _).trans (by rw [e9])⟩
set_option maxRecDepth 100000 in
set_option maxHeartbeats 4000000 in
theorem c_L_blocks {l : Launch} {G : mG} {a0 : Array Value} {s0 : State} (Z : mZ l G a0 s0) (No : mNo s0) (h0 : Hp) (x m : Nat) (q : Nat → Nat) (o o2 : Nat) (f : Nat → Int64) (g : Nat → UInt64) (st : Ms) (hJ : LJ G h0 x m q o o2 f g st st) (hk : Iv st) (x9 : Int32) : mH l G s0 yL_blocks cL_blocks 4 (some .int) [(0, 9, 12, 24)] 8 133 1 6 h0 [.ref x, .int x9, .ref o] (fun v9 h9 => v9 = some (.int (st_thr (T_blocks st x9).1)) ∧ ∃ f9 : Nat → Int64, LJ G h9 x m q o o2 f9 g (T_blocks st x9).1 st ∧ (st_thr (T_blocks st x9).1 = nI 0 → f9 0 = (T_blocks st x9).2)) := by
  refine mH_in RL "blocks" rfl rfl (by decide +kernel) (Nat.le_of_ble_eq_true rfl) ?_
  intro p e s mt below meth c H locs C ht hM hS ls hl
  have hx := C.1
  have hb := C.2.1
  have hown := C.2.2.2.1
  have hE := C.2.2.2.2.2.2.1
  have hl : lv_has ls 4 [(0, .ref x), (1, .int x9), (2, .ref o)] := hl
  have hJ0 := hJ
  obtain ⟨A, tg, X, fd, tt, gr, hA, hC, hR, hW, ho, ho2, t1, t2, t3, t4, n1, n2, n3, n4, n5⟩ := hJ
  subst hA
  refine lv_aload_n hx hb dL_blocks_0 rfl (lv_at hl 2 rfl) ?_
  refine lv_iconst (v := nI 0) hx hb dL_blocks_1 (by decide) ?_
  refine lv_aload_n hx hb dL_blocks_2 rfl (lv_at hl 0 rfl) ?_
  refine lv_iload_n hx hb dL_blocks_3 rfl (lv_at hl 1 rfl) ?_
  refine m_xcallV Z C hM hS (As := [.int x9]) (rest := [.int (nI 0), .ref o]) (c_X5_blocks Z h0 A tg st X fd tt gr hC hk hR x9) yi_X5_blocks ml_L_42 (hC.at clS_h) rfl ⟨Nat.le_of_ble_eq_true rfl, Nat.le_of_ble_eq_true rfl⟩ (Nat.le_of_ble_eq_true rfl) hl.1 rfl rfl dL_blocks_4 ⟨Nat.le_of_ble_eq_true rfl, Nat.le_of_ble_eq_true rfl⟩ (fun E ce q9 h9 H locs hv hM hS g1 g2 g3 => ?_) (fun v h9 H locs hv hM hS => ?_)
  · -- thrown
    obtain ⟨hE9, c0, hN⟩ := hv
    have e9 := RA_blocks_1 (st := st) (x := x9) hk.m10 c0
    have hJ9 : LJ G h9 (A (cd 0 1 0)) m q o o2 f g (T_blocks st x9).1 st := by
      rw [e9]
      exact LJ.cls (X := X) (fd := fd) (tt := tt) (gr := gr) hW ho ho2 ⟨t1, t2, t3, t4⟩ ⟨n1, n2, n3, n4, n5⟩ (NW_thr hN _)
    subst hE9
    refine m_catch Z No C ht [] (0, 9, 12, 24) [] rfl (fun z hz => by cases hz) (by decide) (by decide) cl_L_24 ca_NSE g1 g2 g3 ?_
    refine lv_astore_n hx hb dL_blocks_12 rfl hl (lv' := [(3, .ref q9), (0, .ref (A (cd 0 1 0))), (1, .int x9), (2, .ref o)]) (by decide) rfl (fun ls hl => ?_)
    refine lv_iconst (v := nI 1) hx hb dL_blocks_13 (by decide) ?_
    exact m_iret C hM hS (Nat.le_of_ble_eq_true rfl) (Nat.le_of_ble_eq_true rfl) dL_blocks_14 ⟨by rw [e9]; rfl, f, hJ9, fun z => absurd (show nI 1 = nI 0 from (by rw [e9] at z; exact z)) (by decide)⟩
  · -- returned
    obtain ⟨k, c0, c1, hv, hN⟩ := hv
    have e9 := RA_blocks_0 (st := st) (x := x9) hk.m10 c0 c1
    have hJ9 : LJ G h9 (A (cd 0 1 0)) m q o o2 f g (T_blocks st x9).1 st := by
      rw [e9]
      exact LJ.cls (X := X) (fd := fd) (tt := tt) (gr := gr) hW ho ho2 ⟨t1, t2, t3, t4⟩ ⟨n1, n2, n3, n4, n5⟩ (NW_thr hN _)
    subst hv
    refine W.eq (g2 := F0 mt 7 ls [.int (nI (z_nb st k)), .int (nI 0), .ref o]) rfl ?_
    refine lv_i2l hx hb dL_blocks_7 rfl ?_
    refine m_last Z C hM hS hJ9.oo 0 rfl (by decide) (by decide) dL_blocks_8 (fun H locs hM hS => ?_)
    refine lv_goto (tgt := 15) hx hb dL_blocks_9 (by decide) ?_
    refine lv_iconst (v := nI 0) hx hb dL_blocks_15 (by decide) ?_
    exact m_iret C hM hS (Nat.le_of_ble_eq_true rfl) (Nat.le_of_ble_eq_true rfl) dL_blocks_16 ⟨by rw [e9]; rfl, _, hJ9.put _, fun _ => (va_up_self _ _ _).trans (by rw [e9])⟩
set_option maxRecDepth 100000 in
set_option maxHeartbeats 4000000 in
theorem c_L_bitsOf {l : Launch} {G : mG} {a0 : Array Value} {s0 : State} (Z : mZ l G a0 s0) (No : mNo s0) (h0 : Hp) (x m : Nat) (q : Nat → Nat) (o o2 : Nat) (f : Nat → Int64) (g : Nat → UInt64) (st : Ms) (hJ : LJ G h0 x m q o o2 f g st st) (hk : Iv st) (x9 : Int32) (y9 : Int32) : mH l G s0 yL_bitsOf cL_bitsOf 5 (some .int) [(0, 10, 13, 24), (0, 10, 17, 48)] 8 135 2 12 h0 [.ref x, .int x9, .int y9, .ref o] (fun v9 h9 => v9 = some (.int (st_thr (T_bitsOf st x9 y9).1)) ∧ ∃ f9 : Nat → Int64, LJ G h9 x m q o o2 f9 g (T_bitsOf st x9 y9).1 st ∧ (st_thr (T_bitsOf st x9 y9).1 = nI 0 → f9 0 = (T_bitsOf st x9 y9).2)) := by
  refine mH_in RL "bitsOf" rfl rfl (by decide +kernel) (Nat.le_of_ble_eq_true rfl) ?_
  intro p e s mt below meth c H locs C ht hM hS ls hl
  have hx := C.1
  have hb := C.2.1
  have hown := C.2.2.2.1
  have hE := C.2.2.2.2.2.2.1
  have hl : lv_has ls 5 [(0, .ref x), (1, .int x9), (2, .int y9), (3, .ref o)] := hl
  have hJ0 := hJ
  obtain ⟨A, tg, X, fd, tt, gr, hA, hC, hR, hW, ho, ho2, t1, t2, t3, t4, n1, n2, n3, n4, n5⟩ := hJ
  subst hA
  refine lv_aload_n hx hb dL_bitsOf_0 rfl (lv_at hl 3 rfl) ?_
  refine lv_iconst (v := nI 0) hx hb dL_bitsOf_1 (by decide) ?_
  refine lv_aload_n hx hb dL_bitsOf_2 rfl (lv_at hl 0 rfl) ?_
  refine lv_iload_n hx hb dL_bitsOf_3 rfl (lv_at hl 1 rfl) ?_
  refine lv_iload_n hx hb dL_bitsOf_4 rfl (lv_at hl 2 rfl) ?_
  refine m_xcallV Z C hM hS (As := [.int x9, .int y9]) (rest := [.int (nI 0), .ref o]) (c_X5_bitsOf Z h0 A tg st X fd tt gr hC hk hR x9 y9) yi_X5_bitsOf ml_L_45 (hC.at clS_h) rfl ⟨Nat.le_of_ble_eq_true rfl, Nat.le_of_ble_eq_true rfl⟩ (Nat.le_of_ble_eq_true rfl) hl.1 rfl rfl dL_bitsOf_5 ⟨Nat.le_of_ble_eq_true rfl, Nat.le_of_ble_eq_true rfl⟩ (fun E ce q9 h9 H locs hv hM hS g1 g2 g3 => ?_) (fun v h9 H locs hv hM hS => ?_)
  · -- thrown
    rcases hv with ⟨hE9, c0, hN⟩ | ⟨k, hE9, c0, c1, c2, hN⟩
    · -- java/util/NoSuchElementException
      have e9 := RA_bitsOf_1 (st := st) (x := x9) (y := y9) hk.m10 c0
      have hJ9 : LJ G h9 (A (cd 0 1 0)) m q o o2 f g (T_bitsOf st x9 y9).1 st := by
        rw [e9]
        exact LJ.cls (X := X) (fd := fd) (tt := tt) (gr := gr) hW ho ho2 ⟨t1, t2, t3, t4⟩ ⟨n1, n2, n3, n4, n5⟩ (NW_thr hN _)
      subst hE9
      refine m_catch Z No C ht [] (0, 10, 13, 24) [(0, 10, 17, 48)] rfl (fun z hz => by cases hz) (by decide) (by decide) cl_L_24 ca_NSE g1 g2 g3 ?_
      refine lv_astore hx hb dL_bitsOf_13 hl (lv' := [(4, .ref q9), (0, .ref (A (cd 0 1 0))), (1, .int x9), (2, .int y9), (3, .ref o)]) (by decide) rfl (fun ls hl => ?_)
      refine lv_iconst (v := nI 1) hx hb dL_bitsOf_15 (by decide) ?_
      exact m_iret C hM hS (Nat.le_of_ble_eq_true rfl) (Nat.le_of_ble_eq_true rfl) dL_bitsOf_16 ⟨by rw [e9]; rfl, f, hJ9, fun z => absurd (show nI 1 = nI 0 from (by rw [e9] at z; exact z)) (by decide)⟩
    · -- java/lang/IndexOutOfBoundsException
      have e9 := RA_bitsOf_2 (st := st) (x := x9) (y := y9) hk.m10 c0 c1 c2
      have hJ9 : LJ G h9 (A (cd 0 1 0)) m q o o2 f g (T_bitsOf st x9 y9).1 st := by
        rw [e9]
        exact LJ.cls (X := X) (fd := fd) (tt := tt) (gr := gr) hW ho ho2 ⟨t1, t2, t3, t4⟩ ⟨n1, n2, n3, n4, n5⟩ (NW_thr hN _)
      subst hE9
      refine m_catch Z No C ht [(0, 10, 13, 24)] (0, 10, 17, 48) [] rfl (by simp only [List.forall_mem_cons]; exact ⟨⟨by decide, _, cl_L_24, by decide⟩, fun _ hz => absurd hz List.not_mem_nil⟩) (by decide) (by decide) cl_L_48 ca_IOB g1 g2 g3 ?_
      refine lv_astore hx hb dL_bitsOf_17 hl (lv' := [(4, .ref q9), (0, .ref (A (cd 0 1 0))), (1, .int x9), (2, .int y9), (3, .ref o)]) (by decide) rfl (fun ls hl => ?_)
      refine lv_iconst (v := nI 2) hx hb dL_bitsOf_19 (by decide) ?_
      exact m_iret C hM hS (Nat.le_of_ble_eq_true rfl) (Nat.le_of_ble_eq_true rfl) dL_bitsOf_20 ⟨by rw [e9]; rfl, f, hJ9, fun z => absurd (show nI 2 = nI 0 from (by rw [e9] at z; exact z)) (by decide)⟩
  · -- returned
    obtain ⟨k, j, c0, c1, c2, c3, hv, hN⟩ := hv
    have e9 := RA_bitsOf_0 (st := st) (x := x9) (y := y9) hk.m10 c0 c1 (hk.n c0) c2 c3
    have hJ9 : LJ G h9 (A (cd 0 1 0)) m q o o2 f g (T_bitsOf st x9 y9).1 st := by
      rw [e9]
      exact LJ.cls (X := X) (fd := fd) (tt := tt) (gr := gr) hW ho ho2 ⟨t1, t2, t3, t4⟩ ⟨n1, n2, n3, n4, n5⟩ (NW_thr hN _)
    subst hv
    refine W.eq (g2 := F0 mt 8 ls [.int (nI (z_bits st k j)), .int (nI 0), .ref o]) rfl ?_
    refine lv_i2l hx hb dL_bitsOf_8 rfl ?_
    refine m_last Z C hM hS hJ9.oo 0 rfl (by decide) (by decide) dL_bitsOf_9 (fun H locs hM hS => ?_)
    refine lv_goto (tgt := 21) hx hb dL_bitsOf_10 (by decide) ?_
    refine lv_iconst (v := nI 0) hx hb dL_bitsOf_21 (by decide) ?_
    exact m_iret C hM hS (Nat.le_of_ble_eq_true rfl) (Nat.le_of_ble_eq_true rfl) dL_bitsOf_22 ⟨by rw [e9]; rfl, _, hJ9.put _, fun _ => (va_up_self _ _ _).trans (by rw [e9])⟩
set_option maxRecDepth 100000 in
set_option maxHeartbeats 4000000 in
theorem c_L_timeAt {l : Launch} {G : mG} {a0 : Array Value} {s0 : State} (Z : mZ l G a0 s0) (No : mNo s0) (h0 : Hp) (x m : Nat) (q : Nat → Nat) (o o2 : Nat) (f : Nat → Int64) (g : Nat → UInt64) (st : Ms) (hJ : LJ G h0 x m q o o2 f g st st) (hk : Iv st) (x9 : Int32) (y9 : Int32) : mH l G s0 yL_timeAt cL_timeAt 5 (some .int) [(0, 9, 12, 24), (0, 9, 16, 48)] 8 134 2 12 h0 [.ref x, .int x9, .int y9, .ref o] (fun v9 h9 => v9 = some (.int (st_thr (T_timeAt st x9 y9).1)) ∧ ∃ f9 : Nat → Int64, LJ G h9 x m q o o2 f9 g (T_timeAt st x9 y9).1 st ∧ (st_thr (T_timeAt st x9 y9).1 = nI 0 → f9 0 = (T_timeAt st x9 y9).2)) := by
  refine mH_in RL "timeAt" rfl rfl (by decide +kernel) (Nat.le_of_ble_eq_true rfl) ?_
  intro p e s mt below meth c H locs C ht hM hS ls hl
  have hx := C.1
  have hb := C.2.1
  have hown := C.2.2.2.1
  have hE := C.2.2.2.2.2.2.1
  have hl : lv_has ls 5 [(0, .ref x), (1, .int x9), (2, .int y9), (3, .ref o)] := hl
  have hJ0 := hJ
  obtain ⟨A, tg, X, fd, tt, gr, hA, hC, hR, hW, ho, ho2, t1, t2, t3, t4, n1, n2, n3, n4, n5⟩ := hJ
  subst hA
  refine lv_aload_n hx hb dL_timeAt_0 rfl (lv_at hl 3 rfl) ?_
  refine lv_iconst (v := nI 0) hx hb dL_timeAt_1 (by decide) ?_
  refine lv_aload_n hx hb dL_timeAt_2 rfl (lv_at hl 0 rfl) ?_
  refine lv_iload_n hx hb dL_timeAt_3 rfl (lv_at hl 1 rfl) ?_
  refine lv_iload_n hx hb dL_timeAt_4 rfl (lv_at hl 2 rfl) ?_
  refine m_xcallV Z C hM hS (As := [.int x9, .int y9]) (rest := [.int (nI 0), .ref o]) (c_X5_timeAt Z h0 A tg st X fd tt gr hC hk hR x9 y9) yi_X5_timeAt ml_L_50 (hC.at clS_h) rfl ⟨Nat.le_of_ble_eq_true rfl, Nat.le_of_ble_eq_true rfl⟩ (Nat.le_of_ble_eq_true rfl) hl.1 rfl rfl dL_timeAt_5 ⟨Nat.le_of_ble_eq_true rfl, Nat.le_of_ble_eq_true rfl⟩ (fun E ce q9 h9 H locs hv hM hS g1 g2 g3 => ?_) (fun v h9 H locs hv hM hS => ?_)
  · -- thrown
    rcases hv with ⟨hE9, c0, hN⟩ | ⟨k, hE9, c0, c1, c2, hN⟩
    · -- java/util/NoSuchElementException
      have e9 := RA_timeAt_1 (st := st) (x := x9) (y := y9) hk.m10 c0
      have hJ9 : LJ G h9 (A (cd 0 1 0)) m q o o2 f g (T_timeAt st x9 y9).1 st := by
        rw [e9]
        exact LJ.cls (X := X) (fd := fd) (tt := tt) (gr := gr) hW ho ho2 ⟨t1, t2, t3, t4⟩ ⟨n1, n2, n3, n4, n5⟩ (NW_thr hN _)
      subst hE9
      refine m_catch Z No C ht [] (0, 9, 12, 24) [(0, 9, 16, 48)] rfl (fun z hz => by cases hz) (by decide) (by decide) cl_L_24 ca_NSE g1 g2 g3 ?_
      refine lv_astore hx hb dL_timeAt_12 hl (lv' := [(4, .ref q9), (0, .ref (A (cd 0 1 0))), (1, .int x9), (2, .int y9), (3, .ref o)]) (by decide) rfl (fun ls hl => ?_)
      refine lv_iconst (v := nI 1) hx hb dL_timeAt_14 (by decide) ?_
      exact m_iret C hM hS (Nat.le_of_ble_eq_true rfl) (Nat.le_of_ble_eq_true rfl) dL_timeAt_15 ⟨by rw [e9]; rfl, f, hJ9, fun z => absurd (show nI 1 = nI 0 from (by rw [e9] at z; exact z)) (by decide)⟩
    · -- java/lang/IndexOutOfBoundsException
      have e9 := RA_timeAt_2 (st := st) (x := x9) (y := y9) hk.m10 c0 c1 c2
      have hJ9 : LJ G h9 (A (cd 0 1 0)) m q o o2 f g (T_timeAt st x9 y9).1 st := by
        rw [e9]
        exact LJ.cls (X := X) (fd := fd) (tt := tt) (gr := gr) hW ho ho2 ⟨t1, t2, t3, t4⟩ ⟨n1, n2, n3, n4, n5⟩ (NW_thr hN _)
      subst hE9
      refine m_catch Z No C ht [(0, 9, 12, 24)] (0, 9, 16, 48) [] rfl (by simp only [List.forall_mem_cons]; exact ⟨⟨by decide, _, cl_L_24, by decide⟩, fun _ hz => absurd hz List.not_mem_nil⟩) (by decide) (by decide) cl_L_48 ca_IOB g1 g2 g3 ?_
      refine lv_astore hx hb dL_timeAt_16 hl (lv' := [(4, .ref q9), (0, .ref (A (cd 0 1 0))), (1, .int x9), (2, .int y9), (3, .ref o)]) (by decide) rfl (fun ls hl => ?_)
      refine lv_iconst (v := nI 2) hx hb dL_timeAt_18 (by decide) ?_
      exact m_iret C hM hS (Nat.le_of_ble_eq_true rfl) (Nat.le_of_ble_eq_true rfl) dL_timeAt_19 ⟨by rw [e9]; rfl, f, hJ9, fun z => absurd (show nI 2 = nI 0 from (by rw [e9] at z; exact z)) (by decide)⟩
  · -- returned
    obtain ⟨k, j, c0, c1, c2, c3, hv, hN⟩ := hv
    have e9 := RA_timeAt_0 (st := st) (x := x9) (y := y9) hk.m10 c0 c1 (hk.n c0) c2 c3
    have hJ9 : LJ G h9 (A (cd 0 1 0)) m q o o2 f g (T_timeAt st x9 y9).1 st := by
      rw [e9]
      exact LJ.cls (X := X) (fd := fd) (tt := tt) (gr := gr) hW ho ho2 ⟨t1, t2, t3, t4⟩ ⟨n1, n2, n3, n4, n5⟩ (NW_thr hN _)
    subst hv
    refine W.eq (g2 := F0 mt 8 ls [.long (lN (st_T st (120 * k + j))), .int (nI 0), .ref o]) rfl ?_
    refine m_last Z C hM hS hJ9.oo 0 rfl (by decide) (by decide) dL_timeAt_8 (fun H locs hM hS => ?_)
    refine lv_goto (tgt := 20) hx hb dL_timeAt_9 (by decide) ?_
    refine lv_iconst (v := nI 0) hx hb dL_timeAt_20 (by decide) ?_
    exact m_iret C hM hS (Nat.le_of_ble_eq_true rfl) (Nat.le_of_ble_eq_true rfl) dL_timeAt_21 ⟨by rw [e9]; rfl, _, hJ9.put _, fun _ => (va_up_self _ _ _).trans (by rw [e9])⟩
set_option maxRecDepth 100000 in
set_option maxHeartbeats 4000000 in
theorem c_L_valueAt {l : Launch} {G : mG} {a0 : Array Value} {s0 : State} (Z : mZ l G a0 s0) (No : mNo s0) (h0 : Hp) (x m : Nat) (q : Nat → Nat) (o o2 : Nat) (f : Nat → Int64) (g : Nat → UInt64) (st : Ms) (hJ : LJ G h0 x m q o o2 f g st st) (hk : Iv st) (x9 : Int32) (y9 : Int32) : mH l G s0 yL_valueAt cL_valueAt 5 (some .int) [(0, 10, 13, 24), (0, 10, 17, 48)] 8 134 2 12 h0 [.ref x, .int x9, .int y9, .ref o] (fun v9 h9 => v9 = some (.int (st_thr (T_valueAt st x9 y9).1)) ∧ ∃ f9 : Nat → Int64, LJ G h9 x m q o o2 f9 g (T_valueAt st x9 y9).1 st ∧ (st_thr (T_valueAt st x9 y9).1 = nI 0 → f9 0 = (T_valueAt st x9 y9).2)) := by
  refine mH_in RL "valueAt" rfl rfl (by decide +kernel) (Nat.le_of_ble_eq_true rfl) ?_
  intro p e s mt below meth c H locs C ht hM hS ls hl
  have hx := C.1
  have hb := C.2.1
  have hown := C.2.2.2.1
  have hE := C.2.2.2.2.2.2.1
  have hl : lv_has ls 5 [(0, .ref x), (1, .int x9), (2, .int y9), (3, .ref o)] := hl
  have hJ0 := hJ
  obtain ⟨A, tg, X, fd, tt, gr, hA, hC, hR, hW, ho, ho2, t1, t2, t3, t4, n1, n2, n3, n4, n5⟩ := hJ
  subst hA
  refine lv_aload_n hx hb dL_valueAt_0 rfl (lv_at hl 3 rfl) ?_
  refine lv_iconst (v := nI 0) hx hb dL_valueAt_1 (by decide) ?_
  refine lv_aload_n hx hb dL_valueAt_2 rfl (lv_at hl 0 rfl) ?_
  refine lv_iload_n hx hb dL_valueAt_3 rfl (lv_at hl 1 rfl) ?_
  refine lv_iload_n hx hb dL_valueAt_4 rfl (lv_at hl 2 rfl) ?_
  refine m_xcallV Z C hM hS (As := [.int x9, .int y9]) (rest := [.int (nI 0), .ref o]) (c_X5_valueAt Z h0 A tg st X fd tt gr hC hk hR x9 y9) yi_X5_valueAt ml_L_54 (hC.at clS_h) rfl ⟨Nat.le_of_ble_eq_true rfl, Nat.le_of_ble_eq_true rfl⟩ (Nat.le_of_ble_eq_true rfl) hl.1 rfl rfl dL_valueAt_5 ⟨Nat.le_of_ble_eq_true rfl, Nat.le_of_ble_eq_true rfl⟩ (fun E ce q9 h9 H locs hv hM hS g1 g2 g3 => ?_) (fun v h9 H locs hv hM hS => ?_)
  · -- thrown
    rcases hv with ⟨hE9, c0, hN⟩ | ⟨k, hE9, c0, c1, c2, hN⟩
    · -- java/util/NoSuchElementException
      have e9 := RA_valueAt_1 (st := st) (x := x9) (y := y9) hk.m10 c0
      have hJ9 : LJ G h9 (A (cd 0 1 0)) m q o o2 f g (T_valueAt st x9 y9).1 st := by
        rw [e9]
        exact LJ.cls (X := X) (fd := fd) (tt := tt) (gr := gr) hW ho ho2 ⟨t1, t2, t3, t4⟩ ⟨n1, n2, n3, n4, n5⟩ (NW_thr hN _)
      subst hE9
      refine m_catch Z No C ht [] (0, 10, 13, 24) [(0, 10, 17, 48)] rfl (fun z hz => by cases hz) (by decide) (by decide) cl_L_24 ca_NSE g1 g2 g3 ?_
      refine lv_astore hx hb dL_valueAt_13 hl (lv' := [(4, .ref q9), (0, .ref (A (cd 0 1 0))), (1, .int x9), (2, .int y9), (3, .ref o)]) (by decide) rfl (fun ls hl => ?_)
      refine lv_iconst (v := nI 1) hx hb dL_valueAt_15 (by decide) ?_
      exact m_iret C hM hS (Nat.le_of_ble_eq_true rfl) (Nat.le_of_ble_eq_true rfl) dL_valueAt_16 ⟨by rw [e9]; rfl, f, hJ9, fun z => absurd (show nI 1 = nI 0 from (by rw [e9] at z; exact z)) (by decide)⟩
    · -- java/lang/IndexOutOfBoundsException
      have e9 := RA_valueAt_2 (st := st) (x := x9) (y := y9) hk.m10 c0 c1 c2
      have hJ9 : LJ G h9 (A (cd 0 1 0)) m q o o2 f g (T_valueAt st x9 y9).1 st := by
        rw [e9]
        exact LJ.cls (X := X) (fd := fd) (tt := tt) (gr := gr) hW ho ho2 ⟨t1, t2, t3, t4⟩ ⟨n1, n2, n3, n4, n5⟩ (NW_thr hN _)
      subst hE9
      refine m_catch Z No C ht [(0, 10, 13, 24)] (0, 10, 17, 48) [] rfl (by simp only [List.forall_mem_cons]; exact ⟨⟨by decide, _, cl_L_24, by decide⟩, fun _ hz => absurd hz List.not_mem_nil⟩) (by decide) (by decide) cl_L_48 ca_IOB g1 g2 g3 ?_
      refine lv_astore hx hb dL_valueAt_17 hl (lv' := [(4, .ref q9), (0, .ref (A (cd 0 1 0))), (1, .int x9), (2, .int y9), (3, .ref o)]) (by decide) rfl (fun ls hl => ?_)
      refine lv_iconst (v := nI 2) hx hb dL_valueAt_19 (by decide) ?_
      exact m_iret C hM hS (Nat.le_of_ble_eq_true rfl) (Nat.le_of_ble_eq_true rfl) dL_valueAt_20 ⟨by rw [e9]; rfl, f, hJ9, fun z => absurd (show nI 2 = nI 0 from (by rw [e9] at z; exact z)) (by decide)⟩
  · -- returned
    obtain ⟨k, j, c0, c1, c2, c3, hv, hN⟩ := hv
    have e9 := RA_valueAt_0 (st := st) (x := x9) (y := y9) hk.m10 c0 c1 (hk.n c0) c2 c3
    have hJ9 : LJ G h9 (A (cd 0 1 0)) m q o o2 f g (T_valueAt st x9 y9).1 st := by
      rw [e9]
      exact LJ.cls (X := X) (fd := fd) (tt := tt) (gr := gr) hW ho ho2 ⟨t1, t2, t3, t4⟩ ⟨n1, n2, n3, n4, n5⟩ (NW_thr hN _)
    subst hv
    refine W.eq (g2 := F0 mt 8 ls [.int (z_v st k j), .int (nI 0), .ref o]) rfl ?_
    refine lv_i2l hx hb dL_valueAt_8 rfl ?_
    refine m_last Z C hM hS hJ9.oo 0 rfl (by decide) (by decide) dL_valueAt_9 (fun H locs hM hS => ?_)
    refine lv_goto (tgt := 21) hx hb dL_valueAt_10 (by decide) ?_
    refine lv_iconst (v := nI 0) hx hb dL_valueAt_21 (by decide) ?_
    exact m_iret C hM hS (Nat.le_of_ble_eq_true rfl) (Nat.le_of_ble_eq_true rfl) dL_valueAt_22 ⟨by rw [e9]; rfl, _, hJ9.put _, fun _ => (va_up_self _ _ _).trans (by rw [e9])⟩
set_option maxRecDepth 100000 in
set_option maxHeartbeats 4000000 in
theorem c_L_count {l : Launch} {G : mG} {a0 : Array Value} {s0 : State} (Z : mZ l G a0 s0) (No : mNo s0) (h0 : Hp) (x m : Nat) (q : Nat → Nat) (o o2 : Nat) (f : Nat → Int64) (g : Nat → UInt64) (st : Ms) (hJ : LJ G h0 x m q o o2 f g st st) (hk : Iv st) (x9 : Int32) (a9 : Int64) (d9 : Int64) : mH l G s0 yL_count cL_count 8 (some .int) [(0, 13, 16, 24), (0, 13, 20, 13)] 9 164 2 12 h0 [.ref x, .int x9, .long a9, .long d9, .ref o] (fun v9 h9 => v9 = some (.int (st_thr (T_count st x9 a9 d9).1)) ∧ ∃ f9 : Nat → Int64, LJ G h9 x m q o o2 f9 g (T_count st x9 a9 d9).1 st ∧ (st_thr (T_count st x9 a9 d9).1 = nI 0 → f9 0 = (T_count st x9 a9 d9).2)) := by
  refine mH_in RL "count" rfl rfl (by decide +kernel) (Nat.le_of_ble_eq_true rfl) ?_
  intro p e s mt below meth c H locs C ht hM hS ls hl
  have hx := C.1
  have hb := C.2.1
  have hown := C.2.2.2.1
  have hE := C.2.2.2.2.2.2.1
  have hl : lv_has ls 8 [(0, .ref x), (1, .int x9), (2, .long a9), (4, .long d9), (6, .ref o)] := hl
  have hJ0 := hJ
  obtain ⟨A, tg, X, fd, tt, gr, hA, hC, hR, hW, ho, ho2, t1, t2, t3, t4, n1, n2, n3, n4, n5⟩ := hJ
  subst hA
  refine lv_aload hx hb dL_count_0 (lv_at hl 4 rfl) ?_
  refine lv_iconst (v := nI 0) hx hb dL_count_2 (by decide) ?_
  refine lv_aload_n hx hb dL_count_3 rfl (lv_at hl 0 rfl) ?_
  refine lv_iload_n hx hb dL_count_4 rfl (lv_at hl 1 rfl) ?_
  refine lv_lload_n hx hb dL_count_5 rfl (lv_at hl 2 rfl) ?_
  refine lv_lload hx hb dL_count_6 (lv_at hl 3 rfl) ?_
  refine m_xcallV Z C hM hS (As := [.int x9, .long a9, .long d9]) (rest := [.int (nI 0), .ref o]) (c_X5_count Z h0 A tg st X fd tt gr hC hk hR x9 a9 d9) yi_X5_count ml_L_57 (hC.at clS_h) rfl ⟨Nat.le_of_ble_eq_true rfl, Nat.le_of_ble_eq_true rfl⟩ (Nat.le_of_ble_eq_true rfl) hl.1 rfl rfl dL_count_8 ⟨Nat.le_of_ble_eq_true rfl, Nat.le_of_ble_eq_true rfl⟩ (fun E ce q9 h9 H locs hv hM hS g1 g2 g3 => ?_) (fun v h9 H locs hv hM hS => ?_)
  · -- thrown
    rcases hv with ⟨hE9, c0, hN⟩ | ⟨k, hE9, c0, c1, c2, hN⟩
    · -- java/util/NoSuchElementException
      have e9 := RA_count_1 (st := st) (x := x9) (a := a9) (d := d9) hk.m10 c0
      have hJ9 : LJ G h9 (A (cd 0 1 0)) m q o o2 f g (T_count st x9 a9 d9).1 st := by
        rw [e9]
        exact LJ.cls (X := X) (fd := fd) (tt := tt) (gr := gr) hW ho ho2 ⟨t1, t2, t3, t4⟩ ⟨n1, n2, n3, n4, n5⟩ (NW_thr hN _)
      subst hE9
      refine m_catch Z No C ht [] (0, 13, 16, 24) [(0, 13, 20, 13)] rfl (fun z hz => by cases hz) (by decide) (by decide) cl_L_24 ca_NSE g1 g2 g3 ?_
      refine lv_astore hx hb dL_count_16 hl (lv' := [(7, .ref q9), (0, .ref (A (cd 0 1 0))), (1, .int x9), (2, .long a9), (4, .long d9), (6, .ref o)]) (by decide) rfl (fun ls hl => ?_)
      refine lv_iconst (v := nI 1) hx hb dL_count_18 (by decide) ?_
      exact m_iret C hM hS (Nat.le_of_ble_eq_true rfl) (Nat.le_of_ble_eq_true rfl) dL_count_19 ⟨by rw [e9]; rfl, f, hJ9, fun z => absurd (show nI 1 = nI 0 from (by rw [e9] at z; exact z)) (by decide)⟩
    · -- java/lang/IllegalArgumentException
      have e9 := RA_count_2 (st := st) (x := x9) (a := a9) (d := d9) hk.m10 c0 c1 c2
      have hJ9 : LJ G h9 (A (cd 0 1 0)) m q o o2 f g (T_count st x9 a9 d9).1 st := by
        rw [e9]
        exact LJ.cls (X := X) (fd := fd) (tt := tt) (gr := gr) hW ho ho2 ⟨t1, t2, t3, t4⟩ ⟨n1, n2, n3, n4, n5⟩ (NW_thr hN _)
      subst hE9
      refine m_catch Z No C ht [(0, 13, 16, 24)] (0, 13, 20, 13) [] rfl (by simp only [List.forall_mem_cons]; exact ⟨⟨by decide, _, cl_L_24, by decide⟩, fun _ hz => absurd hz List.not_mem_nil⟩) (by decide) (by decide) cl_L_13 ca_IAE g1 g2 g3 ?_
      refine lv_astore hx hb dL_count_20 hl (lv' := [(7, .ref q9), (0, .ref (A (cd 0 1 0))), (1, .int x9), (2, .long a9), (4, .long d9), (6, .ref o)]) (by decide) rfl (fun ls hl => ?_)
      refine lv_iconst (v := nI 2) hx hb dL_count_22 (by decide) ?_
      exact m_iret C hM hS (Nat.le_of_ble_eq_true rfl) (Nat.le_of_ble_eq_true rfl) dL_count_23 ⟨by rw [e9]; rfl, f, hJ9, fun z => absurd (show nI 2 = nI 0 from (by rw [e9] at z; exact z)) (by decide)⟩
  · -- returned
    obtain ⟨k, c0, c1, c2, hv, hN⟩ := hv
    have e9 := RA_count_0 (st := st) (x := x9) (a := a9) (d := d9) hk.m10 c0 c1 c2
    have hJ9 : LJ G h9 (A (cd 0 1 0)) m q o o2 f g (T_count st x9 a9 d9).1 st := by
      rw [e9]
      exact LJ.cls (X := X) (fd := fd) (tt := tt) (gr := gr) hW ho ho2 ⟨t1, t2, t3, t4⟩ ⟨n1, n2, n3, n4, n5⟩ (NW_thr hN _)
    subst hv
    refine W.eq (g2 := F0 mt 11 ls [.int (nI (z_ct (z_in st k a9 d9) (st_n st k))), .int (nI 0), .ref o]) rfl ?_
    refine lv_i2l hx hb dL_count_11 rfl ?_
    refine m_last Z C hM hS hJ9.oo 0 rfl (by decide) (by decide) dL_count_12 (fun H locs hM hS => ?_)
    refine lv_goto (tgt := 24) hx hb dL_count_13 (by decide) ?_
    refine lv_iconst (v := nI 0) hx hb dL_count_24 (by decide) ?_
    exact m_iret C hM hS (Nat.le_of_ble_eq_true rfl) (Nat.le_of_ble_eq_true rfl) dL_count_25 ⟨by rw [e9]; rfl, _, hJ9.put _, fun _ => (va_up_self _ _ _).trans (by rw [e9])⟩
set_option maxRecDepth 100000 in
set_option maxHeartbeats 4000000 in
theorem c_L_sum {l : Launch} {G : mG} {a0 : Array Value} {s0 : State} (Z : mZ l G a0 s0) (No : mNo s0) (h0 : Hp) (x m : Nat) (q : Nat → Nat) (o o2 : Nat) (f : Nat → Int64) (g : Nat → UInt64) (st : Ms) (hJ : LJ G h0 x m q o o2 f g st st) (hk : Iv st) (x9 : Int32) (a9 : Int64) (d9 : Int64) : mH l G s0 yL_sum cL_sum 8 (some .int) [(0, 12, 15, 24), (0, 12, 19, 13)] 9 164 2 12 h0 [.ref x, .int x9, .long a9, .long d9, .ref o] (fun v9 h9 => v9 = some (.int (st_thr (T_sum st x9 a9 d9).1)) ∧ ∃ f9 : Nat → Int64, LJ G h9 x m q o o2 f9 g (T_sum st x9 a9 d9).1 st ∧ (st_thr (T_sum st x9 a9 d9).1 = nI 0 → f9 0 = (T_sum st x9 a9 d9).2)) := by
  refine mH_in RL "sum" rfl rfl (by decide +kernel) (Nat.le_of_ble_eq_true rfl) ?_
  intro p e s mt below meth c H locs C ht hM hS ls hl
  have hx := C.1
  have hb := C.2.1
  have hown := C.2.2.2.1
  have hE := C.2.2.2.2.2.2.1
  have hl : lv_has ls 8 [(0, .ref x), (1, .int x9), (2, .long a9), (4, .long d9), (6, .ref o)] := hl
  have hJ0 := hJ
  obtain ⟨A, tg, X, fd, tt, gr, hA, hC, hR, hW, ho, ho2, t1, t2, t3, t4, n1, n2, n3, n4, n5⟩ := hJ
  subst hA
  refine lv_aload hx hb dL_sum_0 (lv_at hl 4 rfl) ?_
  refine lv_iconst (v := nI 0) hx hb dL_sum_2 (by decide) ?_
  refine lv_aload_n hx hb dL_sum_3 rfl (lv_at hl 0 rfl) ?_
  refine lv_iload_n hx hb dL_sum_4 rfl (lv_at hl 1 rfl) ?_
  refine lv_lload_n hx hb dL_sum_5 rfl (lv_at hl 2 rfl) ?_
  refine lv_lload hx hb dL_sum_6 (lv_at hl 3 rfl) ?_
  refine m_xcallV Z C hM hS (As := [.int x9, .long a9, .long d9]) (rest := [.int (nI 0), .ref o]) (c_X5_sum Z h0 A tg st X fd tt gr hC hk hR x9 a9 d9) yi_X5_sum ml_L_61 (hC.at clS_h) rfl ⟨Nat.le_of_ble_eq_true rfl, Nat.le_of_ble_eq_true rfl⟩ (Nat.le_of_ble_eq_true rfl) hl.1 rfl rfl dL_sum_8 ⟨Nat.le_of_ble_eq_true rfl, Nat.le_of_ble_eq_true rfl⟩ (fun E ce q9 h9 H locs hv hM hS g1 g2 g3 => ?_) (fun v h9 H locs hv hM hS => ?_)
  · -- thrown
    rcases hv with ⟨hE9, c0, hN⟩ | ⟨k, hE9, c0, c1, c2, hN⟩
    · -- java/util/NoSuchElementException
      have e9 := RA_sum_1 (st := st) (x := x9) (a := a9) (d := d9) hk.m10 c0
      have hJ9 : LJ G h9 (A (cd 0 1 0)) m q o o2 f g (T_sum st x9 a9 d9).1 st := by
        rw [e9]
        exact LJ.cls (X := X) (fd := fd) (tt := tt) (gr := gr) hW ho ho2 ⟨t1, t2, t3, t4⟩ ⟨n1, n2, n3, n4, n5⟩ (NW_thr hN _)
      subst hE9
      refine m_catch Z No C ht [] (0, 12, 15, 24) [(0, 12, 19, 13)] rfl (fun z hz => by cases hz) (by decide) (by decide) cl_L_24 ca_NSE g1 g2 g3 ?_
      refine lv_astore hx hb dL_sum_15 hl (lv' := [(7, .ref q9), (0, .ref (A (cd 0 1 0))), (1, .int x9), (2, .long a9), (4, .long d9), (6, .ref o)]) (by decide) rfl (fun ls hl => ?_)
      refine lv_iconst (v := nI 1) hx hb dL_sum_17 (by decide) ?_
      exact m_iret C hM hS (Nat.le_of_ble_eq_true rfl) (Nat.le_of_ble_eq_true rfl) dL_sum_18 ⟨by rw [e9]; rfl, f, hJ9, fun z => absurd (show nI 1 = nI 0 from (by rw [e9] at z; exact z)) (by decide)⟩
    · -- java/lang/IllegalArgumentException
      have e9 := RA_sum_2 (st := st) (x := x9) (a := a9) (d := d9) hk.m10 c0 c1 c2
      have hJ9 : LJ G h9 (A (cd 0 1 0)) m q o o2 f g (T_sum st x9 a9 d9).1 st := by
        rw [e9]
        exact LJ.cls (X := X) (fd := fd) (tt := tt) (gr := gr) hW ho ho2 ⟨t1, t2, t3, t4⟩ ⟨n1, n2, n3, n4, n5⟩ (NW_thr hN _)
      subst hE9
      refine m_catch Z No C ht [(0, 12, 15, 24)] (0, 12, 19, 13) [] rfl (by simp only [List.forall_mem_cons]; exact ⟨⟨by decide, _, cl_L_24, by decide⟩, fun _ hz => absurd hz List.not_mem_nil⟩) (by decide) (by decide) cl_L_13 ca_IAE g1 g2 g3 ?_
      refine lv_astore hx hb dL_sum_19 hl (lv' := [(7, .ref q9), (0, .ref (A (cd 0 1 0))), (1, .int x9), (2, .long a9), (4, .long d9), (6, .ref o)]) (by decide) rfl (fun ls hl => ?_)
      refine lv_iconst (v := nI 2) hx hb dL_sum_21 (by decide) ?_
      exact m_iret C hM hS (Nat.le_of_ble_eq_true rfl) (Nat.le_of_ble_eq_true rfl) dL_sum_22 ⟨by rw [e9]; rfl, f, hJ9, fun z => absurd (show nI 2 = nI 0 from (by rw [e9] at z; exact z)) (by decide)⟩
  · -- returned
    obtain ⟨k, c0, c1, c2, hv, hN⟩ := hv
    have e9 := RA_sum_0 (st := st) (x := x9) (a := a9) (d := d9) hk.m10 c0 c1 c2
    have hJ9 : LJ G h9 (A (cd 0 1 0)) m q o o2 f g (T_sum st x9 a9 d9).1 st := by
      rw [e9]
      exact LJ.cls (X := X) (fd := fd) (tt := tt) (gr := gr) hW ho ho2 ⟨t1, t2, t3, t4⟩ ⟨n1, n2, n3, n4, n5⟩ (NW_thr hN _)
    subst hv
    refine W.eq (g2 := F0 mt 11 ls [.long (z_sm (z_in st k a9 d9) (fun i => (z_v st k i).toInt64) (st_n st k)), .int (nI 0), .ref o]) rfl ?_
    refine m_last Z C hM hS hJ9.oo 0 rfl (by decide) (by decide) dL_sum_11 (fun H locs hM hS => ?_)
    refine lv_goto (tgt := 23) hx hb dL_sum_12 (by decide) ?_
    refine lv_iconst (v := nI 0) hx hb dL_sum_23 (by decide) ?_
    exact m_iret C hM hS (Nat.le_of_ble_eq_true rfl) (Nat.le_of_ble_eq_true rfl) dL_sum_24 ⟨by rw [e9]; rfl, _, hJ9.put _, fun _ => (va_up_self _ _ _).trans (by rw [e9])⟩
set_option maxRecDepth 100000 in
set_option maxHeartbeats 4000000 in
theorem c_L_sumByReading {l : Launch} {G : mG} {a0 : Array Value} {s0 : State} (Z : mZ l G a0 s0) (No : mNo s0) (h0 : Hp) (x m : Nat) (q : Nat → Nat) (o o2 : Nat) (f : Nat → Int64) (g : Nat → UInt64) (st : Ms) (hJ : LJ G h0 x m q o o2 f g st st) (hk : Iv st) (x9 : Int32) (a9 : Int64) (d9 : Int64) : mH l G s0 yL_sumByReading cL_sumByReading 8 (some .int) [(0, 12, 15, 24), (0, 12, 19, 13)] 8 139 2 12 h0 [.ref x, .int x9, .long a9, .long d9, .ref o] (fun v9 h9 => v9 = some (.int (st_thr (T_sumByReading st x9 a9 d9).1)) ∧ ∃ f9 : Nat → Int64, LJ G h9 x m q o o2 f9 g (T_sumByReading st x9 a9 d9).1 st ∧ (st_thr (T_sumByReading st x9 a9 d9).1 = nI 0 → f9 0 = (T_sumByReading st x9 a9 d9).2)) := by
  refine mH_in RL "sumByReading" rfl rfl (by decide +kernel) (Nat.le_of_ble_eq_true rfl) ?_
  intro p e s mt below meth c H locs C ht hM hS ls hl
  have hx := C.1
  have hb := C.2.1
  have hown := C.2.2.2.1
  have hE := C.2.2.2.2.2.2.1
  have hl : lv_has ls 8 [(0, .ref x), (1, .int x9), (2, .long a9), (4, .long d9), (6, .ref o)] := hl
  have hJ0 := hJ
  obtain ⟨A, tg, X, fd, tt, gr, hA, hC, hR, hW, ho, ho2, t1, t2, t3, t4, n1, n2, n3, n4, n5⟩ := hJ
  subst hA
  refine lv_aload hx hb dL_sumByReading_0 (lv_at hl 4 rfl) ?_
  refine lv_iconst (v := nI 0) hx hb dL_sumByReading_2 (by decide) ?_
  refine lv_aload_n hx hb dL_sumByReading_3 rfl (lv_at hl 0 rfl) ?_
  refine lv_iload_n hx hb dL_sumByReading_4 rfl (lv_at hl 1 rfl) ?_
  refine lv_lload_n hx hb dL_sumByReading_5 rfl (lv_at hl 2 rfl) ?_
  refine lv_lload hx hb dL_sumByReading_6 (lv_at hl 3 rfl) ?_
  refine m_xcallV Z C hM hS (As := [.int x9, .long a9, .long d9]) (rest := [.int (nI 0), .ref o]) (c_X5_sumByReading Z h0 A tg st X fd tt gr hC hk hR x9 a9 d9) yi_X5_sumByReading ml_L_65 (hC.at clS_h) rfl ⟨Nat.le_of_ble_eq_true rfl, Nat.le_of_ble_eq_true rfl⟩ (Nat.le_of_ble_eq_true rfl) hl.1 rfl rfl dL_sumByReading_8 ⟨Nat.le_of_ble_eq_true rfl, Nat.le_of_ble_eq_true rfl⟩ (fun E ce q9 h9 H locs hv hM hS g1 g2 g3 => ?_) (fun v h9 H locs hv hM hS => ?_)
  · -- thrown
    rcases hv with ⟨hE9, c0, hN⟩ | ⟨k, hE9, c0, c1, c2, hN⟩
    · -- java/util/NoSuchElementException
      have e9 := RA_sumByReading_1 (st := st) (x := x9) (a := a9) (d := d9) hk.m10 c0
      have hJ9 : LJ G h9 (A (cd 0 1 0)) m q o o2 f g (T_sumByReading st x9 a9 d9).1 st := by
        rw [e9]
        exact LJ.cls (X := X) (fd := fd) (tt := tt) (gr := gr) hW ho ho2 ⟨t1, t2, t3, t4⟩ ⟨n1, n2, n3, n4, n5⟩ (NW_thr hN _)
      subst hE9
      refine m_catch Z No C ht [] (0, 12, 15, 24) [(0, 12, 19, 13)] rfl (fun z hz => by cases hz) (by decide) (by decide) cl_L_24 ca_NSE g1 g2 g3 ?_
      refine lv_astore hx hb dL_sumByReading_15 hl (lv' := [(7, .ref q9), (0, .ref (A (cd 0 1 0))), (1, .int x9), (2, .long a9), (4, .long d9), (6, .ref o)]) (by decide) rfl (fun ls hl => ?_)
      refine lv_iconst (v := nI 1) hx hb dL_sumByReading_17 (by decide) ?_
      exact m_iret C hM hS (Nat.le_of_ble_eq_true rfl) (Nat.le_of_ble_eq_true rfl) dL_sumByReading_18 ⟨by rw [e9]; rfl, f, hJ9, fun z => absurd (show nI 1 = nI 0 from (by rw [e9] at z; exact z)) (by decide)⟩
    · -- java/lang/IllegalArgumentException
      have e9 := RA_sumByReading_2 (st := st) (x := x9) (a := a9) (d := d9) hk.m10 c0 c1 c2
      have hJ9 : LJ G h9 (A (cd 0 1 0)) m q o o2 f g (T_sumByReading st x9 a9 d9).1 st := by
        rw [e9]
        exact LJ.cls (X := X) (fd := fd) (tt := tt) (gr := gr) hW ho ho2 ⟨t1, t2, t3, t4⟩ ⟨n1, n2, n3, n4, n5⟩ (NW_thr hN _)
      subst hE9
      refine m_catch Z No C ht [(0, 12, 15, 24)] (0, 12, 19, 13) [] rfl (by simp only [List.forall_mem_cons]; exact ⟨⟨by decide, _, cl_L_24, by decide⟩, fun _ hz => absurd hz List.not_mem_nil⟩) (by decide) (by decide) cl_L_13 ca_IAE g1 g2 g3 ?_
      refine lv_astore hx hb dL_sumByReading_19 hl (lv' := [(7, .ref q9), (0, .ref (A (cd 0 1 0))), (1, .int x9), (2, .long a9), (4, .long d9), (6, .ref o)]) (by decide) rfl (fun ls hl => ?_)
      refine lv_iconst (v := nI 2) hx hb dL_sumByReading_21 (by decide) ?_
      exact m_iret C hM hS (Nat.le_of_ble_eq_true rfl) (Nat.le_of_ble_eq_true rfl) dL_sumByReading_22 ⟨by rw [e9]; rfl, f, hJ9, fun z => absurd (show nI 2 = nI 0 from (by rw [e9] at z; exact z)) (by decide)⟩
  · -- returned
    obtain ⟨k, c0, c1, c2, hv, hN⟩ := hv
    have e9 := RA_sumByReading_0 (st := st) (x := x9) (a := a9) (d := d9) hk.m10 c0 c1 c2
    have hJ9 : LJ G h9 (A (cd 0 1 0)) m q o o2 f g (T_sumByReading st x9 a9 d9).1 st := by
      rw [e9]
      exact LJ.cls (X := X) (fd := fd) (tt := tt) (gr := gr) hW ho ho2 ⟨t1, t2, t3, t4⟩ ⟨n1, n2, n3, n4, n5⟩ (NW_thr hN _)
    subst hv
    refine W.eq (g2 := F0 mt 11 ls [.long (z_sm (z_in st k a9 d9) (fun i => (z_v st k i).toInt64) (st_n st k)), .int (nI 0), .ref o]) rfl ?_
    refine m_last Z C hM hS hJ9.oo 0 rfl (by decide) (by decide) dL_sumByReading_11 (fun H locs hM hS => ?_)
    refine lv_goto (tgt := 23) hx hb dL_sumByReading_12 (by decide) ?_
    refine lv_iconst (v := nI 0) hx hb dL_sumByReading_23 (by decide) ?_
    exact m_iret C hM hS (Nat.le_of_ble_eq_true rfl) (Nat.le_of_ble_eq_true rfl) dL_sumByReading_24 ⟨by rw [e9]; rfl, _, hJ9.put _, fun _ => (va_up_self _ _ _).trans (by rw [e9])⟩
set_option maxRecDepth 100000 in
set_option maxHeartbeats 4000000 in
theorem c_L_maximum {l : Launch} {G : mG} {a0 : Array Value} {s0 : State} (Z : mZ l G a0 s0) (No : mNo s0) (h0 : Hp) (x m : Nat) (q : Nat → Nat) (o o2 : Nat) (f : Nat → Int64) (g : Nat → UInt64) (st : Ms) (hJ : LJ G h0 x m q o o2 f g st st) (hk : Iv st) (x9 : Int32) (a9 : Int64) (d9 : Int64) : mH l G s0 yL_maximum cL_maximum 8 (some .int) [(0, 13, 16, 24), (0, 13, 20, 13), (0, 13, 24, 15)] 9 164 3 18 h0 [.ref x, .int x9, .long a9, .long d9, .ref o] (fun v9 h9 => v9 = some (.int (st_thr (T_maximum st x9 a9 d9).1)) ∧ ∃ f9 : Nat → Int64, LJ G h9 x m q o o2 f9 g (T_maximum st x9 a9 d9).1 st ∧ (st_thr (T_maximum st x9 a9 d9).1 = nI 0 → f9 0 = (T_maximum st x9 a9 d9).2)) := by
  refine mH_in RL "maximum" rfl rfl (by decide +kernel) (Nat.le_of_ble_eq_true rfl) ?_
  intro p e s mt below meth c H locs C ht hM hS ls hl
  have hx := C.1
  have hb := C.2.1
  have hown := C.2.2.2.1
  have hE := C.2.2.2.2.2.2.1
  have hl : lv_has ls 8 [(0, .ref x), (1, .int x9), (2, .long a9), (4, .long d9), (6, .ref o)] := hl
  have hJ0 := hJ
  obtain ⟨A, tg, X, fd, tt, gr, hA, hC, hR, hW, ho, ho2, t1, t2, t3, t4, n1, n2, n3, n4, n5⟩ := hJ
  subst hA
  refine lv_aload hx hb dL_maximum_0 (lv_at hl 4 rfl) ?_
  refine lv_iconst (v := nI 0) hx hb dL_maximum_2 (by decide) ?_
  refine lv_aload_n hx hb dL_maximum_3 rfl (lv_at hl 0 rfl) ?_
  refine lv_iload_n hx hb dL_maximum_4 rfl (lv_at hl 1 rfl) ?_
  refine lv_lload_n hx hb dL_maximum_5 rfl (lv_at hl 2 rfl) ?_
  refine lv_lload hx hb dL_maximum_6 (lv_at hl 3 rfl) ?_
  refine m_xcallV Z C hM hS (As := [.int x9, .long a9, .long d9]) (rest := [.int (nI 0), .ref o]) (c_X5_maximum Z h0 A tg st X fd tt gr hC hk hR x9 a9 d9) yi_X5_maximum ml_L_68 (hC.at clS_h) rfl ⟨Nat.le_of_ble_eq_true rfl, Nat.le_of_ble_eq_true rfl⟩ (Nat.le_of_ble_eq_true rfl) hl.1 rfl rfl dL_maximum_8 ⟨Nat.le_of_ble_eq_true rfl, Nat.le_of_ble_eq_true rfl⟩ (fun E ce q9 h9 H locs hv hM hS g1 g2 g3 => ?_) (fun v h9 H locs hv hM hS => ?_)
  · -- thrown
    rcases hv with ⟨hE9, c0, hN⟩ | ⟨k, hE9, c0, c1, c2, hN⟩ | ⟨k, hE9, c0, c1, c2, c3, hN⟩
    · -- java/util/NoSuchElementException
      have e9 := RA_maximum_1 (st := st) (x := x9) (a := a9) (d := d9) hk.m10 c0
      have hJ9 : LJ G h9 (A (cd 0 1 0)) m q o o2 f g (T_maximum st x9 a9 d9).1 st := by
        rw [e9]
        exact LJ.cls (X := X) (fd := fd) (tt := tt) (gr := gr) hW ho ho2 ⟨t1, t2, t3, t4⟩ ⟨n1, n2, n3, n4, n5⟩ (NW_thr hN _)
      subst hE9
      refine m_catch Z No C ht [] (0, 13, 16, 24) [(0, 13, 20, 13), (0, 13, 24, 15)] rfl (fun z hz => by cases hz) (by decide) (by decide) cl_L_24 ca_NSE g1 g2 g3 ?_
      refine lv_astore hx hb dL_maximum_16 hl (lv' := [(7, .ref q9), (0, .ref (A (cd 0 1 0))), (1, .int x9), (2, .long a9), (4, .long d9), (6, .ref o)]) (by decide) rfl (fun ls hl => ?_)
      refine lv_iconst (v := nI 1) hx hb dL_maximum_18 (by decide) ?_
      exact m_iret C hM hS (Nat.le_of_ble_eq_true rfl) (Nat.le_of_ble_eq_true rfl) dL_maximum_19 ⟨by rw [e9]; rfl, f, hJ9, fun z => absurd (show nI 1 = nI 0 from (by rw [e9] at z; exact z)) (by decide)⟩
    · -- java/lang/IllegalArgumentException
      have e9 := RA_maximum_2 (st := st) (x := x9) (a := a9) (d := d9) hk.m10 c0 c1 c2
      have hJ9 : LJ G h9 (A (cd 0 1 0)) m q o o2 f g (T_maximum st x9 a9 d9).1 st := by
        rw [e9]
        exact LJ.cls (X := X) (fd := fd) (tt := tt) (gr := gr) hW ho ho2 ⟨t1, t2, t3, t4⟩ ⟨n1, n2, n3, n4, n5⟩ (NW_thr hN _)
      subst hE9
      refine m_catch Z No C ht [(0, 13, 16, 24)] (0, 13, 20, 13) [(0, 13, 24, 15)] rfl (by simp only [List.forall_mem_cons]; exact ⟨⟨by decide, _, cl_L_24, by decide⟩, fun _ hz => absurd hz List.not_mem_nil⟩) (by decide) (by decide) cl_L_13 ca_IAE g1 g2 g3 ?_
      refine lv_astore hx hb dL_maximum_20 hl (lv' := [(7, .ref q9), (0, .ref (A (cd 0 1 0))), (1, .int x9), (2, .long a9), (4, .long d9), (6, .ref o)]) (by decide) rfl (fun ls hl => ?_)
      refine lv_iconst (v := nI 2) hx hb dL_maximum_22 (by decide) ?_
      exact m_iret C hM hS (Nat.le_of_ble_eq_true rfl) (Nat.le_of_ble_eq_true rfl) dL_maximum_23 ⟨by rw [e9]; rfl, f, hJ9, fun z => absurd (show nI 2 = nI 0 from (by rw [e9] at z; exact z)) (by decide)⟩
    · -- java/lang/IllegalStateException
      have e9 := RA_maximum_3 (st := st) (x := x9) (a := a9) (d := d9) hk.m10 c0 c1 c2 c3
      have hJ9 : LJ G h9 (A (cd 0 1 0)) m q o o2 f g (T_maximum st x9 a9 d9).1 st := by
        rw [e9]
        exact LJ.cls (X := X) (fd := fd) (tt := tt) (gr := gr) hW ho ho2 ⟨t1, t2, t3, t4⟩ ⟨n1, n2, n3, n4, n5⟩ (NW_thr hN _)
      subst hE9
      refine m_catch Z No C ht [(0, 13, 16, 24), (0, 13, 20, 13)] (0, 13, 24, 15) [] rfl (by simp only [List.forall_mem_cons]; exact ⟨⟨by decide, _, cl_L_24, by decide⟩, ⟨by decide, _, cl_L_13, by decide⟩, fun _ hz => absurd hz List.not_mem_nil⟩) (by decide) (by decide) cl_L_15 ca_ISE g1 g2 g3 ?_
      refine lv_astore hx hb dL_maximum_24 hl (lv' := [(7, .ref q9), (0, .ref (A (cd 0 1 0))), (1, .int x9), (2, .long a9), (4, .long d9), (6, .ref o)]) (by decide) rfl (fun ls hl => ?_)
      refine lv_iconst (v := nI 3) hx hb dL_maximum_26 (by decide) ?_
      exact m_iret C hM hS (Nat.le_of_ble_eq_true rfl) (Nat.le_of_ble_eq_true rfl) dL_maximum_27 ⟨by rw [e9]; rfl, f, hJ9, fun z => absurd (show nI 3 = nI 0 from (by rw [e9] at z; exact z)) (by decide)⟩
  · -- returned
    obtain ⟨k, c0, c1, c2, c3, hv, hN⟩ := hv
    have e9 := RA_maximum_0 (st := st) (x := x9) (a := a9) (d := d9) hk.m10 c0 c1 c2 c3
    have hJ9 : LJ G h9 (A (cd 0 1 0)) m q o o2 f g (T_maximum st x9 a9 d9).1 st := by
      rw [e9]
      exact LJ.cls (X := X) (fd := fd) (tt := tt) (gr := gr) hW ho ho2 ⟨t1, t2, t3, t4⟩ ⟨n1, n2, n3, n4, n5⟩ (NW_thr hN _)
    subst hv
    refine W.eq (g2 := F0 mt 11 ls [.int (z_mx (z_in st k a9 d9) (z_v st k) (-20000) (st_n st k)), .int (nI 0), .ref o]) rfl ?_
    refine lv_i2l hx hb dL_maximum_11 rfl ?_
    refine m_last Z C hM hS hJ9.oo 0 rfl (by decide) (by decide) dL_maximum_12 (fun H locs hM hS => ?_)
    refine lv_goto (tgt := 28) hx hb dL_maximum_13 (by decide) ?_
    refine lv_iconst (v := nI 0) hx hb dL_maximum_28 (by decide) ?_
    exact m_iret C hM hS (Nat.le_of_ble_eq_true rfl) (Nat.le_of_ble_eq_true rfl) dL_maximum_29 ⟨by rw [e9]; rfl, _, hJ9.put _, fun _ => (va_up_self _ _ _).trans (by rw [e9])⟩
set_option maxRecDepth 100000 in
set_option maxHeartbeats 4000000 in
theorem c_L_mean {l : Launch} {G : mG} {a0 : Array Value} {s0 : State} (Z : mZ l G a0 s0) (No : mNo s0) (h0 : Hp) (x m : Nat) (q : Nat → Nat) (o o2 : Nat) (f : Nat → Int64) (g : Nat → UInt64) (st : Ms) (hJ : LJ G h0 x m q o o2 f g st st) (hk : Iv st) (x9 : Int32) (a9 : Int64) (d9 : Int64) : mH l G s0 yL_mean cL_mean 8 (some .int) [(0, 12, 15, 24), (0, 12, 19, 13), (0, 12, 23, 75)] 9 164 3 18 h0 [.ref x, .int x9, .long a9, .long d9, .ref o2] (fun v9 h9 => v9 = some (.int (st_thr (T_mean st x9 a9 d9).1)) ∧ ∃ g9 : Nat → UInt64, LJ G h9 x m q o o2 f g9 (T_mean st x9 a9 d9).1 st ∧ (st_thr (T_mean st x9 a9 d9).1 = nI 0 → g9 0 = (T_mean st x9 a9 d9).2)) := by
  refine mH_in RL "mean" rfl rfl (by decide +kernel) (Nat.le_of_ble_eq_true rfl) ?_
  intro p e s mt below meth c H locs C ht hM hS ls hl
  have hx := C.1
  have hb := C.2.1
  have hown := C.2.2.2.1
  have hE := C.2.2.2.2.2.2.1
  have hl : lv_has ls 8 [(0, .ref x), (1, .int x9), (2, .long a9), (4, .long d9), (6, .ref o2)] := hl
  have hJ0 := hJ
  obtain ⟨A, tg, X, fd, tt, gr, hA, hC, hR, hW, ho, ho2, t1, t2, t3, t4, n1, n2, n3, n4, n5⟩ := hJ
  subst hA
  refine lv_aload hx hb dL_mean_0 (lv_at hl 4 rfl) ?_
  refine lv_iconst (v := nI 0) hx hb dL_mean_2 (by decide) ?_
  refine lv_aload_n hx hb dL_mean_3 rfl (lv_at hl 0 rfl) ?_
  refine lv_iload_n hx hb dL_mean_4 rfl (lv_at hl 1 rfl) ?_
  refine lv_lload_n hx hb dL_mean_5 rfl (lv_at hl 2 rfl) ?_
  refine lv_lload hx hb dL_mean_6 (lv_at hl 3 rfl) ?_
  refine m_xcallV Z C hM hS (As := [.int x9, .long a9, .long d9]) (rest := [.int (nI 0), .ref o2]) (c_X5_mean Z h0 A tg st X fd tt gr hC hk hR x9 a9 d9) yi_X5_mean ml_L_71 (hC.at clS_h) rfl ⟨Nat.le_of_ble_eq_true rfl, Nat.le_of_ble_eq_true rfl⟩ (Nat.le_of_ble_eq_true rfl) hl.1 rfl rfl dL_mean_8 ⟨Nat.le_of_ble_eq_true rfl, Nat.le_of_ble_eq_true rfl⟩ (fun E ce q9 h9 H locs hv hM hS g1 g2 g3 => ?_) (fun v h9 H locs hv hM hS => ?_)
  · -- thrown
    rcases hv with ⟨hE9, c0, hN⟩ | ⟨k, hE9, c0, c1, c2, hN⟩ | ⟨k, hE9, c0, c1, c2, c3, hN⟩
    · -- java/util/NoSuchElementException
      have e9 := RA_mean_1 (st := st) (x := x9) (a := a9) (d := d9) hk.m10 c0
      have hJ9 : LJ G h9 (A (cd 0 1 0)) m q o o2 f g (T_mean st x9 a9 d9).1 st := by
        rw [e9]
        exact LJ.cls (X := X) (fd := fd) (tt := tt) (gr := gr) hW ho ho2 ⟨t1, t2, t3, t4⟩ ⟨n1, n2, n3, n4, n5⟩ (NW_thr hN _)
      subst hE9
      refine m_catch Z No C ht [] (0, 12, 15, 24) [(0, 12, 19, 13), (0, 12, 23, 75)] rfl (fun z hz => by cases hz) (by decide) (by decide) cl_L_24 ca_NSE g1 g2 g3 ?_
      refine lv_astore hx hb dL_mean_15 hl (lv' := [(7, .ref q9), (0, .ref (A (cd 0 1 0))), (1, .int x9), (2, .long a9), (4, .long d9), (6, .ref o2)]) (by decide) rfl (fun ls hl => ?_)
      refine lv_iconst (v := nI 1) hx hb dL_mean_17 (by decide) ?_
      exact m_iret C hM hS (Nat.le_of_ble_eq_true rfl) (Nat.le_of_ble_eq_true rfl) dL_mean_18 ⟨by rw [e9]; rfl, g, hJ9, fun z => absurd (show nI 1 = nI 0 from (by rw [e9] at z; exact z)) (by decide)⟩
    · -- java/lang/IllegalArgumentException
      have e9 := RA_mean_2 (st := st) (x := x9) (a := a9) (d := d9) hk.m10 c0 c1 c2
      have hJ9 : LJ G h9 (A (cd 0 1 0)) m q o o2 f g (T_mean st x9 a9 d9).1 st := by
        rw [e9]
        exact LJ.cls (X := X) (fd := fd) (tt := tt) (gr := gr) hW ho ho2 ⟨t1, t2, t3, t4⟩ ⟨n1, n2, n3, n4, n5⟩ (NW_thr hN _)
      subst hE9
      refine m_catch Z No C ht [(0, 12, 15, 24)] (0, 12, 19, 13) [(0, 12, 23, 75)] rfl (by simp only [List.forall_mem_cons]; exact ⟨⟨by decide, _, cl_L_24, by decide⟩, fun _ hz => absurd hz List.not_mem_nil⟩) (by decide) (by decide) cl_L_13 ca_IAE g1 g2 g3 ?_
      refine lv_astore hx hb dL_mean_19 hl (lv' := [(7, .ref q9), (0, .ref (A (cd 0 1 0))), (1, .int x9), (2, .long a9), (4, .long d9), (6, .ref o2)]) (by decide) rfl (fun ls hl => ?_)
      refine lv_iconst (v := nI 2) hx hb dL_mean_21 (by decide) ?_
      exact m_iret C hM hS (Nat.le_of_ble_eq_true rfl) (Nat.le_of_ble_eq_true rfl) dL_mean_22 ⟨by rw [e9]; rfl, g, hJ9, fun z => absurd (show nI 2 = nI 0 from (by rw [e9] at z; exact z)) (by decide)⟩
    · -- java/lang/ArithmeticException
      have e9 := RA_mean_3 (st := st) (x := x9) (a := a9) (d := d9) hk.m10 c0 c1 c2 c3
      have hJ9 : LJ G h9 (A (cd 0 1 0)) m q o o2 f g (T_mean st x9 a9 d9).1 st := by
        rw [e9]
        exact LJ.cls (X := X) (fd := fd) (tt := tt) (gr := gr) hW ho ho2 ⟨t1, t2, t3, t4⟩ ⟨n1, n2, n3, n4, n5⟩ (NW_thr hN _)
      subst hE9
      refine m_catch Z No C ht [(0, 12, 15, 24), (0, 12, 19, 13)] (0, 12, 23, 75) [] rfl (by simp only [List.forall_mem_cons]; exact ⟨⟨by decide, _, cl_L_24, by decide⟩, ⟨by decide, _, cl_L_13, by decide⟩, fun _ hz => absurd hz List.not_mem_nil⟩) (by decide) (by decide) cl_L_75 ca_AE g1 g2 g3 ?_
      refine lv_astore hx hb dL_mean_23 hl (lv' := [(7, .ref q9), (0, .ref (A (cd 0 1 0))), (1, .int x9), (2, .long a9), (4, .long d9), (6, .ref o2)]) (by decide) rfl (fun ls hl => ?_)
      refine lv_iconst (v := nI 3) hx hb dL_mean_25 (by decide) ?_
      exact m_iret C hM hS (Nat.le_of_ble_eq_true rfl) (Nat.le_of_ble_eq_true rfl) dL_mean_26 ⟨by rw [e9]; rfl, g, hJ9, fun z => absurd (show nI 3 = nI 0 from (by rw [e9] at z; exact z)) (by decide)⟩
  · -- returned
    obtain ⟨k, c0, c1, c2, c3, hv, hN⟩ := hv
    have e9 := RA_mean_0 (st := st) (x := x9) (a := a9) (d := d9) hk.m10 c0 c1 c2 c3
    have hJ9 : LJ G h9 (A (cd 0 1 0)) m q o o2 f g (T_mean st x9 a9 d9).1 st := by
      rw [e9]
      exact LJ.cls (X := X) (fd := fd) (tt := tt) (gr := gr) hW ho ho2 ⟨t1, t2, t3, t4⟩ ⟨n1, n2, n3, n4, n5⟩ (NW_thr hN _)
    subst hv
    refine W.eq (g2 := F0 mt 11 ls [.double (FP.ddiv (FP.l2d (z_sm (z_in st k a9 d9) (fun i => (z_v st k i).toInt64) (st_n st k))) (FP.i2d (nI (z_ct (z_in st k a9 d9) (st_n st k))))), .int (nI 0), .ref o2]) rfl ?_
    refine m_dast Z C hM hS hJ9.oo2 0 rfl (by decide) (by decide) dL_mean_11 (fun H locs hM hS => ?_)
    refine lv_goto (tgt := 27) hx hb dL_mean_12 (by decide) ?_
    refine lv_iconst (v := nI 0) hx hb dL_mean_27 (by decide) ?_
    exact m_iret C hM hS (Nat.le_of_ble_eq_true rfl) (Nat.le_of_ble_eq_true rfl) dL_mean_28 ⟨by rw [e9]; rfl, _, hJ9.put2 _, fun _ => (va_up_self _ _ _).trans (by rw [e9])⟩
set_option maxRecDepth 100000 in
set_option maxHeartbeats 4000000 in
theorem c_L_rollupCount {l : Launch} {G : mG} {a0 : Array Value} {s0 : State} (Z : mZ l G a0 s0) (No : mNo s0) (h0 : Hp) (x m : Nat) (q : Nat → Nat) (o o2 : Nat) (f : Nat → Int64) (g : Nat → UInt64) (st : Ms) (hJ : LJ G h0 x m q o o2 f g st st) (hk : Iv st) (x9 : Int32) (y9 : Int32) : mH l G s0 yL_rollupCount cL_rollupCount 5 (some .int) [(0, 10, 13, 24), (0, 10, 17, 13)] 8 137 2 12 h0 [.ref x, .int x9, .int y9, .ref o] (fun v9 h9 => v9 = some (.int (st_thr (T_rollupCount st x9 y9).1)) ∧ ∃ f9 : Nat → Int64, LJ G h9 x m q o o2 f9 g (T_rollupCount st x9 y9).1 st ∧ (st_thr (T_rollupCount st x9 y9).1 = nI 0 → f9 0 = (T_rollupCount st x9 y9).2)) := by
  refine mH_in RL "rollupCount" rfl rfl (by decide +kernel) (Nat.le_of_ble_eq_true rfl) ?_
  intro p e s mt below meth c H locs C ht hM hS ls hl
  have hx := C.1
  have hb := C.2.1
  have hown := C.2.2.2.1
  have hE := C.2.2.2.2.2.2.1
  have hl : lv_has ls 5 [(0, .ref x), (1, .int x9), (2, .int y9), (3, .ref o)] := hl
  have hJ0 := hJ
  obtain ⟨A, tg, X, fd, tt, gr, hA, hC, hR, hW, ho, ho2, t1, t2, t3, t4, n1, n2, n3, n4, n5⟩ := hJ
  subst hA
  refine lv_aload_n hx hb dL_rollupCount_0 rfl (lv_at hl 3 rfl) ?_
  refine lv_iconst (v := nI 0) hx hb dL_rollupCount_1 (by decide) ?_
  refine lv_aload_n hx hb dL_rollupCount_2 rfl (lv_at hl 0 rfl) ?_
  refine lv_iload_n hx hb dL_rollupCount_3 rfl (lv_at hl 1 rfl) ?_
  refine lv_iload_n hx hb dL_rollupCount_4 rfl (lv_at hl 2 rfl) ?_
  refine m_xcallV Z C hM hS (As := [.int x9, .int y9]) (rest := [.int (nI 0), .ref o]) (c_X5_rollupCount Z h0 A tg st X fd tt gr hC hk hR x9 y9) yi_X5_rollupCount ml_L_77 (hC.at clS_h) rfl ⟨Nat.le_of_ble_eq_true rfl, Nat.le_of_ble_eq_true rfl⟩ (Nat.le_of_ble_eq_true rfl) hl.1 rfl rfl dL_rollupCount_5 ⟨Nat.le_of_ble_eq_true rfl, Nat.le_of_ble_eq_true rfl⟩ (fun E ce q9 h9 H locs hv hM hS g1 g2 g3 => ?_) (fun v h9 H locs hv hM hS => ?_)
  · -- thrown
    rcases hv with ⟨hE9, c0, hN⟩ | ⟨k, hE9, c0, c1, c2, hN⟩
    · -- java/util/NoSuchElementException
      have e9 := RA_rollupCount_1 (st := st) (x := x9) (y := y9) hk.m10 c0
      have hJ9 : LJ G h9 (A (cd 0 1 0)) m q o o2 f g (T_rollupCount st x9 y9).1 st := by
        rw [e9]
        exact LJ.cls (X := X) (fd := fd) (tt := tt) (gr := gr) hW ho ho2 ⟨t1, t2, t3, t4⟩ ⟨n1, n2, n3, n4, n5⟩ (NW_thr hN _)
      subst hE9
      refine m_catch Z No C ht [] (0, 10, 13, 24) [(0, 10, 17, 13)] rfl (fun z hz => by cases hz) (by decide) (by decide) cl_L_24 ca_NSE g1 g2 g3 ?_
      refine lv_astore hx hb dL_rollupCount_13 hl (lv' := [(4, .ref q9), (0, .ref (A (cd 0 1 0))), (1, .int x9), (2, .int y9), (3, .ref o)]) (by decide) rfl (fun ls hl => ?_)
      refine lv_iconst (v := nI 1) hx hb dL_rollupCount_15 (by decide) ?_
      exact m_iret C hM hS (Nat.le_of_ble_eq_true rfl) (Nat.le_of_ble_eq_true rfl) dL_rollupCount_16 ⟨by rw [e9]; rfl, f, hJ9, fun z => absurd (show nI 1 = nI 0 from (by rw [e9] at z; exact z)) (by decide)⟩
    · -- java/lang/IllegalArgumentException
      have e9 := RA_rollupCount_2 (st := st) (x := x9) (y := y9) hk.m10 c0 c1 c2
      have hJ9 : LJ G h9 (A (cd 0 1 0)) m q o o2 f g (T_rollupCount st x9 y9).1 st := by
        rw [e9]
        exact LJ.cls (X := X) (fd := fd) (tt := tt) (gr := gr) hW ho ho2 ⟨t1, t2, t3, t4⟩ ⟨n1, n2, n3, n4, n5⟩ (NW_thr hN _)
      subst hE9
      refine m_catch Z No C ht [(0, 10, 13, 24)] (0, 10, 17, 13) [] rfl (by simp only [List.forall_mem_cons]; exact ⟨⟨by decide, _, cl_L_24, by decide⟩, fun _ hz => absurd hz List.not_mem_nil⟩) (by decide) (by decide) cl_L_13 ca_IAE g1 g2 g3 ?_
      refine lv_astore hx hb dL_rollupCount_17 hl (lv' := [(4, .ref q9), (0, .ref (A (cd 0 1 0))), (1, .int x9), (2, .int y9), (3, .ref o)]) (by decide) rfl (fun ls hl => ?_)
      refine lv_iconst (v := nI 2) hx hb dL_rollupCount_19 (by decide) ?_
      exact m_iret C hM hS (Nat.le_of_ble_eq_true rfl) (Nat.le_of_ble_eq_true rfl) dL_rollupCount_20 ⟨by rw [e9]; rfl, f, hJ9, fun z => absurd (show nI 2 = nI 0 from (by rw [e9] at z; exact z)) (by decide)⟩
  · -- returned
    obtain ⟨k, c0, c1, c2, hv, hN⟩ := hv
    have e9 := RA_rollupCount_0 (st := st) (x := x9) (y := y9) hk.m10 c0 c1 c2
    have hJ9 : LJ G h9 (A (cd 0 1 0)) m q o o2 f g (T_rollupCount st x9 y9).1 st := by
      rw [e9]
      exact LJ.cls (X := X) (fd := fd) (tt := tt) (gr := gr) hW ho ho2 ⟨t1, t2, t3, t4⟩ ⟨n1, n2, n3, n4, n5⟩ (NW_thr hN _)
    subst hv
    refine W.eq (g2 := F0 mt 8 ls [.int (nI (z_ct (z_ro st k y9) (st_n st k))), .int (nI 0), .ref o]) rfl ?_
    refine lv_i2l hx hb dL_rollupCount_8 rfl ?_
    refine m_last Z C hM hS hJ9.oo 0 rfl (by decide) (by decide) dL_rollupCount_9 (fun H locs hM hS => ?_)
    refine lv_goto (tgt := 21) hx hb dL_rollupCount_10 (by decide) ?_
    refine lv_iconst (v := nI 0) hx hb dL_rollupCount_21 (by decide) ?_
    exact m_iret C hM hS (Nat.le_of_ble_eq_true rfl) (Nat.le_of_ble_eq_true rfl) dL_rollupCount_22 ⟨by rw [e9]; rfl, _, hJ9.put _, fun _ => (va_up_self _ _ _).trans (by rw [e9])⟩
set_option maxRecDepth 100000 in
set_option maxHeartbeats 4000000 in
theorem c_L_countLow {l : Launch} {G : mG} {a0 : Array Value} {s0 : State} (Z : mZ l G a0 s0) (No : mNo s0) (h0 : Hp) (x m : Nat) (q : Nat → Nat) (o o2 : Nat) (f : Nat → Int64) (g : Nat → UInt64) (st : Ms) (hJ : LJ G h0 x m q o o2 f g st st) (hk : Iv st) (x9 : Int32) (a9 : Int64) (d9 : Int64) : mH l G s0 yL_countLow cL_countLow 8 (some .int) [(0, 13, 16, 24), (0, 13, 20, 13)] 8 139 2 12 h0 [.ref x, .int x9, .long a9, .long d9, .ref o] (fun v9 h9 => v9 = some (.int (st_thr (T_countLow st x9 a9 d9).1)) ∧ ∃ f9 : Nat → Int64, LJ G h9 x m q o o2 f9 g (T_countLow st x9 a9 d9).1 st ∧ (st_thr (T_countLow st x9 a9 d9).1 = nI 0 → f9 0 = (T_countLow st x9 a9 d9).2)) := by
  refine mH_in RL "countLow" rfl rfl (by decide +kernel) (Nat.le_of_ble_eq_true rfl) ?_
  intro p e s mt below meth c H locs C ht hM hS ls hl
  have hx := C.1
  have hb := C.2.1
  have hown := C.2.2.2.1
  have hE := C.2.2.2.2.2.2.1
  have hl : lv_has ls 8 [(0, .ref x), (1, .int x9), (2, .long a9), (4, .long d9), (6, .ref o)] := hl
  have hJ0 := hJ
  obtain ⟨A, tg, X, fd, tt, gr, hA, hC, hR, hW, ho, ho2, t1, t2, t3, t4, n1, n2, n3, n4, n5⟩ := hJ
  subst hA
  refine lv_aload hx hb dL_countLow_0 (lv_at hl 4 rfl) ?_
  refine lv_iconst (v := nI 0) hx hb dL_countLow_2 (by decide) ?_
  refine lv_aload_n hx hb dL_countLow_3 rfl (lv_at hl 0 rfl) ?_
  refine lv_iload_n hx hb dL_countLow_4 rfl (lv_at hl 1 rfl) ?_
  refine lv_lload_n hx hb dL_countLow_5 rfl (lv_at hl 2 rfl) ?_
  refine lv_lload hx hb dL_countLow_6 (lv_at hl 3 rfl) ?_
  refine m_xcallV Z C hM hS (As := [.int x9, .long a9, .long d9]) (rest := [.int (nI 0), .ref o]) (c_X5_countLow Z h0 A tg st X fd tt gr hC hk hR x9 a9 d9) yi_X5_countLow ml_L_80 (hC.at clS_h) rfl ⟨Nat.le_of_ble_eq_true rfl, Nat.le_of_ble_eq_true rfl⟩ (Nat.le_of_ble_eq_true rfl) hl.1 rfl rfl dL_countLow_8 ⟨Nat.le_of_ble_eq_true rfl, Nat.le_of_ble_eq_true rfl⟩ (fun E ce q9 h9 H locs hv hM hS g1 g2 g3 => ?_) (fun v h9 H locs hv hM hS => ?_)
  · -- thrown
    rcases hv with ⟨hE9, c0, hN⟩ | ⟨k, hE9, c0, c1, c2, hN⟩
    · -- java/util/NoSuchElementException
      have e9 := RA_countLow_1 (st := st) (x := x9) (a := a9) (d := d9) hk.m10 c0
      have hJ9 : LJ G h9 (A (cd 0 1 0)) m q o o2 f g (T_countLow st x9 a9 d9).1 st := by
        rw [e9]
        exact LJ.cls (X := X) (fd := fd) (tt := tt) (gr := gr) hW ho ho2 ⟨t1, t2, t3, t4⟩ ⟨n1, n2, n3, n4, n5⟩ (NW_thr hN _)
      subst hE9
      refine m_catch Z No C ht [] (0, 13, 16, 24) [(0, 13, 20, 13)] rfl (fun z hz => by cases hz) (by decide) (by decide) cl_L_24 ca_NSE g1 g2 g3 ?_
      refine lv_astore hx hb dL_countLow_16 hl (lv' := [(7, .ref q9), (0, .ref (A (cd 0 1 0))), (1, .int x9), (2, .long a9), (4, .long d9), (6, .ref o)]) (by decide) rfl (fun ls hl => ?_)
      refine lv_iconst (v := nI 1) hx hb dL_countLow_18 (by decide) ?_
      exact m_iret C hM hS (Nat.le_of_ble_eq_true rfl) (Nat.le_of_ble_eq_true rfl) dL_countLow_19 ⟨by rw [e9]; rfl, f, hJ9, fun z => absurd (show nI 1 = nI 0 from (by rw [e9] at z; exact z)) (by decide)⟩
    · -- java/lang/IllegalArgumentException
      have e9 := RA_countLow_2 (st := st) (x := x9) (a := a9) (d := d9) hk.m10 c0 c1 c2
      have hJ9 : LJ G h9 (A (cd 0 1 0)) m q o o2 f g (T_countLow st x9 a9 d9).1 st := by
        rw [e9]
        exact LJ.cls (X := X) (fd := fd) (tt := tt) (gr := gr) hW ho ho2 ⟨t1, t2, t3, t4⟩ ⟨n1, n2, n3, n4, n5⟩ (NW_thr hN _)
      subst hE9
      refine m_catch Z No C ht [(0, 13, 16, 24)] (0, 13, 20, 13) [] rfl (by simp only [List.forall_mem_cons]; exact ⟨⟨by decide, _, cl_L_24, by decide⟩, fun _ hz => absurd hz List.not_mem_nil⟩) (by decide) (by decide) cl_L_13 ca_IAE g1 g2 g3 ?_
      refine lv_astore hx hb dL_countLow_20 hl (lv' := [(7, .ref q9), (0, .ref (A (cd 0 1 0))), (1, .int x9), (2, .long a9), (4, .long d9), (6, .ref o)]) (by decide) rfl (fun ls hl => ?_)
      refine lv_iconst (v := nI 2) hx hb dL_countLow_22 (by decide) ?_
      exact m_iret C hM hS (Nat.le_of_ble_eq_true rfl) (Nat.le_of_ble_eq_true rfl) dL_countLow_23 ⟨by rw [e9]; rfl, f, hJ9, fun z => absurd (show nI 2 = nI 0 from (by rw [e9] at z; exact z)) (by decide)⟩
  · -- returned
    obtain ⟨k, c0, c1, c2, hv, hN⟩ := hv
    have e9 := RA_countLow_0 (st := st) (x := x9) (a := a9) (d := d9) hk.m10 c0 c1 c2
    have hJ9 : LJ G h9 (A (cd 0 1 0)) m q o o2 f g (T_countLow st x9 a9 d9).1 st := by
      rw [e9]
      exact LJ.cls (X := X) (fd := fd) (tt := tt) (gr := gr) hW ho ho2 ⟨t1, t2, t3, t4⟩ ⟨n1, n2, n3, n4, n5⟩ (NW_thr hN _)
    subst hv
    refine W.eq (g2 := F0 mt 11 ls [.int (nI (z_ct (z_lo st k a9 d9) (st_n st k))), .int (nI 0), .ref o]) rfl ?_
    refine lv_i2l hx hb dL_countLow_11 rfl ?_
    refine m_last Z C hM hS hJ9.oo 0 rfl (by decide) (by decide) dL_countLow_12 (fun H locs hM hS => ?_)
    refine lv_goto (tgt := 24) hx hb dL_countLow_13 (by decide) ?_
    refine lv_iconst (v := nI 0) hx hb dL_countLow_24 (by decide) ?_
    exact m_iret C hM hS (Nat.le_of_ble_eq_true rfl) (Nat.le_of_ble_eq_true rfl) dL_countLow_25 ⟨by rw [e9]; rfl, _, hJ9.put _, fun _ => (va_up_self _ _ _).trans (by rw [e9])⟩
set_option maxRecDepth 100000 in
set_option maxHeartbeats 4000000 in
theorem c_L_countHigh {l : Launch} {G : mG} {a0 : Array Value} {s0 : State} (Z : mZ l G a0 s0) (No : mNo s0) (h0 : Hp) (x m : Nat) (q : Nat → Nat) (o o2 : Nat) (f : Nat → Int64) (g : Nat → UInt64) (st : Ms) (hJ : LJ G h0 x m q o o2 f g st st) (hk : Iv st) (x9 : Int32) (a9 : Int64) (d9 : Int64) : mH l G s0 yL_countHigh cL_countHigh 8 (some .int) [(0, 13, 16, 24), (0, 13, 20, 13)] 9 164 2 12 h0 [.ref x, .int x9, .long a9, .long d9, .ref o] (fun v9 h9 => v9 = some (.int (st_thr (T_countHigh st x9 a9 d9).1)) ∧ ∃ f9 : Nat → Int64, LJ G h9 x m q o o2 f9 g (T_countHigh st x9 a9 d9).1 st ∧ (st_thr (T_countHigh st x9 a9 d9).1 = nI 0 → f9 0 = (T_countHigh st x9 a9 d9).2)) := by
  refine mH_in RL "countHigh" rfl rfl (by decide +kernel) (Nat.le_of_ble_eq_true rfl) ?_
  intro p e s mt below meth c H locs C ht hM hS ls hl
  have hx := C.1
  have hb := C.2.1
  have hown := C.2.2.2.1
  have hE := C.2.2.2.2.2.2.1
  have hl : lv_has ls 8 [(0, .ref x), (1, .int x9), (2, .long a9), (4, .long d9), (6, .ref o)] := hl
  have hJ0 := hJ
  obtain ⟨A, tg, X, fd, tt, gr, hA, hC, hR, hW, ho, ho2, t1, t2, t3, t4, n1, n2, n3, n4, n5⟩ := hJ
  subst hA
  refine lv_aload hx hb dL_countHigh_0 (lv_at hl 4 rfl) ?_
  refine lv_iconst (v := nI 0) hx hb dL_countHigh_2 (by decide) ?_
  refine lv_aload_n hx hb dL_countHigh_3 rfl (lv_at hl 0 rfl) ?_
  refine lv_iload_n hx hb dL_countHigh_4 rfl (lv_at hl 1 rfl) ?_
  refine lv_lload_n hx hb dL_countHigh_5 rfl (lv_at hl 2 rfl) ?_
  refine lv_lload hx hb dL_countHigh_6 (lv_at hl 3 rfl) ?_
  refine m_xcallV Z C hM hS (As := [.int x9, .long a9, .long d9]) (rest := [.int (nI 0), .ref o]) (c_X5_countHigh Z h0 A tg st X fd tt gr hC hk hR x9 a9 d9) yi_X5_countHigh ml_L_83 (hC.at clS_h) rfl ⟨Nat.le_of_ble_eq_true rfl, Nat.le_of_ble_eq_true rfl⟩ (Nat.le_of_ble_eq_true rfl) hl.1 rfl rfl dL_countHigh_8 ⟨Nat.le_of_ble_eq_true rfl, Nat.le_of_ble_eq_true rfl⟩ (fun E ce q9 h9 H locs hv hM hS g1 g2 g3 => ?_) (fun v h9 H locs hv hM hS => ?_)
  · -- thrown
    rcases hv with ⟨hE9, c0, hN⟩ | ⟨k, hE9, c0, c1, c2, hN⟩
    · -- java/util/NoSuchElementException
      have e9 := RA_countHigh_1 (st := st) (x := x9) (a := a9) (d := d9) hk.m10 c0
      have hJ9 : LJ G h9 (A (cd 0 1 0)) m q o o2 f g (T_countHigh st x9 a9 d9).1 st := by
        rw [e9]
        exact LJ.cls (X := X) (fd := fd) (tt := tt) (gr := gr) hW ho ho2 ⟨t1, t2, t3, t4⟩ ⟨n1, n2, n3, n4, n5⟩ (NW_thr hN _)
      subst hE9
      refine m_catch Z No C ht [] (0, 13, 16, 24) [(0, 13, 20, 13)] rfl (fun z hz => by cases hz) (by decide) (by decide) cl_L_24 ca_NSE g1 g2 g3 ?_
      refine lv_astore hx hb dL_countHigh_16 hl (lv' := [(7, .ref q9), (0, .ref (A (cd 0 1 0))), (1, .int x9), (2, .long a9), (4, .long d9), (6, .ref o)]) (by decide) rfl (fun ls hl => ?_)
      refine lv_iconst (v := nI 1) hx hb dL_countHigh_18 (by decide) ?_
      exact m_iret C hM hS (Nat.le_of_ble_eq_true rfl) (Nat.le_of_ble_eq_true rfl) dL_countHigh_19 ⟨by rw [e9]; rfl, f, hJ9, fun z => absurd (show nI 1 = nI 0 from (by rw [e9] at z; exact z)) (by decide)⟩
    · -- java/lang/IllegalArgumentException
      have e9 := RA_countHigh_2 (st := st) (x := x9) (a := a9) (d := d9) hk.m10 c0 c1 c2
      have hJ9 : LJ G h9 (A (cd 0 1 0)) m q o o2 f g (T_countHigh st x9 a9 d9).1 st := by
        rw [e9]
        exact LJ.cls (X := X) (fd := fd) (tt := tt) (gr := gr) hW ho ho2 ⟨t1, t2, t3, t4⟩ ⟨n1, n2, n3, n4, n5⟩ (NW_thr hN _)
      subst hE9
      refine m_catch Z No C ht [(0, 13, 16, 24)] (0, 13, 20, 13) [] rfl (by simp only [List.forall_mem_cons]; exact ⟨⟨by decide, _, cl_L_24, by decide⟩, fun _ hz => absurd hz List.not_mem_nil⟩) (by decide) (by decide) cl_L_13 ca_IAE g1 g2 g3 ?_
      refine lv_astore hx hb dL_countHigh_20 hl (lv' := [(7, .ref q9), (0, .ref (A (cd 0 1 0))), (1, .int x9), (2, .long a9), (4, .long d9), (6, .ref o)]) (by decide) rfl (fun ls hl => ?_)
      refine lv_iconst (v := nI 2) hx hb dL_countHigh_22 (by decide) ?_
      exact m_iret C hM hS (Nat.le_of_ble_eq_true rfl) (Nat.le_of_ble_eq_true rfl) dL_countHigh_23 ⟨by rw [e9]; rfl, f, hJ9, fun z => absurd (show nI 2 = nI 0 from (by rw [e9] at z; exact z)) (by decide)⟩
  · -- returned
    obtain ⟨k, c0, c1, c2, hv, hN⟩ := hv
    have e9 := RA_countHigh_0 (st := st) (x := x9) (a := a9) (d := d9) hk.m10 c0 c1 c2
    have hJ9 : LJ G h9 (A (cd 0 1 0)) m q o o2 f g (T_countHigh st x9 a9 d9).1 st := by
      rw [e9]
      exact LJ.cls (X := X) (fd := fd) (tt := tt) (gr := gr) hW ho ho2 ⟨t1, t2, t3, t4⟩ ⟨n1, n2, n3, n4, n5⟩ (NW_thr hN _)
    subst hv
    refine W.eq (g2 := F0 mt 11 ls [.int (nI (z_ct (z_hi st k a9 d9) (st_n st k))), .int (nI 0), .ref o]) rfl ?_
    refine lv_i2l hx hb dL_countHigh_11 rfl ?_
    refine m_last Z C hM hS hJ9.oo 0 rfl (by decide) (by decide) dL_countHigh_12 (fun H locs hM hS => ?_)
    refine lv_goto (tgt := 24) hx hb dL_countHigh_13 (by decide) ?_
    refine lv_iconst (v := nI 0) hx hb dL_countHigh_24 (by decide) ?_
    exact m_iret C hM hS (Nat.le_of_ble_eq_true rfl) (Nat.le_of_ble_eq_true rfl) dL_countHigh_25 ⟨by rw [e9]; rfl, _, hJ9.put _, fun _ => (va_up_self _ _ _).trans (by rw [e9])⟩
set_option maxRecDepth 100000 in
set_option maxHeartbeats 4000000 in
theorem c_L_maximumHigh {l : Launch} {G : mG} {a0 : Array Value} {s0 : State} (Z : mZ l G a0 s0) (No : mNo s0) (h0 : Hp) (x m : Nat) (q : Nat → Nat) (o o2 : Nat) (f : Nat → Int64) (g : Nat → UInt64) (st : Ms) (hJ : LJ G h0 x m q o o2 f g st st) (hk : Iv st) (x9 : Int32) (a9 : Int64) (d9 : Int64) : mH l G s0 yL_maximumHigh cL_maximumHigh 8 (some .int) [(0, 13, 16, 24), (0, 13, 20, 13), (0, 13, 24, 15)] 9 164 3 18 h0 [.ref x, .int x9, .long a9, .long d9, .ref o] (fun v9 h9 => v9 = some (.int (st_thr (T_maximumHigh st x9 a9 d9).1)) ∧ ∃ f9 : Nat → Int64, LJ G h9 x m q o o2 f9 g (T_maximumHigh st x9 a9 d9).1 st ∧ (st_thr (T_maximumHigh st x9 a9 d9).1 = nI 0 → f9 0 = (T_maximumHigh st x9 a9 d9).2)) := by
  refine mH_in RL "maximumHigh" rfl rfl (by decide +kernel) (Nat.le_of_ble_eq_true rfl) ?_
  intro p e s mt below meth c H locs C ht hM hS ls hl
  have hx := C.1
  have hb := C.2.1
  have hown := C.2.2.2.1
  have hE := C.2.2.2.2.2.2.1
  have hl : lv_has ls 8 [(0, .ref x), (1, .int x9), (2, .long a9), (4, .long d9), (6, .ref o)] := hl
  have hJ0 := hJ
  obtain ⟨A, tg, X, fd, tt, gr, hA, hC, hR, hW, ho, ho2, t1, t2, t3, t4, n1, n2, n3, n4, n5⟩ := hJ
  subst hA
  refine lv_aload hx hb dL_maximumHigh_0 (lv_at hl 4 rfl) ?_
  refine lv_iconst (v := nI 0) hx hb dL_maximumHigh_2 (by decide) ?_
  refine lv_aload_n hx hb dL_maximumHigh_3 rfl (lv_at hl 0 rfl) ?_
  refine lv_iload_n hx hb dL_maximumHigh_4 rfl (lv_at hl 1 rfl) ?_
  refine lv_lload_n hx hb dL_maximumHigh_5 rfl (lv_at hl 2 rfl) ?_
  refine lv_lload hx hb dL_maximumHigh_6 (lv_at hl 3 rfl) ?_
  refine m_xcallV Z C hM hS (As := [.int x9, .long a9, .long d9]) (rest := [.int (nI 0), .ref o]) (c_X5_maximumHigh Z h0 A tg st X fd tt gr hC hk hR x9 a9 d9) yi_X5_maximumHigh ml_L_86 (hC.at clS_h) rfl ⟨Nat.le_of_ble_eq_true rfl, Nat.le_of_ble_eq_true rfl⟩ (Nat.le_of_ble_eq_true rfl) hl.1 rfl rfl dL_maximumHigh_8 ⟨Nat.le_of_ble_eq_true rfl, Nat.le_of_ble_eq_true rfl⟩ (fun E ce q9 h9 H locs hv hM hS g1 g2 g3 => ?_) (fun v h9 H locs hv hM hS => ?_)
  · -- thrown
    rcases hv with ⟨hE9, c0, hN⟩ | ⟨k, hE9, c0, c1, c2, hN⟩ | ⟨k, hE9, c0, c1, c2, c3, hN⟩
    · -- java/util/NoSuchElementException
      have e9 := RA_maximumHigh_1 (st := st) (x := x9) (a := a9) (d := d9) hk.m10 c0
      have hJ9 : LJ G h9 (A (cd 0 1 0)) m q o o2 f g (T_maximumHigh st x9 a9 d9).1 st := by
        rw [e9]
        exact LJ.cls (X := X) (fd := fd) (tt := tt) (gr := gr) hW ho ho2 ⟨t1, t2, t3, t4⟩ ⟨n1, n2, n3, n4, n5⟩ (NW_thr hN _)
      subst hE9
      refine m_catch Z No C ht [] (0, 13, 16, 24) [(0, 13, 20, 13), (0, 13, 24, 15)] rfl (fun z hz => by cases hz) (by decide) (by decide) cl_L_24 ca_NSE g1 g2 g3 ?_
      refine lv_astore hx hb dL_maximumHigh_16 hl (lv' := [(7, .ref q9), (0, .ref (A (cd 0 1 0))), (1, .int x9), (2, .long a9), (4, .long d9), (6, .ref o)]) (by decide) rfl (fun ls hl => ?_)
      refine lv_iconst (v := nI 1) hx hb dL_maximumHigh_18 (by decide) ?_
      exact m_iret C hM hS (Nat.le_of_ble_eq_true rfl) (Nat.le_of_ble_eq_true rfl) dL_maximumHigh_19 ⟨by rw [e9]; rfl, f, hJ9, fun z => absurd (show nI 1 = nI 0 from (by rw [e9] at z; exact z)) (by decide)⟩
    · -- java/lang/IllegalArgumentException
      have e9 := RA_maximumHigh_2 (st := st) (x := x9) (a := a9) (d := d9) hk.m10 c0 c1 c2
      have hJ9 : LJ G h9 (A (cd 0 1 0)) m q o o2 f g (T_maximumHigh st x9 a9 d9).1 st := by
        rw [e9]
        exact LJ.cls (X := X) (fd := fd) (tt := tt) (gr := gr) hW ho ho2 ⟨t1, t2, t3, t4⟩ ⟨n1, n2, n3, n4, n5⟩ (NW_thr hN _)
      subst hE9
      refine m_catch Z No C ht [(0, 13, 16, 24)] (0, 13, 20, 13) [(0, 13, 24, 15)] rfl (by simp only [List.forall_mem_cons]; exact ⟨⟨by decide, _, cl_L_24, by decide⟩, fun _ hz => absurd hz List.not_mem_nil⟩) (by decide) (by decide) cl_L_13 ca_IAE g1 g2 g3 ?_
      refine lv_astore hx hb dL_maximumHigh_20 hl (lv' := [(7, .ref q9), (0, .ref (A (cd 0 1 0))), (1, .int x9), (2, .long a9), (4, .long d9), (6, .ref o)]) (by decide) rfl (fun ls hl => ?_)
      refine lv_iconst (v := nI 2) hx hb dL_maximumHigh_22 (by decide) ?_
      exact m_iret C hM hS (Nat.le_of_ble_eq_true rfl) (Nat.le_of_ble_eq_true rfl) dL_maximumHigh_23 ⟨by rw [e9]; rfl, f, hJ9, fun z => absurd (show nI 2 = nI 0 from (by rw [e9] at z; exact z)) (by decide)⟩
    · -- java/lang/IllegalStateException
      have e9 := RA_maximumHigh_3 (st := st) (x := x9) (a := a9) (d := d9) hk.m10 c0 c1 c2 c3
      have hJ9 : LJ G h9 (A (cd 0 1 0)) m q o o2 f g (T_maximumHigh st x9 a9 d9).1 st := by
        rw [e9]
        exact LJ.cls (X := X) (fd := fd) (tt := tt) (gr := gr) hW ho ho2 ⟨t1, t2, t3, t4⟩ ⟨n1, n2, n3, n4, n5⟩ (NW_thr hN _)
      subst hE9
      refine m_catch Z No C ht [(0, 13, 16, 24), (0, 13, 20, 13)] (0, 13, 24, 15) [] rfl (by simp only [List.forall_mem_cons]; exact ⟨⟨by decide, _, cl_L_24, by decide⟩, ⟨by decide, _, cl_L_13, by decide⟩, fun _ hz => absurd hz List.not_mem_nil⟩) (by decide) (by decide) cl_L_15 ca_ISE g1 g2 g3 ?_
      refine lv_astore hx hb dL_maximumHigh_24 hl (lv' := [(7, .ref q9), (0, .ref (A (cd 0 1 0))), (1, .int x9), (2, .long a9), (4, .long d9), (6, .ref o)]) (by decide) rfl (fun ls hl => ?_)
      refine lv_iconst (v := nI 3) hx hb dL_maximumHigh_26 (by decide) ?_
      exact m_iret C hM hS (Nat.le_of_ble_eq_true rfl) (Nat.le_of_ble_eq_true rfl) dL_maximumHigh_27 ⟨by rw [e9]; rfl, f, hJ9, fun z => absurd (show nI 3 = nI 0 from (by rw [e9] at z; exact z)) (by decide)⟩
  · -- returned
    obtain ⟨k, c0, c1, c2, c3, hv, hN⟩ := hv
    have e9 := RA_maximumHigh_0 (st := st) (x := x9) (a := a9) (d := d9) hk.m10 c0 c1 c2 c3
    have hJ9 : LJ G h9 (A (cd 0 1 0)) m q o o2 f g (T_maximumHigh st x9 a9 d9).1 st := by
      rw [e9]
      exact LJ.cls (X := X) (fd := fd) (tt := tt) (gr := gr) hW ho ho2 ⟨t1, t2, t3, t4⟩ ⟨n1, n2, n3, n4, n5⟩ (NW_thr hN _)
    subst hv
    refine W.eq (g2 := F0 mt 11 ls [.int (z_mx (z_hi st k a9 d9) (z_v st k) (-20000) (st_n st k)), .int (nI 0), .ref o]) rfl ?_
    refine lv_i2l hx hb dL_maximumHigh_11 rfl ?_
    refine m_last Z C hM hS hJ9.oo 0 rfl (by decide) (by decide) dL_maximumHigh_12 (fun H locs hM hS => ?_)
    refine lv_goto (tgt := 28) hx hb dL_maximumHigh_13 (by decide) ?_
    refine lv_iconst (v := nI 0) hx hb dL_maximumHigh_28 (by decide) ?_
    exact m_iret C hM hS (Nat.le_of_ble_eq_true rfl) (Nat.le_of_ble_eq_true rfl) dL_maximumHigh_29 ⟨by rw [e9]; rfl, _, hJ9.put _, fun _ => (va_up_self _ _ _).trans (by rw [e9])⟩
set_option maxRecDepth 100000 in
set_option maxHeartbeats 4000000 in
theorem c_L_quantile {l : Launch} {G : mG} {a0 : Array Value} {s0 : State} (Z : mZ l G a0 s0) (No : mNo s0) (h0 : Hp) (x m : Nat) (q : Nat → Nat) (o o2 : Nat) (f : Nat → Int64) (g : Nat → UInt64) (st : Ms) (hJ : LJ G h0 x m q o o2 f g st st) (hk : Iv st) (x9 : Int32) (y9 : Int32) : mH l G s0 yL_quantile cL_quantile 5 (some .int) [(0, 10, 13, 24), (0, 10, 17, 13), (0, 10, 21, 15)] 9 158 3 18 h0 [.ref x, .int x9, .int y9, .ref o] (fun v9 h9 => v9 = some (.int (st_thr (T_quantile st x9 y9).1)) ∧ ∃ f9 : Nat → Int64, LJ G h9 x m q o o2 f9 g (T_quantile st x9 y9).1 st ∧ (st_thr (T_quantile st x9 y9).1 = nI 0 → f9 0 = (T_quantile st x9 y9).2)) := by
  refine mH_in RL "quantile" rfl rfl (by decide +kernel) (Nat.le_of_ble_eq_true rfl) ?_
  intro p e s mt below meth c H locs C ht hM hS ls hl
  have hx := C.1
  have hb := C.2.1
  have hown := C.2.2.2.1
  have hE := C.2.2.2.2.2.2.1
  have hl : lv_has ls 5 [(0, .ref x), (1, .int x9), (2, .int y9), (3, .ref o)] := hl
  have hJ0 := hJ
  obtain ⟨A, tg, X, fd, tt, gr, hA, hC, hR, hW, ho, ho2, t1, t2, t3, t4, n1, n2, n3, n4, n5⟩ := hJ
  subst hA
  refine lv_aload_n hx hb dL_quantile_0 rfl (lv_at hl 3 rfl) ?_
  refine lv_iconst (v := nI 0) hx hb dL_quantile_1 (by decide) ?_
  refine lv_aload_n hx hb dL_quantile_2 rfl (lv_at hl 0 rfl) ?_
  refine lv_iload_n hx hb dL_quantile_3 rfl (lv_at hl 1 rfl) ?_
  refine lv_iload_n hx hb dL_quantile_4 rfl (lv_at hl 2 rfl) ?_
  refine m_xcallV Z C hM hS (As := [.int x9, .int y9]) (rest := [.int (nI 0), .ref o]) (c_X5_quantile Z h0 A tg st X fd tt gr hC hk hR x9 y9) yi_X5_quantile ml_L_89 (hC.at clS_h) rfl ⟨Nat.le_of_ble_eq_true rfl, Nat.le_of_ble_eq_true rfl⟩ (Nat.le_of_ble_eq_true rfl) hl.1 rfl rfl dL_quantile_5 ⟨Nat.le_of_ble_eq_true rfl, Nat.le_of_ble_eq_true rfl⟩ (fun E ce q9 h9 H locs hv hM hS g1 g2 g3 => ?_) (fun v h9 H locs hv hM hS => ?_)
  · -- thrown
    rcases hv with ⟨hE9, c0, hN⟩ | ⟨k, hE9, c0, c1, c2, hN⟩ | ⟨k, hE9, c0, c1, c2, c3, hN⟩
    · -- java/util/NoSuchElementException
      have e9 := RA_quantile_1 (st := st) (x := x9) (y := y9) hk.m10 c0
      have hJ9 : LJ G h9 (A (cd 0 1 0)) m q o o2 f g (T_quantile st x9 y9).1 st := by
        rw [e9]
        exact LJ.cls (X := X) (fd := fd) (tt := tt) (gr := gr) hW ho ho2 ⟨t1, t2, t3, t4⟩ ⟨n1, n2, n3, n4, n5⟩ (NW_thr hN _)
      subst hE9
      refine m_catch Z No C ht [] (0, 10, 13, 24) [(0, 10, 17, 13), (0, 10, 21, 15)] rfl (fun z hz => by cases hz) (by decide) (by decide) cl_L_24 ca_NSE g1 g2 g3 ?_
      refine lv_astore hx hb dL_quantile_13 hl (lv' := [(4, .ref q9), (0, .ref (A (cd 0 1 0))), (1, .int x9), (2, .int y9), (3, .ref o)]) (by decide) rfl (fun ls hl => ?_)
      refine lv_iconst (v := nI 1) hx hb dL_quantile_15 (by decide) ?_
      exact m_iret C hM hS (Nat.le_of_ble_eq_true rfl) (Nat.le_of_ble_eq_true rfl) dL_quantile_16 ⟨by rw [e9]; rfl, f, hJ9, fun z => absurd (show nI 1 = nI 0 from (by rw [e9] at z; exact z)) (by decide)⟩
    · -- java/lang/IllegalArgumentException
      have e9 := RA_quantile_2 (st := st) (x := x9) (y := y9) hk.m10 c0 c1 c2
      have hJ9 : LJ G h9 (A (cd 0 1 0)) m q o o2 f g (T_quantile st x9 y9).1 st := by
        rw [e9]
        exact LJ.cls (X := X) (fd := fd) (tt := tt) (gr := gr) hW ho ho2 ⟨t1, t2, t3, t4⟩ ⟨n1, n2, n3, n4, n5⟩ (NW_thr hN _)
      subst hE9
      refine m_catch Z No C ht [(0, 10, 13, 24)] (0, 10, 17, 13) [(0, 10, 21, 15)] rfl (by simp only [List.forall_mem_cons]; exact ⟨⟨by decide, _, cl_L_24, by decide⟩, fun _ hz => absurd hz List.not_mem_nil⟩) (by decide) (by decide) cl_L_13 ca_IAE g1 g2 g3 ?_
      refine lv_astore hx hb dL_quantile_17 hl (lv' := [(4, .ref q9), (0, .ref (A (cd 0 1 0))), (1, .int x9), (2, .int y9), (3, .ref o)]) (by decide) rfl (fun ls hl => ?_)
      refine lv_iconst (v := nI 2) hx hb dL_quantile_19 (by decide) ?_
      exact m_iret C hM hS (Nat.le_of_ble_eq_true rfl) (Nat.le_of_ble_eq_true rfl) dL_quantile_20 ⟨by rw [e9]; rfl, f, hJ9, fun z => absurd (show nI 2 = nI 0 from (by rw [e9] at z; exact z)) (by decide)⟩
    · -- java/lang/IllegalStateException
      have e9 := RA_quantile_3 (st := st) (x := x9) (y := y9) hk.m10 c0 c1 c2 c3
      have hJ9 : LJ G h9 (A (cd 0 1 0)) m q o o2 f g (T_quantile st x9 y9).1 st := by
        rw [e9]
        exact LJ.cls (X := X) (fd := fd) (tt := tt) (gr := gr) hW ho ho2 ⟨t1, t2, t3, t4⟩ ⟨n1, n2, n3, n4, n5⟩ (NW_thr hN _)
      subst hE9
      refine m_catch Z No C ht [(0, 10, 13, 24), (0, 10, 17, 13)] (0, 10, 21, 15) [] rfl (by simp only [List.forall_mem_cons]; exact ⟨⟨by decide, _, cl_L_24, by decide⟩, ⟨by decide, _, cl_L_13, by decide⟩, fun _ hz => absurd hz List.not_mem_nil⟩) (by decide) (by decide) cl_L_15 ca_ISE g1 g2 g3 ?_
      refine lv_astore hx hb dL_quantile_21 hl (lv' := [(4, .ref q9), (0, .ref (A (cd 0 1 0))), (1, .int x9), (2, .int y9), (3, .ref o)]) (by decide) rfl (fun ls hl => ?_)
      refine lv_iconst (v := nI 3) hx hb dL_quantile_23 (by decide) ?_
      exact m_iret C hM hS (Nat.le_of_ble_eq_true rfl) (Nat.le_of_ble_eq_true rfl) dL_quantile_24 ⟨by rw [e9]; rfl, f, hJ9, fun z => absurd (show nI 3 = nI 0 from (by rw [e9] at z; exact z)) (by decide)⟩
  · -- returned
    obtain ⟨k, d, c0, c1, c2, c3, c4, hv, hN⟩ := hv
    have e9 := RA_quantile_0 (st := st) (x := x9) (y := y9) hk.m10 c0 c1 c2 c3 c4
    have hJ9 : LJ G h9 (A (cd 0 1 0)) m q o o2 f g (T_quantile st x9 y9).1 st := by
      rw [e9]
      exact LJ.cls (X := X) (fd := fd) (tt := tt) (gr := gr) hW ho ho2 ⟨t1, t2, t3, t4⟩ ⟨n1, n2, n3, n4, n5⟩ (NW_thr hN _)
    subst hv
    refine W.eq (g2 := F0 mt 8 ls [.int (z_sq st k d), .int (nI 0), .ref o]) rfl ?_
    refine lv_i2l hx hb dL_quantile_8 rfl ?_
    refine m_last Z C hM hS hJ9.oo 0 rfl (by decide) (by decide) dL_quantile_9 (fun H locs hM hS => ?_)
    refine lv_goto (tgt := 25) hx hb dL_quantile_10 (by decide) ?_
    refine lv_iconst (v := nI 0) hx hb dL_quantile_25 (by decide) ?_
    exact m_iret C hM hS (Nat.le_of_ble_eq_true rfl) (Nat.le_of_ble_eq_true rfl) dL_quantile_26 ⟨by rw [e9]; rfl, _, hJ9.put _, fun _ => (va_up_self _ _ _).trans (by rw [e9])⟩
set_option maxRecDepth 100000 in
set_option maxHeartbeats 4000000 in
theorem c_L_exactQuantile {l : Launch} {G : mG} {a0 : Array Value} {s0 : State} (Z : mZ l G a0 s0) (No : mNo s0) (h0 : Hp) (x m : Nat) (q : Nat → Nat) (o o2 : Nat) (f : Nat → Int64) (g : Nat → UInt64) (st : Ms) (hJ : LJ G h0 x m q o o2 f g st st) (hk : Iv st) (x9 : Int32) (y9 : Int32) : mH l G s0 yL_exactQuantile cL_exactQuantile 5 (some .int) [(0, 10, 13, 24), (0, 10, 17, 13), (0, 10, 21, 15)] 9 158 3 18 h0 [.ref x, .int x9, .int y9, .ref o] (fun v9 h9 => v9 = some (.int (st_thr (T_exactQuantile st x9 y9).1)) ∧ ∃ f9 : Nat → Int64, LJ G h9 x m q o o2 f9 g (T_exactQuantile st x9 y9).1 st ∧ (st_thr (T_exactQuantile st x9 y9).1 = nI 0 → f9 0 = (T_exactQuantile st x9 y9).2)) := by
  refine mH_in RL "exactQuantile" rfl rfl (by decide +kernel) (Nat.le_of_ble_eq_true rfl) ?_
  intro p e s mt below meth c H locs C ht hM hS ls hl
  have hx := C.1
  have hb := C.2.1
  have hown := C.2.2.2.1
  have hE := C.2.2.2.2.2.2.1
  have hl : lv_has ls 5 [(0, .ref x), (1, .int x9), (2, .int y9), (3, .ref o)] := hl
  have hJ0 := hJ
  obtain ⟨A, tg, X, fd, tt, gr, hA, hC, hR, hW, ho, ho2, t1, t2, t3, t4, n1, n2, n3, n4, n5⟩ := hJ
  subst hA
  refine lv_aload_n hx hb dL_exactQuantile_0 rfl (lv_at hl 3 rfl) ?_
  refine lv_iconst (v := nI 0) hx hb dL_exactQuantile_1 (by decide) ?_
  refine lv_aload_n hx hb dL_exactQuantile_2 rfl (lv_at hl 0 rfl) ?_
  refine lv_iload_n hx hb dL_exactQuantile_3 rfl (lv_at hl 1 rfl) ?_
  refine lv_iload_n hx hb dL_exactQuantile_4 rfl (lv_at hl 2 rfl) ?_
  refine m_xcallV Z C hM hS (As := [.int x9, .int y9]) (rest := [.int (nI 0), .ref o]) (c_X5_exactQuantile Z h0 A tg st X fd tt gr hC hk hR x9 y9) yi_X5_exactQuantile ml_L_92 (hC.at clS_h) rfl ⟨Nat.le_of_ble_eq_true rfl, Nat.le_of_ble_eq_true rfl⟩ (Nat.le_of_ble_eq_true rfl) hl.1 rfl rfl dL_exactQuantile_5 ⟨Nat.le_of_ble_eq_true rfl, Nat.le_of_ble_eq_true rfl⟩ (fun E ce q9 h9 H locs hv hM hS g1 g2 g3 => ?_) (fun v h9 H locs hv hM hS => ?_)
  · -- thrown
    rcases hv with ⟨hE9, c0, hN⟩ | ⟨k, hE9, c0, c1, c2, hN⟩ | ⟨k, hE9, c0, c1, c2, c3, hN⟩
    · -- java/util/NoSuchElementException
      have e9 := RA_exactQuantile_1 (st := st) (x := x9) (y := y9) hk.m10 c0
      have hJ9 : LJ G h9 (A (cd 0 1 0)) m q o o2 f g (T_exactQuantile st x9 y9).1 st := by
        rw [e9]
        exact LJ.cls (X := X) (fd := fd) (tt := tt) (gr := gr) hW ho ho2 ⟨t1, t2, t3, t4⟩ ⟨n1, n2, n3, n4, n5⟩ (NW_thr hN _)
      subst hE9
      refine m_catch Z No C ht [] (0, 10, 13, 24) [(0, 10, 17, 13), (0, 10, 21, 15)] rfl (fun z hz => by cases hz) (by decide) (by decide) cl_L_24 ca_NSE g1 g2 g3 ?_
      refine lv_astore hx hb dL_exactQuantile_13 hl (lv' := [(4, .ref q9), (0, .ref (A (cd 0 1 0))), (1, .int x9), (2, .int y9), (3, .ref o)]) (by decide) rfl (fun ls hl => ?_)
      refine lv_iconst (v := nI 1) hx hb dL_exactQuantile_15 (by decide) ?_
      exact m_iret C hM hS (Nat.le_of_ble_eq_true rfl) (Nat.le_of_ble_eq_true rfl) dL_exactQuantile_16 ⟨by rw [e9]; rfl, f, hJ9, fun z => absurd (show nI 1 = nI 0 from (by rw [e9] at z; exact z)) (by decide)⟩
    · -- java/lang/IllegalArgumentException
      have e9 := RA_exactQuantile_2 (st := st) (x := x9) (y := y9) hk.m10 c0 c1 c2
      have hJ9 : LJ G h9 (A (cd 0 1 0)) m q o o2 f g (T_exactQuantile st x9 y9).1 st := by
        rw [e9]
        exact LJ.cls (X := X) (fd := fd) (tt := tt) (gr := gr) hW ho ho2 ⟨t1, t2, t3, t4⟩ ⟨n1, n2, n3, n4, n5⟩ (NW_thr hN _)
      subst hE9
      refine m_catch Z No C ht [(0, 10, 13, 24)] (0, 10, 17, 13) [(0, 10, 21, 15)] rfl (by simp only [List.forall_mem_cons]; exact ⟨⟨by decide, _, cl_L_24, by decide⟩, fun _ hz => absurd hz List.not_mem_nil⟩) (by decide) (by decide) cl_L_13 ca_IAE g1 g2 g3 ?_
      refine lv_astore hx hb dL_exactQuantile_17 hl (lv' := [(4, .ref q9), (0, .ref (A (cd 0 1 0))), (1, .int x9), (2, .int y9), (3, .ref o)]) (by decide) rfl (fun ls hl => ?_)
      refine lv_iconst (v := nI 2) hx hb dL_exactQuantile_19 (by decide) ?_
      exact m_iret C hM hS (Nat.le_of_ble_eq_true rfl) (Nat.le_of_ble_eq_true rfl) dL_exactQuantile_20 ⟨by rw [e9]; rfl, f, hJ9, fun z => absurd (show nI 2 = nI 0 from (by rw [e9] at z; exact z)) (by decide)⟩
    · -- java/lang/IllegalStateException
      have e9 := RA_exactQuantile_3 (st := st) (x := x9) (y := y9) hk.m10 c0 c1 c2 c3
      have hJ9 : LJ G h9 (A (cd 0 1 0)) m q o o2 f g (T_exactQuantile st x9 y9).1 st := by
        rw [e9]
        exact LJ.cls (X := X) (fd := fd) (tt := tt) (gr := gr) hW ho ho2 ⟨t1, t2, t3, t4⟩ ⟨n1, n2, n3, n4, n5⟩ (NW_thr hN _)
      subst hE9
      refine m_catch Z No C ht [(0, 10, 13, 24), (0, 10, 17, 13)] (0, 10, 21, 15) [] rfl (by simp only [List.forall_mem_cons]; exact ⟨⟨by decide, _, cl_L_24, by decide⟩, ⟨by decide, _, cl_L_13, by decide⟩, fun _ hz => absurd hz List.not_mem_nil⟩) (by decide) (by decide) cl_L_15 ca_ISE g1 g2 g3 ?_
      refine lv_astore hx hb dL_exactQuantile_21 hl (lv' := [(4, .ref q9), (0, .ref (A (cd 0 1 0))), (1, .int x9), (2, .int y9), (3, .ref o)]) (by decide) rfl (fun ls hl => ?_)
      refine lv_iconst (v := nI 3) hx hb dL_exactQuantile_23 (by decide) ?_
      exact m_iret C hM hS (Nat.le_of_ble_eq_true rfl) (Nat.le_of_ble_eq_true rfl) dL_exactQuantile_24 ⟨by rw [e9]; rfl, f, hJ9, fun z => absurd (show nI 3 = nI 0 from (by rw [e9] at z; exact z)) (by decide)⟩
  · -- returned
    obtain ⟨k, d, c0, c1, c2, c3, c4, hv, hN⟩ := hv
    have e9 := RA_exactQuantile_0 (st := st) (x := x9) (y := y9) hk.m10 c0 c1 c2 c3 c4
    have hJ9 : LJ G h9 (A (cd 0 1 0)) m q o o2 f g (T_exactQuantile st x9 y9).1 st := by
      rw [e9]
      exact LJ.cls (X := X) (fd := fd) (tt := tt) (gr := gr) hW ho ho2 ⟨t1, t2, t3, t4⟩ ⟨n1, n2, n3, n4, n5⟩ (NW_thr hN _)
    subst hv
    refine W.eq (g2 := F0 mt 8 ls [.int (z_eq st k (z_tg st k d) (st_n st k)), .int (nI 0), .ref o]) rfl ?_
    refine lv_i2l hx hb dL_exactQuantile_8 rfl ?_
    refine m_last Z C hM hS hJ9.oo 0 rfl (by decide) (by decide) dL_exactQuantile_9 (fun H locs hM hS => ?_)
    refine lv_goto (tgt := 25) hx hb dL_exactQuantile_10 (by decide) ?_
    refine lv_iconst (v := nI 0) hx hb dL_exactQuantile_25 (by decide) ?_
    exact m_iret C hM hS (Nat.le_of_ble_eq_true rfl) (Nat.le_of_ble_eq_true rfl) dL_exactQuantile_26 ⟨by rw [e9]; rfl, _, hJ9.put _, fun _ => (va_up_self _ _ _).trans (by rw [e9])⟩
set_option maxRecDepth 100000 in
set_option maxHeartbeats 4000000 in
theorem c_L_bound {l : Launch} {G : mG} {a0 : Array Value} {s0 : State} (Z : mZ l G a0 s0) (No : mNo s0) (h0 : Hp) (x m : Nat) (q : Nat → Nat) (o o2 : Nat) (f : Nat → Int64) (g : Nat → UInt64) (st : Ms) (hJ : LJ G h0 x m q o o2 f g st st) (hk : Iv st) (x9 : Int32) : mH l G s0 yL_bound cL_bound 4 (some .int) [(0, 9, 12, 24)] 8 133 1 6 h0 [.ref x, .int x9, .ref o] (fun v9 h9 => v9 = some (.int (st_thr (T_bound st x9).1)) ∧ ∃ f9 : Nat → Int64, LJ G h9 x m q o o2 f9 g (T_bound st x9).1 st ∧ (st_thr (T_bound st x9).1 = nI 0 → f9 0 = (T_bound st x9).2)) := by
  refine mH_in RL "bound" rfl rfl (by decide +kernel) (Nat.le_of_ble_eq_true rfl) ?_
  intro p e s mt below meth c H locs C ht hM hS ls hl
  have hx := C.1
  have hb := C.2.1
  have hown := C.2.2.2.1
  have hE := C.2.2.2.2.2.2.1
  have hl : lv_has ls 4 [(0, .ref x), (1, .int x9), (2, .ref o)] := hl
  have hJ0 := hJ
  obtain ⟨A, tg, X, fd, tt, gr, hA, hC, hR, hW, ho, ho2, t1, t2, t3, t4, n1, n2, n3, n4, n5⟩ := hJ
  subst hA
  refine lv_aload_n hx hb dL_bound_0 rfl (lv_at hl 2 rfl) ?_
  refine lv_iconst (v := nI 0) hx hb dL_bound_1 (by decide) ?_
  refine lv_aload_n hx hb dL_bound_2 rfl (lv_at hl 0 rfl) ?_
  refine lv_iload_n hx hb dL_bound_3 rfl (lv_at hl 1 rfl) ?_
  refine m_xcallV Z C hM hS (As := [.int x9]) (rest := [.int (nI 0), .ref o]) (c_X5_bound Z h0 A tg st X fd tt gr hC hk hR x9) yi_X5_bound ml_L_95 (hC.at clS_h) rfl ⟨Nat.le_of_ble_eq_true rfl, Nat.le_of_ble_eq_true rfl⟩ (Nat.le_of_ble_eq_true rfl) hl.1 rfl rfl dL_bound_4 ⟨Nat.le_of_ble_eq_true rfl, Nat.le_of_ble_eq_true rfl⟩ (fun E ce q9 h9 H locs hv hM hS g1 g2 g3 => ?_) (fun v h9 H locs hv hM hS => ?_)
  · -- thrown
    obtain ⟨hE9, c0, hN⟩ := hv
    have e9 := RA_bound_1 (st := st) (x := x9) hk.m10 c0
    have hJ9 : LJ G h9 (A (cd 0 1 0)) m q o o2 f g (T_bound st x9).1 st := by
      rw [e9]
      exact LJ.cls (X := X) (fd := fd) (tt := tt) (gr := gr) hW ho ho2 ⟨t1, t2, t3, t4⟩ ⟨n1, n2, n3, n4, n5⟩ (NW_thr hN _)
    subst hE9
    refine m_catch Z No C ht [] (0, 9, 12, 24) [] rfl (fun z hz => by cases hz) (by decide) (by decide) cl_L_24 ca_NSE g1 g2 g3 ?_
    refine lv_astore_n hx hb dL_bound_12 rfl hl (lv' := [(3, .ref q9), (0, .ref (A (cd 0 1 0))), (1, .int x9), (2, .ref o)]) (by decide) rfl (fun ls hl => ?_)
    refine lv_iconst (v := nI 1) hx hb dL_bound_13 (by decide) ?_
    exact m_iret C hM hS (Nat.le_of_ble_eq_true rfl) (Nat.le_of_ble_eq_true rfl) dL_bound_14 ⟨by rw [e9]; rfl, f, hJ9, fun z => absurd (show nI 1 = nI 0 from (by rw [e9] at z; exact z)) (by decide)⟩
  · -- returned
    obtain ⟨k, c0, c1, hv, hN⟩ := hv
    have e9 := RA_bound_0 (st := st) (x := x9) hk.m10 c0 c1
    have hJ9 : LJ G h9 (A (cd 0 1 0)) m q o o2 f g (T_bound st x9).1 st := by
      rw [e9]
      exact LJ.cls (X := X) (fd := fd) (tt := tt) (gr := gr) hW ho ho2 ⟨t1, t2, t3, t4⟩ ⟨n1, n2, n3, n4, n5⟩ (NW_thr hN _)
    subst hv
    refine W.eq (g2 := F0 mt 7 ls [.int (nI (st_bd st k)), .int (nI 0), .ref o]) rfl ?_
    refine lv_i2l hx hb dL_bound_7 rfl ?_
    refine m_last Z C hM hS hJ9.oo 0 rfl (by decide) (by decide) dL_bound_8 (fun H locs hM hS => ?_)
    refine lv_goto (tgt := 15) hx hb dL_bound_9 (by decide) ?_
    refine lv_iconst (v := nI 0) hx hb dL_bound_15 (by decide) ?_
    exact m_iret C hM hS (Nat.le_of_ble_eq_true rfl) (Nat.le_of_ble_eq_true rfl) dL_bound_16 ⟨by rw [e9]; rfl, _, hJ9.put _, fun _ => (va_up_self _ _ _).trans (by rw [e9])⟩
set_option maxRecDepth 100000 in
set_option maxHeartbeats 4000000 in
theorem c_L_held {l : Launch} {G : mG} {a0 : Array Value} {s0 : State} (Z : mZ l G a0 s0) (No : mNo s0) (h0 : Hp) (x m : Nat) (q : Nat → Nat) (o o2 : Nat) (f : Nat → Int64) (g : Nat → UInt64) (st : Ms) (hJ : LJ G h0 x m q o o2 f g st st) (hk : Iv st) (x9 : Int32) : mH l G s0 yL_held cL_held 4 (some .int) [(0, 9, 12, 24)] 8 133 1 6 h0 [.ref x, .int x9, .ref o] (fun v9 h9 => v9 = some (.int (st_thr (T_held st x9).1)) ∧ ∃ f9 : Nat → Int64, LJ G h9 x m q o o2 f9 g (T_held st x9).1 st ∧ (st_thr (T_held st x9).1 = nI 0 → f9 0 = (T_held st x9).2)) := by
  refine mH_in RL "held" rfl rfl (by decide +kernel) (Nat.le_of_ble_eq_true rfl) ?_
  intro p e s mt below meth c H locs C ht hM hS ls hl
  have hx := C.1
  have hb := C.2.1
  have hown := C.2.2.2.1
  have hE := C.2.2.2.2.2.2.1
  have hl : lv_has ls 4 [(0, .ref x), (1, .int x9), (2, .ref o)] := hl
  have hJ0 := hJ
  obtain ⟨A, tg, X, fd, tt, gr, hA, hC, hR, hW, ho, ho2, t1, t2, t3, t4, n1, n2, n3, n4, n5⟩ := hJ
  subst hA
  refine lv_aload_n hx hb dL_held_0 rfl (lv_at hl 2 rfl) ?_
  refine lv_iconst (v := nI 0) hx hb dL_held_1 (by decide) ?_
  refine lv_aload_n hx hb dL_held_2 rfl (lv_at hl 0 rfl) ?_
  refine lv_iload_n hx hb dL_held_3 rfl (lv_at hl 1 rfl) ?_
  refine m_xcallV Z C hM hS (As := [.int x9]) (rest := [.int (nI 0), .ref o]) (c_X5_held Z h0 A tg st X fd tt gr hC hk hR x9) yi_X5_held ml_L_98 (hC.at clS_h) rfl ⟨Nat.le_of_ble_eq_true rfl, Nat.le_of_ble_eq_true rfl⟩ (Nat.le_of_ble_eq_true rfl) hl.1 rfl rfl dL_held_4 ⟨Nat.le_of_ble_eq_true rfl, Nat.le_of_ble_eq_true rfl⟩ (fun E ce q9 h9 H locs hv hM hS g1 g2 g3 => ?_) (fun v h9 H locs hv hM hS => ?_)
  · -- thrown
    obtain ⟨hE9, c0, hN⟩ := hv
    have e9 := RA_held_1 (st := st) (x := x9) hk.m10 c0
    have hJ9 : LJ G h9 (A (cd 0 1 0)) m q o o2 f g (T_held st x9).1 st := by
      rw [e9]
      exact LJ.cls (X := X) (fd := fd) (tt := tt) (gr := gr) hW ho ho2 ⟨t1, t2, t3, t4⟩ ⟨n1, n2, n3, n4, n5⟩ (NW_thr hN _)
    subst hE9
    refine m_catch Z No C ht [] (0, 9, 12, 24) [] rfl (fun z hz => by cases hz) (by decide) (by decide) cl_L_24 ca_NSE g1 g2 g3 ?_
    refine lv_astore_n hx hb dL_held_12 rfl hl (lv' := [(3, .ref q9), (0, .ref (A (cd 0 1 0))), (1, .int x9), (2, .ref o)]) (by decide) rfl (fun ls hl => ?_)
    refine lv_iconst (v := nI 1) hx hb dL_held_13 (by decide) ?_
    exact m_iret C hM hS (Nat.le_of_ble_eq_true rfl) (Nat.le_of_ble_eq_true rfl) dL_held_14 ⟨by rw [e9]; rfl, f, hJ9, fun z => absurd (show nI 1 = nI 0 from (by rw [e9] at z; exact z)) (by decide)⟩
  · -- returned
    obtain ⟨k, c0, c1, hv, hN⟩ := hv
    have e9 := RA_held_0 (st := st) (x := x9) hk.m10 c0 c1
    have hJ9 : LJ G h9 (A (cd 0 1 0)) m q o o2 f g (T_held st x9).1 st := by
      rw [e9]
      exact LJ.cls (X := X) (fd := fd) (tt := tt) (gr := gr) hW ho ho2 ⟨t1, t2, t3, t4⟩ ⟨n1, n2, n3, n4, n5⟩ (NW_thr hN _)
    subst hv
    refine W.eq (g2 := F0 mt 7 ls [.int (nI (z_held st k)), .int (nI 0), .ref o]) rfl ?_
    refine lv_i2l hx hb dL_held_7 rfl ?_
    refine m_last Z C hM hS hJ9.oo 0 rfl (by decide) (by decide) dL_held_8 (fun H locs hM hS => ?_)
    refine lv_goto (tgt := 15) hx hb dL_held_9 (by decide) ?_
    refine lv_iconst (v := nI 0) hx hb dL_held_15 (by decide) ?_
    exact m_iret C hM hS (Nat.le_of_ble_eq_true rfl) (Nat.le_of_ble_eq_true rfl) dL_held_16 ⟨by rw [e9]; rfl, _, hJ9.put _, fun _ => (va_up_self _ _ _).trans (by rw [e9])⟩
set_option maxRecDepth 100000 in
set_option maxHeartbeats 4000000 in
theorem c_L_isWithin {l : Launch} {G : mG} {a0 : Array Value} {s0 : State} (Z : mZ l G a0 s0) (No : mNo s0) (h0 : Hp) (x m : Nat) (q : Nat → Nat) (o o2 : Nat) (f : Nat → Int64) (g : Nat → UInt64) (st : Ms) (hJ : LJ G h0 x m q o o2 f g st st) (hk : Iv st) (x9 : Int32) (y9 : Int32) : mH l G s0 yL_isWithin cL_isWithin 5 (some .int) [(0, 17, 20, 24), (0, 17, 24, 13), (0, 17, 28, 15)] 9 157 3 18 h0 [.ref x, .int x9, .int y9, .ref o] (fun v9 h9 => v9 = some (.int (st_thr (T_isWithin st x9 y9).1)) ∧ ∃ f9 : Nat → Int64, LJ G h9 x m q o o2 f9 g (T_isWithin st x9 y9).1 st ∧ (st_thr (T_isWithin st x9 y9).1 = nI 0 → f9 0 = (T_isWithin st x9 y9).2)) := by
  refine mH_in RL "isWithin" rfl rfl (by decide +kernel) (Nat.le_of_ble_eq_true rfl) ?_
  intro p e s mt below meth c H locs C ht hM hS ls hl
  have hx := C.1
  have hb := C.2.1
  have hown := C.2.2.2.1
  have hE := C.2.2.2.2.2.2.1
  have hl : lv_has ls 5 [(0, .ref x), (1, .int x9), (2, .int y9), (3, .ref o)] := hl
  have hJ0 := hJ
  obtain ⟨A, tg, X, fd, tt, gr, hA, hC, hR, hW, ho, ho2, t1, t2, t3, t4, n1, n2, n3, n4, n5⟩ := hJ
  subst hA
  refine lv_aload_n hx hb dL_isWithin_0 rfl (lv_at hl 3 rfl) ?_
  refine lv_iconst (v := nI 0) hx hb dL_isWithin_1 (by decide) ?_
  refine lv_aload_n hx hb dL_isWithin_2 rfl (lv_at hl 0 rfl) ?_
  refine lv_iload_n hx hb dL_isWithin_3 rfl (lv_at hl 1 rfl) ?_
  refine lv_iload_n hx hb dL_isWithin_4 rfl (lv_at hl 2 rfl) ?_
  refine m_xcallV Z C hM hS (As := [.int x9, .int y9]) (rest := [.int (nI 0), .ref o]) (c_X5_isWithin Z h0 A tg st X fd tt gr hC hk hR x9 y9) yi_X5_isWithin ml_L_101 (hC.at clS_h) rfl ⟨Nat.le_of_ble_eq_true rfl, Nat.le_of_ble_eq_true rfl⟩ (Nat.le_of_ble_eq_true rfl) hl.1 rfl rfl dL_isWithin_5 ⟨Nat.le_of_ble_eq_true rfl, Nat.le_of_ble_eq_true rfl⟩ (fun E ce q9 h9 H locs hv hM hS g1 g2 g3 => ?_) (fun v h9 H locs hv hM hS => ?_)
  · -- thrown
    rcases hv with ⟨hE9, c0, hN⟩ | ⟨k, hE9, c0, c1, c2, hN⟩ | ⟨k, hE9, c0, c1, c2, c3, hN⟩
    · -- java/util/NoSuchElementException
      have e9 := RA_isWithin_1 (st := st) (x := x9) (y := y9) hk.m10 c0
      have hJ9 : LJ G h9 (A (cd 0 1 0)) m q o o2 f g (T_isWithin st x9 y9).1 st := by
        rw [e9]
        exact LJ.cls (X := X) (fd := fd) (tt := tt) (gr := gr) hW ho ho2 ⟨t1, t2, t3, t4⟩ ⟨n1, n2, n3, n4, n5⟩ (NW_thr hN _)
      subst hE9
      refine m_catch Z No C ht [] (0, 17, 20, 24) [(0, 17, 24, 13), (0, 17, 28, 15)] rfl (fun z hz => by cases hz) (by decide) (by decide) cl_L_24 ca_NSE g1 g2 g3 ?_
      refine lv_astore hx hb dL_isWithin_20 hl (lv' := [(4, .ref q9), (0, .ref (A (cd 0 1 0))), (1, .int x9), (2, .int y9), (3, .ref o)]) (by decide) rfl (fun ls hl => ?_)
      refine lv_iconst (v := nI 1) hx hb dL_isWithin_22 (by decide) ?_
      exact m_iret C hM hS (Nat.le_of_ble_eq_true rfl) (Nat.le_of_ble_eq_true rfl) dL_isWithin_23 ⟨by rw [e9]; rfl, f, hJ9, fun z => absurd (show nI 1 = nI 0 from (by rw [e9] at z; exact z)) (by decide)⟩
    · -- java/lang/IllegalArgumentException
      have e9 := RA_isWithin_2 (st := st) (x := x9) (y := y9) hk.m10 c0 c1 c2
      have hJ9 : LJ G h9 (A (cd 0 1 0)) m q o o2 f g (T_isWithin st x9 y9).1 st := by
        rw [e9]
        exact LJ.cls (X := X) (fd := fd) (tt := tt) (gr := gr) hW ho ho2 ⟨t1, t2, t3, t4⟩ ⟨n1, n2, n3, n4, n5⟩ (NW_thr hN _)
      subst hE9
      refine m_catch Z No C ht [(0, 17, 20, 24)] (0, 17, 24, 13) [(0, 17, 28, 15)] rfl (by simp only [List.forall_mem_cons]; exact ⟨⟨by decide, _, cl_L_24, by decide⟩, fun _ hz => absurd hz List.not_mem_nil⟩) (by decide) (by decide) cl_L_13 ca_IAE g1 g2 g3 ?_
      refine lv_astore hx hb dL_isWithin_24 hl (lv' := [(4, .ref q9), (0, .ref (A (cd 0 1 0))), (1, .int x9), (2, .int y9), (3, .ref o)]) (by decide) rfl (fun ls hl => ?_)
      refine lv_iconst (v := nI 2) hx hb dL_isWithin_26 (by decide) ?_
      exact m_iret C hM hS (Nat.le_of_ble_eq_true rfl) (Nat.le_of_ble_eq_true rfl) dL_isWithin_27 ⟨by rw [e9]; rfl, f, hJ9, fun z => absurd (show nI 2 = nI 0 from (by rw [e9] at z; exact z)) (by decide)⟩
    · -- java/lang/IllegalStateException
      have e9 := RA_isWithin_3 (st := st) (x := x9) (y := y9) hk.m10 c0 c1 c2 c3
      have hJ9 : LJ G h9 (A (cd 0 1 0)) m q o o2 f g (T_isWithin st x9 y9).1 st := by
        rw [e9]
        exact LJ.cls (X := X) (fd := fd) (tt := tt) (gr := gr) hW ho ho2 ⟨t1, t2, t3, t4⟩ ⟨n1, n2, n3, n4, n5⟩ (NW_thr hN _)
      subst hE9
      refine m_catch Z No C ht [(0, 17, 20, 24), (0, 17, 24, 13)] (0, 17, 28, 15) [] rfl (by simp only [List.forall_mem_cons]; exact ⟨⟨by decide, _, cl_L_24, by decide⟩, ⟨by decide, _, cl_L_13, by decide⟩, fun _ hz => absurd hz List.not_mem_nil⟩) (by decide) (by decide) cl_L_15 ca_ISE g1 g2 g3 ?_
      refine lv_astore hx hb dL_isWithin_28 hl (lv' := [(4, .ref q9), (0, .ref (A (cd 0 1 0))), (1, .int x9), (2, .int y9), (3, .ref o)]) (by decide) rfl (fun ls hl => ?_)
      refine lv_iconst (v := nI 3) hx hb dL_isWithin_30 (by decide) ?_
      exact m_iret C hM hS (Nat.le_of_ble_eq_true rfl) (Nat.le_of_ble_eq_true rfl) dL_isWithin_31 ⟨by rw [e9]; rfl, f, hJ9, fun z => absurd (show nI 3 = nI 0 from (by rw [e9] at z; exact z)) (by decide)⟩
  · -- returned
    obtain ⟨k, d, c0, c1, c2, c3, c4, hv, hN⟩ := hv
    have e9 := RA_isWithin_0 (st := st) (x := x9) (y := y9) hk.m10 c0 c1 c2 c3 c4
    have hJ9 : LJ G h9 (A (cd 0 1 0)) m q o o2 f g (T_isWithin st x9 y9).1 st := by
      rw [e9]
      exact LJ.cls (X := X) (fd := fd) (tt := tt) (gr := gr) hW ho ho2 ⟨t1, t2, t3, t4⟩ ⟨n1, n2, n3, n4, n5⟩ (NW_thr hN _)
    subst hv
    refine W.eq (g2 := F0 mt 8 ls [.int (b2 (z_wi st k d)), .int (nI 0), .ref o]) rfl ?_
    refine lv_if_eq (tgt := 15) hx hb dL_isWithin_8 (by decide) (fun z9 => ?_) (fun z9 => ?_)
    · refine lv_lconst (v := lN 0) hx hb dL_isWithin_15 (by decide) ?_
      refine m_last Z C hM hS hJ9.oo 0 rfl (by decide) (by decide) dL_isWithin_16 (fun H locs hM hS => ?_)
      refine lv_goto (tgt := 32) hx hb dL_isWithin_17 (by decide) ?_
      refine lv_iconst (v := nI 0) hx hb dL_isWithin_32 (by decide) ?_
      exact m_iret C hM hS (Nat.le_of_ble_eq_true rfl) (Nat.le_of_ble_eq_true rfl) dL_isWithin_33 ⟨by rw [e9]; rfl, _, hJ9.put _, fun _ => (va_up_self _ _ _).trans (by rw [e9]; exact (congrArg Int32.toInt64 z9).symm)⟩
    · refine lv_lconst (v := lN 1) hx hb dL_isWithin_11 (by decide) ?_
      refine lv_goto (tgt := 16) hx hb dL_isWithin_12 (by decide) ?_
      refine m_last Z C hM hS hJ9.oo 0 rfl (by decide) (by decide) dL_isWithin_16 (fun H locs hM hS => ?_)
      refine lv_goto (tgt := 32) hx hb dL_isWithin_17 (by decide) ?_
      refine lv_iconst (v := nI 0) hx hb dL_isWithin_32 (by decide) ?_
      exact m_iret C hM hS (Nat.le_of_ble_eq_true rfl) (Nat.le_of_ble_eq_true rfl) dL_isWithin_33 ⟨by rw [e9]; rfl, _, hJ9.put _, fun _ => (va_up_self _ _ _).trans (by rw [e9]; exact b2_ne z9)⟩
set_option maxRecDepth 100000 in
set_option maxHeartbeats 4000000 in
theorem c_L_setAlert {l : Launch} {G : mG} {a0 : Array Value} {s0 : State} (Z : mZ l G a0 s0) (No : mNo s0) (h0 : Hp) (x m : Nat) (q : Nat → Nat) (o o2 : Nat) (f : Nat → Int64) (g : Nat → UInt64) (st : Ms) (hJ : LJ G h0 x m q o o2 f g st st) (hk : Iv st) (x9 : Int32) (a9 : Int32) (d9 : Int32) : mH l G s0 yL_setAlert cL_setAlert 6 (some .int) [(0, 12, 15, 24), (0, 12, 19, 13)] 8 137 3 16 h0 [.ref x, .int x9, .int a9, .int d9, .ref o] (fun v9 h9 => v9 = some (.int (st_thr (T_setAlert st x9 a9 d9).1)) ∧ ∃ f9 : Nat → Int64, LJ G h9 x m q o o2 f9 g (T_setAlert st x9 a9 d9).1 st ∧ (st_thr (T_setAlert st x9 a9 d9).1 = nI 0 → f9 0 = (T_setAlert st x9 a9 d9).2)) := by
  refine mH_in RL "setAlert" rfl rfl (by decide +kernel) (Nat.le_of_ble_eq_true rfl) ?_
  intro p e s mt below meth c H locs C ht hM hS ls hl
  have hx := C.1
  have hb := C.2.1
  have hown := C.2.2.2.1
  have hE := C.2.2.2.2.2.2.1
  have hl : lv_has ls 6 [(0, .ref x), (1, .int x9), (2, .int a9), (3, .int d9), (4, .ref o)] := hl
  have hJ0 := hJ
  obtain ⟨A, tg, X, fd, tt, gr, hA, hC, hR, hW, ho, ho2, t1, t2, t3, t4, n1, n2, n3, n4, n5⟩ := hJ
  subst hA
  refine lv_aload hx hb dL_setAlert_0 (lv_at hl 4 rfl) ?_
  refine lv_iconst (v := nI 0) hx hb dL_setAlert_2 (by decide) ?_
  refine lv_aload_n hx hb dL_setAlert_3 rfl (lv_at hl 0 rfl) ?_
  refine lv_iload_n hx hb dL_setAlert_4 rfl (lv_at hl 1 rfl) ?_
  refine lv_iload_n hx hb dL_setAlert_5 rfl (lv_at hl 2 rfl) ?_
  refine lv_iload_n hx hb dL_setAlert_6 rfl (lv_at hl 3 rfl) ?_
  refine m_xcallV Z C hM hS (As := [.int x9, .int a9, .int d9]) (rest := [.int (nI 0), .ref o]) (c_X5_setAlert Z h0 A tg st X fd tt gr hC hk hR x9 a9 d9) yi_X5_setAlert ml_L_105 (hC.at clS_h) rfl ⟨Nat.le_of_ble_eq_true rfl, Nat.le_of_ble_eq_true rfl⟩ (Nat.le_of_ble_eq_true rfl) hl.1 rfl rfl dL_setAlert_7 ⟨Nat.le_of_ble_eq_true rfl, Nat.le_of_ble_eq_true rfl⟩ (fun E ce q9 h9 H locs hv hM hS g1 g2 g3 => ?_) (fun v h9 H locs hv hM hS => ?_)
  · -- thrown
    rcases hv with ⟨hE9, c0, hN⟩ | ⟨k, hE9, c0, c1, c2, hN⟩
    · -- java/util/NoSuchElementException
      have e9 := RA_setAlert_1 (st := st) (x := x9) (a := a9) (d := d9) hk.m10 c0
      have hJ9 : LJ G h9 (A (cd 0 1 0)) m q o o2 f g (T_setAlert st x9 a9 d9).1 st := by
        rw [e9]
        exact LJ.cls (X := X) (fd := fd) (tt := tt) (gr := gr) hW ho ho2 ⟨t1, t2, t3, t4⟩ ⟨n1, n2, n3, n4, n5⟩ (NW_thr hN _)
      subst hE9
      refine m_catch Z No C ht [] (0, 12, 15, 24) [(0, 12, 19, 13)] rfl (fun z hz => by cases hz) (by decide) (by decide) cl_L_24 ca_NSE g1 g2 g3 ?_
      refine lv_astore hx hb dL_setAlert_15 hl (lv' := [(5, .ref q9), (0, .ref (A (cd 0 1 0))), (1, .int x9), (2, .int a9), (3, .int d9), (4, .ref o)]) (by decide) rfl (fun ls hl => ?_)
      refine lv_iconst (v := nI 1) hx hb dL_setAlert_17 (by decide) ?_
      exact m_iret C hM hS (Nat.le_of_ble_eq_true rfl) (Nat.le_of_ble_eq_true rfl) dL_setAlert_18 ⟨by rw [e9]; rfl, f, hJ9, fun z => absurd (show nI 1 = nI 0 from (by rw [e9] at z; exact z)) (by decide)⟩
    · -- java/lang/IllegalArgumentException
      have e9 := RA_setAlert_2 (st := st) (x := x9) (a := a9) (d := d9) hk.m10 c0 c1 c2
      have hJ9 : LJ G h9 (A (cd 0 1 0)) m q o o2 f g (T_setAlert st x9 a9 d9).1 st := by
        rw [e9]
        exact LJ.cls (X := X) (fd := fd) (tt := tt) (gr := gr) hW ho ho2 ⟨t1, t2, t3, t4⟩ ⟨n1, n2, n3, n4, n5⟩ (NW_thr hN _)
      subst hE9
      refine m_catch Z No C ht [(0, 12, 15, 24)] (0, 12, 19, 13) [] rfl (by simp only [List.forall_mem_cons]; exact ⟨⟨by decide, _, cl_L_24, by decide⟩, fun _ hz => absurd hz List.not_mem_nil⟩) (by decide) (by decide) cl_L_13 ca_IAE g1 g2 g3 ?_
      refine lv_astore hx hb dL_setAlert_19 hl (lv' := [(5, .ref q9), (0, .ref (A (cd 0 1 0))), (1, .int x9), (2, .int a9), (3, .int d9), (4, .ref o)]) (by decide) rfl (fun ls hl => ?_)
      refine lv_iconst (v := nI 2) hx hb dL_setAlert_21 (by decide) ?_
      exact m_iret C hM hS (Nat.le_of_ble_eq_true rfl) (Nat.le_of_ble_eq_true rfl) dL_setAlert_22 ⟨by rw [e9]; rfl, f, hJ9, fun z => absurd (show nI 2 = nI 0 from (by rw [e9] at z; exact z)) (by decide)⟩
  · -- returned
    obtain ⟨k, c0, c1, c2, c3, hv, hN⟩ := hv
    have e9 := RA_setAlert_0 (st := st) (x := x9) (a := a9) (d := d9) hk.m10 c0 c1 c2 c3
    have hJ9 : LJ G h9 (A (cd 0 1 0)) m q o o2 f g (T_setAlert st x9 a9 d9).1 st := by
      rw [e9]
      exact LJ.cls (X := X) (fd := fd) (tt := tt) (gr := gr) hW ho ho2 ⟨t1, t2, t3, t4⟩ ⟨n1, n2, n3, n4, n5⟩ hN
    subst hv
    refine W.eq (g2 := F0 mt 10 ls [.int (nI (z_al (s_al st k a9 d9) k)), .int (nI 0), .ref o]) rfl ?_
    refine lv_i2l hx hb dL_setAlert_10 rfl ?_
    refine m_last Z C hM hS hJ9.oo 0 rfl (by decide) (by decide) dL_setAlert_11 (fun H locs hM hS => ?_)
    refine lv_goto (tgt := 23) hx hb dL_setAlert_12 (by decide) ?_
    refine lv_iconst (v := nI 0) hx hb dL_setAlert_23 (by decide) ?_
    exact m_iret C hM hS (Nat.le_of_ble_eq_true rfl) (Nat.le_of_ble_eq_true rfl) dL_setAlert_24 ⟨by rw [e9]; rfl, _, hJ9.put _, fun _ => (va_up_self _ _ _).trans (by rw [e9])⟩
set_option maxRecDepth 100000 in
set_option maxHeartbeats 4000000 in
theorem c_L_removeAlert {l : Launch} {G : mG} {a0 : Array Value} {s0 : State} (Z : mZ l G a0 s0) (No : mNo s0) (h0 : Hp) (x m : Nat) (q : Nat → Nat) (o o2 : Nat) (f : Nat → Int64) (g : Nat → UInt64) (st : Ms) (hJ : LJ G h0 x m q o o2 f g st st) (hk : Iv st) (x9 : Int32) : mH l G s0 yL_removeAlert cL_removeAlert 4 (some .int) [(0, 9, 12, 24), (0, 9, 15, 15)] 8 135 2 12 h0 [.ref x, .int x9, .ref o] (fun v9 h9 => v9 = some (.int (st_thr (T_removeAlert st x9).1)) ∧ ∃ f9 : Nat → Int64, LJ G h9 x m q o o2 f9 g (T_removeAlert st x9).1 st ∧ (st_thr (T_removeAlert st x9).1 = nI 0 → f9 0 = (T_removeAlert st x9).2)) := by
  refine mH_in RL "removeAlert" rfl rfl (by decide +kernel) (Nat.le_of_ble_eq_true rfl) ?_
  intro p e s mt below meth c H locs C ht hM hS ls hl
  have hx := C.1
  have hb := C.2.1
  have hown := C.2.2.2.1
  have hE := C.2.2.2.2.2.2.1
  have hl : lv_has ls 4 [(0, .ref x), (1, .int x9), (2, .ref o)] := hl
  have hJ0 := hJ
  obtain ⟨A, tg, X, fd, tt, gr, hA, hC, hR, hW, ho, ho2, t1, t2, t3, t4, n1, n2, n3, n4, n5⟩ := hJ
  subst hA
  refine lv_aload_n hx hb dL_removeAlert_0 rfl (lv_at hl 2 rfl) ?_
  refine lv_iconst (v := nI 0) hx hb dL_removeAlert_1 (by decide) ?_
  refine lv_aload_n hx hb dL_removeAlert_2 rfl (lv_at hl 0 rfl) ?_
  refine lv_iload_n hx hb dL_removeAlert_3 rfl (lv_at hl 1 rfl) ?_
  refine m_xcallV Z C hM hS (As := [.int x9]) (rest := [.int (nI 0), .ref o]) (c_X5_removeAlert Z h0 A tg st X fd tt gr hC hk hR x9) yi_X5_removeAlert ml_L_109 (hC.at clS_h) rfl ⟨Nat.le_of_ble_eq_true rfl, Nat.le_of_ble_eq_true rfl⟩ (Nat.le_of_ble_eq_true rfl) hl.1 rfl rfl dL_removeAlert_4 ⟨Nat.le_of_ble_eq_true rfl, Nat.le_of_ble_eq_true rfl⟩ (fun E ce q9 h9 H locs hv hM hS g1 g2 g3 => ?_) (fun v h9 H locs hv hM hS => ?_)
  · -- thrown
    rcases hv with ⟨hE9, c0, hN⟩ | ⟨k, hE9, c0, c1, c2, hN⟩
    · -- java/util/NoSuchElementException
      have e9 := RA_removeAlert_1 (st := st) (x := x9) hk.m10 c0
      have hJ9 : LJ G h9 (A (cd 0 1 0)) m q o o2 f g (T_removeAlert st x9).1 st := by
        rw [e9]
        exact LJ.cls (X := X) (fd := fd) (tt := tt) (gr := gr) hW ho ho2 ⟨t1, t2, t3, t4⟩ ⟨n1, n2, n3, n4, n5⟩ (NW_thr hN _)
      subst hE9
      refine m_catch Z No C ht [] (0, 9, 12, 24) [(0, 9, 15, 15)] rfl (fun z hz => by cases hz) (by decide) (by decide) cl_L_24 ca_NSE g1 g2 g3 ?_
      refine lv_astore_n hx hb dL_removeAlert_12 rfl hl (lv' := [(3, .ref q9), (0, .ref (A (cd 0 1 0))), (1, .int x9), (2, .ref o)]) (by decide) rfl (fun ls hl => ?_)
      refine lv_iconst (v := nI 1) hx hb dL_removeAlert_13 (by decide) ?_
      exact m_iret C hM hS (Nat.le_of_ble_eq_true rfl) (Nat.le_of_ble_eq_true rfl) dL_removeAlert_14 ⟨by rw [e9]; rfl, f, hJ9, fun z => absurd (show nI 1 = nI 0 from (by rw [e9] at z; exact z)) (by decide)⟩
    · -- java/lang/IllegalStateException
      have e9 := RA_removeAlert_2 (st := st) (x := x9) hk.m10 c0 c1 c2
      have hJ9 : LJ G h9 (A (cd 0 1 0)) m q o o2 f g (T_removeAlert st x9).1 st := by
        rw [e9]
        exact LJ.cls (X := X) (fd := fd) (tt := tt) (gr := gr) hW ho ho2 ⟨t1, t2, t3, t4⟩ ⟨n1, n2, n3, n4, n5⟩ (NW_thr hN _)
      subst hE9
      refine m_catch Z No C ht [(0, 9, 12, 24)] (0, 9, 15, 15) [] rfl (by simp only [List.forall_mem_cons]; exact ⟨⟨by decide, _, cl_L_24, by decide⟩, fun _ hz => absurd hz List.not_mem_nil⟩) (by decide) (by decide) cl_L_15 ca_ISE g1 g2 g3 ?_
      refine lv_astore_n hx hb dL_removeAlert_15 rfl hl (lv' := [(3, .ref q9), (0, .ref (A (cd 0 1 0))), (1, .int x9), (2, .ref o)]) (by decide) rfl (fun ls hl => ?_)
      refine lv_iconst (v := nI 2) hx hb dL_removeAlert_16 (by decide) ?_
      exact m_iret C hM hS (Nat.le_of_ble_eq_true rfl) (Nat.le_of_ble_eq_true rfl) dL_removeAlert_17 ⟨by rw [e9]; rfl, f, hJ9, fun z => absurd (show nI 2 = nI 0 from (by rw [e9] at z; exact z)) (by decide)⟩
  · -- returned
    obtain ⟨k, c0, c1, c2, hv, hN⟩ := hv
    have e9 := RA_removeAlert_0 (st := st) (x := x9) hk.m10 c0 c1 c2
    have hJ9 : LJ G h9 (A (cd 0 1 0)) m q o o2 f g (T_removeAlert st x9).1 st := by
      rw [e9]
      exact LJ.cls (X := X) (fd := fd) (tt := tt) (gr := gr) hW ho ho2 ⟨t1, t2, t3, t4⟩ ⟨n1, n2, n3, n4, n5⟩ hN
    subst hv
    refine W.eq (g2 := F0 mt 7 ls [.int (nI (z_al st k)), .int (nI 0), .ref o]) rfl ?_
    refine lv_i2l hx hb dL_removeAlert_7 rfl ?_
    refine m_last Z C hM hS hJ9.oo 0 rfl (by decide) (by decide) dL_removeAlert_8 (fun H locs hM hS => ?_)
    refine lv_goto (tgt := 18) hx hb dL_removeAlert_9 (by decide) ?_
    refine lv_iconst (v := nI 0) hx hb dL_removeAlert_18 (by decide) ?_
    exact m_iret C hM hS (Nat.le_of_ble_eq_true rfl) (Nat.le_of_ble_eq_true rfl) dL_removeAlert_19 ⟨by rw [e9]; rfl, _, hJ9.put _, fun _ => (va_up_self _ _ _).trans (by rw [e9])⟩
set_option maxRecDepth 100000 in
set_option maxHeartbeats 4000000 in
theorem c_L_alertOf {l : Launch} {G : mG} {a0 : Array Value} {s0 : State} (Z : mZ l G a0 s0) (No : mNo s0) (h0 : Hp) (x m : Nat) (q : Nat → Nat) (o o2 : Nat) (f : Nat → Int64) (g : Nat → UInt64) (st : Ms) (hJ : LJ G h0 x m q o o2 f g st st) (hk : Iv st) (x9 : Int32) : mH l G s0 yL_alertOf cL_alertOf 4 (some .int) [(0, 9, 12, 24), (0, 9, 15, 15)] 8 133 2 12 h0 [.ref x, .int x9, .ref o] (fun v9 h9 => v9 = some (.int (st_thr (T_alertOf st x9).1)) ∧ ∃ f9 : Nat → Int64, LJ G h9 x m q o o2 f9 g (T_alertOf st x9).1 st ∧ (st_thr (T_alertOf st x9).1 = nI 0 → f9 0 = (T_alertOf st x9).2)) := by
  refine mH_in RL "alertOf" rfl rfl (by decide +kernel) (Nat.le_of_ble_eq_true rfl) ?_
  intro p e s mt below meth c H locs C ht hM hS ls hl
  have hx := C.1
  have hb := C.2.1
  have hown := C.2.2.2.1
  have hE := C.2.2.2.2.2.2.1
  have hl : lv_has ls 4 [(0, .ref x), (1, .int x9), (2, .ref o)] := hl
  have hJ0 := hJ
  obtain ⟨A, tg, X, fd, tt, gr, hA, hC, hR, hW, ho, ho2, t1, t2, t3, t4, n1, n2, n3, n4, n5⟩ := hJ
  subst hA
  refine lv_aload_n hx hb dL_alertOf_0 rfl (lv_at hl 2 rfl) ?_
  refine lv_iconst (v := nI 0) hx hb dL_alertOf_1 (by decide) ?_
  refine lv_aload_n hx hb dL_alertOf_2 rfl (lv_at hl 0 rfl) ?_
  refine lv_iload_n hx hb dL_alertOf_3 rfl (lv_at hl 1 rfl) ?_
  refine m_xcallV Z C hM hS (As := [.int x9]) (rest := [.int (nI 0), .ref o]) (c_X5_alertOf Z h0 A tg st X fd tt gr hC hk hR x9) yi_X5_alertOf ml_L_113 (hC.at clS_h) rfl ⟨Nat.le_of_ble_eq_true rfl, Nat.le_of_ble_eq_true rfl⟩ (Nat.le_of_ble_eq_true rfl) hl.1 rfl rfl dL_alertOf_4 ⟨Nat.le_of_ble_eq_true rfl, Nat.le_of_ble_eq_true rfl⟩ (fun E ce q9 h9 H locs hv hM hS g1 g2 g3 => ?_) (fun v h9 H locs hv hM hS => ?_)
  · -- thrown
    rcases hv with ⟨hE9, c0, hN⟩ | ⟨k, hE9, c0, c1, c2, hN⟩
    · -- java/util/NoSuchElementException
      have e9 := RA_alertOf_1 (st := st) (x := x9) hk.m10 c0
      have hJ9 : LJ G h9 (A (cd 0 1 0)) m q o o2 f g (T_alertOf st x9).1 st := by
        rw [e9]
        exact LJ.cls (X := X) (fd := fd) (tt := tt) (gr := gr) hW ho ho2 ⟨t1, t2, t3, t4⟩ ⟨n1, n2, n3, n4, n5⟩ (NW_thr hN _)
      subst hE9
      refine m_catch Z No C ht [] (0, 9, 12, 24) [(0, 9, 15, 15)] rfl (fun z hz => by cases hz) (by decide) (by decide) cl_L_24 ca_NSE g1 g2 g3 ?_
      refine lv_astore_n hx hb dL_alertOf_12 rfl hl (lv' := [(3, .ref q9), (0, .ref (A (cd 0 1 0))), (1, .int x9), (2, .ref o)]) (by decide) rfl (fun ls hl => ?_)
      refine lv_iconst (v := nI 1) hx hb dL_alertOf_13 (by decide) ?_
      exact m_iret C hM hS (Nat.le_of_ble_eq_true rfl) (Nat.le_of_ble_eq_true rfl) dL_alertOf_14 ⟨by rw [e9]; rfl, f, hJ9, fun z => absurd (show nI 1 = nI 0 from (by rw [e9] at z; exact z)) (by decide)⟩
    · -- java/lang/IllegalStateException
      have e9 := RA_alertOf_2 (st := st) (x := x9) hk.m10 c0 c1 c2
      have hJ9 : LJ G h9 (A (cd 0 1 0)) m q o o2 f g (T_alertOf st x9).1 st := by
        rw [e9]
        exact LJ.cls (X := X) (fd := fd) (tt := tt) (gr := gr) hW ho ho2 ⟨t1, t2, t3, t4⟩ ⟨n1, n2, n3, n4, n5⟩ (NW_thr hN _)
      subst hE9
      refine m_catch Z No C ht [(0, 9, 12, 24)] (0, 9, 15, 15) [] rfl (by simp only [List.forall_mem_cons]; exact ⟨⟨by decide, _, cl_L_24, by decide⟩, fun _ hz => absurd hz List.not_mem_nil⟩) (by decide) (by decide) cl_L_15 ca_ISE g1 g2 g3 ?_
      refine lv_astore_n hx hb dL_alertOf_15 rfl hl (lv' := [(3, .ref q9), (0, .ref (A (cd 0 1 0))), (1, .int x9), (2, .ref o)]) (by decide) rfl (fun ls hl => ?_)
      refine lv_iconst (v := nI 2) hx hb dL_alertOf_16 (by decide) ?_
      exact m_iret C hM hS (Nat.le_of_ble_eq_true rfl) (Nat.le_of_ble_eq_true rfl) dL_alertOf_17 ⟨by rw [e9]; rfl, f, hJ9, fun z => absurd (show nI 2 = nI 0 from (by rw [e9] at z; exact z)) (by decide)⟩
  · -- returned
    obtain ⟨k, c0, c1, c2, hv, hN⟩ := hv
    have e9 := RA_alertOf_0 (st := st) (x := x9) hk.m10 c0 c1 c2
    have hJ9 : LJ G h9 (A (cd 0 1 0)) m q o o2 f g (T_alertOf st x9).1 st := by
      rw [e9]
      exact LJ.cls (X := X) (fd := fd) (tt := tt) (gr := gr) hW ho ho2 ⟨t1, t2, t3, t4⟩ ⟨n1, n2, n3, n4, n5⟩ (NW_thr hN _)
    subst hv
    refine W.eq (g2 := F0 mt 7 ls [.int (nI (z_al st k)), .int (nI 0), .ref o]) rfl ?_
    refine lv_i2l hx hb dL_alertOf_7 rfl ?_
    refine m_last Z C hM hS hJ9.oo 0 rfl (by decide) (by decide) dL_alertOf_8 (fun H locs hM hS => ?_)
    refine lv_goto (tgt := 18) hx hb dL_alertOf_9 (by decide) ?_
    refine lv_iconst (v := nI 0) hx hb dL_alertOf_18 (by decide) ?_
    exact m_iret C hM hS (Nat.le_of_ble_eq_true rfl) (Nat.le_of_ble_eq_true rfl) dL_alertOf_19 ⟨by rw [e9]; rfl, _, hJ9.put _, fun _ => (va_up_self _ _ _).trans (by rw [e9])⟩
set_option maxRecDepth 100000 in
set_option maxHeartbeats 4000000 in
theorem c_L_joinCount {l : Launch} {G : mG} {a0 : Array Value} {s0 : State} (Z : mZ l G a0 s0) (No : mNo s0) (h0 : Hp) (x m : Nat) (q : Nat → Nat) (o o2 : Nat) (f : Nat → Int64) (g : Nat → UInt64) (st : Ms) (hJ : LJ G h0 x m q o o2 f g st st) (hk : Iv st) (a9 : Int32) (d9 : Int32) : mH l G s0 yL_joinCount cL_joinCount 5 (some .int) [(0, 10, 13, 13)] 8 135 1 6 h0 [.ref x, .int a9, .int d9, .ref o] (fun v9 h9 => v9 = some (.int (st_thr (T_joinCount st a9 d9).1)) ∧ ∃ f9 : Nat → Int64, LJ G h9 x m q o o2 f9 g (T_joinCount st a9 d9).1 st ∧ (st_thr (T_joinCount st a9 d9).1 = nI 0 → f9 0 = (T_joinCount st a9 d9).2)) := by
  refine mH_in RL "joinCount" rfl rfl (by decide +kernel) (Nat.le_of_ble_eq_true rfl) ?_
  intro p e s mt below meth c H locs C ht hM hS ls hl
  have hx := C.1
  have hb := C.2.1
  have hown := C.2.2.2.1
  have hE := C.2.2.2.2.2.2.1
  have hl : lv_has ls 5 [(0, .ref x), (1, .int a9), (2, .int d9), (3, .ref o)] := hl
  have hJ0 := hJ
  obtain ⟨A, tg, X, fd, tt, gr, hA, hC, hR, hW, ho, ho2, t1, t2, t3, t4, n1, n2, n3, n4, n5⟩ := hJ
  subst hA
  refine lv_aload_n hx hb dL_joinCount_0 rfl (lv_at hl 3 rfl) ?_
  refine lv_iconst (v := nI 0) hx hb dL_joinCount_1 (by decide) ?_
  refine lv_aload_n hx hb dL_joinCount_2 rfl (lv_at hl 0 rfl) ?_
  refine lv_iload_n hx hb dL_joinCount_3 rfl (lv_at hl 1 rfl) ?_
  refine lv_iload_n hx hb dL_joinCount_4 rfl (lv_at hl 2 rfl) ?_
  refine m_xcallV Z C hM hS (As := [.int a9, .int d9]) (rest := [.int (nI 0), .ref o]) (c_X5_joinCount Z h0 A tg st X fd tt gr hC hk hR a9 d9) yi_X5_joinCount ml_L_116 (hC.at clS_h) rfl ⟨Nat.le_of_ble_eq_true rfl, Nat.le_of_ble_eq_true rfl⟩ (Nat.le_of_ble_eq_true rfl) hl.1 rfl rfl dL_joinCount_5 ⟨Nat.le_of_ble_eq_true rfl, Nat.le_of_ble_eq_true rfl⟩ (fun E ce q9 h9 H locs hv hM hS g1 g2 g3 => ?_) (fun v h9 H locs hv hM hS => ?_)
  · -- thrown
    obtain ⟨hE9, c0, hN⟩ := hv
    have e9 := RA_joinCount_1 (st := st) (a := a9) (d := d9) hk.m10 c0
    have hJ9 : LJ G h9 (A (cd 0 1 0)) m q o o2 f g (T_joinCount st a9 d9).1 st := by
      rw [e9]
      exact LJ.cls (X := X) (fd := fd) (tt := tt) (gr := gr) hW ho ho2 ⟨t1, t2, t3, t4⟩ ⟨n1, n2, n3, n4, n5⟩ (NW_thr hN _)
    subst hE9
    refine m_catch Z No C ht [] (0, 10, 13, 13) [] rfl (fun z hz => by cases hz) (by decide) (by decide) cl_L_13 ca_IAE g1 g2 g3 ?_
    refine lv_astore hx hb dL_joinCount_13 hl (lv' := [(4, .ref q9), (0, .ref (A (cd 0 1 0))), (1, .int a9), (2, .int d9), (3, .ref o)]) (by decide) rfl (fun ls hl => ?_)
    refine lv_iconst (v := nI 1) hx hb dL_joinCount_15 (by decide) ?_
    exact m_iret C hM hS (Nat.le_of_ble_eq_true rfl) (Nat.le_of_ble_eq_true rfl) dL_joinCount_16 ⟨by rw [e9]; rfl, f, hJ9, fun z => absurd (show nI 1 = nI 0 from (by rw [e9] at z; exact z)) (by decide)⟩
  · -- returned
    obtain ⟨c0, c1, hv, hN⟩ := hv
    have e9 := RA_joinCount_0 (st := st) (a := a9) (d := d9) hk.m10 c0 c1
    have hJ9 : LJ G h9 (A (cd 0 1 0)) m q o o2 f g (T_joinCount st a9 d9).1 st := by
      rw [e9]
      exact LJ.cls (X := X) (fd := fd) (tt := tt) (gr := gr) hW ho ho2 ⟨t1, t2, t3, t4⟩ ⟨n1, n2, n3, n4, n5⟩ (NW_thr hN _)
    subst hv
    refine W.eq (g2 := F0 mt 8 ls [.int (nI (z_ct (z_jp st a9 d9) 10)), .int (nI 0), .ref o]) rfl ?_
    refine lv_i2l hx hb dL_joinCount_8 rfl ?_
    refine m_last Z C hM hS hJ9.oo 0 rfl (by decide) (by decide) dL_joinCount_9 (fun H locs hM hS => ?_)
    refine lv_goto (tgt := 17) hx hb dL_joinCount_10 (by decide) ?_
    refine lv_iconst (v := nI 0) hx hb dL_joinCount_17 (by decide) ?_
    exact m_iret C hM hS (Nat.le_of_ble_eq_true rfl) (Nat.le_of_ble_eq_true rfl) dL_joinCount_18 ⟨by rw [e9]; rfl, _, hJ9.put _, fun _ => (va_up_self _ _ _).trans (by rw [e9])⟩
set_option maxRecDepth 100000 in
set_option maxHeartbeats 4000000 in
theorem c_L_joinSum {l : Launch} {G : mG} {a0 : Array Value} {s0 : State} (Z : mZ l G a0 s0) (No : mNo s0) (h0 : Hp) (x m : Nat) (q : Nat → Nat) (o o2 : Nat) (f : Nat → Int64) (g : Nat → UInt64) (st : Ms) (hJ : LJ G h0 x m q o o2 f g st st) (hk : Iv st) (a9 : Int32) (d9 : Int32) : mH l G s0 yL_joinSum cL_joinSum 5 (some .int) [(0, 9, 12, 13)] 8 138 1 6 h0 [.ref x, .int a9, .int d9, .ref o] (fun v9 h9 => v9 = some (.int (st_thr (T_joinSum st a9 d9).1)) ∧ ∃ f9 : Nat → Int64, LJ G h9 x m q o o2 f9 g (T_joinSum st a9 d9).1 st ∧ (st_thr (T_joinSum st a9 d9).1 = nI 0 → f9 0 = (T_joinSum st a9 d9).2)) := by
  refine mH_in RL "joinSum" rfl rfl (by decide +kernel) (Nat.le_of_ble_eq_true rfl) ?_
  intro p e s mt below meth c H locs C ht hM hS ls hl
  have hx := C.1
  have hb := C.2.1
  have hown := C.2.2.2.1
  have hE := C.2.2.2.2.2.2.1
  have hl : lv_has ls 5 [(0, .ref x), (1, .int a9), (2, .int d9), (3, .ref o)] := hl
  have hJ0 := hJ
  obtain ⟨A, tg, X, fd, tt, gr, hA, hC, hR, hW, ho, ho2, t1, t2, t3, t4, n1, n2, n3, n4, n5⟩ := hJ
  subst hA
  refine lv_aload_n hx hb dL_joinSum_0 rfl (lv_at hl 3 rfl) ?_
  refine lv_iconst (v := nI 0) hx hb dL_joinSum_1 (by decide) ?_
  refine lv_aload_n hx hb dL_joinSum_2 rfl (lv_at hl 0 rfl) ?_
  refine lv_iload_n hx hb dL_joinSum_3 rfl (lv_at hl 1 rfl) ?_
  refine lv_iload_n hx hb dL_joinSum_4 rfl (lv_at hl 2 rfl) ?_
  refine m_xcallV Z C hM hS (As := [.int a9, .int d9]) (rest := [.int (nI 0), .ref o]) (c_X5_joinSum Z h0 A tg st X fd tt gr hC hk hR a9 d9) yi_X5_joinSum ml_L_119 (hC.at clS_h) rfl ⟨Nat.le_of_ble_eq_true rfl, Nat.le_of_ble_eq_true rfl⟩ (Nat.le_of_ble_eq_true rfl) hl.1 rfl rfl dL_joinSum_5 ⟨Nat.le_of_ble_eq_true rfl, Nat.le_of_ble_eq_true rfl⟩ (fun E ce q9 h9 H locs hv hM hS g1 g2 g3 => ?_) (fun v h9 H locs hv hM hS => ?_)
  · -- thrown
    obtain ⟨hE9, c0, hN⟩ := hv
    have e9 := RA_joinSum_1 (st := st) (a := a9) (d := d9) hk.m10 c0
    have hJ9 : LJ G h9 (A (cd 0 1 0)) m q o o2 f g (T_joinSum st a9 d9).1 st := by
      rw [e9]
      exact LJ.cls (X := X) (fd := fd) (tt := tt) (gr := gr) hW ho ho2 ⟨t1, t2, t3, t4⟩ ⟨n1, n2, n3, n4, n5⟩ (NW_thr hN _)
    subst hE9
    refine m_catch Z No C ht [] (0, 9, 12, 13) [] rfl (fun z hz => by cases hz) (by decide) (by decide) cl_L_13 ca_IAE g1 g2 g3 ?_
    refine lv_astore hx hb dL_joinSum_12 hl (lv' := [(4, .ref q9), (0, .ref (A (cd 0 1 0))), (1, .int a9), (2, .int d9), (3, .ref o)]) (by decide) rfl (fun ls hl => ?_)
    refine lv_iconst (v := nI 1) hx hb dL_joinSum_14 (by decide) ?_
    exact m_iret C hM hS (Nat.le_of_ble_eq_true rfl) (Nat.le_of_ble_eq_true rfl) dL_joinSum_15 ⟨by rw [e9]; rfl, f, hJ9, fun z => absurd (show nI 1 = nI 0 from (by rw [e9] at z; exact z)) (by decide)⟩
  · -- returned
    obtain ⟨c0, c1, hv, hN⟩ := hv
    have e9 := RA_joinSum_0 (st := st) (a := a9) (d := d9) hk.m10 c0 c1
    have hJ9 : LJ G h9 (A (cd 0 1 0)) m q o o2 f g (T_joinSum st a9 d9).1 st := by
      rw [e9]
      exact LJ.cls (X := X) (fd := fd) (tt := tt) (gr := gr) hW ho ho2 ⟨t1, t2, t3, t4⟩ ⟨n1, n2, n3, n4, n5⟩ (NW_thr hN _)
    subst hv
    refine W.eq (g2 := F0 mt 8 ls [.long (z_js st a9 d9 (fun u v => if 1 = 0 then lN 1 else (z_la st u).toInt64 * (z_la st v).toInt64) 10), .int (nI 0), .ref o]) rfl ?_
    refine m_last Z C hM hS hJ9.oo 0 rfl (by decide) (by decide) dL_joinSum_8 (fun H locs hM hS => ?_)
    refine lv_goto (tgt := 16) hx hb dL_joinSum_9 (by decide) ?_
    refine lv_iconst (v := nI 0) hx hb dL_joinSum_16 (by decide) ?_
    exact m_iret C hM hS (Nat.le_of_ble_eq_true rfl) (Nat.le_of_ble_eq_true rfl) dL_joinSum_17 ⟨by rw [e9]; rfl, _, hJ9.put _, fun _ => (va_up_self _ _ _).trans (by rw [e9])⟩
set_option maxRecDepth 100000 in
set_option maxHeartbeats 4000000 in
theorem c_L_firingShare {l : Launch} {G : mG} {a0 : Array Value} {s0 : State} (Z : mZ l G a0 s0) (No : mNo s0) (h0 : Hp) (x m : Nat) (q : Nat → Nat) (o o2 : Nat) (f : Nat → Int64) (g : Nat → UInt64) (st : Ms) (hJ : LJ G h0 x m q o o2 f g st st) (hk : Iv st) : mH l G s0 yL_firingShare cL_firingShare 3 (some .int) [(0, 8, 11, 75)] 7 110 1 6 h0 [.ref x, .ref o2] (fun v9 h9 => v9 = some (.int (st_thr (T_firingShare st).1)) ∧ ∃ g9 : Nat → UInt64, LJ G h9 x m q o o2 f g9 (T_firingShare st).1 st ∧ (st_thr (T_firingShare st).1 = nI 0 → g9 0 = FP.f2d (T_firingShare st).2)) := by
  refine mH_in RL "firingShare" rfl rfl (by decide +kernel) (Nat.le_of_ble_eq_true rfl) ?_
  intro p e s mt below meth c H locs C ht hM hS ls hl
  have hx := C.1
  have hb := C.2.1
  have hown := C.2.2.2.1
  have hE := C.2.2.2.2.2.2.1
  have hl : lv_has ls 3 [(0, .ref x), (1, .ref o2)] := hl
  have hJ0 := hJ
  obtain ⟨A, tg, X, fd, tt, gr, hA, hC, hR, hW, ho, ho2, t1, t2, t3, t4, n1, n2, n3, n4, n5⟩ := hJ
  subst hA
  refine lv_aload_n hx hb dL_firingShare_0 rfl (lv_at hl 1 rfl) ?_
  refine lv_iconst (v := nI 0) hx hb dL_firingShare_1 (by decide) ?_
  refine lv_aload_n hx hb dL_firingShare_2 rfl (lv_at hl 0 rfl) ?_
  refine m_xcallV Z C hM hS (As := []) (rest := [.int (nI 0), .ref o2]) (c_X5_firingShare Z h0 A tg st X fd tt gr hC hk hR ) yi_X5_firingShare ml_L_122 (hC.at clS_h) rfl ⟨Nat.le_of_ble_eq_true rfl, Nat.le_of_ble_eq_true rfl⟩ (Nat.le_of_ble_eq_true rfl) hl.1 rfl rfl dL_firingShare_3 ⟨Nat.le_of_ble_eq_true rfl, Nat.le_of_ble_eq_true rfl⟩ (fun E ce q9 h9 H locs hv hM hS g1 g2 g3 => ?_) (fun v h9 H locs hv hM hS => ?_)
  · -- thrown
    obtain ⟨hE9, c0, hN⟩ := hv
    have e9 := RA_firingShare_1 (st := st)  hk.m10 c0
    have hJ9 : LJ G h9 (A (cd 0 1 0)) m q o o2 f g (T_firingShare st).1 st := by
      rw [e9]
      exact LJ.cls (X := X) (fd := fd) (tt := tt) (gr := gr) hW ho ho2 ⟨t1, t2, t3, t4⟩ ⟨n1, n2, n3, n4, n5⟩ (NW_thr hN _)
    subst hE9
    refine m_catch Z No C ht [] (0, 8, 11, 75) [] rfl (fun z hz => by cases hz) (by decide) (by decide) cl_L_75 ca_AE g1 g2 g3 ?_
    refine lv_astore_n hx hb dL_firingShare_11 rfl hl (lv' := [(2, .ref q9), (0, .ref (A (cd 0 1 0))), (1, .ref o2)]) (by decide) rfl (fun ls hl => ?_)
    refine lv_iconst (v := nI 1) hx hb dL_firingShare_12 (by decide) ?_
    exact m_iret C hM hS (Nat.le_of_ble_eq_true rfl) (Nat.le_of_ble_eq_true rfl) dL_firingShare_13 ⟨by rw [e9]; rfl, g, hJ9, fun z => absurd (show nI 1 = nI 0 from (by rw [e9] at z; exact z)) (by decide)⟩
  · -- returned
    obtain ⟨c0, hv, hN⟩ := hv
    have e9 := RA_firingShare_0 (st := st)  hk.m10 c0
    have hJ9 : LJ G h9 (A (cd 0 1 0)) m q o o2 f g (T_firingShare st).1 st := by
      rw [e9]
      exact LJ.cls (X := X) (fd := fd) (tt := tt) (gr := gr) hW ho ho2 ⟨t1, t2, t3, t4⟩ ⟨n1, n2, n3, n4, n5⟩ (NW_thr hN _)
    subst hv
    refine W.eq (g2 := F0 mt 6 ls [.float (FP.fdiv (FP.i2f (nI (z_ct (z_fi st) (st_many st)))) (FP.i2f (nI (st_many st)))), .int (nI 0), .ref o2]) rfl ?_
    refine lv_f2d hx hb dL_firingShare_6 (f_div_ok _ (by have := hk.m10; have := z_ct_le (z_fi st) (st_many st); omega) _ (by have := hk.m10; omega) (by omega)).2 ?_
    refine m_dast Z C hM hS hJ9.oo2 0 rfl (by decide) (by decide) dL_firingShare_7 (fun H locs hM hS => ?_)
    refine lv_goto (tgt := 14) hx hb dL_firingShare_8 (by decide) ?_
    refine lv_iconst (v := nI 0) hx hb dL_firingShare_14 (by decide) ?_
    exact m_iret C hM hS (Nat.le_of_ble_eq_true rfl) (Nat.le_of_ble_eq_true rfl) dL_firingShare_15 ⟨by rw [e9]; rfl, _, hJ9.put2 _, fun _ => (va_up_self _ _ _).trans (by rw [e9])⟩
