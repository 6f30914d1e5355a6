set_option maxRecDepth 100000 in
set_option maxHeartbeats 4000000 in
theorem c_X6_holds {l : Launch} {G : mG} {a0 : Array Value} {s0 : State} (Z : mZ l G a0 s0) (h0 : Hp) (m : Nat) (q : Nat → Nat) (st : Ms) (hW : MdlW G h0 m q st) (z : Nat) (y : Nat) (x : Int32) (hz : z < 10) (hy : y < 6) (hp : 8 * (6 * z + y) + st_sz st (6 * z + y) < 480) (hv9 : st_sz st (6 * z + y) < 1000000) : mM l G s0 yX6_holds cX6_holds 5 none 0 0 0 0 h0 [.ref m, .int (nI z), .int (nI y), .int x] (fun v h9 => (v = none ∧ MdlW G h9 m q (s_ho st z y x) ∧ mFr h0 h9 m q)) := by
  refine mM_in RX6 "holds" rfl rfl (by decide +kernel) (Nat.le_of_ble_eq_true rfl) ?_
  intro p e s mt below meth c H locs C hM hS ls hl
  have hx := C.1
  have hb := C.2.1
  have hown := C.2.2.2.1
  have hE := C.2.2.2.2.2.2.1
  have hl : lv_has ls 5 [(0, .ref m), (1, .int (nI z)), (2, .int (nI y)), (3, .int x)] := hl
  have hF : mFr h0 h0 m q := mFr.rf
  obtain ⟨h, hM, hW, hF⟩ : ∃ h9, MW G s0.heap.size h9 H ∧ MdlW G h9 m q st ∧ mFr h0 h9 m q := ⟨_, hM, hW, hF⟩
  refine lv_bipush (v := nI 6) hx hb dX6_holds_0 (by decide) ?_
  refine lv_iload_n hx hb dX6_holds_2 rfl (lv_at hl 1 rfl) ?_
  refine n_imul hx hb dX6_holds_3 ?_
  refine lv_iload_n hx hb dX6_holds_4 rfl (lv_at hl 2 rfl) ?_
  refine n_iadd hx hb dX6_holds_5 ?_
  refine lv_istore (lv' := [(4, .int (nI (6 * z + y))), (0, .ref m), (1, .int (nI z)), (2, .int (nI y)), (3, .int x)]) hx hb dX6_holds_6 hl (by decide) rfl (fun ls hl => ?_)
  refine lv_aload_n hx hb dX6_holds_8 rfl (lv_at hl 1 rfl) ?_
  refine m_get Z C hM hW.o K_X6 9 (by decide) fl_X6_29 (v := .ref (q 9)) rfl dX6_holds_9 ?_
  refine lv_bipush (v := nI 8) hx hb dX6_holds_12 (by decide) ?_
  refine lv_iload hx hb dX6_holds_14 (lv_at hl 0 rfl) ?_
  refine n_imul hx hb dX6_holds_16 ?_
  refine lv_aload_n hx hb dX6_holds_17 rfl (lv_at hl 1 rfl) ?_
  refine m_get Z C hM hW.o K_X6 10 (by decide) fl_X6_32 (v := .ref (q 10)) rfl dX6_holds_18 ?_
  refine lv_iload hx hb dX6_holds_21 (lv_at hl 0 rfl) ?_
  refine m_iald Z C hM (f := fun k => nI ((st_sz st) k)) hW.a10 (6 * z + y) rfl (by omega) (by decide) dX6_holds_23 ?_
  refine n_iadd hx hb dX6_holds_24 ?_
  refine lv_iload_n hx hb dX6_holds_25 rfl (lv_at hl 4 rfl) ?_
  refine m_iast Z C hM hS hW.a9 (x := x) (8 * (6 * z + y) + (st_sz st) (6 * z + y)) rfl (by omega) (by decide) dX6_holds_26 (fun H locs hM hS => ?_)
  obtain ⟨h, hM, hW, hF⟩ : ∃ h9, MW G s0.heap.size h9 H ∧ MdlW G h9 m q (sM (st_thr st) (st_many st) (st_now st) (st_nm st) (st_ho st) (st_n st) (st_V st) (st_bd st) (st_T st) (va_up (st_sk st) (8 * (6 * z + y) + (st_sz st) (6 * z + y)) x) (st_sz st) (st_hv st) (st_ha st) (st_li st) (st_wa st) (st_on st) (st_si st)) ∧ mFr h0 h9 m q := ⟨_, hM, hW.u9 (8 * (6 * z + y) + (st_sz st) (6 * z + y)) x, hF.a 9 _ (by decide) (by decide)⟩
  refine lv_aload_n hx hb dX6_holds_27 rfl (lv_at hl 1 rfl) ?_
  refine m_get Z C hM hW.o K_X6 10 (by decide) fl_X6_32 (v := .ref (q 10)) rfl dX6_holds_28 ?_
  refine lv_iload hx hb dX6_holds_31 (lv_at hl 0 rfl) ?_
  refine lv_dup2_11 hx hb dX6_holds_33 rfl rfl ?_
  refine m_iald Z C hM (f := fun k => nI ((st_sz st) k)) hW.a10 (6 * z + y) rfl (by omega) (by decide) dX6_holds_34 ?_
  refine lv_iconst (v := nI 1) hx hb dX6_holds_35 (by decide) ?_
  refine n_iadd hx hb dX6_holds_36 ?_
  refine m_iast Z C hM hS hW.a10 (x := nI ((st_sz st) (6 * z + y) + 1)) (6 * z + y) rfl (by omega) (by decide) dX6_holds_37 (fun H locs hM hS => ?_)
  obtain ⟨h, hM, hW, hF⟩ : ∃ h9, MW G s0.heap.size h9 H ∧ MdlW G h9 m q (sM (st_thr st) (st_many st) (st_now st) (st_nm st) (st_ho st) (st_n st) (st_V st) (st_bd st) (st_T st) (va_up (st_sk st) (8 * (6 * z + y) + (st_sz st) (6 * z + y)) x) (va_up (st_sz st) (6 * z + y) ((st_sz st) (6 * z + y) + 1)) (st_hv st) (st_ha st) (st_li st) (st_wa st) (st_on st) (st_si st)) ∧ mFr h0 h9 m q := ⟨_, hM, hW.u10 (6 * z + y) ((st_sz st) (6 * z + y) + 1), hF.a 10 _ (by decide) (by decide)⟩
  exact m_vret C hM hS (Nat.le_of_ble_eq_true rfl) (Nat.le_of_ble_eq_true rfl) dX6_holds_38 ⟨rfl, hW, hF⟩
set_option maxRecDepth 100000 in
set_option maxHeartbeats 4000000 in
theorem c_X6_halves {l : Launch} {G : mG} {a0 : Array Value} {s0 : State} (Z : mZ l G a0 s0) (h0 : Hp) (m : Nat) (q : Nat → Nat) (st : Ms) (hW : MdlW G h0 m q st) (z : Nat) (y : Nat) (hz : z < 10) (hy : y < 5) (hs9 : st_sz st (6 * z + (y + 1)) ≤ 4) (hhv : st_hv st (6 * z + y) < 1000000) (hbd : st_bd st z < 1000000) : mM l G s0 yX6_halves cX6_halves 7 none 1 24 0 0 h0 [.ref m, .int (nI z), .int (nI y)] (fun v h9 => (v = none ∧ MdlW G h9 m q (s_hs st z y) ∧ mFr h0 h9 m q)) := by
  refine mM_in RX6 "halves" rfl rfl (by decide +kernel) (Nat.le_of_ble_eq_true rfl) ?_
  intro p e s mt below meth c H locs C hM hS ls hl
  have hx := C.1
  have hb := C.2.1
  have hown := C.2.2.2.1
  have hE := C.2.2.2.2.2.2.1
  have hl : lv_has ls 7 [(0, .ref m), (1, .int (nI z)), (2, .int (nI y))] := hl
  have hF : mFr h0 h0 m q := mFr.rf
  obtain ⟨h, hM, hW, hF⟩ : ∃ h9, MW G s0.heap.size h9 H ∧ MdlW G h9 m q st ∧ mFr h0 h9 m q := ⟨_, hM, hW, hF⟩
  refine lv_bipush (v := nI 6) hx hb dX6_halves_0 (by decide) ?_
  refine lv_iload_n hx hb dX6_halves_2 rfl (lv_at hl 1 rfl) ?_
  refine n_imul hx hb dX6_halves_3 ?_
  refine lv_iload_n hx hb dX6_halves_4 rfl (lv_at hl 2 rfl) ?_
  refine n_iadd hx hb dX6_halves_5 ?_
  refine lv_istore_n (lv' := [(3, .int (nI (6 * z + y))), (0, .ref m), (1, .int (nI z)), (2, .int (nI y))]) hx hb dX6_halves_6 rfl hl (by decide) rfl (fun ls hl => ?_)
  refine lv_iconst (v := nI 1) hx hb dX6_halves_7 (by decide) ?_
  refine lv_istore (lv' := [(4, .int (nI 1)), (3, .int (nI (6 * z + y))), (0, .ref m), (1, .int (nI z)), (2, .int (nI y))]) hx hb dX6_halves_8 hl (by decide) rfl (fun ls hl => ?_)
  have lp_1 : ∀ (fu : Nat) (h : Hp) (j : Nat), 8 < j + fu → j ≤ 7 → MdlW G h m q (s_sk st (z_so (st_sk st) (8 * (6 * z + y)) j)) → mFr h0 h m q → ∀ (H : Heap) (locs : List Loc), MW G s0.heap.size h H → va_S (fun q => s0.heap.size ≤ q) s.heap H locs → ∀ ls : Array Slot, lv_has ls 7 [(4, .int (nI (j + 1))), (3, .int (nI (6 * z + y))), (0, .ref m), (1, .int (nI z)), (2, .int (nI y))] → W p l e (mRm 1 24 0 0) s mt ([.ref m, .int (nI z), .int (nI y)] : List Value).toArray below meth c H locs 0 0 (MQ below (mQc G s0 (fun v h9 => (v = none ∧ MdlW G h9 m q (s_hs st z y) ∧ mFr h0 h9 m q))) ([.ref m, .int (nI z), .int (nI y)] : List Value).toArray s 0 0 (fun q => s0.heap.size ≤ q)) (F0 mt 10 ls []) := by
    intro fu
    induction fu with
    | zero => intro h j hfu _ _ _; exact absurd hfu (by omega)
    | succ fu ih =>
      intro h j hfu hj7 hW hF H locs hM hS ls hl
      replace hW : MdlW G h m q (sM (st_thr st) (st_many st) (st_now st) (st_nm st) (st_ho st) (st_n st) (st_V st) (st_bd st) (st_T st) (z_so (st_sk st) (8 * (6 * z + y)) j) (st_sz st) (st_hv st) (st_ha st) (st_li st) (st_wa st) (st_on st) (st_si st)) := hW
      refine lv_iload hx hb dX6_halves_10 (lv_at hl 0 rfl) ?_
      refine lv_bipush (v := nI 8) hx hb dX6_halves_12 (by decide) ?_
      refine lv_icmp_ge (tgt := 111) hx hb dX6_halves_14 (by decide) (fun c_2 => ?_) (fun c_2 => ?_)
      · -- 14 t
        have c_2 : 8 ≤ j + 1 := (nI_leI (by decide) (by omega)).mp c_2
        have hj9 : j = 7 := by omega
        subst hj9
        obtain ⟨s1, es1⟩ : ∃ x, x = s_sk st (z_so (st_sk st) (8 * (6 * z + y)) 7) := ⟨_, rfl⟩
        replace hW : MdlW G h m q (s_sk st (z_so (st_sk st) (8 * (6 * z + y)) 7)) := hW
        rw [← es1] at hW
        have hz1 : st_sz s1 = st_sz st := by rw [es1, s_sk_sz]
        have hv1 : st_hv s1 = st_hv st := by rw [es1, s_sk_hv]
        have hb1 : st_bd s1 = st_bd st := by rw [es1, s_sk_bd]
        have hv2 : st_hv s1 (6 * z + y) < 1000000 := by rw [hv1]; exact hhv
        refine lv_aload_n hx hb dX6_halves_111 rfl (lv_at hl 2 rfl) ?_
        refine m_get Z C hM hW.o K_X6 11 (by decide) fl_X6_35 (v := .ref (q 11)) rfl dX6_halves_112 ?_
        refine lv_iload_n hx hb dX6_halves_115 rfl (lv_at hl 1 rfl) ?_
        refine m_iald Z C hM (f := fun k => nI ((st_hv s1) k)) hW.a11 (6 * z + y) rfl (by omega) (by decide) dX6_halves_116 ?_
        refine lv_iconst (v := nI 2) hx hb dX6_halves_117 (by decide) ?_
        refine n_irem hx hb (by omega) (by decide) (by decide) dX6_halves_118 ?_
        refine lv_if_ne (tgt := 126) hx hb dX6_halves_119 (by decide) (fun c_3 => ?_) (fun c_3 => ?_)
        · -- 119 t
          have c_3 : ¬ ((st_hv s1) (6 * z + y)) % 2 = 0 := fun q => c_3 ((nI_eq (by omega) (by decide)).mpr q)
          refine lv_iconst (v := nI 0) hx hb dX6_halves_126 (by decide) ?_
          refine lv_istore (lv' := [(4, .int (nI 0)), (3, .int (nI (6 * z + y))), (0, .ref m), (1, .int (nI z)), (2, .int (nI y))]) hx hb dX6_halves_127 hl (by decide) rfl (fun ls hl => ?_)
          have lp_4 : ∀ (fu3 : Nat) (h : Hp) (t : Nat), 4 < t + fu3 → t ≤ 4 → MdlW G h m q (s_pk s1 z y 0 t) → mFr h0 h m q → ∀ (H : Heap) (locs : List Loc), MW G s0.heap.size h H → va_S (fun q => s0.heap.size ≤ q) s.heap H locs → ∀ ls : Array Slot, lv_has ls 7 [(4, .int (nI (0 + 2 * t))), (3, .int (nI (6 * z + y))), (0, .ref m), (1, .int (nI z)), (2, .int (nI y))] → W p l e (mRm 1 24 0 0) s mt ([.ref m, .int (nI z), .int (nI y)] : List Value).toArray below meth c H locs 0 0 (MQ below (mQc G s0 (fun v h9 => (v = none ∧ MdlW G h9 m q (s_hs st z y) ∧ mFr h0 h9 m q))) ([.ref m, .int (nI z), .int (nI y)] : List Value).toArray s 0 0 (fun q => s0.heap.size ≤ q)) (F0 mt 129 ls []) := by
            intro fu3
            induction fu3 with
            | zero => intro h t hfu _ _ _; exact absurd hfu (by omega)
            | succ fu3 ih3 =>
              intro h t hfu ht4 hW hF H locs hM hS ls hl
              obtain ⟨su, esu⟩ : ∃ x, x = s_pk s1 z y 0 t := ⟨_, rfl⟩
              rw [← esu] at hW
              have hsu : st_sz su (6 * z + (y + 1)) = st_sz st (6 * z + (y + 1)) + t := by rw [esu, s_pk_sz, va_up_self, hz1]
              refine lv_iload hx hb dX6_halves_129 (lv_at hl 0 rfl) ?_
              refine lv_bipush (v := nI 8) hx hb dX6_halves_131 (by decide) ?_
              refine lv_icmp_ge (tgt := 162) hx hb dX6_halves_133 (by decide) (fun c_5 => ?_) (fun c_5 => ?_)
              · -- 133 t
                have c_5 : 8 ≤ 0 + 2 * t := (nI_leI (by decide) (by omega)).mp c_5
                have ht9 : t = 4 := by omega
                subst ht9
                have hv3 : st_hv su (6 * z + y) < 1000000 := by rw [esu, s_pk_hv, hv1]; exact hhv
                have hb3 : st_bd su z < 1000000 := by rw [esu, s_pk_bd, hb1]; exact hbd
                have hpw : 2 ^ y ≤ 2 ^ 5 := Nat.pow_le_pow_right (by decide) (by omega)
                refine lv_aload_n hx hb dX6_halves_162 rfl (lv_at hl 2 rfl) ?_
                refine m_get Z C hM hW.o K_X6 10 (by decide) fl_X6_32 (v := .ref (q 10)) rfl dX6_halves_163 ?_
                refine lv_iload_n hx hb dX6_halves_166 rfl (lv_at hl 1 rfl) ?_
                refine lv_iconst (v := nI 0) hx hb dX6_halves_167 (by decide) ?_
                refine m_iast Z C hM hS hW.a10 (x := nI 0) (6 * z + y) rfl (by omega) (by decide) dX6_halves_168 (fun H locs hM hS => ?_)
                obtain ⟨h, hM, hW, hF⟩ : ∃ h9, MW G s0.heap.size h9 H ∧ MdlW G h9 m q (sM (st_thr su) (st_many su) (st_now su) (st_nm su) (st_ho su) (st_n su) (st_V su) (st_bd su) (st_T su) (st_sk su) (va_up (st_sz su) (6 * z + y) 0) (st_hv su) (st_ha su) (st_li su) (st_wa su) (st_on su) (st_si su)) ∧ mFr h0 h9 m q := ⟨_, hM, hW.u10 (6 * z + y) 0, hF.a 10 _ (by decide) (by decide)⟩
                refine lv_aload_n hx hb dX6_halves_169 rfl (lv_at hl 2 rfl) ?_
                refine m_get Z C hM hW.o K_X6 11 (by decide) fl_X6_35 (v := .ref (q 11)) rfl dX6_halves_170 ?_
                refine lv_iload_n hx hb dX6_halves_173 rfl (lv_at hl 1 rfl) ?_
                refine lv_dup2_11 hx hb dX6_halves_174 rfl rfl ?_
                refine m_iald Z C hM (f := fun k => nI ((st_hv su) k)) hW.a11 (6 * z + y) rfl (by omega) (by decide) dX6_halves_175 ?_
                refine lv_iconst (v := nI 1) hx hb dX6_halves_176 (by decide) ?_
                refine n_iadd hx hb dX6_halves_177 ?_
                refine m_iast Z C hM hS hW.a11 (x := nI ((st_hv su) (6 * z + y) + 1)) (6 * z + y) rfl (by omega) (by decide) dX6_halves_178 (fun H locs hM hS => ?_)
                obtain ⟨h, hM, hW, hF⟩ : ∃ h9, MW G s0.heap.size h9 H ∧ MdlW G h9 m q (sM (st_thr su) (st_many su) (st_now su) (st_nm su) (st_ho su) (st_n su) (st_V su) (st_bd su) (st_T su) (st_sk su) (va_up (st_sz su) (6 * z + y) 0) (va_up (st_hv su) (6 * z + y) ((st_hv su) (6 * z + y) + 1)) (st_ha su) (st_li su) (st_wa su) (st_on su) (st_si su)) ∧ mFr h0 h9 m q := ⟨_, hM, hW.u11 (6 * z + y) ((st_hv su) (6 * z + y) + 1), hF.a 11 _ (by decide) (by decide)⟩
                refine lv_aload_n hx hb dX6_halves_179 rfl (lv_at hl 2 rfl) ?_
                refine m_get Z C hM hW.o K_X6 7 (by decide) fl_X6_22 (v := .ref (q 7)) rfl dX6_halves_180 ?_
                refine lv_iload_n hx hb dX6_halves_183 rfl (lv_at hl 3 rfl) ?_
                refine lv_dup2_11 hx hb dX6_halves_184 rfl rfl ?_
                refine m_iald Z C hM (f := fun k => nI ((st_bd su) k)) hW.a7 z rfl (by omega) (by decide) dX6_halves_185 ?_
                refine lv_iconst (v := nI 1) hx hb dX6_halves_186 (by decide) ?_
                refine lv_iload_n hx hb dX6_halves_187 rfl (lv_at hl 4 rfl) ?_
                refine n_ishl1 hx hb (by omega) dX6_halves_188 ?_
                refine n_iadd hx hb dX6_halves_189 ?_
                refine m_iast Z C hM hS hW.a7 (x := nI ((st_bd su) z + 2 ^ y)) z rfl (by omega) (by decide) dX6_halves_190 (fun H locs hM hS => ?_)
                obtain ⟨h, hM, hW, hF⟩ : ∃ h9, MW G s0.heap.size h9 H ∧ MdlW G h9 m q (sM (st_thr su) (st_many su) (st_now su) (st_nm su) (st_ho su) (st_n su) (st_V su) (va_up (st_bd su) z ((st_bd su) z + 2 ^ y)) (st_T su) (st_sk su) (va_up (st_sz su) (6 * z + y) 0) (va_up (st_hv su) (6 * z + y) ((st_hv su) (6 * z + y) + 1)) (st_ha su) (st_li su) (st_wa su) (st_on su) (st_si su)) ∧ mFr h0 h9 m q := ⟨_, hM, hW.u7 z ((st_bd su) z + 2 ^ y), hF.a 7 _ (by decide) (by decide)⟩
                have e9 : s_hs st z y = s_h2 su z y := by unfold s_hs; rw [if_neg (by rw [← hv1]; exact c_3), ← es1, ← esu]
                replace hW : MdlW G h m q (s_h2 su z y) := hW
                rw [← e9] at hW
                exact m_vret C hM hS (Nat.le_of_ble_eq_true rfl) (Nat.le_of_ble_eq_true rfl) dX6_halves_191 ⟨rfl, hW, hF⟩
              · -- 133 f
                have c_5 : ¬ 8 ≤ 0 + 2 * t := fun q => c_5 ((nI_leI (by decide) (by omega)).mpr q)
                refine lv_aload_n hx hb dX6_halves_136 rfl (lv_at hl 2 rfl) ?_
                refine lv_iload_n hx hb dX6_halves_137 rfl (lv_at hl 3 rfl) ?_
                refine lv_iload_n hx hb dX6_halves_138 rfl (lv_at hl 4 rfl) ?_
                refine lv_iconst (v := nI 1) hx hb dX6_halves_139 (by decide) ?_
                refine n_iadd hx hb dX6_halves_140 ?_
                refine lv_aload_n hx hb dX6_halves_141 rfl (lv_at hl 2 rfl) ?_
                refine m_get Z C hM hW.o K_X6 9 (by decide) fl_X6_29 (v := .ref (q 9)) rfl dX6_halves_142 ?_
                refine lv_bipush (v := nI 8) hx hb dX6_halves_145 (by decide) ?_
                refine lv_iload_n hx hb dX6_halves_147 rfl (lv_at hl 1 rfl) ?_
                refine n_imul hx hb dX6_halves_148 ?_
                refine lv_iload hx hb dX6_halves_149 (lv_at hl 0 rfl) ?_
                refine n_iadd hx hb dX6_halves_151 ?_
                refine m_iald Z C hM (f := st_sk su) hW.a9 (8 * (6 * z + y) + (0 + 2 * t)) rfl (by omega) (by decide) dX6_halves_152 ?_
                refine m_callV Z C hM hS (As := [.int (nI z), .int (nI (y + 1)), .int ((st_sk su) (8 * (6 * z + y) + (0 + 2 * t)))]) (rest := []) (c_X6_holds Z h m q su hW z (y + 1) ((st_sk su) (8 * (6 * z + y) + (0 + 2 * t))) (show z < 10 by omega) (show (y + 1) < 6 by omega) (show 8 * (6 * z + (y + 1)) + st_sz su (6 * z + (y + 1)) < 480 by omega) (show st_sz su (6 * z + (y + 1)) < 1000000 by omega)) yi_X6_holds ml_X6_79 hW.o rfl ⟨Nat.le_of_ble_eq_true rfl, Nat.le_of_ble_eq_true rfl⟩ (Nat.le_of_ble_eq_true rfl) hl.1 rfl rfl dX6_halves_153 ⟨Nat.le_of_ble_eq_true rfl, Nat.le_of_ble_eq_true rfl⟩ (fun v h9 H locs hv hM hS => ?_)
                obtain ⟨hv, hW, hF9⟩ := hv
                subst hv
                have hF := hF.trans hF9
                obtain ⟨su_6, esu_6⟩ : ∃ x, x = s_ho su z (y + 1) ((st_sk su) (8 * (6 * z + y) + (0 + 2 * t))) := ⟨_, rfl⟩
                rw [← esu_6] at hW
                obtain ⟨h, hM, hW, hF⟩ : ∃ h8, MW G s0.heap.size h8 H ∧ MdlW G h8 m q (su_6) ∧ mFr h0 h8 m q := ⟨_, hM, hW, hF⟩
                refine W.eq (g2 := F0 mt 156 ls []) rfl ?_
                refine lv_iinc (v := nI (0 + 2 * t + 2)) (lv' := [(4, .int (nI (0 + 2 * t + 2))), (3, .int (nI (6 * z + y))), (0, .ref m), (1, .int (nI z)), (2, .int (nI y))]) hx hb dX6_halves_156 hl (k := 0) rfl (nI_add _ _) (by decide) rfl (fun ls hl => ?_)
                refine lv_goto (tgt := 129) hx hb dX6_halves_159 (by decide) ?_
                rw [esu_6, esu] at hW
                exact ih3 h (t + 1) (by omega) (by omega) hW hF H locs hM hS ls (lv_sub hl [0, 1, 2, 3, 4] rfl)
          exact lp_4 5 h 0 (by omega) (by omega) hW hF H locs hM hS ls (lv_sub hl [0, 1, 2, 3, 4] rfl)
        · -- 119 f
          have c_3 : ((st_hv s1) (6 * z + y)) % 2 = 0 := (nI_eq (by omega) (by decide)).mp c_3
          refine lv_iconst (v := nI 1) hx hb dX6_halves_122 (by decide) ?_
          refine lv_goto (tgt := 127) hx hb dX6_halves_123 (by decide) ?_
          refine lv_istore (lv' := [(4, .int (nI 1)), (3, .int (nI (6 * z + y))), (0, .ref m), (1, .int (nI z)), (2, .int (nI y))]) hx hb dX6_halves_127 hl (by decide) rfl (fun ls hl => ?_)
          have lp_7 : ∀ (fu3 : Nat) (h : Hp) (t : Nat), 4 < t + fu3 → t ≤ 4 → MdlW G h m q (s_pk s1 z y 1 t) → mFr h0 h m q → ∀ (H : Heap) (locs : List Loc), MW G s0.heap.size h H → va_S (fun q => s0.heap.size ≤ q) s.heap H locs → ∀ ls : Array Slot, lv_has ls 7 [(4, .int (nI (1 + 2 * t))), (3, .int (nI (6 * z + y))), (0, .ref m), (1, .int (nI z)), (2, .int (nI y))] → W p l e (mRm 1 24 0 0) s mt ([.ref m, .int (nI z), .int (nI y)] : List Value).toArray below meth c H locs 0 0 (MQ below (mQc G s0 (fun v h9 => (v = none ∧ MdlW G h9 m q (s_hs st z y) ∧ mFr h0 h9 m q))) ([.ref m, .int (nI z), .int (nI y)] : List Value).toArray s 0 0 (fun q => s0.heap.size ≤ q)) (F0 mt 129 ls []) := by
            intro fu3
            induction fu3 with
            | zero => intro h t hfu _ _ _; exact absurd hfu (by omega)
            | succ fu3 ih3 =>
              intro h t hfu ht4 hW hF H locs hM hS ls hl
              obtain ⟨su, esu⟩ : ∃ x, x = s_pk s1 z y 1 t := ⟨_, rfl⟩
              rw [← esu] at hW
              have hsu : st_sz su (6 * z + (y + 1)) = st_sz st (6 * z + (y + 1)) + t := by rw [esu, s_pk_sz, va_up_self, hz1]
              refine lv_iload hx hb dX6_halves_129 (lv_at hl 0 rfl) ?_
              refine lv_bipush (v := nI 8) hx hb dX6_halves_131 (by decide) ?_
              refine lv_icmp_ge (tgt := 162) hx hb dX6_halves_133 (by decide) (fun c_8 => ?_) (fun c_8 => ?_)
              · -- 133 t
                have c_8 : 8 ≤ 1 + 2 * t := (nI_leI (by decide) (by omega)).mp c_8
                have ht9 : t = 4 := by omega
                subst ht9
                have hv3 : st_hv su (6 * z + y) < 1000000 := by rw [esu, s_pk_hv, hv1]; exact hhv
                have hb3 : st_bd su z < 1000000 := by rw [esu, s_pk_bd, hb1]; exact hbd
                have hpw : 2 ^ y ≤ 2 ^ 5 := Nat.pow_le_pow_right (by decide) (by omega)
                refine lv_aload_n hx hb dX6_halves_162 rfl (lv_at hl 2 rfl) ?_
                refine m_get Z C hM hW.o K_X6 10 (by decide) fl_X6_32 (v := .ref (q 10)) rfl dX6_halves_163 ?_
                refine lv_iload_n hx hb dX6_halves_166 rfl (lv_at hl 1 rfl) ?_
                refine lv_iconst (v := nI 0) hx hb dX6_halves_167 (by decide) ?_
                refine m_iast Z C hM hS hW.a10 (x := nI 0) (6 * z + y) rfl (by omega) (by decide) dX6_halves_168 (fun H locs hM hS => ?_)
                obtain ⟨h, hM, hW, hF⟩ : ∃ h9, MW G s0.heap.size h9 H ∧ MdlW G h9 m q (sM (st_thr su) (st_many su) (st_now su) (st_nm su) (st_ho su) (st_n su) (st_V su) (st_bd su) (st_T su) (st_sk su) (va_up (st_sz su) (6 * z + y) 0) (st_hv su) (st_ha su) (st_li su) (st_wa su) (st_on su) (st_si su)) ∧ mFr h0 h9 m q := ⟨_, hM, hW.u10 (6 * z + y) 0, hF.a 10 _ (by decide) (by decide)⟩
                refine lv_aload_n hx hb dX6_halves_169 rfl (lv_at hl 2 rfl) ?_
                refine m_get Z C hM hW.o K_X6 11 (by decide) fl_X6_35 (v := .ref (q 11)) rfl dX6_halves_170 ?_
                refine lv_iload_n hx hb dX6_halves_173 rfl (lv_at hl 1 rfl) ?_
                refine lv_dup2_11 hx hb dX6_halves_174 rfl rfl ?_
                refine m_iald Z C hM (f := fun k => nI ((st_hv su) k)) hW.a11 (6 * z + y) rfl (by omega) (by decide) dX6_halves_175 ?_
                refine lv_iconst (v := nI 1) hx hb dX6_halves_176 (by decide) ?_
                refine n_iadd hx hb dX6_halves_177 ?_
                refine m_iast Z C hM hS hW.a11 (x := nI ((st_hv su) (6 * z + y) + 1)) (6 * z + y) rfl (by omega) (by decide) dX6_halves_178 (fun H locs hM hS => ?_)
                obtain ⟨h, hM, hW, hF⟩ : ∃ h9, MW G s0.heap.size h9 H ∧ MdlW G h9 m q (sM (st_thr su) (st_many su) (st_now su) (st_nm su) (st_ho su) (st_n su) (st_V su) (st_bd su) (st_T su) (st_sk su) (va_up (st_sz su) (6 * z + y) 0) (va_up (st_hv su) (6 * z + y) ((st_hv su) (6 * z + y) + 1)) (st_ha su) (st_li su) (st_wa su) (st_on su) (st_si su)) ∧ mFr h0 h9 m q := ⟨_, hM, hW.u11 (6 * z + y) ((st_hv su) (6 * z + y) + 1), hF.a 11 _ (by decide) (by decide)⟩
                refine lv_aload_n hx hb dX6_halves_179 rfl (lv_at hl 2 rfl) ?_
                refine m_get Z C hM hW.o K_X6 7 (by decide) fl_X6_22 (v := .ref (q 7)) rfl dX6_halves_180 ?_
                refine lv_iload_n hx hb dX6_halves_183 rfl (lv_at hl 3 rfl) ?_
                refine lv_dup2_11 hx hb dX6_halves_184 rfl rfl ?_
                refine m_iald Z C hM (f := fun k => nI ((st_bd su) k)) hW.a7 z rfl (by omega) (by decide) dX6_halves_185 ?_
                refine lv_iconst (v := nI 1) hx hb dX6_halves_186 (by decide) ?_
                refine lv_iload_n hx hb dX6_halves_187 rfl (lv_at hl 4 rfl) ?_
                refine n_ishl1 hx hb (by omega) dX6_halves_188 ?_
                refine n_iadd hx hb dX6_halves_189 ?_
                refine m_iast Z C hM hS hW.a7 (x := nI ((st_bd su) z + 2 ^ y)) z rfl (by omega) (by decide) dX6_halves_190 (fun H locs hM hS => ?_)
                obtain ⟨h, hM, hW, hF⟩ : ∃ h9, MW G s0.heap.size h9 H ∧ MdlW G h9 m q (sM (st_thr su) (st_many su) (st_now su) (st_nm su) (st_ho su) (st_n su) (st_V su) (va_up (st_bd su) z ((st_bd su) z + 2 ^ y)) (st_T su) (st_sk su) (va_up (st_sz su) (6 * z + y) 0) (va_up (st_hv su) (6 * z + y) ((st_hv su) (6 * z + y) + 1)) (st_ha su) (st_li su) (st_wa su) (st_on su) (st_si su)) ∧ mFr h0 h9 m q := ⟨_, hM, hW.u7 z ((st_bd su) z + 2 ^ y), hF.a 7 _ (by decide) (by decide)⟩
                have e9 : s_hs st z y = s_h2 su z y := by unfold s_hs; rw [if_pos (by rw [← hv1]; exact c_3), ← es1, ← esu]
                replace hW : MdlW G h m q (s_h2 su z y) := hW
                rw [← e9] at hW
                exact m_vret C hM hS (Nat.le_of_ble_eq_true rfl) (Nat.le_of_ble_eq_true rfl) dX6_halves_191 ⟨rfl, hW, hF⟩
              · -- 133 f
                have c_8 : ¬ 8 ≤ 1 + 2 * t := fun q => c_8 ((nI_leI (by decide) (by omega)).mpr q)
                refine lv_aload_n hx hb dX6_halves_136 rfl (lv_at hl 2 rfl) ?_
                refine lv_iload_n hx hb dX6_halves_137 rfl (lv_at hl 3 rfl) ?_
                refine lv_iload_n hx hb dX6_halves_138 rfl (lv_at hl 4 rfl) ?_
                refine lv_iconst (v := nI 1) hx hb dX6_halves_139 (by decide) ?_
                refine n_iadd hx hb dX6_halves_140 ?_
                refine lv_aload_n hx hb dX6_halves_141 rfl (lv_at hl 2 rfl) ?_
                refine m_get Z C hM hW.o K_X6 9 (by decide) fl_X6_29 (v := .ref (q 9)) rfl dX6_halves_142 ?_
                refine lv_bipush (v := nI 8) hx hb dX6_halves_145 (by decide) ?_
                refine lv_iload_n hx hb dX6_halves_147 rfl (lv_at hl 1 rfl) ?_
                refine n_imul hx hb dX6_halves_148 ?_
                refine lv_iload hx hb dX6_halves_149 (lv_at hl 0 rfl) ?_
                refine n_iadd hx hb dX6_halves_151 ?_
                refine m_iald Z C hM (f := st_sk su) hW.a9 (8 * (6 * z + y) + (1 + 2 * t)) rfl (by omega) (by decide) dX6_halves_152 ?_
                refine m_callV Z C hM hS (As := [.int (nI z), .int (nI (y + 1)), .int ((st_sk su) (8 * (6 * z + y) + (1 + 2 * t)))]) (rest := []) (c_X6_holds Z h m q su hW z (y + 1) ((st_sk su) (8 * (6 * z + y) + (1 + 2 * t))) (show z < 10 by omega) (show (y + 1) < 6 by omega) (show 8 * (6 * z + (y + 1)) + st_sz su (6 * z + (y + 1)) < 480 by omega) (show st_sz su (6 * z + (y + 1)) < 1000000 by omega)) yi_X6_holds ml_X6_79 hW.o rfl ⟨Nat.le_of_ble_eq_true rfl, Nat.le_of_ble_eq_true rfl⟩ (Nat.le_of_ble_eq_true rfl) hl.1 rfl rfl dX6_halves_153 ⟨Nat.le_of_ble_eq_true rfl, Nat.le_of_ble_eq_true rfl⟩ (fun v h9 H locs hv hM hS => ?_)
                obtain ⟨hv, hW, hF9⟩ := hv
                subst hv
                have hF := hF.trans hF9
                obtain ⟨su_9, esu_9⟩ : ∃ x, x = s_ho su z (y + 1) ((st_sk su) (8 * (6 * z + y) + (1 + 2 * t))) := ⟨_, rfl⟩
                rw [← esu_9] at hW
                obtain ⟨h, hM, hW, hF⟩ : ∃ h8, MW G s0.heap.size h8 H ∧ MdlW G h8 m q (su_9) ∧ mFr h0 h8 m q := ⟨_, hM, hW, hF⟩
                refine W.eq (g2 := F0 mt 156 ls []) rfl ?_
                refine lv_iinc (v := nI (1 + 2 * t + 2)) (lv' := [(4, .int (nI (1 + 2 * t + 2))), (3, .int (nI (6 * z + y))), (0, .ref m), (1, .int (nI z)), (2, .int (nI y))]) hx hb dX6_halves_156 hl (k := 0) rfl (nI_add _ _) (by decide) rfl (fun ls hl => ?_)
                refine lv_goto (tgt := 129) hx hb dX6_halves_159 (by decide) ?_
                rw [esu_9, esu] at hW
                exact ih3 h (t + 1) (by omega) (by omega) hW hF H locs hM hS ls (lv_sub hl [0, 1, 2, 3, 4] rfl)
          exact lp_7 5 h 0 (by omega) (by omega) hW hF H locs hM hS ls (lv_sub hl [0, 1, 2, 3, 4] rfl)
      · -- 14 f
        have c_2 : ¬ 8 ≤ j + 1 := fun q => c_2 ((nI_leI (by decide) (by omega)).mpr q)
        refine lv_aload_n hx hb dX6_halves_17 rfl (lv_at hl 2 rfl) ?_
        refine m_get Z C hM hW.o K_X6 9 (by decide) fl_X6_29 (v := .ref (q 9)) rfl dX6_halves_18 ?_
        refine lv_bipush (v := nI 8) hx hb dX6_halves_21 (by decide) ?_
        refine lv_iload_n hx hb dX6_halves_23 rfl (lv_at hl 1 rfl) ?_
        refine n_imul hx hb dX6_halves_24 ?_
        refine lv_iload hx hb dX6_halves_25 (lv_at hl 0 rfl) ?_
        refine n_iadd hx hb dX6_halves_27 ?_
        refine m_iald Z C hM (f := (z_so (st_sk st) (8 * (6 * z + y)) j)) hW.a9 (8 * (6 * z + y) + j + 1) rfl (by omega) (by decide) dX6_halves_28 ?_
        refine lv_istore (lv' := [(5, .int (((z_so (st_sk st) (8 * (6 * z + y)) j)) (8 * (6 * z + y) + j + 1))), (4, .int (nI (j + 1))), (3, .int (nI (6 * z + y))), (0, .ref m), (1, .int (nI z)), (2, .int (nI y))]) hx hb dX6_halves_29 hl (by decide) rfl (fun ls hl => ?_)
        refine lv_iload hx hb dX6_halves_31 (lv_at hl 1 rfl) ?_
        refine lv_istore (lv' := [(6, .int (nI (j + 1))), (5, .int (((z_so (st_sk st) (8 * (6 * z + y)) j)) (8 * (6 * z + y) + j + 1))), (4, .int (nI (j + 1))), (3, .int (nI (6 * z + y))), (0, .ref m), (1, .int (nI z)), (2, .int (nI y))]) hx hb dX6_halves_33 hl (by decide) rfl (fun ls hl => ?_)
        have lp_10 : ∀ (fu2 : Nat) (h : Hp) (F : Nat → Int32) (k : Nat), k < fu2 → k ≤ j + 1 → z_ins (8 * (6 * z + y)) (z_so (st_sk st) (8 * (6 * z + y)) j (8 * (6 * z + y) + (j + 1))) k F = z_so (st_sk st) (8 * (6 * z + y)) (j + 1) → MdlW G h m q (s_sk st F) → mFr h0 h m q → ∀ (H : Heap) (locs : List Loc), MW G s0.heap.size h H → va_S (fun q => s0.heap.size ≤ q) s.heap H locs → ∀ ls : Array Slot, lv_has ls 7 [(6, .int (nI k)), (5, .int (((z_so (st_sk st) (8 * (6 * z + y)) j)) (8 * (6 * z + y) + j + 1))), (4, .int (nI (j + 1))), (3, .int (nI (6 * z + y))), (0, .ref m), (1, .int (nI z)), (2, .int (nI y))] → W p l e (mRm 1 24 0 0) s mt ([.ref m, .int (nI z), .int (nI y)] : List Value).toArray below meth c H locs 0 0 (MQ below (mQc G s0 (fun v h9 => (v = none ∧ MdlW G h9 m q (s_hs st z y) ∧ mFr h0 h9 m q))) ([.ref m, .int (nI z), .int (nI y)] : List Value).toArray s 0 0 (fun q => s0.heap.size ≤ q)) (F0 mt 35 ls []) := by
          intro fu2
          induction fu2 with
          | zero => intro h F k hfu _ _ _ _; exact absurd hfu (by omega)
          | succ fu2 ih2 =>
            intro h F k hfu hk9 hR hW hF H locs hM hS ls hl
            replace hW : MdlW G h m q (sM (st_thr st) (st_many st) (st_now st) (st_nm st) (st_ho st) (st_n st) (st_V st) (st_bd st) (st_T st) F (st_sz st) (st_hv st) (st_ha st) (st_li st) (st_wa st) (st_on st) (st_si st)) := hW
            refine lv_iload hx hb dX6_halves_35 (lv_at hl 0 rfl) ?_
            refine lv_if_le (tgt := 91) hx hb dX6_halves_37 (by decide) (fun c_11 => ?_) (fun c_11 => ?_)
            · -- 37 t
              have c_11 : k ≤ 0 := (nI_leI (by omega) (by decide)).mp c_11
              refine lv_aload_n hx hb dX6_halves_91 rfl (lv_at hl 4 rfl) ?_
              refine m_get Z C hM hW.o K_X6 9 (by decide) fl_X6_29 (v := .ref (q 9)) rfl dX6_halves_92 ?_
              refine lv_bipush (v := nI 8) hx hb dX6_halves_95 (by decide) ?_
              refine lv_iload_n hx hb dX6_halves_97 rfl (lv_at hl 3 rfl) ?_
              refine n_imul hx hb dX6_halves_98 ?_
              refine lv_iload hx hb dX6_halves_99 (lv_at hl 0 rfl) ?_
              refine n_iadd hx hb dX6_halves_101 ?_
              refine lv_iload hx hb dX6_halves_102 (lv_at hl 1 rfl) ?_
              refine m_iast Z C hM hS hW.a9 (x := ((z_so (st_sk st) (8 * (6 * z + y)) j)) (8 * (6 * z + y) + j + 1)) (8 * (6 * z + y) + k) rfl (by omega) (by decide) dX6_halves_104 (fun H locs hM hS => ?_)
              obtain ⟨h, hM, hW, hF⟩ : ∃ h9, MW G s0.heap.size h9 H ∧ MdlW G h9 m q (sM (st_thr st) (st_many st) (st_now st) (st_nm st) (st_ho st) (st_n st) (st_V st) (st_bd st) (st_T st) (va_up F (8 * (6 * z + y) + k) (((z_so (st_sk st) (8 * (6 * z + y)) j)) (8 * (6 * z + y) + j + 1))) (st_sz st) (st_hv st) (st_ha st) (st_li st) (st_wa st) (st_on st) (st_si st)) ∧ mFr h0 h9 m q := ⟨_, hM, hW.u9 (8 * (6 * z + y) + k) (((z_so (st_sk st) (8 * (6 * z + y)) j)) (8 * (6 * z + y) + j + 1)), hF.a 9 _ (by decide) (by decide)⟩
              refine lv_iinc (v := nI (j + 1 + 1)) (lv' := [(4, .int (nI (j + 1 + 1))), (6, .int (nI k)), (5, .int (((z_so (st_sk st) (8 * (6 * z + y)) j)) (8 * (6 * z + y) + j + 1))), (3, .int (nI (6 * z + y))), (0, .ref m), (1, .int (nI z)), (2, .int (nI y))]) hx hb dX6_halves_105 hl (k := 2) rfl (nI_add _ _) (by decide) rfl (fun ls hl => ?_)
              refine lv_goto (tgt := 10) hx hb dX6_halves_108 (by decide) ?_
              have e9 : va_up F (8 * (6 * z + y) + k) (((z_so (st_sk st) (8 * (6 * z + y)) j)) (8 * (6 * z + y) + j + 1)) = z_so (st_sk st) (8 * (6 * z + y)) (j + 1) := by obtain rfl : k = 0 := (by omega); exact hR
              rw [e9] at hW
              exact ih h (j + 1) (by omega) (by omega) hW hF H locs hM hS ls (lv_sub hl [0, 3, 4, 5, 6] rfl)
            · -- 37 f
              have c_11 : ¬ k ≤ 0 := fun q => c_11 ((nI_leI (by omega) (by decide)).mpr q)
              obtain ⟨k9, hk0⟩ : ∃ t, k = t + 1 := ⟨k - 1, by omega⟩
              subst hk0
              refine lv_aload_n hx hb dX6_halves_40 rfl (lv_at hl 4 rfl) ?_
              refine m_get Z C hM hW.o K_X6 9 (by decide) fl_X6_29 (v := .ref (q 9)) rfl dX6_halves_41 ?_
              refine lv_bipush (v := nI 8) hx hb dX6_halves_44 (by decide) ?_
              refine lv_iload_n hx hb dX6_halves_46 rfl (lv_at hl 3 rfl) ?_
              refine n_imul hx hb dX6_halves_47 ?_
              refine lv_iload hx hb dX6_halves_48 (lv_at hl 0 rfl) ?_
              refine n_iadd hx hb dX6_halves_50 ?_
              refine lv_iconst (v := nI 1) hx hb dX6_halves_51 (by decide) ?_
              refine n_isub hx hb (by omega) dX6_halves_52 ?_
              refine m_iald Z C hM (f := F) hW.a9 (8 * (6 * z + y) + k9) rfl (by omega) (by decide) dX6_halves_53 ?_
              refine lv_iload hx hb dX6_halves_54 (lv_at hl 1 rfl) ?_
              refine lv_icmp_le (tgt := 91) hx hb dX6_halves_56 (by decide) (fun c_12 => ?_) (fun c_12 => ?_)
              · -- 56 t
                refine lv_aload_n hx hb dX6_halves_91 rfl (lv_at hl 4 rfl) ?_
                refine m_get Z C hM hW.o K_X6 9 (by decide) fl_X6_29 (v := .ref (q 9)) rfl dX6_halves_92 ?_
                refine lv_bipush (v := nI 8) hx hb dX6_halves_95 (by decide) ?_
                refine lv_iload_n hx hb dX6_halves_97 rfl (lv_at hl 3 rfl) ?_
                refine n_imul hx hb dX6_halves_98 ?_
                refine lv_iload hx hb dX6_halves_99 (lv_at hl 0 rfl) ?_
                refine n_iadd hx hb dX6_halves_101 ?_
                refine lv_iload hx hb dX6_halves_102 (lv_at hl 1 rfl) ?_
                refine m_iast Z C hM hS hW.a9 (x := ((z_so (st_sk st) (8 * (6 * z + y)) j)) (8 * (6 * z + y) + j + 1)) (8 * (6 * z + y) + k9 + 1) rfl (by omega) (by decide) dX6_halves_104 (fun H locs hM hS => ?_)
                obtain ⟨h, hM, hW, hF⟩ : ∃ h9, MW G s0.heap.size h9 H ∧ MdlW G h9 m q (sM (st_thr st) (st_many st) (st_now st) (st_nm st) (st_ho st) (st_n st) (st_V st) (st_bd st) (st_T st) (va_up F (8 * (6 * z + y) + k9 + 1) (((z_so (st_sk st) (8 * (6 * z + y)) j)) (8 * (6 * z + y) + j + 1))) (st_sz st) (st_hv st) (st_ha st) (st_li st) (st_wa st) (st_on st) (st_si st)) ∧ mFr h0 h9 m q := ⟨_, hM, hW.u9 (8 * (6 * z + y) + k9 + 1) (((z_so (st_sk st) (8 * (6 * z + y)) j)) (8 * (6 * z + y) + j + 1)), hF.a 9 _ (by decide) (by decide)⟩
                refine lv_iinc (v := nI (j + 1 + 1)) (lv' := [(4, .int (nI (j + 1 + 1))), (6, .int (nI (k9 + 1))), (5, .int (((z_so (st_sk st) (8 * (6 * z + y)) j)) (8 * (6 * z + y) + j + 1))), (3, .int (nI (6 * z + y))), (0, .ref m), (1, .int (nI z)), (2, .int (nI y))]) hx hb dX6_halves_105 hl (k := 2) rfl (nI_add _ _) (by decide) rfl (fun ls hl => ?_)
                refine lv_goto (tgt := 10) hx hb dX6_halves_108 (by decide) ?_
                have e9 : va_up F (8 * (6 * z + y) + k9 + 1) (((z_so (st_sk st) (8 * (6 * z + y)) j)) (8 * (6 * z + y) + j + 1)) = z_so (st_sk st) (8 * (6 * z + y)) (j + 1) := by exact (z_ins_f (i_len c_12)).symm.trans hR
                rw [e9] at hW
                exact ih h (j + 1) (by omega) (by omega) hW hF H locs hM hS ls (lv_sub hl [0, 3, 4, 5, 6] rfl)
              · -- 56 f
                refine lv_aload_n hx hb dX6_halves_59 rfl (lv_at hl 4 rfl) ?_
                refine m_get Z C hM hW.o K_X6 9 (by decide) fl_X6_29 (v := .ref (q 9)) rfl dX6_halves_60 ?_
                refine lv_bipush (v := nI 8) hx hb dX6_halves_63 (by decide) ?_
                refine lv_iload_n hx hb dX6_halves_65 rfl (lv_at hl 3 rfl) ?_
                refine n_imul hx hb dX6_halves_66 ?_
                refine lv_iload hx hb dX6_halves_67 (lv_at hl 0 rfl) ?_
                refine n_iadd hx hb dX6_halves_69 ?_
                refine lv_aload_n hx hb dX6_halves_70 rfl (lv_at hl 4 rfl) ?_
                refine m_get Z C hM hW.o K_X6 9 (by decide) fl_X6_29 (v := .ref (q 9)) rfl dX6_halves_71 ?_
                refine lv_bipush (v := nI 8) hx hb dX6_halves_74 (by decide) ?_
                refine lv_iload_n hx hb dX6_halves_76 rfl (lv_at hl 3 rfl) ?_
                refine n_imul hx hb dX6_halves_77 ?_
                refine lv_iload hx hb dX6_halves_78 (lv_at hl 0 rfl) ?_
                refine n_iadd hx hb dX6_halves_80 ?_
                refine lv_iconst (v := nI 1) hx hb dX6_halves_81 (by decide) ?_
                refine n_isub hx hb (by omega) dX6_halves_82 ?_
                refine m_iald Z C hM (f := F) hW.a9 (8 * (6 * z + y) + k9) rfl (by omega) (by decide) dX6_halves_83 ?_
                refine m_iast Z C hM hS hW.a9 (x := F (8 * (6 * z + y) + k9)) (8 * (6 * z + y) + k9 + 1) rfl (by omega) (by decide) dX6_halves_84 (fun H locs hM hS => ?_)
                obtain ⟨h, hM, hW, hF⟩ : ∃ h9, MW G s0.heap.size h9 H ∧ MdlW G h9 m q (sM (st_thr st) (st_many st) (st_now st) (st_nm st) (st_ho st) (st_n st) (st_V st) (st_bd st) (st_T st) (va_up F (8 * (6 * z + y) + k9 + 1) (F (8 * (6 * z + y) + k9))) (st_sz st) (st_hv st) (st_ha st) (st_li st) (st_wa st) (st_on st) (st_si st)) ∧ mFr h0 h9 m q := ⟨_, hM, hW.u9 (8 * (6 * z + y) + k9 + 1) (F (8 * (6 * z + y) + k9)), hF.a 9 _ (by decide) (by decide)⟩
                refine lv_iinc (v := nI k9) (lv' := [(6, .int (nI k9)), (5, .int (((z_so (st_sk st) (8 * (6 * z + y)) j)) (8 * (6 * z + y) + j + 1))), (4, .int (nI (j + 1))), (3, .int (nI (6 * z + y))), (0, .ref m), (1, .int (nI z)), (2, .int (nI y))]) hx hb dX6_halves_85 hl (k := 0) rfl (pk_m1 _) (by decide) rfl (fun ls hl => ?_)
                refine lv_goto (tgt := 35) hx hb dX6_halves_88 (by decide) ?_
                exact ih2 h (va_up F (8 * (6 * z + y) + k9 + 1) (F (8 * (6 * z + y) + k9))) k9 (by omega) (by omega) ((z_ins_t (i_nle c_12)).symm.trans hR) hW hF H locs hM hS ls (lv_sub hl [0, 1, 2, 3, 4, 5, 6] rfl)
        exact lp_10 (j + 2) h (z_so (st_sk st) (8 * (6 * z + y)) j) (j + 1) (by omega) (Nat.le_refl _) rfl hW hF H locs hM hS ls (lv_sub hl [0, 1, 2, 3, 4, 5, 6] rfl)
  exact lp_1 9 h 0 (by omega) (by omega) hW hF H locs hM hS ls (lv_sub hl [0, 1, 2, 3, 4] rfl)
