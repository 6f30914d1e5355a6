set_option maxRecDepth 100000 in
set_option maxHeartbeats 4000000 in
theorem law_case_0 {p : Program} {l : Launch} {e : Env} {s : State} {mt : MethodId} {below : List Frame} {meth : Method} {c : Code} {H : Heap} {locs : List Loc} {cells slots : Nat} {Q : State → Prop} {ls : Array Slot} {G : mG} {h : Hp} {b L i : Nat} {xs : Nat → Int32} {x m : Nat} {q : Nat → Nat} {o o2 : Nat} {f : Nat → Int64} {g : Nat → UInt64} {st : Ms} {nm9 : String} (Z : mZ l G #[.ref b] s) (No : mNo s) (C : mC s p s mt meth c cL_law 9 RL (some .boolean) nm9) (hX : va_X b L xs s s.heap) (hbl : b < s.heap.size) (hL : L ≤ 3072) (hi : i + 6 ≤ L) (hJ : LJ G h x m q o o2 f g st st) (hk : Iv st) (hnow : st_now st + 600 < 1073741824) (hM : MW G s.heap.size h H) (hS : va_S (fun q => s.heap.size ≤ q) s.heap H locs) (hl : lv_has ls 9 [(5, .int (nI i)), (4, .ref o2), (3, .ref o), (2, .ref m), (1, .ref x), (0, .ref b)]) (hc : cells + 20 ≤ 603072 ∧ slots + 500 ≤ 7223402) (kk : ∀ (st2 : Ms) (f2 : Nat → Int64) (g2 : Nat → UInt64) (h2 : Hp) (H2 : Heap) (locs2 : List Loc) (ls2 : Array Slot), LJ G h2 x m q o o2 f2 g2 st2 st2 → Iv st2 → st_now st2 ≤ st_now st + 600 → MW G s.heap.size h2 H2 → va_S (fun q => s.heap.size ≤ q) s.heap H2 locs2 → lv_has ls2 9 [(5, .int (nI i)), (4, .ref o2), (3, .ref o), (2, .ref m), (1, .ref x), (0, .ref b)] → W p l e room_1 s mt #[.ref b] below meth c H2 locs2 (cells + 20) (slots + 500) Q (F0 mt 2972 ls2 [])) : W p l e room_1 s mt #[.ref b] below meth c H locs cells slots Q (F0 mt 208 ls []) := by
  have hx := C.1
  have hb := C.2.1
  have hown := C.2.2.2.1
  have hE := C.2.2.2.2.2.2.1
  have hL9 : L < 2 ^ 31 := by omega
  have hbA : ¬ (fun q : Nat => s.heap.size ≤ q) b := Nat.not_le.mpr hbl
  refine lv_aload_n hx hb dL_law_208 rfl (lv_at hl 4 rfl) ?_
  refine m_scr (k := 1) hx hb hX hbl hbA hS hL9 (by omega) (lv_at hl 5 rfl) (lv_at hl 0 rfl) dL_law_209 dL_law_210 dL_law_212 (by decide) dL_law_213 dL_law_214 ?_
  refine m_scr (k := 2) hx hb hX hbl hbA hS hL9 (by omega) (lv_at hl 5 rfl) (lv_at hl 0 rfl) dL_law_215 dL_law_216 dL_law_218 (by decide) dL_law_219 dL_law_220 ?_
  refine lv_aload_n hx hb dL_law_221 rfl (lv_at hl 2 rfl) ?_
  refine m_callH Z C hM hS (As := [.ref x, .int (xs (i + 1)), .int (xs (i + 2)), .ref o]) (rest := []) (c_L_open Z No h x m q o o2 f g st hJ hk (xs (i + 1)) (xs (i + 2))) yi_L_open ml_L_130 ⟨Nat.le_of_ble_eq_true rfl, Nat.le_of_ble_eq_true rfl⟩ (Nat.le_of_ble_eq_true rfl) hl.1 rfl rfl dL_law_222 ⟨(by show cells + 15 ≤ 603072; omega), (by show slots + 449 ≤ 7223402; omega)⟩ (fun v h1 H locs hv hM hS => ?_)
  obtain ⟨hv, f9, hJ1, hz1⟩ := hv
  subst hv
  refine W.eq (g2 := F0 mt 225 ls [.int (st_thr (T_open st (xs (i + 1)) (xs (i + 2))).1)]) rfl ?_
  refine lv_istore (lv' := [(6, .int (st_thr (T_open st (xs (i + 1)) (xs (i + 2))).1)), (5, .int (nI i)), (4, .ref o2), (3, .ref o), (2, .ref m), (1, .ref x), (0, .ref b)]) hx hb dL_law_225 hl (by decide) rfl (fun ls hl => ?_)
  refine lv_aload_n hx hb dL_law_227 rfl (lv_at hl 4 rfl) ?_
  refine m_scr (k := 1) hx hb hX hbl hbA hS hL9 (by omega) (lv_at hl 6 rfl) (lv_at hl 1 rfl) dL_law_228 dL_law_229 dL_law_231 (by decide) dL_law_232 dL_law_233 ?_
  refine m_scr (k := 2) hx hb hX hbl hbA hS hL9 (by omega) (lv_at hl 6 rfl) (lv_at hl 1 rfl) dL_law_234 dL_law_235 dL_law_237 (by decide) dL_law_238 dL_law_239 ?_
  refine m_callV Z C hM hS (As := [.int (xs (i + 1)), .int (xs (i + 2))]) (rest := []) (d_X6_open Z h1 x m q o o2 f9 g (T_open st (xs (i + 1)) (xs (i + 2))).1 st hJ1 hk (xs (i + 1)) (xs (i + 2))) yi_X6_open ml_L_135 hJ1.mdl.o rfl ⟨Nat.le_of_ble_eq_true rfl, Nat.le_of_ble_eq_true rfl⟩ (Nat.le_of_ble_eq_true rfl) hl.1 rfl rfl dL_law_240 ⟨(by show cells + 15 + 0 ≤ 603072; omega), (by show slots + 449 + 0 ≤ 7223402; omega)⟩ (fun v h2 H locs hv hM hS => ?_)
  obtain ⟨w, hv, hJ2, hz2⟩ := hv
  subst hv
  refine W.eq (g2 := F0 mt 243 ls [.int w]) rfl ?_
  refine lv_istore (lv' := [(7, .int w), (6, .int (st_thr (T_open st (xs (i + 1)) (xs (i + 2))).1)), (5, .int (nI i)), (4, .ref o2), (3, .ref o), (2, .ref m), (1, .ref x), (0, .ref b)]) hx hb dL_law_243 hl (by decide) rfl (fun ls hl => ?_)
  refine lv_aload_n hx hb dL_law_245 rfl (lv_at hl 5 rfl) ?_
  refine m_callV Z C hM hS (As := []) (rest := []) (c_X6_thrown Z h2 m q (T_open st (xs (i + 1)) (xs (i + 2))).1 hJ2.mdl) yi_X6_thrown ml_L_136 hJ2.mdl.o rfl ⟨Nat.le_of_ble_eq_true rfl, Nat.le_of_ble_eq_true rfl⟩ (Nat.le_of_ble_eq_true rfl) hl.1 rfl rfl dL_law_246 ⟨(by show cells + 15 + 0 + 0 ≤ 603072; omega), (by show slots + 449 + 0 + 0 ≤ 7223402; omega)⟩ (fun v h3 H locs hv hM hS => ?_)
  obtain ⟨hv, hh3⟩ := hv
  subst hv
  rw [hh3] at hM
  refine W.eq (g2 := F0 mt 249 ls [.int (st_thr (T_open st (xs (i + 1)) (xs (i + 2))).1)]) rfl ?_
  refine lv_iload hx hb dL_law_249 (lv_at hl 1 rfl) ?_
  refine lv_icmp_eq (tgt := 256) hx hb dL_law_251 (by decide) (fun _ => ?_) (fun z9 => absurd rfl z9)
  refine lv_iload hx hb dL_law_256 (lv_at hl 1 rfl) ?_
  refine lv_if_ne (tgt := 273) hx hb dL_law_258 (by decide) (fun _ => ?_) (fun z9 => ?_)
  · -- thrown
    refine lv_goto (tgt := 2972) hx hb dL_law_273 (by decide) ?_
    exact W.widen (k := cells + 20) (n := slots + 500) (by omega) (by omega) (kk _ _ _ _ _ _ _ hJ2 (IvT_open hk hnow (xs (i + 1)) (xs (i + 2))) (nwT_open (xs (i + 1)) (xs (i + 2))) hM hS (lv_sub hl [2, 3, 4, 5, 6, 7] rfl))
  · -- answered
    refine lv_aload_n hx hb dL_law_261 rfl (lv_at hl 4 rfl) ?_
    refine lv_iconst (v := nI 0) hx hb dL_law_262 (by decide) ?_
    refine m_lald Z C hM hJ2.oo 0 rfl (by decide) (by decide) dL_law_263 ?_
    refine lv_iload hx hb dL_law_264 (lv_at hl 0 rfl) ?_
    refine lv_i2l hx hb dL_law_266 rfl ?_
    have e9 : f9 0 = w.toInt64 := (hz1 z9).trans (hz2 z9).symm
    refine W.lcmp hx hb dL_law_267 ?_
    refine n_lc_eq (tgt := 273) hx hb dL_law_268 (by decide) (fun _ => ?_) (fun z => absurd e9 z)
    refine lv_goto (tgt := 2972) hx hb dL_law_273 (by decide) ?_
    exact W.widen (k := cells + 20) (n := slots + 500) (by omega) (by omega) (kk _ _ _ _ _ _ _ hJ2 (IvT_open hk hnow (xs (i + 1)) (xs (i + 2))) (nwT_open (xs (i + 1)) (xs (i + 2))) hM hS (lv_sub hl [2, 3, 4, 5, 6, 7] rfl))
set_option maxRecDepth 100000 in
set_option maxHeartbeats 4000000 in
theorem law_case_1 {p : Program} {l : Launch} {e : Env} {s : State} {mt : MethodId} {below : List Frame} {meth : Method} {c : Code} {H : Heap} {locs : List Loc} {cells slots : Nat} {Q : State → Prop} {ls : Array Slot} {G : mG} {h : Hp} {b L i : Nat} {xs : Nat → Int32} {x m : Nat} {q : Nat → Nat} {o o2 : Nat} {f : Nat → Int64} {g : Nat → UInt64} {st : Ms} {nm9 : String} (Z : mZ l G #[.ref b] s) (No : mNo s) (C : mC s p s mt meth c cL_law 9 RL (some .boolean) nm9) (hX : va_X b L xs s s.heap) (hbl : b < s.heap.size) (hL : L ≤ 3072) (hi : i + 6 ≤ L) (hJ : LJ G h x m q o o2 f g st st) (hk : Iv st) (hnow : st_now st + 600 < 1073741824) (hM : MW G s.heap.size h H) (hS : va_S (fun q => s.heap.size ≤ q) s.heap H locs) (hl : lv_has ls 9 [(5, .int (nI i)), (4, .ref o2), (3, .ref o), (2, .ref m), (1, .ref x), (0, .ref b)]) (hc : cells + 20 ≤ 603072 ∧ slots + 500 ≤ 7223402) (kk : ∀ (st2 : Ms) (f2 : Nat → Int64) (g2 : Nat → UInt64) (h2 : Hp) (H2 : Heap) (locs2 : List Loc) (ls2 : Array Slot), LJ G h2 x m q o o2 f2 g2 st2 st2 → Iv st2 → st_now st2 ≤ st_now st + 600 → MW G s.heap.size h2 H2 → va_S (fun q => s.heap.size ≤ q) s.heap H2 locs2 → lv_has ls2 9 [(5, .int (nI i)), (4, .ref o2), (3, .ref o), (2, .ref m), (1, .ref x), (0, .ref b)] → W p l e room_1 s mt #[.ref b] below meth c H2 locs2 (cells + 20) (slots + 500) Q (F0 mt 2972 ls2 [])) : W p l e room_1 s mt #[.ref b] below meth c H locs cells slots Q (F0 mt 276 ls []) := by
  have hx := C.1
  have hb := C.2.1
  have hown := C.2.2.2.1
  have hE := C.2.2.2.2.2.2.1
  have hL9 : L < 2 ^ 31 := by omega
  have hbA : ¬ (fun q : Nat => s.heap.size ≤ q) b := Nat.not_le.mpr hbl
  refine lv_aload_n hx hb dL_law_276 rfl (lv_at hl 4 rfl) ?_
  refine m_scr (k := 1) hx hb hX hbl hbA hS hL9 (by omega) (lv_at hl 5 rfl) (lv_at hl 0 rfl) dL_law_277 dL_law_278 dL_law_280 (by decide) dL_law_281 dL_law_282 ?_
  refine lv_aload_n hx hb dL_law_283 rfl (lv_at hl 2 rfl) ?_
  refine m_callH Z C hM hS (As := [.ref x, .int (xs (i + 1)), .ref o]) (rest := []) (c_L_pass Z No h x m q o o2 f g st hJ hk (xs (i + 1))) yi_L_pass ml_L_140 ⟨Nat.le_of_ble_eq_true rfl, Nat.le_of_ble_eq_true rfl⟩ (Nat.le_of_ble_eq_true rfl) hl.1 rfl rfl dL_law_284 ⟨(by show cells + 1 ≤ 603072; omega), (by show slots + 6 ≤ 7223402; omega)⟩ (fun v h1 H locs hv hM hS => ?_)
  obtain ⟨hv, f9, hJ1, hz1⟩ := hv
  subst hv
  refine W.eq (g2 := F0 mt 287 ls [.int (st_thr (T_pass st (xs (i + 1))).1)]) rfl ?_
  refine lv_istore (lv' := [(6, .int (st_thr (T_pass st (xs (i + 1))).1)), (5, .int (nI i)), (4, .ref o2), (3, .ref o), (2, .ref m), (1, .ref x), (0, .ref b)]) hx hb dL_law_287 hl (by decide) rfl (fun ls hl => ?_)
  refine lv_aload_n hx hb dL_law_289 rfl (lv_at hl 4 rfl) ?_
  refine m_scr (k := 1) hx hb hX hbl hbA hS hL9 (by omega) (lv_at hl 6 rfl) (lv_at hl 1 rfl) dL_law_290 dL_law_291 dL_law_293 (by decide) dL_law_294 dL_law_295 ?_
  refine m_callV Z C hM hS (As := [.int (xs (i + 1))]) (rest := []) (d_X6_pass Z h1 x m q o o2 f9 g (T_pass st (xs (i + 1))).1 st hJ1 hk (xs (i + 1))) yi_X6_pass ml_L_143 hJ1.mdl.o rfl ⟨Nat.le_of_ble_eq_true rfl, Nat.le_of_ble_eq_true rfl⟩ (Nat.le_of_ble_eq_true rfl) hl.1 rfl rfl dL_law_296 ⟨(by show cells + 1 + 0 ≤ 603072; omega), (by show slots + 6 + 0 ≤ 7223402; omega)⟩ (fun v h2 H locs hv hM hS => ?_)
  obtain ⟨w, hv, hJ2, hz2⟩ := hv
  subst hv
  refine W.eq (g2 := F0 mt 299 ls [.long w]) rfl ?_
  refine lv_lstore (lv' := [(7, .long w), (6, .int (st_thr (T_pass st (xs (i + 1))).1)), (5, .int (nI i)), (4, .ref o2), (3, .ref o), (2, .ref m), (1, .ref x), (0, .ref b)]) hx hb dL_law_299 hl (by decide) rfl (fun ls hl => ?_)
  refine lv_aload_n hx hb dL_law_301 rfl (lv_at hl 5 rfl) ?_
  refine m_callV Z C hM hS (As := []) (rest := []) (c_X6_thrown Z h2 m q (T_pass st (xs (i + 1))).1 hJ2.mdl) yi_X6_thrown ml_L_136 hJ2.mdl.o rfl ⟨Nat.le_of_ble_eq_true rfl, Nat.le_of_ble_eq_true rfl⟩ (Nat.le_of_ble_eq_true rfl) hl.1 rfl rfl dL_law_302 ⟨(by show cells + 1 + 0 + 0 ≤ 603072; omega), (by show slots + 6 + 0 + 0 ≤ 7223402; omega)⟩ (fun v h3 H locs hv hM hS => ?_)
  obtain ⟨hv, hh3⟩ := hv
  subst hv
  rw [hh3] at hM
  refine W.eq (g2 := F0 mt 305 ls [.int (st_thr (T_pass st (xs (i + 1))).1)]) rfl ?_
  refine lv_iload hx hb dL_law_305 (lv_at hl 1 rfl) ?_
  refine lv_icmp_eq (tgt := 312) hx hb dL_law_307 (by decide) (fun _ => ?_) (fun z9 => absurd rfl z9)
  refine lv_iload hx hb dL_law_312 (lv_at hl 1 rfl) ?_
  refine lv_if_ne (tgt := 328) hx hb dL_law_314 (by decide) (fun _ => ?_) (fun z9 => ?_)
  · -- thrown
    refine lv_goto (tgt := 2972) hx hb dL_law_328 (by decide) ?_
    exact W.widen (k := cells + 20) (n := slots + 500) (by omega) (by omega) (kk _ _ _ _ _ _ _ hJ2 (IvT_pass hk hnow (xs (i + 1))) (nwT_pass (xs (i + 1))) hM hS (lv_sub hl [2, 3, 4, 5, 6, 7] rfl))
  · -- answered
    refine lv_aload_n hx hb dL_law_317 rfl (lv_at hl 4 rfl) ?_
    refine lv_iconst (v := nI 0) hx hb dL_law_318 (by decide) ?_
    refine m_lald Z C hM hJ2.oo 0 rfl (by decide) (by decide) dL_law_319 ?_
    refine lv_lload hx hb dL_law_320 (lv_at hl 0 rfl) ?_
    have e9 : f9 0 = w := (hz1 z9).trans (hz2 z9).symm
    refine W.lcmp hx hb dL_law_322 ?_
    refine n_lc_eq (tgt := 328) hx hb dL_law_323 (by decide) (fun _ => ?_) (fun z => absurd e9 z)
    refine lv_goto (tgt := 2972) hx hb dL_law_328 (by decide) ?_
    exact W.widen (k := cells + 20) (n := slots + 500) (by omega) (by omega) (kk _ _ _ _ _ _ _ hJ2 (IvT_pass hk hnow (xs (i + 1))) (nwT_pass (xs (i + 1))) hM hS (lv_sub hl [2, 3, 4, 5, 6, 7] rfl))
set_option maxRecDepth 100000 in
set_option maxHeartbeats 4000000 in
theorem law_case_2 {p : Program} {l : Launch} {e : Env} {s : State} {mt : MethodId} {below : List Frame} {meth : Method} {c : Code} {H : Heap} {locs : List Loc} {cells slots : Nat} {Q : State → Prop} {ls : Array Slot} {G : mG} {h : Hp} {b L i : Nat} {xs : Nat → Int32} {x m : Nat} {q : Nat → Nat} {o o2 : Nat} {f : Nat → Int64} {g : Nat → UInt64} {st : Ms} {nm9 : String} (Z : mZ l G #[.ref b] s) (No : mNo s) (C : mC s p s mt meth c cL_law 9 RL (some .boolean) nm9) (hX : va_X b L xs s s.heap) (hbl : b < s.heap.size) (hL : L ≤ 3072) (hi : i + 6 ≤ L) (hJ : LJ G h x m q o o2 f g st st) (hk : Iv st) (hnow : st_now st + 600 < 1073741824) (hM : MW G s.heap.size h H) (hS : va_S (fun q => s.heap.size ≤ q) s.heap H locs) (hl : lv_has ls 9 [(5, .int (nI i)), (4, .ref o2), (3, .ref o), (2, .ref m), (1, .ref x), (0, .ref b)]) (hc : cells + 20 ≤ 603072 ∧ slots + 500 ≤ 7223402) (kk : ∀ (st2 : Ms) (f2 : Nat → Int64) (g2 : Nat → UInt64) (h2 : Hp) (H2 : Heap) (locs2 : List Loc) (ls2 : Array Slot), LJ G h2 x m q o o2 f2 g2 st2 st2 → Iv st2 → st_now st2 ≤ st_now st + 600 → MW G s.heap.size h2 H2 → va_S (fun q => s.heap.size ≤ q) s.heap H2 locs2 → lv_has ls2 9 [(5, .int (nI i)), (4, .ref o2), (3, .ref o), (2, .ref m), (1, .ref x), (0, .ref b)] → W p l e room_1 s mt #[.ref b] below meth c H2 locs2 (cells + 20) (slots + 500) Q (F0 mt 2972 ls2 [])) : W p l e room_1 s mt #[.ref b] below meth c H locs cells slots Q (F0 mt 331 ls []) := by
  have hx := C.1
  have hb := C.2.1
  have hown := C.2.2.2.1
  have hE := C.2.2.2.2.2.2.1
  have hL9 : L < 2 ^ 31 := by omega
  have hbA : ¬ (fun q : Nat => s.heap.size ≤ q) b := Nat.not_le.mpr hbl
  refine lv_aload_n hx hb dL_law_331 rfl (lv_at hl 4 rfl) ?_
  refine m_scr (k := 1) hx hb hX hbl hbA hS hL9 (by omega) (lv_at hl 5 rfl) (lv_at hl 0 rfl) dL_law_332 dL_law_333 dL_law_335 (by decide) dL_law_336 dL_law_337 ?_
  refine m_scr (k := 2) hx hb hX hbl hbA hS hL9 (by omega) (lv_at hl 5 rfl) (lv_at hl 0 rfl) dL_law_338 dL_law_339 dL_law_341 (by decide) dL_law_342 dL_law_343 ?_
  refine lv_aload_n hx hb dL_law_344 rfl (lv_at hl 2 rfl) ?_
  refine m_callH Z C hM hS (As := [.ref x, .int (xs (i + 1)), .int (xs (i + 2)), .ref o]) (rest := []) (c_L_add Z No h x m q o o2 f g st hJ hk (xs (i + 1)) (xs (i + 2))) yi_L_add ml_L_144 ⟨Nat.le_of_ble_eq_true rfl, Nat.le_of_ble_eq_true rfl⟩ (Nat.le_of_ble_eq_true rfl) hl.1 rfl rfl dL_law_345 ⟨(by show cells + 5 ≤ 603072; omega), (by show slots + 37 ≤ 7223402; omega)⟩ (fun v h1 H locs hv hM hS => ?_)
  obtain ⟨hv, f9, hJ1, hz1⟩ := hv
  subst hv
  refine W.eq (g2 := F0 mt 348 ls [.int (st_thr (T_add st (xs (i + 1)) (xs (i + 2))).1)]) rfl ?_
  refine lv_istore (lv' := [(6, .int (st_thr (T_add st (xs (i + 1)) (xs (i + 2))).1)), (5, .int (nI i)), (4, .ref o2), (3, .ref o), (2, .ref m), (1, .ref x), (0, .ref b)]) hx hb dL_law_348 hl (by decide) rfl (fun ls hl => ?_)
  refine lv_aload_n hx hb dL_law_350 rfl (lv_at hl 4 rfl) ?_
  refine m_scr (k := 1) hx hb hX hbl hbA hS hL9 (by omega) (lv_at hl 6 rfl) (lv_at hl 1 rfl) dL_law_351 dL_law_352 dL_law_354 (by decide) dL_law_355 dL_law_356 ?_
  refine m_scr (k := 2) hx hb hX hbl hbA hS hL9 (by omega) (lv_at hl 6 rfl) (lv_at hl 1 rfl) dL_law_357 dL_law_358 dL_law_360 (by decide) dL_law_361 dL_law_362 ?_
  refine m_callV Z C hM hS (As := [.int (xs (i + 1)), .int (xs (i + 2))]) (rest := []) (d_X6_add Z h1 x m q o o2 f9 g (T_add st (xs (i + 1)) (xs (i + 2))).1 st hJ1 hk (xs (i + 1)) (xs (i + 2))) yi_X6_add ml_L_146 hJ1.mdl.o rfl ⟨Nat.le_of_ble_eq_true rfl, Nat.le_of_ble_eq_true rfl⟩ (Nat.le_of_ble_eq_true rfl) hl.1 rfl rfl dL_law_363 ⟨(by show cells + 5 + 0 ≤ 603072; omega), (by show slots + 37 + 0 ≤ 7223402; omega)⟩ (fun v h2 H locs hv hM hS => ?_)
  obtain ⟨w, hv, hJ2, hz2⟩ := hv
  subst hv
  refine W.eq (g2 := F0 mt 366 ls [.int w]) rfl ?_
  refine lv_istore (lv' := [(7, .int w), (6, .int (st_thr (T_add st (xs (i + 1)) (xs (i + 2))).1)), (5, .int (nI i)), (4, .ref o2), (3, .ref o), (2, .ref m), (1, .ref x), (0, .ref b)]) hx hb dL_law_366 hl (by decide) rfl (fun ls hl => ?_)
  refine lv_aload_n hx hb dL_law_368 rfl (lv_at hl 5 rfl) ?_
  refine m_callV Z C hM hS (As := []) (rest := []) (c_X6_thrown Z h2 m q (T_add st (xs (i + 1)) (xs (i + 2))).1 hJ2.mdl) yi_X6_thrown ml_L_136 hJ2.mdl.o rfl ⟨Nat.le_of_ble_eq_true rfl, Nat.le_of_ble_eq_true rfl⟩ (Nat.le_of_ble_eq_true rfl) hl.1 rfl rfl dL_law_369 ⟨(by show cells + 5 + 0 + 0 ≤ 603072; omega), (by show slots + 37 + 0 + 0 ≤ 7223402; omega)⟩ (fun v h3 H locs hv hM hS => ?_)
  obtain ⟨hv, hh3⟩ := hv
  subst hv
  rw [hh3] at hM
  refine W.eq (g2 := F0 mt 372 ls [.int (st_thr (T_add st (xs (i + 1)) (xs (i + 2))).1)]) rfl ?_
  refine lv_iload hx hb dL_law_372 (lv_at hl 1 rfl) ?_
  refine lv_icmp_eq (tgt := 379) hx hb dL_law_374 (by decide) (fun _ => ?_) (fun z9 => absurd rfl z9)
  refine lv_iload hx hb dL_law_379 (lv_at hl 1 rfl) ?_
  refine lv_if_ne (tgt := 396) hx hb dL_law_381 (by decide) (fun _ => ?_) (fun z9 => ?_)
  · -- thrown
    refine lv_goto (tgt := 2972) hx hb dL_law_396 (by decide) ?_
    exact W.widen (k := cells + 20) (n := slots + 500) (by omega) (by omega) (kk _ _ _ _ _ _ _ hJ2 (IvT_add hk hnow (xs (i + 1)) (xs (i + 2))) (nwT_add (xs (i + 1)) (xs (i + 2))) hM hS (lv_sub hl [2, 3, 4, 5, 6, 7] rfl))
  · -- answered
    refine lv_aload_n hx hb dL_law_384 rfl (lv_at hl 4 rfl) ?_
    refine lv_iconst (v := nI 0) hx hb dL_law_385 (by decide) ?_
    refine m_lald Z C hM hJ2.oo 0 rfl (by decide) (by decide) dL_law_386 ?_
    refine lv_iload hx hb dL_law_387 (lv_at hl 0 rfl) ?_
    refine lv_i2l hx hb dL_law_389 rfl ?_
    have e9 : f9 0 = w.toInt64 := (hz1 z9).trans (hz2 z9).symm
    refine W.lcmp hx hb dL_law_390 ?_
    refine n_lc_eq (tgt := 396) hx hb dL_law_391 (by decide) (fun _ => ?_) (fun z => absurd e9 z)
    refine lv_goto (tgt := 2972) hx hb dL_law_396 (by decide) ?_
    exact W.widen (k := cells + 20) (n := slots + 500) (by omega) (by omega) (kk _ _ _ _ _ _ _ hJ2 (IvT_add hk hnow (xs (i + 1)) (xs (i + 2))) (nwT_add (xs (i + 1)) (xs (i + 2))) hM hS (lv_sub hl [2, 3, 4, 5, 6, 7] rfl))
set_option maxRecDepth 100000 in
set_option maxHeartbeats 4000000 in
theorem law_case_3 {p : Program} {l : Launch} {e : Env} {s : State} {mt : MethodId} {below : List Frame} {meth : Method} {c : Code} {H : Heap} {locs : List Loc} {cells slots : Nat} {Q : State → Prop} {ls : Array Slot} {G : mG} {h : Hp} {b L i : Nat} {xs : Nat → Int32} {x m : Nat} {q : Nat → Nat} {o o2 : Nat} {f : Nat → Int64} {g : Nat → UInt64} {st : Ms} {nm9 : String} (Z : mZ l G #[.ref b] s) (No : mNo s) (C : mC s p s mt meth c cL_law 9 RL (some .boolean) nm9) (hX : va_X b L xs s s.heap) (hbl : b < s.heap.size) (hL : L ≤ 3072) (hi : i + 6 ≤ L) (hJ : LJ G h x m q o o2 f g st st) (hk : Iv st) (hnow : st_now st + 600 < 1073741824) (hM : MW G s.heap.size h H) (hS : va_S (fun q => s.heap.size ≤ q) s.heap H locs) (hl : lv_has ls 9 [(5, .int (nI i)), (4, .ref o2), (3, .ref o), (2, .ref m), (1, .ref x), (0, .ref b)]) (hc : cells + 20 ≤ 603072 ∧ slots + 500 ≤ 7223402) (kk : ∀ (st2 : Ms) (f2 : Nat → Int64) (g2 : Nat → UInt64) (h2 : Hp) (H2 : Heap) (locs2 : List Loc) (ls2 : Array Slot), LJ G h2 x m q o o2 f2 g2 st2 st2 → Iv st2 → st_now st2 ≤ st_now st + 600 → MW G s.heap.size h2 H2 → va_S (fun q => s.heap.size ≤ q) s.heap H2 locs2 → lv_has ls2 9 [(5, .int (nI i)), (4, .ref o2), (3, .ref o), (2, .ref m), (1, .ref x), (0, .ref b)] → W p l e room_1 s mt #[.ref b] below meth c H2 locs2 (cells + 20) (slots + 500) Q (F0 mt 2972 ls2 [])) : W p l e room_1 s mt #[.ref b] below meth c H locs cells slots Q (F0 mt 399 ls []) := by
  have hx := C.1
  have hb := C.2.1
  have hown := C.2.2.2.1
  have hE := C.2.2.2.2.2.2.1
  have hL9 : L < 2 ^ 31 := by omega
  have hbA : ¬ (fun q : Nat => s.heap.size ≤ q) b := Nat.not_le.mpr hbl
  refine lv_aload_n hx hb dL_law_399 rfl (lv_at hl 4 rfl) ?_
  obtain ⟨fs9, hx9⟩ := hJ.xx
  refine m_callV Z C hM hS (As := []) (rest := []) (d_X5_time Z h x m q o o2 f g st hJ hk) yi_X5_time ml_L_147 hx9 rfl ⟨Nat.le_of_ble_eq_true rfl, Nat.le_of_ble_eq_true rfl⟩ (Nat.le_of_ble_eq_true rfl) hl.1 rfl rfl dL_law_400 ⟨(by show cells + 0 ≤ 603072; omega), (by show slots + 0 ≤ 7223402; omega)⟩ (fun v h1 H locs hv hM hS => ?_)
  obtain ⟨hv, hJ1⟩ := hv
  subst hv
  refine W.eq (g2 := F0 mt 403 ls [.long (lN (st_now st))]) rfl ?_
  refine lv_aload_n hx hb dL_law_403 rfl (lv_at hl 3 rfl) ?_
  refine m_callV Z C hM hS (As := []) (rest := [.long (lN (st_now st))]) (d_X6_time_ Z h1 x m q o o2 f g (s_thr st (nI 0)) st hJ1 hk) yi_X6_time_ ml_L_151 hJ1.mdl.o rfl ⟨Nat.le_of_ble_eq_true rfl, Nat.le_of_ble_eq_true rfl⟩ (Nat.le_of_ble_eq_true rfl) hl.1 rfl rfl dL_law_404 ⟨(by show cells + 0 + 0 ≤ 603072; omega), (by show slots + 0 + 0 ≤ 7223402; omega)⟩ (fun v h2 H locs hv hM hS => ?_)
  obtain ⟨hv, hJ2⟩ := hv
  subst hv
  refine W.eq (g2 := F0 mt 407 ls [.long (lN (st_now st)), .long (lN (st_now st))]) rfl ?_
  refine W.lcmp hx hb dL_law_407 ?_
  refine n_lc_eq (tgt := 2972) hx hb dL_law_408 (by decide) (fun _ => ?_) (fun z9 => absurd rfl z9)
  exact W.widen (k := cells + 20) (n := slots + 500) (by omega) (by omega) (kk _ _ _ _ _ _ _ hJ2 (Iv_thr hk _) (Nat.le_add_right _ _) hM hS (lv_sub hl [0, 1, 2, 3, 4, 5] rfl))
set_option maxRecDepth 100000 in
set_option maxHeartbeats 4000000 in
theorem law_case_4 {p : Program} {l : Launch} {e : Env} {s : State} {mt : MethodId} {below : List Frame} {meth : Method} {c : Code} {H : Heap} {locs : List Loc} {cells slots : Nat} {Q : State → Prop} {ls : Array Slot} {G : mG} {h : Hp} {b L i : Nat} {xs : Nat → Int32} {x m : Nat} {q : Nat → Nat} {o o2 : Nat} {f : Nat → Int64} {g : Nat → UInt64} {st : Ms} {nm9 : String} (Z : mZ l G #[.ref b] s) (No : mNo s) (C : mC s p s mt meth c cL_law 9 RL (some .boolean) nm9) (hX : va_X b L xs s s.heap) (hbl : b < s.heap.size) (hL : L ≤ 3072) (hi : i + 6 ≤ L) (hJ : LJ G h x m q o o2 f g st st) (hk : Iv st) (hnow : st_now st + 600 < 1073741824) (hM : MW G s.heap.size h H) (hS : va_S (fun q => s.heap.size ≤ q) s.heap H locs) (hl : lv_has ls 9 [(5, .int (nI i)), (4, .ref o2), (3, .ref o), (2, .ref m), (1, .ref x), (0, .ref b)]) (hc : cells + 20 ≤ 603072 ∧ slots + 500 ≤ 7223402) (kk : ∀ (st2 : Ms) (f2 : Nat → Int64) (g2 : Nat → UInt64) (h2 : Hp) (H2 : Heap) (locs2 : List Loc) (ls2 : Array Slot), LJ G h2 x m q o o2 f2 g2 st2 st2 → Iv st2 → st_now st2 ≤ st_now st + 600 → MW G s.heap.size h2 H2 → va_S (fun q => s.heap.size ≤ q) s.heap H2 locs2 → lv_has ls2 9 [(5, .int (nI i)), (4, .ref o2), (3, .ref o), (2, .ref m), (1, .ref x), (0, .ref b)] → W p l e room_1 s mt #[.ref b] below meth c H2 locs2 (cells + 20) (slots + 500) Q (F0 mt 2972 ls2 [])) : W p l e room_1 s mt #[.ref b] below meth c H locs cells slots Q (F0 mt 413 ls []) := by
  have hx := C.1
  have hb := C.2.1
  have hown := C.2.2.2.1
  have hE := C.2.2.2.2.2.2.1
  have hL9 : L < 2 ^ 31 := by omega
  have hbA : ¬ (fun q : Nat => s.heap.size ≤ q) b := Nat.not_le.mpr hbl
  refine lv_aload_n hx hb dL_law_413 rfl (lv_at hl 4 rfl) ?_
  obtain ⟨fs9, hx9⟩ := hJ.xx
  refine m_callV Z C hM hS (As := []) (rest := []) (d_X5_seriesCount Z h x m q o o2 f g st hJ hk) yi_X5_seriesCount ml_L_152 hx9 rfl ⟨Nat.le_of_ble_eq_true rfl, Nat.le_of_ble_eq_true rfl⟩ (Nat.le_of_ble_eq_true rfl) hl.1 rfl rfl dL_law_414 ⟨(by show cells + 0 ≤ 603072; omega), (by show slots + 0 ≤ 7223402; omega)⟩ (fun v h1 H locs hv hM hS => ?_)
  obtain ⟨hv, hJ1⟩ := hv
  subst hv
  refine W.eq (g2 := F0 mt 417 ls [.int (nI (st_many st))]) rfl ?_
  refine lv_aload_n hx hb dL_law_417 rfl (lv_at hl 3 rfl) ?_
  refine m_callV Z C hM hS (As := []) (rest := [.int (nI (st_many st))]) (d_X6_seriesCount Z h1 x m q o o2 f g (s_thr st (nI 0)) st hJ1 hk) yi_X6_seriesCount ml_L_155 hJ1.mdl.o rfl ⟨Nat.le_of_ble_eq_true rfl, Nat.le_of_ble_eq_true rfl⟩ (Nat.le_of_ble_eq_true rfl) hl.1 rfl rfl dL_law_418 ⟨(by show cells + 0 + 0 ≤ 603072; omega), (by show slots + 0 + 0 ≤ 7223402; omega)⟩ (fun v h2 H locs hv hM hS => ?_)
  obtain ⟨hv, hJ2⟩ := hv
  subst hv
  refine W.eq (g2 := F0 mt 421 ls [.int (nI (st_many st)), .int (nI (st_many st))]) rfl ?_
  refine lv_icmp_eq (tgt := 2972) hx hb dL_law_421 (by decide) (fun _ => ?_) (fun z9 => absurd rfl z9)
  exact W.widen (k := cells + 20) (n := slots + 500) (by omega) (by omega) (kk _ _ _ _ _ _ _ hJ2 (Iv_thr hk _) (Nat.le_add_right _ _) hM hS (lv_sub hl [0, 1, 2, 3, 4, 5] rfl))
set_option maxRecDepth 100000 in
set_option maxHeartbeats 4000000 in
theorem law_case_5 {p : Program} {l : Launch} {e : Env} {s : State} {mt : MethodId} {below : List Frame} {meth : Method} {c : Code} {H : Heap} {locs : List Loc} {cells slots : Nat} {Q : State → Prop} {ls : Array Slot} {G : mG} {h : Hp} {b L i : Nat} {xs : Nat → Int32} {x m : Nat} {q : Nat → Nat} {o o2 : Nat} {f : Nat → Int64} {g : Nat → UInt64} {st : Ms} {nm9 : String} (Z : mZ l G #[.ref b] s) (No : mNo s) (C : mC s p s mt meth c cL_law 9 RL (some .boolean) nm9) (hX : va_X b L xs s s.heap) (hbl : b < s.heap.size) (hL : L ≤ 3072) (hi : i + 6 ≤ L) (hJ : LJ G h x m q o o2 f g st st) (hk : Iv st) (hnow : st_now st + 600 < 1073741824) (hM : MW G s.heap.size h H) (hS : va_S (fun q => s.heap.size ≤ q) s.heap H locs) (hl : lv_has ls 9 [(5, .int (nI i)), (4, .ref o2), (3, .ref o), (2, .ref m), (1, .ref x), (0, .ref b)]) (hc : cells + 20 ≤ 603072 ∧ slots + 500 ≤ 7223402) (kk : ∀ (st2 : Ms) (f2 : Nat → Int64) (g2 : Nat → UInt64) (h2 : Hp) (H2 : Heap) (locs2 : List Loc) (ls2 : Array Slot), LJ G h2 x m q o o2 f2 g2 st2 st2 → Iv st2 → st_now st2 ≤ st_now st + 600 → MW G s.heap.size h2 H2 → va_S (fun q => s.heap.size ≤ q) s.heap H2 locs2 → lv_has ls2 9 [(5, .int (nI i)), (4, .ref o2), (3, .ref o), (2, .ref m), (1, .ref x), (0, .ref b)] → W p l e room_1 s mt #[.ref b] below meth c H2 locs2 (cells + 20) (slots + 500) Q (F0 mt 2972 ls2 [])) : W p l e room_1 s mt #[.ref b] below meth c H locs cells slots Q (F0 mt 426 ls []) := by
  have hx := C.1
  have hb := C.2.1
  have hown := C.2.2.2.1
  have hE := C.2.2.2.2.2.2.1
  have hL9 : L < 2 ^ 31 := by omega
  have hbA : ¬ (fun q : Nat => s.heap.size ≤ q) b := Nat.not_le.mpr hbl
  refine lv_aload_n hx hb dL_law_426 rfl (lv_at hl 4 rfl) ?_
  refine m_scr (k := 1) hx hb hX hbl hbA hS hL9 (by omega) (lv_at hl 5 rfl) (lv_at hl 0 rfl) dL_law_427 dL_law_428 dL_law_430 (by decide) dL_law_431 dL_law_432 ?_
  refine m_scr (k := 2) hx hb hX hbl hbA hS hL9 (by omega) (lv_at hl 5 rfl) (lv_at hl 0 rfl) dL_law_433 dL_law_434 dL_law_436 (by decide) dL_law_437 dL_law_438 ?_
  refine lv_aload_n hx hb dL_law_439 rfl (lv_at hl 2 rfl) ?_
  refine m_callH Z C hM hS (As := [.ref x, .int (xs (i + 1)), .int (xs (i + 2)), .ref o]) (rest := []) (c_L_find Z No h x m q o o2 f g st hJ hk (xs (i + 1)) (xs (i + 2))) yi_L_find ml_L_156 ⟨Nat.le_of_ble_eq_true rfl, Nat.le_of_ble_eq_true rfl⟩ (Nat.le_of_ble_eq_true rfl) hl.1 rfl rfl dL_law_440 ⟨(by show cells + 1 ≤ 603072; omega), (by show slots + 6 ≤ 7223402; omega)⟩ (fun v h1 H locs hv hM hS => ?_)
  obtain ⟨hv, f9, hJ1, hz1⟩ := hv
  subst hv
  refine W.eq (g2 := F0 mt 443 ls [.int (st_thr (T_find st (xs (i + 1)) (xs (i + 2))).1)]) rfl ?_
  refine lv_istore (lv' := [(6, .int (st_thr (T_find st (xs (i + 1)) (xs (i + 2))).1)), (5, .int (nI i)), (4, .ref o2), (3, .ref o), (2, .ref m), (1, .ref x), (0, .ref b)]) hx hb dL_law_443 hl (by decide) rfl (fun ls hl => ?_)
  refine lv_aload_n hx hb dL_law_445 rfl (lv_at hl 4 rfl) ?_
  refine m_scr (k := 1) hx hb hX hbl hbA hS hL9 (by omega) (lv_at hl 6 rfl) (lv_at hl 1 rfl) dL_law_446 dL_law_447 dL_law_449 (by decide) dL_law_450 dL_law_451 ?_
  refine m_scr (k := 2) hx hb hX hbl hbA hS hL9 (by omega) (lv_at hl 6 rfl) (lv_at hl 1 rfl) dL_law_452 dL_law_453 dL_law_455 (by decide) dL_law_456 dL_law_457 ?_
  refine m_callV Z C hM hS (As := [.int (xs (i + 1)), .int (xs (i + 2))]) (rest := []) (d_X6_find Z h1 x m q o o2 f9 g (T_find st (xs (i + 1)) (xs (i + 2))).1 st hJ1 hk (xs (i + 1)) (xs (i + 2))) yi_X6_find ml_L_158 hJ1.mdl.o rfl ⟨Nat.le_of_ble_eq_true rfl, Nat.le_of_ble_eq_true rfl⟩ (Nat.le_of_ble_eq_true rfl) hl.1 rfl rfl dL_law_458 ⟨(by show cells + 1 + 0 ≤ 603072; omega), (by show slots + 6 + 0 ≤ 7223402; omega)⟩ (fun v h2 H locs hv hM hS => ?_)
  obtain ⟨w, hv, hJ2, hz2⟩ := hv
  subst hv
  refine W.eq (g2 := F0 mt 461 ls [.int w]) rfl ?_
  refine lv_istore (lv' := [(7, .int w), (6, .int (st_thr (T_find st (xs (i + 1)) (xs (i + 2))).1)), (5, .int (nI i)), (4, .ref o2), (3, .ref o), (2, .ref m), (1, .ref x), (0, .ref b)]) hx hb dL_law_461 hl (by decide) rfl (fun ls hl => ?_)
  refine lv_aload_n hx hb dL_law_463 rfl (lv_at hl 5 rfl) ?_
  refine m_callV Z C hM hS (As := []) (rest := []) (c_X6_thrown Z h2 m q (T_find st (xs (i + 1)) (xs (i + 2))).1 hJ2.mdl) yi_X6_thrown ml_L_136 hJ2.mdl.o rfl ⟨Nat.le_of_ble_eq_true rfl, Nat.le_of_ble_eq_true rfl⟩ (Nat.le_of_ble_eq_true rfl) hl.1 rfl rfl dL_law_464 ⟨(by show cells + 1 + 0 + 0 ≤ 603072; omega), (by show slots + 6 + 0 + 0 ≤ 7223402; omega)⟩ (fun v h3 H locs hv hM hS => ?_)
  obtain ⟨hv, hh3⟩ := hv
  subst hv
  rw [hh3] at hM
  refine W.eq (g2 := F0 mt 467 ls [.int (st_thr (T_find st (xs (i + 1)) (xs (i + 2))).1)]) rfl ?_
  refine lv_iload hx hb dL_law_467 (lv_at hl 1 rfl) ?_
  refine lv_icmp_eq (tgt := 474) hx hb dL_law_469 (by decide) (fun _ => ?_) (fun z9 => absurd rfl z9)
  refine lv_iload hx hb dL_law_474 (lv_at hl 1 rfl) ?_
  refine lv_if_ne (tgt := 491) hx hb dL_law_476 (by decide) (fun _ => ?_) (fun z9 => ?_)
  · -- thrown
    refine lv_goto (tgt := 2972) hx hb dL_law_491 (by decide) ?_
    exact W.widen (k := cells + 20) (n := slots + 500) (by omega) (by omega) (kk _ _ _ _ _ _ _ hJ2 (IvT_find hk hnow (xs (i + 1)) (xs (i + 2))) (nwT_find (xs (i + 1)) (xs (i + 2))) hM hS (lv_sub hl [2, 3, 4, 5, 6, 7] rfl))
  · -- answered
    refine lv_aload_n hx hb dL_law_479 rfl (lv_at hl 4 rfl) ?_
    refine lv_iconst (v := nI 0) hx hb dL_law_480 (by decide) ?_
    refine m_lald Z C hM hJ2.oo 0 rfl (by decide) (by decide) dL_law_481 ?_
    refine lv_iload hx hb dL_law_482 (lv_at hl 0 rfl) ?_
    refine lv_i2l hx hb dL_law_484 rfl ?_
    have e9 : f9 0 = w.toInt64 := (hz1 z9).trans (hz2 z9).symm
    refine W.lcmp hx hb dL_law_485 ?_
    refine n_lc_eq (tgt := 491) hx hb dL_law_486 (by decide) (fun _ => ?_) (fun z => absurd e9 z)
    refine lv_goto (tgt := 2972) hx hb dL_law_491 (by decide) ?_
    exact W.widen (k := cells + 20) (n := slots + 500) (by omega) (by omega) (kk _ _ _ _ _ _ _ hJ2 (IvT_find hk hnow (xs (i + 1)) (xs (i + 2))) (nwT_find (xs (i + 1)) (xs (i + 2))) hM hS (lv_sub hl [2, 3, 4, 5, 6, 7] rfl))
set_option maxRecDepth 100000 in
set_option maxHeartbeats 4000000 in
theorem law_case_6 {p : Program} {l : Launch} {e : Env} {s : State} {mt : MethodId} {below : List Frame} {meth : Method} {c : Code} {H : Heap} {locs : List Loc} {cells slots : Nat} {Q : State → Prop} {ls : Array Slot} {G : mG} {h : Hp} {b L i : Nat} {xs : Nat → Int32} {x m : Nat} {q : Nat → Nat} {o o2 : Nat} {f : Nat → Int64} {g : Nat → UInt64} {st : Ms} {nm9 : String} (Z : mZ l G #[.ref b] s) (No : mNo s) (C : mC s p s mt meth c cL_law 9 RL (some .boolean) nm9) (hX : va_X b L xs s s.heap) (hbl : b < s.heap.size) (hL : L ≤ 3072) (hi : i + 6 ≤ L) (hJ : LJ G h x m q o o2 f g st st) (hk : Iv st) (hnow : st_now st + 600 < 1073741824) (hM : MW G s.heap.size h H) (hS : va_S (fun q => s.heap.size ≤ q) s.heap H locs) (hl : lv_has ls 9 [(5, .int (nI i)), (4, .ref o2), (3, .ref o), (2, .ref m), (1, .ref x), (0, .ref b)]) (hc : cells + 20 ≤ 603072 ∧ slots + 500 ≤ 7223402) (kk : ∀ (st2 : Ms) (f2 : Nat → Int64) (g2 : Nat → UInt64) (h2 : Hp) (H2 : Heap) (locs2 : List Loc) (ls2 : Array Slot), LJ G h2 x m q o o2 f2 g2 st2 st2 → Iv st2 → st_now st2 ≤ st_now st + 600 → MW G s.heap.size h2 H2 → va_S (fun q => s.heap.size ≤ q) s.heap H2 locs2 → lv_has ls2 9 [(5, .int (nI i)), (4, .ref o2), (3, .ref o), (2, .ref m), (1, .ref x), (0, .ref b)] → W p l e room_1 s mt #[.ref b] below meth c H2 locs2 (cells + 20) (slots + 500) Q (F0 mt 2972 ls2 [])) : W p l e room_1 s mt #[.ref b] below meth c H locs cells slots Q (F0 mt 494 ls []) := by
  have hx := C.1
  have hb := C.2.1
  have hown := C.2.2.2.1
  have hE := C.2.2.2.2.2.2.1
  have hL9 : L < 2 ^ 31 := by omega
  have hbA : ¬ (fun q : Nat => s.heap.size ≤ q) b := Nat.not_le.mpr hbl
  refine lv_aload_n hx hb dL_law_494 rfl (lv_at hl 4 rfl) ?_
  refine m_scr (k := 1) hx hb hX hbl hbA hS hL9 (by omega) (lv_at hl 5 rfl) (lv_at hl 0 rfl) dL_law_495 dL_law_496 dL_law_498 (by decide) dL_law_499 dL_law_500 ?_
  refine lv_aload_n hx hb dL_law_501 rfl (lv_at hl 2 rfl) ?_
  refine m_callH Z C hM hS (As := [.ref x, .int (xs (i + 1)), .ref o]) (rest := []) (c_L_nameOf Z No h x m q o o2 f g st hJ hk (xs (i + 1))) yi_L_nameOf ml_L_159 ⟨Nat.le_of_ble_eq_true rfl, Nat.le_of_ble_eq_true rfl⟩ (Nat.le_of_ble_eq_true rfl) hl.1 rfl rfl dL_law_502 ⟨(by show cells + 1 ≤ 603072; omega), (by show slots + 6 ≤ 7223402; omega)⟩ (fun v h1 H locs hv hM hS => ?_)
  obtain ⟨hv, f9, hJ1, hz1⟩ := hv
  subst hv
  refine W.eq (g2 := F0 mt 505 ls [.int (st_thr (T_nameOf st (xs (i + 1))).1)]) rfl ?_
  refine lv_istore (lv' := [(6, .int (st_thr (T_nameOf st (xs (i + 1))).1)), (5, .int (nI i)), (4, .ref o2), (3, .ref o), (2, .ref m), (1, .ref x), (0, .ref b)]) hx hb dL_law_505 hl (by decide) rfl (fun ls hl => ?_)
  refine lv_aload_n hx hb dL_law_507 rfl (lv_at hl 4 rfl) ?_
  refine m_scr (k := 1) hx hb hX hbl hbA hS hL9 (by omega) (lv_at hl 6 rfl) (lv_at hl 1 rfl) dL_law_508 dL_law_509 dL_law_511 (by decide) dL_law_512 dL_law_513 ?_
  refine m_callV Z C hM hS (As := [.int (xs (i + 1))]) (rest := []) (d_X6_nameOf Z h1 x m q o o2 f9 g (T_nameOf st (xs (i + 1))).1 st hJ1 hk (xs (i + 1))) yi_X6_nameOf ml_L_161 hJ1.mdl.o rfl ⟨Nat.le_of_ble_eq_true rfl, Nat.le_of_ble_eq_true rfl⟩ (Nat.le_of_ble_eq_true rfl) hl.1 rfl rfl dL_law_514 ⟨(by show cells + 1 + 0 ≤ 603072; omega), (by show slots + 6 + 0 ≤ 7223402; omega)⟩ (fun v h2 H locs hv hM hS => ?_)
  obtain ⟨w, hv, hJ2, hz2⟩ := hv
  subst hv
  refine W.eq (g2 := F0 mt 517 ls [.int w]) rfl ?_
  refine lv_istore (lv' := [(7, .int w), (6, .int (st_thr (T_nameOf st (xs (i + 1))).1)), (5, .int (nI i)), (4, .ref o2), (3, .ref o), (2, .ref m), (1, .ref x), (0, .ref b)]) hx hb dL_law_517 hl (by decide) rfl (fun ls hl => ?_)
  refine lv_aload_n hx hb dL_law_519 rfl (lv_at hl 5 rfl) ?_
  refine m_callV Z C hM hS (As := []) (rest := []) (c_X6_thrown Z h2 m q (T_nameOf st (xs (i + 1))).1 hJ2.mdl) yi_X6_thrown ml_L_136 hJ2.mdl.o rfl ⟨Nat.le_of_ble_eq_true rfl, Nat.le_of_ble_eq_true rfl⟩ (Nat.le_of_ble_eq_true rfl) hl.1 rfl rfl dL_law_520 ⟨(by show cells + 1 + 0 + 0 ≤ 603072; omega), (by show slots + 6 + 0 + 0 ≤ 7223402; omega)⟩ (fun v h3 H locs hv hM hS => ?_)
  obtain ⟨hv, hh3⟩ := hv
  subst hv
  rw [hh3] at hM
  refine W.eq (g2 := F0 mt 523 ls [.int (st_thr (T_nameOf st (xs (i + 1))).1)]) rfl ?_
  refine lv_iload hx hb dL_law_523 (lv_at hl 1 rfl) ?_
  refine lv_icmp_eq (tgt := 530) hx hb dL_law_525 (by decide) (fun _ => ?_) (fun z9 => absurd rfl z9)
  refine lv_iload hx hb dL_law_530 (lv_at hl 1 rfl) ?_
  refine lv_if_ne (tgt := 547) hx hb dL_law_532 (by decide) (fun _ => ?_) (fun z9 => ?_)
  · -- thrown
    refine lv_goto (tgt := 2972) hx hb dL_law_547 (by decide) ?_
    exact W.widen (k := cells + 20) (n := slots + 500) (by omega) (by omega) (kk _ _ _ _ _ _ _ hJ2 (IvT_nameOf hk hnow (xs (i + 1))) (nwT_nameOf (xs (i + 1))) hM hS (lv_sub hl [2, 3, 4, 5, 6, 7] rfl))
  · -- answered
    refine lv_aload_n hx hb dL_law_535 rfl (lv_at hl 4 rfl) ?_
    refine lv_iconst (v := nI 0) hx hb dL_law_536 (by decide) ?_
    refine m_lald Z C hM hJ2.oo 0 rfl (by decide) (by decide) dL_law_537 ?_
    refine lv_iload hx hb dL_law_538 (lv_at hl 0 rfl) ?_
    refine lv_i2l hx hb dL_law_540 rfl ?_
    have e9 : f9 0 = w.toInt64 := (hz1 z9).trans (hz2 z9).symm
    refine W.lcmp hx hb dL_law_541 ?_
    refine n_lc_eq (tgt := 547) hx hb dL_law_542 (by decide) (fun _ => ?_) (fun z => absurd e9 z)
    refine lv_goto (tgt := 2972) hx hb dL_law_547 (by decide) ?_
    exact W.widen (k := cells + 20) (n := slots + 500) (by omega) (by omega) (kk _ _ _ _ _ _ _ hJ2 (IvT_nameOf hk hnow (xs (i + 1))) (nwT_nameOf (xs (i + 1))) hM hS (lv_sub hl [2, 3, 4, 5, 6, 7] rfl))
set_option maxRecDepth 100000 in
set_option maxHeartbeats 4000000 in
theorem law_case_7 {p : Program} {l : Launch} {e : Env} {s : State} {mt : MethodId} {below : List Frame} {meth : Method} {c : Code} {H : Heap} {locs : List Loc} {cells slots : Nat} {Q : State → Prop} {ls : Array Slot} {G : mG} {h : Hp} {b L i : Nat} {xs : Nat → Int32} {x m : Nat} {q : Nat → Nat} {o o2 : Nat} {f : Nat → Int64} {g : Nat → UInt64} {st : Ms} {nm9 : String} (Z : mZ l G #[.ref b] s) (No : mNo s) (C : mC s p s mt meth c cL_law 9 RL (some .boolean) nm9) (hX : va_X b L xs s s.heap) (hbl : b < s.heap.size) (hL : L ≤ 3072) (hi : i + 6 ≤ L) (hJ : LJ G h x m q o o2 f g st st) (hk : Iv st) (hnow : st_now st + 600 < 1073741824) (hM : MW G s.heap.size h H) (hS : va_S (fun q => s.heap.size ≤ q) s.heap H locs) (hl : lv_has ls 9 [(5, .int (nI i)), (4, .ref o2), (3, .ref o), (2, .ref m), (1, .ref x), (0, .ref b)]) (hc : cells + 20 ≤ 603072 ∧ slots + 500 ≤ 7223402) (kk : ∀ (st2 : Ms) (f2 : Nat → Int64) (g2 : Nat → UInt64) (h2 : Hp) (H2 : Heap) (locs2 : List Loc) (ls2 : Array Slot), LJ G h2 x m q o o2 f2 g2 st2 st2 → Iv st2 → st_now st2 ≤ st_now st + 600 → MW G s.heap.size h2 H2 → va_S (fun q => s.heap.size ≤ q) s.heap H2 locs2 → lv_has ls2 9 [(5, .int (nI i)), (4, .ref o2), (3, .ref o), (2, .ref m), (1, .ref x), (0, .ref b)] → W p l e room_1 s mt #[.ref b] below meth c H2 locs2 (cells + 20) (slots + 500) Q (F0 mt 2972 ls2 [])) : W p l e room_1 s mt #[.ref b] below meth c H locs cells slots Q (F0 mt 550 ls []) := by
  have hx := C.1
  have hb := C.2.1
  have hown := C.2.2.2.1
  have hE := C.2.2.2.2.2.2.1
  have hL9 : L < 2 ^ 31 := by omega
  have hbA : ¬ (fun q : Nat => s.heap.size ≤ q) b := Nat.not_le.mpr hbl
  refine lv_aload_n hx hb dL_law_550 rfl (lv_at hl 4 rfl) ?_
  refine m_scr (k := 1) hx hb hX hbl hbA hS hL9 (by omega) (lv_at hl 5 rfl) (lv_at hl 0 rfl) dL_law_551 dL_law_552 dL_law_554 (by decide) dL_law_555 dL_law_556 ?_
  refine lv_aload_n hx hb dL_law_557 rfl (lv_at hl 2 rfl) ?_
  refine m_callH Z C hM hS (As := [.ref x, .int (xs (i + 1)), .ref o]) (rest := []) (c_L_hostOf Z No h x m q o o2 f g st hJ hk (xs (i + 1))) yi_L_hostOf ml_L_162 ⟨Nat.le_of_ble_eq_true rfl, Nat.le_of_ble_eq_true rfl⟩ (Nat.le_of_ble_eq_true rfl) hl.1 rfl rfl dL_law_558 ⟨(by show cells + 1 ≤ 603072; omega), (by show slots + 6 ≤ 7223402; omega)⟩ (fun v h1 H locs hv hM hS => ?_)
  obtain ⟨hv, f9, hJ1, hz1⟩ := hv
  subst hv
  refine W.eq (g2 := F0 mt 561 ls [.int (st_thr (T_hostOf st (xs (i + 1))).1)]) rfl ?_
  refine lv_istore (lv' := [(6, .int (st_thr (T_hostOf st (xs (i + 1))).1)), (5, .int (nI i)), (4, .ref o2), (3, .ref o), (2, .ref m), (1, .ref x), (0, .ref b)]) hx hb dL_law_561 hl (by decide) rfl (fun ls hl => ?_)
  refine lv_aload_n hx hb dL_law_563 rfl (lv_at hl 4 rfl) ?_
  refine m_scr (k := 1) hx hb hX hbl hbA hS hL9 (by omega) (lv_at hl 6 rfl) (lv_at hl 1 rfl) dL_law_564 dL_law_565 dL_law_567 (by decide) dL_law_568 dL_law_569 ?_
  refine m_callV Z C hM hS (As := [.int (xs (i + 1))]) (rest := []) (d_X6_hostOf Z h1 x m q o o2 f9 g (T_hostOf st (xs (i + 1))).1 st hJ1 hk (xs (i + 1))) yi_X6_hostOf ml_L_164 hJ1.mdl.o rfl ⟨Nat.le_of_ble_eq_true rfl, Nat.le_of_ble_eq_true rfl⟩ (Nat.le_of_ble_eq_true rfl) hl.1 rfl rfl dL_law_570 ⟨(by show cells + 1 + 0 ≤ 603072; omega), (by show slots + 6 + 0 ≤ 7223402; omega)⟩ (fun v h2 H locs hv hM hS => ?_)
  obtain ⟨w, hv, hJ2, hz2⟩ := hv
  subst hv
  refine W.eq (g2 := F0 mt 573 ls [.int w]) rfl ?_
  refine lv_istore (lv' := [(7, .int w), (6, .int (st_thr (T_hostOf st (xs (i + 1))).1)), (5, .int (nI i)), (4, .ref o2), (3, .ref o), (2, .ref m), (1, .ref x), (0, .ref b)]) hx hb dL_law_573 hl (by decide) rfl (fun ls hl => ?_)
  refine lv_aload_n hx hb dL_law_575 rfl (lv_at hl 5 rfl) ?_
  refine m_callV Z C hM hS (As := []) (rest := []) (c_X6_thrown Z h2 m q (T_hostOf st (xs (i + 1))).1 hJ2.mdl) yi_X6_thrown ml_L_136 hJ2.mdl.o rfl ⟨Nat.le_of_ble_eq_true rfl, Nat.le_of_ble_eq_true rfl⟩ (Nat.le_of_ble_eq_true rfl) hl.1 rfl rfl dL_law_576 ⟨(by show cells + 1 + 0 + 0 ≤ 603072; omega), (by show slots + 6 + 0 + 0 ≤ 7223402; omega)⟩ (fun v h3 H locs hv hM hS => ?_)
  obtain ⟨hv, hh3⟩ := hv
  subst hv
  rw [hh3] at hM
  refine W.eq (g2 := F0 mt 579 ls [.int (st_thr (T_hostOf st (xs (i + 1))).1)]) rfl ?_
  refine lv_iload hx hb dL_law_579 (lv_at hl 1 rfl) ?_
  refine lv_icmp_eq (tgt := 586) hx hb dL_law_581 (by decide) (fun _ => ?_) (fun z9 => absurd rfl z9)
  refine lv_iload hx hb dL_law_586 (lv_at hl 1 rfl) ?_
  refine lv_if_ne (tgt := 603) hx hb dL_law_588 (by decide) (fun _ => ?_) (fun z9 => ?_)
  · -- thrown
    refine lv_goto (tgt := 2972) hx hb dL_law_603 (by decide) ?_
    exact W.widen (k := cells + 20) (n := slots + 500) (by omega) (by omega) (kk _ _ _ _ _ _ _ hJ2 (IvT_hostOf hk hnow (xs (i + 1))) (nwT_hostOf (xs (i + 1))) hM hS (lv_sub hl [2, 3, 4, 5, 6, 7] rfl))
  · -- answered
    refine lv_aload_n hx hb dL_law_591 rfl (lv_at hl 4 rfl) ?_
    refine lv_iconst (v := nI 0) hx hb dL_law_592 (by decide) ?_
    refine m_lald Z C hM hJ2.oo 0 rfl (by decide) (by decide) dL_law_593 ?_
    refine lv_iload hx hb dL_law_594 (lv_at hl 0 rfl) ?_
    refine lv_i2l hx hb dL_law_596 rfl ?_
    have e9 : f9 0 = w.toInt64 := (hz1 z9).trans (hz2 z9).symm
    refine W.lcmp hx hb dL_law_597 ?_
    refine n_lc_eq (tgt := 603) hx hb dL_law_598 (by decide) (fun _ => ?_) (fun z => absurd e9 z)
    refine lv_goto (tgt := 2972) hx hb dL_law_603 (by decide) ?_
    exact W.widen (k := cells + 20) (n := slots + 500) (by omega) (by omega) (kk _ _ _ _ _ _ _ hJ2 (IvT_hostOf hk hnow (xs (i + 1))) (nwT_hostOf (xs (i + 1))) hM hS (lv_sub hl [2, 3, 4, 5, 6, 7] rfl))
set_option maxRecDepth 100000 in
set_option maxHeartbeats 4000000 in
theorem law_case_8 {p : Program} {l : Launch} {e : Env} {s : State} {mt : MethodId} {below : List Frame} {meth : Method} {c : Code} {H : Heap} {locs : List Loc} {cells slots : Nat} {Q : State → Prop} {ls : Array Slot} {G : mG} {h : Hp} {b L i : Nat} {xs : Nat → Int32} {x m : Nat} {q : Nat → Nat} {o o2 : Nat} {f : Nat → Int64} {g : Nat → UInt64} {st : Ms} {nm9 : String} (Z : mZ l G #[.ref b] s) (No : mNo s) (C : mC s p s mt meth c cL_law 9 RL (some .boolean) nm9) (hX : va_X b L xs s s.heap) (hbl : b < s.heap.size) (hL : L ≤ 3072) (hi : i + 6 ≤ L) (hJ : LJ G h x m q o o2 f g st st) (hk : Iv st) (hnow : st_now st + 600 < 1073741824) (hM : MW G s.heap.size h H) (hS : va_S (fun q => s.heap.size ≤ q) s.heap H locs) (hl : lv_has ls 9 [(5, .int (nI i)), (4, .ref o2), (3, .ref o), (2, .ref m), (1, .ref x), (0, .ref b)]) (hc : cells + 20 ≤ 603072 ∧ slots + 500 ≤ 7223402) (kk : ∀ (st2 : Ms) (f2 : Nat → Int64) (g2 : Nat → UInt64) (h2 : Hp) (H2 : Heap) (locs2 : List Loc) (ls2 : Array Slot), LJ G h2 x m q o o2 f2 g2 st2 st2 → Iv st2 → st_now st2 ≤ st_now st + 600 → MW G s.heap.size h2 H2 → va_S (fun q => s.heap.size ≤ q) s.heap H2 locs2 → lv_has ls2 9 [(5, .int (nI i)), (4, .ref o2), (3, .ref o), (2, .ref m), (1, .ref x), (0, .ref b)] → W p l e room_1 s mt #[.ref b] below meth c H2 locs2 (cells + 20) (slots + 500) Q (F0 mt 2972 ls2 [])) : W p l e room_1 s mt #[.ref b] below meth c H locs cells slots Q (F0 mt 606 ls []) := by
  have hx := C.1
  have hb := C.2.1
  have hown := C.2.2.2.1
  have hE := C.2.2.2.2.2.2.1
  have hL9 : L < 2 ^ 31 := by omega
  have hbA : ¬ (fun q : Nat => s.heap.size ≤ q) b := Nat.not_le.mpr hbl
  refine lv_aload_n hx hb dL_law_606 rfl (lv_at hl 4 rfl) ?_
  refine m_scr (k := 1) hx hb hX hbl hbA hS hL9 (by omega) (lv_at hl 5 rfl) (lv_at hl 0 rfl) dL_law_607 dL_law_608 dL_law_610 (by decide) dL_law_611 dL_law_612 ?_
  refine lv_aload_n hx hb dL_law_613 rfl (lv_at hl 2 rfl) ?_
  refine m_callH Z C hM hS (As := [.ref x, .int (xs (i + 1)), .ref o]) (rest := []) (c_L_samples Z No h x m q o o2 f g st hJ hk (xs (i + 1))) yi_L_samples ml_L_165 ⟨Nat.le_of_ble_eq_true rfl, Nat.le_of_ble_eq_true rfl⟩ (Nat.le_of_ble_eq_true rfl) hl.1 rfl rfl dL_law_614 ⟨(by show cells + 1 ≤ 603072; omega), (by show slots + 6 ≤ 7223402; omega)⟩ (fun v h1 H locs hv hM hS => ?_)
  obtain ⟨hv, f9, hJ1, hz1⟩ := hv
  subst hv
  refine W.eq (g2 := F0 mt 617 ls [.int (st_thr (T_samples st (xs (i + 1))).1)]) rfl ?_
  refine lv_istore (lv' := [(6, .int (st_thr (T_samples st (xs (i + 1))).1)), (5, .int (nI i)), (4, .ref o2), (3, .ref o), (2, .ref m), (1, .ref x), (0, .ref b)]) hx hb dL_law_617 hl (by decide) rfl (fun ls hl => ?_)
  refine lv_aload_n hx hb dL_law_619 rfl (lv_at hl 4 rfl) ?_
  refine m_scr (k := 1) hx hb hX hbl hbA hS hL9 (by omega) (lv_at hl 6 rfl) (lv_at hl 1 rfl) dL_law_620 dL_law_621 dL_law_623 (by decide) dL_law_624 dL_law_625 ?_
  refine m_callV Z C hM hS (As := [.int (xs (i + 1))]) (rest := []) (d_X6_samples Z h1 x m q o o2 f9 g (T_samples st (xs (i + 1))).1 st hJ1 hk (xs (i + 1))) yi_X6_samples ml_L_167 hJ1.mdl.o rfl ⟨Nat.le_of_ble_eq_true rfl, Nat.le_of_ble_eq_true rfl⟩ (Nat.le_of_ble_eq_true rfl) hl.1 rfl rfl dL_law_626 ⟨(by show cells + 1 + 0 ≤ 603072; omega), (by show slots + 6 + 0 ≤ 7223402; omega)⟩ (fun v h2 H locs hv hM hS => ?_)
  obtain ⟨w, hv, hJ2, hz2⟩ := hv
  subst hv
  refine W.eq (g2 := F0 mt 629 ls [.int w]) rfl ?_
  refine lv_istore (lv' := [(7, .int w), (6, .int (st_thr (T_samples st (xs (i + 1))).1)), (5, .int (nI i)), (4, .ref o2), (3, .ref o), (2, .ref m), (1, .ref x), (0, .ref b)]) hx hb dL_law_629 hl (by decide) rfl (fun ls hl => ?_)
  refine lv_aload_n hx hb dL_law_631 rfl (lv_at hl 5 rfl) ?_
  refine m_callV Z C hM hS (As := []) (rest := []) (c_X6_thrown Z h2 m q (T_samples st (xs (i + 1))).1 hJ2.mdl) yi_X6_thrown ml_L_136 hJ2.mdl.o rfl ⟨Nat.le_of_ble_eq_true rfl, Nat.le_of_ble_eq_true rfl⟩ (Nat.le_of_ble_eq_true rfl) hl.1 rfl rfl dL_law_632 ⟨(by show cells + 1 + 0 + 0 ≤ 603072; omega), (by show slots + 6 + 0 + 0 ≤ 7223402; omega)⟩ (fun v h3 H locs hv hM hS => ?_)
  obtain ⟨hv, hh3⟩ := hv
  subst hv
  rw [hh3] at hM
  refine W.eq (g2 := F0 mt 635 ls [.int (st_thr (T_samples st (xs (i + 1))).1)]) rfl ?_
  refine lv_iload hx hb dL_law_635 (lv_at hl 1 rfl) ?_
  refine lv_icmp_eq (tgt := 642) hx hb dL_law_637 (by decide) (fun _ => ?_) (fun z9 => absurd rfl z9)
  refine lv_iload hx hb dL_law_642 (lv_at hl 1 rfl) ?_
  refine lv_if_ne (tgt := 659) hx hb dL_law_644 (by decide) (fun _ => ?_) (fun z9 => ?_)
  · -- thrown
    refine lv_goto (tgt := 2972) hx hb dL_law_659 (by decide) ?_
    exact W.widen (k := cells + 20) (n := slots + 500) (by omega) (by omega) (kk _ _ _ _ _ _ _ hJ2 (IvT_samples hk hnow (xs (i + 1))) (nwT_samples (xs (i + 1))) hM hS (lv_sub hl [2, 3, 4, 5, 6, 7] rfl))
  · -- answered
    refine lv_aload_n hx hb dL_law_647 rfl (lv_at hl 4 rfl) ?_
    refine lv_iconst (v := nI 0) hx hb dL_law_648 (by decide) ?_
    refine m_lald Z C hM hJ2.oo 0 rfl (by decide) (by decide) dL_law_649 ?_
    refine lv_iload hx hb dL_law_650 (lv_at hl 0 rfl) ?_
    refine lv_i2l hx hb dL_law_652 rfl ?_
    have e9 : f9 0 = w.toInt64 := (hz1 z9).trans (hz2 z9).symm
    refine W.lcmp hx hb dL_law_653 ?_
    refine n_lc_eq (tgt := 659) hx hb dL_law_654 (by decide) (fun _ => ?_) (fun z => absurd e9 z)
    refine lv_goto (tgt := 2972) hx hb dL_law_659 (by decide) ?_
    exact W.widen (k := cells + 20) (n := slots + 500) (by omega) (by omega) (kk _ _ _ _ _ _ _ hJ2 (IvT_samples hk hnow (xs (i + 1))) (nwT_samples (xs (i + 1))) hM hS (lv_sub hl [2, 3, 4, 5, 6, 7] rfl))
set_option maxRecDepth 100000 in
set_option maxHeartbeats 4000000 in
theorem law_case_9 {p : Program} {l : Launch} {e : Env} {s : State} {mt : MethodId} {below : List Frame} {meth : Method} {c : Code} {H : Heap} {locs : List Loc} {cells slots : Nat} {Q : State → Prop} {ls : Array Slot} {G : mG} {h : Hp} {b L i : Nat} {xs : Nat → Int32} {x m : Nat} {q : Nat → Nat} {o o2 : Nat} {f : Nat → Int64} {g : Nat → UInt64} {st : Ms} {nm9 : String} (Z : mZ l G #[.ref b] s) (No : mNo s) (C : mC s p s mt meth c cL_law 9 RL (some .boolean) nm9) (hX : va_X b L xs s s.heap) (hbl : b < s.heap.size) (hL : L ≤ 3072) (hi : i + 6 ≤ L) (hJ : LJ G h x m q o o2 f g st st) (hk : Iv st) (hnow : st_now st + 600 < 1073741824) (hM : MW G s.heap.size h H) (hS : va_S (fun q => s.heap.size ≤ q) s.heap H locs) (hl : lv_has ls 9 [(5, .int (nI i)), (4, .ref o2), (3, .ref o), (2, .ref m), (1, .ref x), (0, .ref b)]) (hc : cells + 20 ≤ 603072 ∧ slots + 500 ≤ 7223402) (kk : ∀ (st2 : Ms) (f2 : Nat → Int64) (g2 : Nat → UInt64) (h2 : Hp) (H2 : Heap) (locs2 : List Loc) (ls2 : Array Slot), LJ G h2 x m q o o2 f2 g2 st2 st2 → Iv st2 → st_now st2 ≤ st_now st + 600 → MW G s.heap.size h2 H2 → va_S (fun q => s.heap.size ≤ q) s.heap H2 locs2 → lv_has ls2 9 [(5, .int (nI i)), (4, .ref o2), (3, .ref o), (2, .ref m), (1, .ref x), (0, .ref b)] → W p l e room_1 s mt #[.ref b] below meth c H2 locs2 (cells + 20) (slots + 500) Q (F0 mt 2972 ls2 [])) : W p l e room_1 s mt #[.ref b] below meth c H locs cells slots Q (F0 mt 662 ls []) := by
  have hx := C.1
  have hb := C.2.1
  have hown := C.2.2.2.1
  have hE := C.2.2.2.2.2.2.1
  have hL9 : L < 2 ^ 31 := by omega
  have hbA : ¬ (fun q : Nat => s.heap.size ≤ q) b := Nat.not_le.mpr hbl
  refine lv_aload_n hx hb dL_law_662 rfl (lv_at hl 4 rfl) ?_
  refine m_scr (k := 1) hx hb hX hbl hbA hS hL9 (by omega) (lv_at hl 5 rfl) (lv_at hl 0 rfl) dL_law_663 dL_law_664 dL_law_666 (by decide) dL_law_667 dL_law_668 ?_
  refine lv_aload_n hx hb dL_law_669 rfl (lv_at hl 2 rfl) ?_
  refine m_callH Z C hM hS (As := [.ref x, .int (xs (i + 1)), .ref o]) (rest := []) (c_L_latest Z No h x m q o o2 f g st hJ hk (xs (i + 1))) yi_L_latest ml_L_168 ⟨Nat.le_of_ble_eq_true rfl, Nat.le_of_ble_eq_true rfl⟩ (Nat.le_of_ble_eq_true rfl) hl.1 rfl rfl dL_law_670 ⟨(by show cells + 2 ≤ 603072; omega), (by show slots + 12 ≤ 7223402; omega)⟩ (fun v h1 H locs hv hM hS => ?_)
  obtain ⟨hv, f9, hJ1, hz1⟩ := hv
  subst hv
  refine W.eq (g2 := F0 mt 673 ls [.int (st_thr (T_latest st (xs (i + 1))).1)]) rfl ?_
  refine lv_istore (lv' := [(6, .int (st_thr (T_latest st (xs (i + 1))).1)), (5, .int (nI i)), (4, .ref o2), (3, .ref o), (2, .ref m), (1, .ref x), (0, .ref b)]) hx hb dL_law_673 hl (by decide) rfl (fun ls hl => ?_)
  refine lv_aload_n hx hb dL_law_675 rfl (lv_at hl 4 rfl) ?_
  refine m_scr (k := 1) hx hb hX hbl hbA hS hL9 (by omega) (lv_at hl 6 rfl) (lv_at hl 1 rfl) dL_law_676 dL_law_677 dL_law_679 (by decide) dL_law_680 dL_law_681 ?_
  refine m_callV Z C hM hS (As := [.int (xs (i + 1))]) (rest := []) (d_X6_latest Z h1 x m q o o2 f9 g (T_latest st (xs (i + 1))).1 st hJ1 hk (xs (i + 1))) yi_X6_latest ml_L_170 hJ1.mdl.o rfl ⟨Nat.le_of_ble_eq_true rfl, Nat.le_of_ble_eq_true rfl⟩ (Nat.le_of_ble_eq_true rfl) hl.1 rfl rfl dL_law_682 ⟨(by show cells + 2 + 0 ≤ 603072; omega), (by show slots + 12 + 0 ≤ 7223402; omega)⟩ (fun v h2 H locs hv hM hS => ?_)
  obtain ⟨w, hv, hJ2, hz2⟩ := hv
  subst hv
  refine W.eq (g2 := F0 mt 685 ls [.int w]) rfl ?_
  refine lv_istore (lv' := [(7, .int w), (6, .int (st_thr (T_latest st (xs (i + 1))).1)), (5, .int (nI i)), (4, .ref o2), (3, .ref o), (2, .ref m), (1, .ref x), (0, .ref b)]) hx hb dL_law_685 hl (by decide) rfl (fun ls hl => ?_)
  refine lv_aload_n hx hb dL_law_687 rfl (lv_at hl 5 rfl) ?_
  refine m_callV Z C hM hS (As := []) (rest := []) (c_X6_thrown Z h2 m q (T_latest st (xs (i + 1))).1 hJ2.mdl) yi_X6_thrown ml_L_136 hJ2.mdl.o rfl ⟨Nat.le_of_ble_eq_true rfl, Nat.le_of_ble_eq_true rfl⟩ (Nat.le_of_ble_eq_true rfl) hl.1 rfl rfl dL_law_688 ⟨(by show cells + 2 + 0 + 0 ≤ 603072; omega), (by show slots + 12 + 0 + 0 ≤ 7223402; omega)⟩ (fun v h3 H locs hv hM hS => ?_)
  obtain ⟨hv, hh3⟩ := hv
  subst hv
  rw [hh3] at hM
  refine W.eq (g2 := F0 mt 691 ls [.int (st_thr (T_latest st (xs (i + 1))).1)]) rfl ?_
  refine lv_iload hx hb dL_law_691 (lv_at hl 1 rfl) ?_
  refine lv_icmp_eq (tgt := 698) hx hb dL_law_693 (by decide) (fun _ => ?_) (fun z9 => absurd rfl z9)
  refine lv_iload hx hb dL_law_698 (lv_at hl 1 rfl) ?_
  refine lv_if_ne (tgt := 715) hx hb dL_law_700 (by decide) (fun _ => ?_) (fun z9 => ?_)
  · -- thrown
    refine lv_goto (tgt := 2972) hx hb dL_law_715 (by decide) ?_
    exact W.widen (k := cells + 20) (n := slots + 500) (by omega) (by omega) (kk _ _ _ _ _ _ _ hJ2 (IvT_latest hk hnow (xs (i + 1))) (nwT_latest (xs (i + 1))) hM hS (lv_sub hl [2, 3, 4, 5, 6, 7] rfl))
  · -- answered
    refine lv_aload_n hx hb dL_law_703 rfl (lv_at hl 4 rfl) ?_
    refine lv_iconst (v := nI 0) hx hb dL_law_704 (by decide) ?_
    refine m_lald Z C hM hJ2.oo 0 rfl (by decide) (by decide) dL_law_705 ?_
    refine lv_iload hx hb dL_law_706 (lv_at hl 0 rfl) ?_
    refine lv_i2l hx hb dL_law_708 rfl ?_
    have e9 : f9 0 = w.toInt64 := (hz1 z9).trans (hz2 z9).symm
    refine W.lcmp hx hb dL_law_709 ?_
    refine n_lc_eq (tgt := 715) hx hb dL_law_710 (by decide) (fun _ => ?_) (fun z => absurd e9 z)
    refine lv_goto (tgt := 2972) hx hb dL_law_715 (by decide) ?_
    exact W.widen (k := cells + 20) (n := slots + 500) (by omega) (by omega) (kk _ _ _ _ _ _ _ hJ2 (IvT_latest hk hnow (xs (i + 1))) (nwT_latest (xs (i + 1))) hM hS (lv_sub hl [2, 3, 4, 5, 6, 7] rfl))
set_option maxRecDepth 100000 in
set_option maxHeartbeats 4000000 in
theorem law_case_10 {p : Program} {l : Launch} {e : Env} {s : State} {mt : MethodId} {below : List Frame} {meth : Method} {c : Code} {H : Heap} {locs : List Loc} {cells slots : Nat} {Q : State → Prop} {ls : Array Slot} {G : mG} {h : Hp} {b L i : Nat} {xs : Nat → Int32} {x m : Nat} {q : Nat → Nat} {o o2 : Nat} {f : Nat → Int64} {g : Nat → UInt64} {st : Ms} {nm9 : String} (Z : mZ l G #[.ref b] s) (No : mNo s) (C : mC s p s mt meth c cL_law 9 RL (some .boolean) nm9) (hX : va_X b L xs s s.heap) (hbl : b < s.heap.size) (hL : L ≤ 3072) (hi : i + 6 ≤ L) (hJ : LJ G h x m q o o2 f g st st) (hk : Iv st) (hnow : st_now st + 600 < 1073741824) (hM : MW G s.heap.size h H) (hS : va_S (fun q => s.heap.size ≤ q) s.heap H locs) (hl : lv_has ls 9 [(5, .int (nI i)), (4, .ref o2), (3, .ref o), (2, .ref m), (1, .ref x), (0, .ref b)]) (hc : cells + 20 ≤ 603072 ∧ slots + 500 ≤ 7223402) (kk : ∀ (st2 : Ms) (f2 : Nat → Int64) (g2 : Nat → UInt64) (h2 : Hp) (H2 : Heap) (locs2 : List Loc) (ls2 : Array Slot), LJ G h2 x m q o o2 f2 g2 st2 st2 → Iv st2 → st_now st2 ≤ st_now st + 600 → MW G s.heap.size h2 H2 → va_S (fun q => s.heap.size ≤ q) s.heap H2 locs2 → lv_has ls2 9 [(5, .int (nI i)), (4, .ref o2), (3, .ref o), (2, .ref m), (1, .ref x), (0, .ref b)] → W p l e room_1 s mt #[.ref b] below meth c H2 locs2 (cells + 20) (slots + 500) Q (F0 mt 2972 ls2 [])) : W p l e room_1 s mt #[.ref b] below meth c H locs cells slots Q (F0 mt 718 ls []) := by
  have hx := C.1
  have hb := C.2.1
  have hown := C.2.2.2.1
  have hE := C.2.2.2.2.2.2.1
  have hL9 : L < 2 ^ 31 := by omega
  have hbA : ¬ (fun q : Nat => s.heap.size ≤ q) b := Nat.not_le.mpr hbl
  refine lv_aload_n hx hb dL_law_718 rfl (lv_at hl 4 rfl) ?_
  refine m_scr (k := 1) hx hb hX hbl hbA hS hL9 (by omega) (lv_at hl 5 rfl) (lv_at hl 0 rfl) dL_law_719 dL_law_720 dL_law_722 (by decide) dL_law_723 dL_law_724 ?_
  refine lv_aload_n hx hb dL_law_725 rfl (lv_at hl 2 rfl) ?_
  refine m_callH Z C hM hS (As := [.ref x, .int (xs (i + 1)), .ref o]) (rest := []) (c_L_blocks Z No h x m q o o2 f g st hJ hk (xs (i + 1))) yi_L_blocks ml_L_171 ⟨Nat.le_of_ble_eq_true rfl, Nat.le_of_ble_eq_true rfl⟩ (Nat.le_of_ble_eq_true rfl) hl.1 rfl rfl dL_law_726 ⟨(by show cells + 1 ≤ 603072; omega), (by show slots + 6 ≤ 7223402; omega)⟩ (fun v h1 H locs hv hM hS => ?_)
  obtain ⟨hv, f9, hJ1, hz1⟩ := hv
  subst hv
  refine W.eq (g2 := F0 mt 729 ls [.int (st_thr (T_blocks st (xs (i + 1))).1)]) rfl ?_
  refine lv_istore (lv' := [(6, .int (st_thr (T_blocks st (xs (i + 1))).1)), (5, .int (nI i)), (4, .ref o2), (3, .ref o), (2, .ref m), (1, .ref x), (0, .ref b)]) hx hb dL_law_729 hl (by decide) rfl (fun ls hl => ?_)
  refine lv_aload_n hx hb dL_law_731 rfl (lv_at hl 4 rfl) ?_
  refine m_scr (k := 1) hx hb hX hbl hbA hS hL9 (by omega) (lv_at hl 6 rfl) (lv_at hl 1 rfl) dL_law_732 dL_law_733 dL_law_735 (by decide) dL_law_736 dL_law_737 ?_
  refine m_callV Z C hM hS (As := [.int (xs (i + 1))]) (rest := []) (d_X6_blocks Z h1 x m q o o2 f9 g (T_blocks st (xs (i + 1))).1 st hJ1 hk (xs (i + 1))) yi_X6_blocks ml_L_173 hJ1.mdl.o rfl ⟨Nat.le_of_ble_eq_true rfl, Nat.le_of_ble_eq_true rfl⟩ (Nat.le_of_ble_eq_true rfl) hl.1 rfl rfl dL_law_738 ⟨(by show cells + 1 + 0 ≤ 603072; omega), (by show slots + 6 + 0 ≤ 7223402; omega)⟩ (fun v h2 H locs hv hM hS => ?_)
  obtain ⟨w, hv, hJ2, hz2⟩ := hv
  subst hv
  refine W.eq (g2 := F0 mt 741 ls [.int w]) rfl ?_
  refine lv_istore (lv' := [(7, .int w), (6, .int (st_thr (T_blocks st (xs (i + 1))).1)), (5, .int (nI i)), (4, .ref o2), (3, .ref o), (2, .ref m), (1, .ref x), (0, .ref b)]) hx hb dL_law_741 hl (by decide) rfl (fun ls hl => ?_)
  refine lv_aload_n hx hb dL_law_743 rfl (lv_at hl 5 rfl) ?_
  refine m_callV Z C hM hS (As := []) (rest := []) (c_X6_thrown Z h2 m q (T_blocks st (xs (i + 1))).1 hJ2.mdl) yi_X6_thrown ml_L_136 hJ2.mdl.o rfl ⟨Nat.le_of_ble_eq_true rfl, Nat.le_of_ble_eq_true rfl⟩ (Nat.le_of_ble_eq_true rfl) hl.1 rfl rfl dL_law_744 ⟨(by show cells + 1 + 0 + 0 ≤ 603072; omega), (by show slots + 6 + 0 + 0 ≤ 7223402; omega)⟩ (fun v h3 H locs hv hM hS => ?_)
  obtain ⟨hv, hh3⟩ := hv
  subst hv
  rw [hh3] at hM
  refine W.eq (g2 := F0 mt 747 ls [.int (st_thr (T_blocks st (xs (i + 1))).1)]) rfl ?_
  refine lv_iload hx hb dL_law_747 (lv_at hl 1 rfl) ?_
  refine lv_icmp_eq (tgt := 754) hx hb dL_law_749 (by decide) (fun _ => ?_) (fun z9 => absurd rfl z9)
  refine lv_iload hx hb dL_law_754 (lv_at hl 1 rfl) ?_
  refine lv_if_ne (tgt := 771) hx hb dL_law_756 (by decide) (fun _ => ?_) (fun z9 => ?_)
  · -- thrown
    refine lv_goto (tgt := 2972) hx hb dL_law_771 (by decide) ?_
    exact W.widen (k := cells + 20) (n := slots + 500) (by omega) (by omega) (kk _ _ _ _ _ _ _ hJ2 (IvT_blocks hk hnow (xs (i + 1))) (nwT_blocks (xs (i + 1))) hM hS (lv_sub hl [2, 3, 4, 5, 6, 7] rfl))
  · -- answered
    refine lv_aload_n hx hb dL_law_759 rfl (lv_at hl 4 rfl) ?_
    refine lv_iconst (v := nI 0) hx hb dL_law_760 (by decide) ?_
    refine m_lald Z C hM hJ2.oo 0 rfl (by decide) (by decide) dL_law_761 ?_
    refine lv_iload hx hb dL_law_762 (lv_at hl 0 rfl) ?_
    refine lv_i2l hx hb dL_law_764 rfl ?_
    have e9 : f9 0 = w.toInt64 := (hz1 z9).trans (hz2 z9).symm
    refine W.lcmp hx hb dL_law_765 ?_
    refine n_lc_eq (tgt := 771) hx hb dL_law_766 (by decide) (fun _ => ?_) (fun z => absurd e9 z)
    refine lv_goto (tgt := 2972) hx hb dL_law_771 (by decide) ?_
    exact W.widen (k := cells + 20) (n := slots + 500) (by omega) (by omega) (kk _ _ _ _ _ _ _ hJ2 (IvT_blocks hk hnow (xs (i + 1))) (nwT_blocks (xs (i + 1))) hM hS (lv_sub hl [2, 3, 4, 5, 6, 7] rfl))
set_option maxRecDepth 100000 in
set_option maxHeartbeats 4000000 in
theorem law_case_11 {p : Program} {l : Launch} {e : Env} {s : State} {mt : MethodId} {below : List Frame} {meth : Method} {c : Code} {H : Heap} {locs : List Loc} {cells slots : Nat} {Q : State → Prop} {ls : Array Slot} {G : mG} {h : Hp} {b L i : Nat} {xs : Nat → Int32} {x m : Nat} {q : Nat → Nat} {o o2 : Nat} {f : Nat → Int64} {g : Nat → UInt64} {st : Ms} {nm9 : String} (Z : mZ l G #[.ref b] s) (No : mNo s) (C : mC s p s mt meth c cL_law 9 RL (some .boolean) nm9) (hX : va_X b L xs s s.heap) (hbl : b < s.heap.size) (hL : L ≤ 3072) (hi : i + 6 ≤ L) (hJ : LJ G h x m q o o2 f g st st) (hk : Iv st) (hnow : st_now st + 600 < 1073741824) (hM : MW G s.heap.size h H) (hS : va_S (fun q => s.heap.size ≤ q) s.heap H locs) (hl : lv_has ls 9 [(5, .int (nI i)), (4, .ref o2), (3, .ref o), (2, .ref m), (1, .ref x), (0, .ref b)]) (hc : cells + 20 ≤ 603072 ∧ slots + 500 ≤ 7223402) (kk : ∀ (st2 : Ms) (f2 : Nat → Int64) (g2 : Nat → UInt64) (h2 : Hp) (H2 : Heap) (locs2 : List Loc) (ls2 : Array Slot), LJ G h2 x m q o o2 f2 g2 st2 st2 → Iv st2 → st_now st2 ≤ st_now st + 600 → MW G s.heap.size h2 H2 → va_S (fun q => s.heap.size ≤ q) s.heap H2 locs2 → lv_has ls2 9 [(5, .int (nI i)), (4, .ref o2), (3, .ref o), (2, .ref m), (1, .ref x), (0, .ref b)] → W p l e room_1 s mt #[.ref b] below meth c H2 locs2 (cells + 20) (slots + 500) Q (F0 mt 2972 ls2 [])) : W p l e room_1 s mt #[.ref b] below meth c H locs cells slots Q (F0 mt 774 ls []) := by
  have hx := C.1
  have hb := C.2.1
  have hown := C.2.2.2.1
  have hE := C.2.2.2.2.2.2.1
  have hL9 : L < 2 ^ 31 := by omega
  have hbA : ¬ (fun q : Nat => s.heap.size ≤ q) b := Nat.not_le.mpr hbl
  refine lv_aload_n hx hb dL_law_774 rfl (lv_at hl 4 rfl) ?_
  refine m_scr (k := 1) hx hb hX hbl hbA hS hL9 (by omega) (lv_at hl 5 rfl) (lv_at hl 0 rfl) dL_law_775 dL_law_776 dL_law_778 (by decide) dL_law_779 dL_law_780 ?_
  refine m_scr (k := 2) hx hb hX hbl hbA hS hL9 (by omega) (lv_at hl 5 rfl) (lv_at hl 0 rfl) dL_law_781 dL_law_782 dL_law_784 (by decide) dL_law_785 dL_law_786 ?_
  refine lv_aload_n hx hb dL_law_787 rfl (lv_at hl 2 rfl) ?_
  refine m_callH Z C hM hS (As := [.ref x, .int (xs (i + 1)), .int (xs (i + 2)), .ref o]) (rest := []) (c_L_bitsOf Z No h x m q o o2 f g st hJ hk (xs (i + 1)) (xs (i + 2))) yi_L_bitsOf ml_L_174 ⟨Nat.le_of_ble_eq_true rfl, Nat.le_of_ble_eq_true rfl⟩ (Nat.le_of_ble_eq_true rfl) hl.1 rfl rfl dL_law_788 ⟨(by show cells + 2 ≤ 603072; omega), (by show slots + 12 ≤ 7223402; omega)⟩ (fun v h1 H locs hv hM hS => ?_)
  obtain ⟨hv, f9, hJ1, hz1⟩ := hv
  subst hv
  refine W.eq (g2 := F0 mt 791 ls [.int (st_thr (T_bitsOf st (xs (i + 1)) (xs (i + 2))).1)]) rfl ?_
  refine lv_istore (lv' := [(6, .int (st_thr (T_bitsOf st (xs (i + 1)) (xs (i + 2))).1)), (5, .int (nI i)), (4, .ref o2), (3, .ref o), (2, .ref m), (1, .ref x), (0, .ref b)]) hx hb dL_law_791 hl (by decide) rfl (fun ls hl => ?_)
  refine lv_aload_n hx hb dL_law_793 rfl (lv_at hl 4 rfl) ?_
  refine m_scr (k := 1) hx hb hX hbl hbA hS hL9 (by omega) (lv_at hl 6 rfl) (lv_at hl 1 rfl) dL_law_794 dL_law_795 dL_law_797 (by decide) dL_law_798 dL_law_799 ?_
  refine m_scr (k := 2) hx hb hX hbl hbA hS hL9 (by omega) (lv_at hl 6 rfl) (lv_at hl 1 rfl) dL_law_800 dL_law_801 dL_law_803 (by decide) dL_law_804 dL_law_805 ?_
  refine m_callV Z C hM hS (As := [.int (xs (i + 1)), .int (xs (i + 2))]) (rest := []) (d_X6_bitsOf Z h1 x m q o o2 f9 g (T_bitsOf st (xs (i + 1)) (xs (i + 2))).1 st hJ1 hk (xs (i + 1)) (xs (i + 2))) yi_X6_bitsOf ml_L_176 hJ1.mdl.o rfl ⟨Nat.le_of_ble_eq_true rfl, Nat.le_of_ble_eq_true rfl⟩ (Nat.le_of_ble_eq_true rfl) hl.1 rfl rfl dL_law_806 ⟨(by show cells + 2 + 0 ≤ 603072; omega), (by show slots + 12 + 0 ≤ 7223402; omega)⟩ (fun v h2 H locs hv hM hS => ?_)
  obtain ⟨w, hv, hJ2, hz2⟩ := hv
  subst hv
  refine W.eq (g2 := F0 mt 809 ls [.int w]) rfl ?_
  refine lv_istore (lv' := [(7, .int w), (6, .int (st_thr (T_bitsOf st (xs (i + 1)) (xs (i + 2))).1)), (5, .int (nI i)), (4, .ref o2), (3, .ref o), (2, .ref m), (1, .ref x), (0, .ref b)]) hx hb dL_law_809 hl (by decide) rfl (fun ls hl => ?_)
  refine lv_aload_n hx hb dL_law_811 rfl (lv_at hl 5 rfl) ?_
  refine m_callV Z C hM hS (As := []) (rest := []) (c_X6_thrown Z h2 m q (T_bitsOf st (xs (i + 1)) (xs (i + 2))).1 hJ2.mdl) yi_X6_thrown ml_L_136 hJ2.mdl.o rfl ⟨Nat.le_of_ble_eq_true rfl, Nat.le_of_ble_eq_true rfl⟩ (Nat.le_of_ble_eq_true rfl) hl.1 rfl rfl dL_law_812 ⟨(by show cells + 2 + 0 + 0 ≤ 603072; omega), (by show slots + 12 + 0 + 0 ≤ 7223402; omega)⟩ (fun v h3 H locs hv hM hS => ?_)
  obtain ⟨hv, hh3⟩ := hv
  subst hv
  rw [hh3] at hM
  refine W.eq (g2 := F0 mt 815 ls [.int (st_thr (T_bitsOf st (xs (i + 1)) (xs (i + 2))).1)]) rfl ?_
  refine lv_iload hx hb dL_law_815 (lv_at hl 1 rfl) ?_
  refine lv_icmp_eq (tgt := 822) hx hb dL_law_817 (by decide) (fun _ => ?_) (fun z9 => absurd rfl z9)
  refine lv_iload hx hb dL_law_822 (lv_at hl 1 rfl) ?_
  refine lv_if_ne (tgt := 839) hx hb dL_law_824 (by decide) (fun _ => ?_) (fun z9 => ?_)
  · -- thrown
    refine lv_goto (tgt := 2972) hx hb dL_law_839 (by decide) ?_
    exact W.widen (k := cells + 20) (n := slots + 500) (by omega) (by omega) (kk _ _ _ _ _ _ _ hJ2 (IvT_bitsOf hk hnow (xs (i + 1)) (xs (i + 2))) (nwT_bitsOf (xs (i + 1)) (xs (i + 2))) hM hS (lv_sub hl [2, 3, 4, 5, 6, 7] rfl))
  · -- answered
    refine lv_aload_n hx hb dL_law_827 rfl (lv_at hl 4 rfl) ?_
    refine lv_iconst (v := nI 0) hx hb dL_law_828 (by decide) ?_
    refine m_lald Z C hM hJ2.oo 0 rfl (by decide) (by decide) dL_law_829 ?_
    refine lv_iload hx hb dL_law_830 (lv_at hl 0 rfl) ?_
    refine lv_i2l hx hb dL_law_832 rfl ?_
    have e9 : f9 0 = w.toInt64 := (hz1 z9).trans (hz2 z9).symm
    refine W.lcmp hx hb dL_law_833 ?_
    refine n_lc_eq (tgt := 839) hx hb dL_law_834 (by decide) (fun _ => ?_) (fun z => absurd e9 z)
    refine lv_goto (tgt := 2972) hx hb dL_law_839 (by decide) ?_
    exact W.widen (k := cells + 20) (n := slots + 500) (by omega) (by omega) (kk _ _ _ _ _ _ _ hJ2 (IvT_bitsOf hk hnow (xs (i + 1)) (xs (i + 2))) (nwT_bitsOf (xs (i + 1)) (xs (i + 2))) hM hS (lv_sub hl [2, 3, 4, 5, 6, 7] rfl))
set_option maxRecDepth 100000 in
set_option maxHeartbeats 4000000 in
theorem law_case_12 {p : Program} {l : Launch} {e : Env} {s : State} {mt : MethodId} {below : List Frame} {meth : Method} {c : Code} {H : Heap} {locs : List Loc} {cells slots : Nat} {Q : State → Prop} {ls : Array Slot} {G : mG} {h : Hp} {b L i : Nat} {xs : Nat → Int32} {x m : Nat} {q : Nat → Nat} {o o2 : Nat} {f : Nat → Int64} {g : Nat → UInt64} {st : Ms} {nm9 : String} (Z : mZ l G #[.ref b] s) (No : mNo s) (C : mC s p s mt meth c cL_law 9 RL (some .boolean) nm9) (hX : va_X b L xs s s.heap) (hbl : b < s.heap.size) (hL : L ≤ 3072) (hi : i + 6 ≤ L) (hJ : LJ G h x m q o o2 f g st st) (hk : Iv st) (hnow : st_now st + 600 < 1073741824) (hM : MW G s.heap.size h H) (hS : va_S (fun q => s.heap.size ≤ q) s.heap H locs) (hl : lv_has ls 9 [(5, .int (nI i)), (4, .ref o2), (3, .ref o), (2, .ref m), (1, .ref x), (0, .ref b)]) (hc : cells + 20 ≤ 603072 ∧ slots + 500 ≤ 7223402) (kk : ∀ (st2 : Ms) (f2 : Nat → Int64) (g2 : Nat → UInt64) (h2 : Hp) (H2 : Heap) (locs2 : List Loc) (ls2 : Array Slot), LJ G h2 x m q o o2 f2 g2 st2 st2 → Iv st2 → st_now st2 ≤ st_now st + 600 → MW G s.heap.size h2 H2 → va_S (fun q => s.heap.size ≤ q) s.heap H2 locs2 → lv_has ls2 9 [(5, .int (nI i)), (4, .ref o2), (3, .ref o), (2, .ref m), (1, .ref x), (0, .ref b)] → W p l e room_1 s mt #[.ref b] below meth c H2 locs2 (cells + 20) (slots + 500) Q (F0 mt 2972 ls2 [])) : W p l e room_1 s mt #[.ref b] below meth c H locs cells slots Q (F0 mt 842 ls []) := by
  have hx := C.1
  have hb := C.2.1
  have hown := C.2.2.2.1
  have hE := C.2.2.2.2.2.2.1
  have hL9 : L < 2 ^ 31 := by omega
  have hbA : ¬ (fun q : Nat => s.heap.size ≤ q) b := Nat.not_le.mpr hbl
  refine lv_aload_n hx hb dL_law_842 rfl (lv_at hl 4 rfl) ?_
  refine m_scr (k := 1) hx hb hX hbl hbA hS hL9 (by omega) (lv_at hl 5 rfl) (lv_at hl 0 rfl) dL_law_843 dL_law_844 dL_law_846 (by decide) dL_law_847 dL_law_848 ?_
  refine m_scr (k := 2) hx hb hX hbl hbA hS hL9 (by omega) (lv_at hl 5 rfl) (lv_at hl 0 rfl) dL_law_849 dL_law_850 dL_law_852 (by decide) dL_law_853 dL_law_854 ?_
  refine lv_aload_n hx hb dL_law_855 rfl (lv_at hl 2 rfl) ?_
  refine m_callH Z C hM hS (As := [.ref x, .int (xs (i + 1)), .int (xs (i + 2)), .ref o]) (rest := []) (c_L_timeAt Z No h x m q o o2 f g st hJ hk (xs (i + 1)) (xs (i + 2))) yi_L_timeAt ml_L_177 ⟨Nat.le_of_ble_eq_true rfl, Nat.le_of_ble_eq_true rfl⟩ (Nat.le_of_ble_eq_true rfl) hl.1 rfl rfl dL_law_856 ⟨(by show cells + 2 ≤ 603072; omega), (by show slots + 12 ≤ 7223402; omega)⟩ (fun v h1 H locs hv hM hS => ?_)
  obtain ⟨hv, f9, hJ1, hz1⟩ := hv
  subst hv
  refine W.eq (g2 := F0 mt 859 ls [.int (st_thr (T_timeAt st (xs (i + 1)) (xs (i + 2))).1)]) rfl ?_
  refine lv_istore (lv' := [(6, .int (st_thr (T_timeAt st (xs (i + 1)) (xs (i + 2))).1)), (5, .int (nI i)), (4, .ref o2), (3, .ref o), (2, .ref m), (1, .ref x), (0, .ref b)]) hx hb dL_law_859 hl (by decide) rfl (fun ls hl => ?_)
  refine lv_aload_n hx hb dL_law_861 rfl (lv_at hl 4 rfl) ?_
  refine m_scr (k := 1) hx hb hX hbl hbA hS hL9 (by omega) (lv_at hl 6 rfl) (lv_at hl 1 rfl) dL_law_862 dL_law_863 dL_law_865 (by decide) dL_law_866 dL_law_867 ?_
  refine m_scr (k := 2) hx hb hX hbl hbA hS hL9 (by omega) (lv_at hl 6 rfl) (lv_at hl 1 rfl) dL_law_868 dL_law_869 dL_law_871 (by decide) dL_law_872 dL_law_873 ?_
  refine m_callV Z C hM hS (As := [.int (xs (i + 1)), .int (xs (i + 2))]) (rest := []) (d_X6_timeAt Z h1 x m q o o2 f9 g (T_timeAt st (xs (i + 1)) (xs (i + 2))).1 st hJ1 hk (xs (i + 1)) (xs (i + 2))) yi_X6_timeAt ml_L_179 hJ1.mdl.o rfl ⟨Nat.le_of_ble_eq_true rfl, Nat.le_of_ble_eq_true rfl⟩ (Nat.le_of_ble_eq_true rfl) hl.1 rfl rfl dL_law_874 ⟨(by show cells + 2 + 0 ≤ 603072; omega), (by show slots + 12 + 0 ≤ 7223402; omega)⟩ (fun v h2 H locs hv hM hS => ?_)
  obtain ⟨w, hv, hJ2, hz2⟩ := hv
  subst hv
  refine W.eq (g2 := F0 mt 877 ls [.long w]) rfl ?_
  refine lv_lstore (lv' := [(7, .long w), (6, .int (st_thr (T_timeAt st (xs (i + 1)) (xs (i + 2))).1)), (5, .int (nI i)), (4, .ref o2), (3, .ref o), (2, .ref m), (1, .ref x), (0, .ref b)]) hx hb dL_law_877 hl (by decide) rfl (fun ls hl => ?_)
  refine lv_aload_n hx hb dL_law_879 rfl (lv_at hl 5 rfl) ?_
  refine m_callV Z C hM hS (As := []) (rest := []) (c_X6_thrown Z h2 m q (T_timeAt st (xs (i + 1)) (xs (i + 2))).1 hJ2.mdl) yi_X6_thrown ml_L_136 hJ2.mdl.o rfl ⟨Nat.le_of_ble_eq_true rfl, Nat.le_of_ble_eq_true rfl⟩ (Nat.le_of_ble_eq_true rfl) hl.1 rfl rfl dL_law_880 ⟨(by show cells + 2 + 0 + 0 ≤ 603072; omega), (by show slots + 12 + 0 + 0 ≤ 7223402; omega)⟩ (fun v h3 H locs hv hM hS => ?_)
  obtain ⟨hv, hh3⟩ := hv
  subst hv
  rw [hh3] at hM
  refine W.eq (g2 := F0 mt 883 ls [.int (st_thr (T_timeAt st (xs (i + 1)) (xs (i + 2))).1)]) rfl ?_
  refine lv_iload hx hb dL_law_883 (lv_at hl 1 rfl) ?_
  refine lv_icmp_eq (tgt := 890) hx hb dL_law_885 (by decide) (fun _ => ?_) (fun z9 => absurd rfl z9)
  refine lv_iload hx hb dL_law_890 (lv_at hl 1 rfl) ?_
  refine lv_if_ne (tgt := 906) hx hb dL_law_892 (by decide) (fun _ => ?_) (fun z9 => ?_)
  · -- thrown
    refine lv_goto (tgt := 2972) hx hb dL_law_906 (by decide) ?_
    exact W.widen (k := cells + 20) (n := slots + 500) (by omega) (by omega) (kk _ _ _ _ _ _ _ hJ2 (IvT_timeAt hk hnow (xs (i + 1)) (xs (i + 2))) (nwT_timeAt (xs (i + 1)) (xs (i + 2))) hM hS (lv_sub hl [2, 3, 4, 5, 6, 7] rfl))
  · -- answered
    refine lv_aload_n hx hb dL_law_895 rfl (lv_at hl 4 rfl) ?_
    refine lv_iconst (v := nI 0) hx hb dL_law_896 (by decide) ?_
    refine m_lald Z C hM hJ2.oo 0 rfl (by decide) (by decide) dL_law_897 ?_
    refine lv_lload hx hb dL_law_898 (lv_at hl 0 rfl) ?_
    have e9 : f9 0 = w := (hz1 z9).trans (hz2 z9).symm
    refine W.lcmp hx hb dL_law_900 ?_
    refine n_lc_eq (tgt := 906) hx hb dL_law_901 (by decide) (fun _ => ?_) (fun z => absurd e9 z)
    refine lv_goto (tgt := 2972) hx hb dL_law_906 (by decide) ?_
    exact W.widen (k := cells + 20) (n := slots + 500) (by omega) (by omega) (kk _ _ _ _ _ _ _ hJ2 (IvT_timeAt hk hnow (xs (i + 1)) (xs (i + 2))) (nwT_timeAt (xs (i + 1)) (xs (i + 2))) hM hS (lv_sub hl [2, 3, 4, 5, 6, 7] rfl))
set_option maxRecDepth 100000 in
set_option maxHeartbeats 4000000 in
theorem law_case_13 {p : Program} {l : Launch} {e : Env} {s : State} {mt : MethodId} {below : List Frame} {meth : Method} {c : Code} {H : Heap} {locs : List Loc} {cells slots : Nat} {Q : State → Prop} {ls : Array Slot} {G : mG} {h : Hp} {b L i : Nat} {xs : Nat → Int32} {x m : Nat} {q : Nat → Nat} {o o2 : Nat} {f : Nat → Int64} {g : Nat → UInt64} {st : Ms} {nm9 : String} (Z : mZ l G #[.ref b] s) (No : mNo s) (C : mC s p s mt meth c cL_law 9 RL (some .boolean) nm9) (hX : va_X b L xs s s.heap) (hbl : b < s.heap.size) (hL : L ≤ 3072) (hi : i + 6 ≤ L) (hJ : LJ G h x m q o o2 f g st st) (hk : Iv st) (hnow : st_now st + 600 < 1073741824) (hM : MW G s.heap.size h H) (hS : va_S (fun q => s.heap.size ≤ q) s.heap H locs) (hl : lv_has ls 9 [(5, .int (nI i)), (4, .ref o2), (3, .ref o), (2, .ref m), (1, .ref x), (0, .ref b)]) (hc : cells + 20 ≤ 603072 ∧ slots + 500 ≤ 7223402) (kk : ∀ (st2 : Ms) (f2 : Nat → Int64) (g2 : Nat → UInt64) (h2 : Hp) (H2 : Heap) (locs2 : List Loc) (ls2 : Array Slot), LJ G h2 x m q o o2 f2 g2 st2 st2 → Iv st2 → st_now st2 ≤ st_now st + 600 → MW G s.heap.size h2 H2 → va_S (fun q => s.heap.size ≤ q) s.heap H2 locs2 → lv_has ls2 9 [(5, .int (nI i)), (4, .ref o2), (3, .ref o), (2, .ref m), (1, .ref x), (0, .ref b)] → W p l e room_1 s mt #[.ref b] below meth c H2 locs2 (cells + 20) (slots + 500) Q (F0 mt 2972 ls2 [])) : W p l e room_1 s mt #[.ref b] below meth c H locs cells slots Q (F0 mt 909 ls []) := by
  have hx := C.1
  have hb := C.2.1
  have hown := C.2.2.2.1
  have hE := C.2.2.2.2.2.2.1
  have hL9 : L < 2 ^ 31 := by omega
  have hbA : ¬ (fun q : Nat => s.heap.size ≤ q) b := Nat.not_le.mpr hbl
  refine lv_aload_n hx hb dL_law_909 rfl (lv_at hl 4 rfl) ?_
  refine m_scr (k := 1) hx hb hX hbl hbA hS hL9 (by omega) (lv_at hl 5 rfl) (lv_at hl 0 rfl) dL_law_910 dL_law_911 dL_law_913 (by decide) dL_law_914 dL_law_915 ?_
  refine m_scr (k := 2) hx hb hX hbl hbA hS hL9 (by omega) (lv_at hl 5 rfl) (lv_at hl 0 rfl) dL_law_916 dL_law_917 dL_law_919 (by decide) dL_law_920 dL_law_921 ?_
  refine lv_aload_n hx hb dL_law_922 rfl (lv_at hl 2 rfl) ?_
  refine m_callH Z C hM hS (As := [.ref x, .int (xs (i + 1)), .int (xs (i + 2)), .ref o]) (rest := []) (c_L_valueAt Z No h x m q o o2 f g st hJ hk (xs (i + 1)) (xs (i + 2))) yi_L_valueAt ml_L_180 ⟨Nat.le_of_ble_eq_true rfl, Nat.le_of_ble_eq_true rfl⟩ (Nat.le_of_ble_eq_true rfl) hl.1 rfl rfl dL_law_923 ⟨(by show cells + 2 ≤ 603072; omega), (by show slots + 12 ≤ 7223402; omega)⟩ (fun v h1 H locs hv hM hS => ?_)
  obtain ⟨hv, f9, hJ1, hz1⟩ := hv
  subst hv
  refine W.eq (g2 := F0 mt 926 ls [.int (st_thr (T_valueAt st (xs (i + 1)) (xs (i + 2))).1)]) rfl ?_
  refine lv_istore (lv' := [(6, .int (st_thr (T_valueAt st (xs (i + 1)) (xs (i + 2))).1)), (5, .int (nI i)), (4, .ref o2), (3, .ref o), (2, .ref m), (1, .ref x), (0, .ref b)]) hx hb dL_law_926 hl (by decide) rfl (fun ls hl => ?_)
  refine lv_aload_n hx hb dL_law_928 rfl (lv_at hl 4 rfl) ?_
  refine m_scr (k := 1) hx hb hX hbl hbA hS hL9 (by omega) (lv_at hl 6 rfl) (lv_at hl 1 rfl) dL_law_929 dL_law_930 dL_law_932 (by decide) dL_law_933 dL_law_934 ?_
  refine m_scr (k := 2) hx hb hX hbl hbA hS hL9 (by omega) (lv_at hl 6 rfl) (lv_at hl 1 rfl) dL_law_935 dL_law_936 dL_law_938 (by decide) dL_law_939 dL_law_940 ?_
  refine m_callV Z C hM hS (As := [.int (xs (i + 1)), .int (xs (i + 2))]) (rest := []) (d_X6_valueAt Z h1 x m q o o2 f9 g (T_valueAt st (xs (i + 1)) (xs (i + 2))).1 st hJ1 hk (xs (i + 1)) (xs (i + 2))) yi_X6_valueAt ml_L_182 hJ1.mdl.o rfl ⟨Nat.le_of_ble_eq_true rfl, Nat.le_of_ble_eq_true rfl⟩ (Nat.le_of_ble_eq_true rfl) hl.1 rfl rfl dL_law_941 ⟨(by show cells + 2 + 0 ≤ 603072; omega), (by show slots + 12 + 0 ≤ 7223402; omega)⟩ (fun v h2 H locs hv hM hS => ?_)
  obtain ⟨w, hv, hJ2, hz2⟩ := hv
  subst hv
  refine W.eq (g2 := F0 mt 944 ls [.int w]) rfl ?_
  refine lv_istore (lv' := [(7, .int w), (6, .int (st_thr (T_valueAt st (xs (i + 1)) (xs (i + 2))).1)), (5, .int (nI i)), (4, .ref o2), (3, .ref o), (2, .ref m), (1, .ref x), (0, .ref b)]) hx hb dL_law_944 hl (by decide) rfl (fun ls hl => ?_)
  refine lv_aload_n hx hb dL_law_946 rfl (lv_at hl 5 rfl) ?_
  refine m_callV Z C hM hS (As := []) (rest := []) (c_X6_thrown Z h2 m q (T_valueAt st (xs (i + 1)) (xs (i + 2))).1 hJ2.mdl) yi_X6_thrown ml_L_136 hJ2.mdl.o rfl ⟨Nat.le_of_ble_eq_true rfl, Nat.le_of_ble_eq_true rfl⟩ (Nat.le_of_ble_eq_true rfl) hl.1 rfl rfl dL_law_947 ⟨(by show cells + 2 + 0 + 0 ≤ 603072; omega), (by show slots + 12 + 0 + 0 ≤ 7223402; omega)⟩ (fun v h3 H locs hv hM hS => ?_)
  obtain ⟨hv, hh3⟩ := hv
  subst hv
  rw [hh3] at hM
  refine W.eq (g2 := F0 mt 950 ls [.int (st_thr (T_valueAt st (xs (i + 1)) (xs (i + 2))).1)]) rfl ?_
  refine lv_iload hx hb dL_law_950 (lv_at hl 1 rfl) ?_
  refine lv_icmp_eq (tgt := 957) hx hb dL_law_952 (by decide) (fun _ => ?_) (fun z9 => absurd rfl z9)
  refine lv_iload hx hb dL_law_957 (lv_at hl 1 rfl) ?_
  refine lv_if_ne (tgt := 974) hx hb dL_law_959 (by decide) (fun _ => ?_) (fun z9 => ?_)
  · -- thrown
    refine lv_goto (tgt := 2972) hx hb dL_law_974 (by decide) ?_
    exact W.widen (k := cells + 20) (n := slots + 500) (by omega) (by omega) (kk _ _ _ _ _ _ _ hJ2 (IvT_valueAt hk hnow (xs (i + 1)) (xs (i + 2))) (nwT_valueAt (xs (i + 1)) (xs (i + 2))) hM hS (lv_sub hl [2, 3, 4, 5, 6, 7] rfl))
  · -- answered
    refine lv_aload_n hx hb dL_law_962 rfl (lv_at hl 4 rfl) ?_
    refine lv_iconst (v := nI 0) hx hb dL_law_963 (by decide) ?_
    refine m_lald Z C hM hJ2.oo 0 rfl (by decide) (by decide) dL_law_964 ?_
    refine lv_iload hx hb dL_law_965 (lv_at hl 0 rfl) ?_
    refine lv_i2l hx hb dL_law_967 rfl ?_
    have e9 : f9 0 = w.toInt64 := (hz1 z9).trans (hz2 z9).symm
    refine W.lcmp hx hb dL_law_968 ?_
    refine n_lc_eq (tgt := 974) hx hb dL_law_969 (by decide) (fun _ => ?_) (fun z => absurd e9 z)
    refine lv_goto (tgt := 2972) hx hb dL_law_974 (by decide) ?_
    exact W.widen (k := cells + 20) (n := slots + 500) (by omega) (by omega) (kk _ _ _ _ _ _ _ hJ2 (IvT_valueAt hk hnow (xs (i + 1)) (xs (i + 2))) (nwT_valueAt (xs (i + 1)) (xs (i + 2))) hM hS (lv_sub hl [2, 3, 4, 5, 6, 7] rfl))
set_option maxRecDepth 100000 in
set_option maxHeartbeats 4000000 in
theorem law_case_14 {p : Program} {l : Launch} {e : Env} {s : State} {mt : MethodId} {below : List Frame} {meth : Method} {c : Code} {H : Heap} {locs : List Loc} {cells slots : Nat} {Q : State → Prop} {ls : Array Slot} {G : mG} {h : Hp} {b L i : Nat} {xs : Nat → Int32} {x m : Nat} {q : Nat → Nat} {o o2 : Nat} {f : Nat → Int64} {g : Nat → UInt64} {st : Ms} {nm9 : String} (Z : mZ l G #[.ref b] s) (No : mNo s) (C : mC s p s mt meth c cL_law 9 RL (some .boolean) nm9) (hX : va_X b L xs s s.heap) (hbl : b < s.heap.size) (hL : L ≤ 3072) (hi : i + 6 ≤ L) (hJ : LJ G h x m q o o2 f g st st) (hk : Iv st) (hnow : st_now st + 600 < 1073741824) (hM : MW G s.heap.size h H) (hS : va_S (fun q => s.heap.size ≤ q) s.heap H locs) (hl : lv_has ls 9 [(5, .int (nI i)), (4, .ref o2), (3, .ref o), (2, .ref m), (1, .ref x), (0, .ref b)]) (hc : cells + 20 ≤ 603072 ∧ slots + 500 ≤ 7223402) (kk : ∀ (st2 : Ms) (f2 : Nat → Int64) (g2 : Nat → UInt64) (h2 : Hp) (H2 : Heap) (locs2 : List Loc) (ls2 : Array Slot), LJ G h2 x m q o o2 f2 g2 st2 st2 → Iv st2 → st_now st2 ≤ st_now st + 600 → MW G s.heap.size h2 H2 → va_S (fun q => s.heap.size ≤ q) s.heap H2 locs2 → lv_has ls2 9 [(5, .int (nI i)), (4, .ref o2), (3, .ref o), (2, .ref m), (1, .ref x), (0, .ref b)] → W p l e room_1 s mt #[.ref b] below meth c H2 locs2 (cells + 20) (slots + 500) Q (F0 mt 2972 ls2 [])) : W p l e room_1 s mt #[.ref b] below meth c H locs cells slots Q (F0 mt 977 ls []) := by
  have hx := C.1
  have hb := C.2.1
  have hown := C.2.2.2.1
  have hE := C.2.2.2.2.2.2.1
  have hL9 : L < 2 ^ 31 := by omega
  have hbA : ¬ (fun q : Nat => s.heap.size ≤ q) b := Nat.not_le.mpr hbl
  refine lv_aload_n hx hb dL_law_977 rfl (lv_at hl 4 rfl) ?_
  obtain ⟨fs9, hx9⟩ := hJ.xx
  refine m_callV Z C hM hS (As := []) (rest := []) (d_X5_allBits Z h x m q o o2 f g st hJ hk) yi_X5_allBits ml_L_183 hx9 rfl ⟨Nat.le_of_ble_eq_true rfl, Nat.le_of_ble_eq_true rfl⟩ (Nat.le_of_ble_eq_true rfl) hl.1 rfl rfl dL_law_978 ⟨(by show cells + 0 ≤ 603072; omega), (by show slots + 0 ≤ 7223402; omega)⟩ (fun v h1 H locs hv hM hS => ?_)
  obtain ⟨hv, hJ1⟩ := hv
  subst hv
  refine W.eq (g2 := F0 mt 981 ls [.long (lN (z_all st (st_many st)))]) rfl ?_
  refine lv_aload_n hx hb dL_law_981 rfl (lv_at hl 3 rfl) ?_
  refine m_callV Z C hM hS (As := []) (rest := [.long (lN (z_all st (st_many st)))]) (d_X6_allBits Z h1 x m q o o2 f g (s_thr st (nI 0)) st hJ1 hk) yi_X6_allBits ml_L_186 hJ1.mdl.o rfl ⟨Nat.le_of_ble_eq_true rfl, Nat.le_of_ble_eq_true rfl⟩ (Nat.le_of_ble_eq_true rfl) hl.1 rfl rfl dL_law_982 ⟨(by show cells + 0 + 0 ≤ 603072; omega), (by show slots + 0 + 0 ≤ 7223402; omega)⟩ (fun v h2 H locs hv hM hS => ?_)
  obtain ⟨hv, hJ2⟩ := hv
  subst hv
  refine W.eq (g2 := F0 mt 985 ls [.long (lN (z_all st (st_many st))), .long (lN (z_all st (st_many st)))]) rfl ?_
  refine W.lcmp hx hb dL_law_985 ?_
  refine n_lc_eq (tgt := 2972) hx hb dL_law_986 (by decide) (fun _ => ?_) (fun z9 => absurd rfl z9)
  exact W.widen (k := cells + 20) (n := slots + 500) (by omega) (by omega) (kk _ _ _ _ _ _ _ hJ2 (Iv_thr hk _) (Nat.le_add_right _ _) hM hS (lv_sub hl [0, 1, 2, 3, 4, 5] rfl))
set_option maxRecDepth 100000 in
set_option maxHeartbeats 4000000 in
theorem law_case_15 {p : Program} {l : Launch} {e : Env} {s : State} {mt : MethodId} {below : List Frame} {meth : Method} {c : Code} {H : Heap} {locs : List Loc} {cells slots : Nat} {Q : State → Prop} {ls : Array Slot} {G : mG} {h : Hp} {b L i : Nat} {xs : Nat → Int32} {x m : Nat} {q : Nat → Nat} {o o2 : Nat} {f : Nat → Int64} {g : Nat → UInt64} {st : Ms} {nm9 : String} (Z : mZ l G #[.ref b] s) (No : mNo s) (C : mC s p s mt meth c cL_law 9 RL (some .boolean) nm9) (hX : va_X b L xs s s.heap) (hbl : b < s.heap.size) (hL : L ≤ 3072) (hi : i + 6 ≤ L) (hJ : LJ G h x m q o o2 f g st st) (hk : Iv st) (hnow : st_now st + 600 < 1073741824) (hM : MW G s.heap.size h H) (hS : va_S (fun q => s.heap.size ≤ q) s.heap H locs) (hl : lv_has ls 9 [(5, .int (nI i)), (4, .ref o2), (3, .ref o), (2, .ref m), (1, .ref x), (0, .ref b)]) (hc : cells + 20 ≤ 603072 ∧ slots + 500 ≤ 7223402) (kk : ∀ (st2 : Ms) (f2 : Nat → Int64) (g2 : Nat → UInt64) (h2 : Hp) (H2 : Heap) (locs2 : List Loc) (ls2 : Array Slot), LJ G h2 x m q o o2 f2 g2 st2 st2 → Iv st2 → st_now st2 ≤ st_now st + 600 → MW G s.heap.size h2 H2 → va_S (fun q => s.heap.size ≤ q) s.heap H2 locs2 → lv_has ls2 9 [(5, .int (nI i)), (4, .ref o2), (3, .ref o), (2, .ref m), (1, .ref x), (0, .ref b)] → W p l e room_1 s mt #[.ref b] below meth c H2 locs2 (cells + 20) (slots + 500) Q (F0 mt 2972 ls2 [])) : W p l e room_1 s mt #[.ref b] below meth c H locs cells slots Q (F0 mt 991 ls []) := by
  have hx := C.1
  have hb := C.2.1
  have hown := C.2.2.2.1
  have hE := C.2.2.2.2.2.2.1
  have hL9 : L < 2 ^ 31 := by omega
  have hbA : ¬ (fun q : Nat => s.heap.size ≤ q) b := Nat.not_le.mpr hbl
  refine lv_aload_n hx hb dL_law_991 rfl (lv_at hl 4 rfl) ?_
  refine m_scr (k := 1) hx hb hX hbl hbA hS hL9 (by omega) (lv_at hl 5 rfl) (lv_at hl 0 rfl) dL_law_992 dL_law_993 dL_law_995 (by decide) dL_law_996 dL_law_997 ?_
  refine m_scl (k := 2) hx hb hX hbl hbA hS hL9 (by omega) (lv_at hl 5 rfl) (lv_at hl 0 rfl) hown (hE.good Z kl_L_187 _) dL_law_998 dL_law_999 dL_law_1001 (by decide) dL_law_1002 dL_law_1003 dL_law_1004 dL_law_1005 dL_law_1007 dL_law_1008 dL_law_1009 dL_law_1011 (by decide) dL_law_1012 dL_law_1013 dL_law_1014 dL_law_1015 dL_law_1018 dL_law_1019 ?_
  refine m_scl (k := 4) hx hb hX hbl hbA hS hL9 (by omega) (lv_at hl 5 rfl) (lv_at hl 0 rfl) hown (hE.good Z kl_L_187 _) dL_law_1020 dL_law_1021 dL_law_1023 (by decide) dL_law_1024 dL_law_1025 dL_law_1026 dL_law_1027 dL_law_1029 dL_law_1030 dL_law_1031 dL_law_1033 (by decide) dL_law_1034 dL_law_1035 dL_law_1036 dL_law_1037 dL_law_1040 dL_law_1041 ?_
  refine lv_aload_n hx hb dL_law_1042 rfl (lv_at hl 2 rfl) ?_
  refine m_callH Z C hM hS (As := [.ref x, .int (xs (i + 1)), .long (sl xs (i + 2)), .long (sl xs (i + 4)), .ref o]) (rest := []) (c_L_count Z No h x m q o o2 f g st hJ hk (xs (i + 1)) (sl xs (i + 2)) (sl xs (i + 4))) yi_L_count ml_L_189 ⟨Nat.le_of_ble_eq_true rfl, Nat.le_of_ble_eq_true rfl⟩ (Nat.le_of_ble_eq_true rfl) hl.1 rfl rfl dL_law_1043 ⟨(by show cells + 2 ≤ 603072; omega), (by show slots + 12 ≤ 7223402; omega)⟩ (fun v h1 H locs hv hM hS => ?_)
  obtain ⟨hv, f9, hJ1, hz1⟩ := hv
  subst hv
  refine W.eq (g2 := F0 mt 1046 ls [.int (st_thr (T_count st (xs (i + 1)) (sl xs (i + 2)) (sl xs (i + 4))).1)]) rfl ?_
  refine lv_istore (lv' := [(6, .int (st_thr (T_count st (xs (i + 1)) (sl xs (i + 2)) (sl xs (i + 4))).1)), (5, .int (nI i)), (4, .ref o2), (3, .ref o), (2, .ref m), (1, .ref x), (0, .ref b)]) hx hb dL_law_1046 hl (by decide) rfl (fun ls hl => ?_)
  refine lv_aload_n hx hb dL_law_1048 rfl (lv_at hl 4 rfl) ?_
  refine m_scr (k := 1) hx hb hX hbl hbA hS hL9 (by omega) (lv_at hl 6 rfl) (lv_at hl 1 rfl) dL_law_1049 dL_law_1050 dL_law_1052 (by decide) dL_law_1053 dL_law_1054 ?_
  refine m_scl (k := 2) hx hb hX hbl hbA hS hL9 (by omega) (lv_at hl 6 rfl) (lv_at hl 1 rfl) hown (hE.good Z kl_L_187 _) dL_law_1055 dL_law_1056 dL_law_1058 (by decide) dL_law_1059 dL_law_1060 dL_law_1061 dL_law_1062 dL_law_1064 dL_law_1065 dL_law_1066 dL_law_1068 (by decide) dL_law_1069 dL_law_1070 dL_law_1071 dL_law_1072 dL_law_1075 dL_law_1076 ?_
  refine m_scl (k := 4) hx hb hX hbl hbA hS hL9 (by omega) (lv_at hl 6 rfl) (lv_at hl 1 rfl) hown (hE.good Z kl_L_187 _) dL_law_1077 dL_law_1078 dL_law_1080 (by decide) dL_law_1081 dL_law_1082 dL_law_1083 dL_law_1084 dL_law_1086 dL_law_1087 dL_law_1088 dL_law_1090 (by decide) dL_law_1091 dL_law_1092 dL_law_1093 dL_law_1094 dL_law_1097 dL_law_1098 ?_
  refine m_callV Z C hM hS (As := [.int (xs (i + 1)), .long (sl xs (i + 2)), .long (sl xs (i + 4))]) (rest := []) (d_X6_count Z h1 x m q o o2 f9 g (T_count st (xs (i + 1)) (sl xs (i + 2)) (sl xs (i + 4))).1 st hJ1 hk (xs (i + 1)) (sl xs (i + 2)) (sl xs (i + 4))) yi_X6_count ml_L_192 hJ1.mdl.o rfl ⟨Nat.le_of_ble_eq_true rfl, Nat.le_of_ble_eq_true rfl⟩ (Nat.le_of_ble_eq_true rfl) hl.1 rfl rfl dL_law_1099 ⟨(by show cells + 2 + 0 ≤ 603072; omega), (by show slots + 12 + 0 ≤ 7223402; omega)⟩ (fun v h2 H locs hv hM hS => ?_)
  obtain ⟨w, hv, hJ2, hz2⟩ := hv
  subst hv
  refine W.eq (g2 := F0 mt 1102 ls [.int w]) rfl ?_
  refine lv_istore (lv' := [(7, .int w), (6, .int (st_thr (T_count st (xs (i + 1)) (sl xs (i + 2)) (sl xs (i + 4))).1)), (5, .int (nI i)), (4, .ref o2), (3, .ref o), (2, .ref m), (1, .ref x), (0, .ref b)]) hx hb dL_law_1102 hl (by decide) rfl (fun ls hl => ?_)
  refine lv_aload_n hx hb dL_law_1104 rfl (lv_at hl 5 rfl) ?_
  refine m_callV Z C hM hS (As := []) (rest := []) (c_X6_thrown Z h2 m q (T_count st (xs (i + 1)) (sl xs (i + 2)) (sl xs (i + 4))).1 hJ2.mdl) yi_X6_thrown ml_L_136 hJ2.mdl.o rfl ⟨Nat.le_of_ble_eq_true rfl, Nat.le_of_ble_eq_true rfl⟩ (Nat.le_of_ble_eq_true rfl) hl.1 rfl rfl dL_law_1105 ⟨(by show cells + 2 + 0 + 0 ≤ 603072; omega), (by show slots + 12 + 0 + 0 ≤ 7223402; omega)⟩ (fun v h3 H locs hv hM hS => ?_)
  obtain ⟨hv, hh3⟩ := hv
  subst hv
  rw [hh3] at hM
  refine W.eq (g2 := F0 mt 1108 ls [.int (st_thr (T_count st (xs (i + 1)) (sl xs (i + 2)) (sl xs (i + 4))).1)]) rfl ?_
  refine lv_iload hx hb dL_law_1108 (lv_at hl 1 rfl) ?_
  refine lv_icmp_eq (tgt := 1115) hx hb dL_law_1110 (by decide) (fun _ => ?_) (fun z9 => absurd rfl z9)
  refine lv_iload hx hb dL_law_1115 (lv_at hl 1 rfl) ?_
  refine lv_if_ne (tgt := 1132) hx hb dL_law_1117 (by decide) (fun _ => ?_) (fun z9 => ?_)
  · -- thrown
    refine lv_goto (tgt := 2972) hx hb dL_law_1132 (by decide) ?_
    exact W.widen (k := cells + 20) (n := slots + 500) (by omega) (by omega) (kk _ _ _ _ _ _ _ hJ2 (IvT_count hk hnow (xs (i + 1)) (sl xs (i + 2)) (sl xs (i + 4))) (nwT_count (xs (i + 1)) (sl xs (i + 2)) (sl xs (i + 4))) hM hS (lv_sub hl [2, 3, 4, 5, 6, 7] rfl))
  · -- answered
    refine lv_aload_n hx hb dL_law_1120 rfl (lv_at hl 4 rfl) ?_
    refine lv_iconst (v := nI 0) hx hb dL_law_1121 (by decide) ?_
    refine m_lald Z C hM hJ2.oo 0 rfl (by decide) (by decide) dL_law_1122 ?_
    refine lv_iload hx hb dL_law_1123 (lv_at hl 0 rfl) ?_
    refine lv_i2l hx hb dL_law_1125 rfl ?_
    have e9 : f9 0 = w.toInt64 := (hz1 z9).trans (hz2 z9).symm
    refine W.lcmp hx hb dL_law_1126 ?_
    refine n_lc_eq (tgt := 1132) hx hb dL_law_1127 (by decide) (fun _ => ?_) (fun z => absurd e9 z)
    refine lv_goto (tgt := 2972) hx hb dL_law_1132 (by decide) ?_
    exact W.widen (k := cells + 20) (n := slots + 500) (by omega) (by omega) (kk _ _ _ _ _ _ _ hJ2 (IvT_count hk hnow (xs (i + 1)) (sl xs (i + 2)) (sl xs (i + 4))) (nwT_count (xs (i + 1)) (sl xs (i + 2)) (sl xs (i + 4))) hM hS (lv_sub hl [2, 3, 4, 5, 6, 7] rfl))
set_option maxRecDepth 100000 in
set_option maxHeartbeats 4000000 in
theorem law_case_16 {p : Program} {l : Launch} {e : Env} {s : State} {mt : MethodId} {below : List Frame} {meth : Method} {c : Code} {H : Heap} {locs : List Loc} {cells slots : Nat} {Q : State → Prop} {ls : Array Slot} {G : mG} {h : Hp} {b L i : Nat} {xs : Nat → Int32} {x m : Nat} {q : Nat → Nat} {o o2 : Nat} {f : Nat → Int64} {g : Nat → UInt64} {st : Ms} {nm9 : String} (Z : mZ l G #[.ref b] s) (No : mNo s) (C : mC s p s mt meth c cL_law 9 RL (some .boolean) nm9) (hX : va_X b L xs s s.heap) (hbl : b < s.heap.size) (hL : L ≤ 3072) (hi : i + 6 ≤ L) (hJ : LJ G h x m q o o2 f g st st) (hk : Iv st) (hnow : st_now st + 600 < 1073741824) (hM : MW G s.heap.size h H) (hS : va_S (fun q => s.heap.size ≤ q) s.heap H locs) (hl : lv_has ls 9 [(5, .int (nI i)), (4, .ref o2), (3, .ref o), (2, .ref m), (1, .ref x), (0, .ref b)]) (hc : cells + 20 ≤ 603072 ∧ slots + 500 ≤ 7223402) (kk : ∀ (st2 : Ms) (f2 : Nat → Int64) (g2 : Nat → UInt64) (h2 : Hp) (H2 : Heap) (locs2 : List Loc) (ls2 : Array Slot), LJ G h2 x m q o o2 f2 g2 st2 st2 → Iv st2 → st_now st2 ≤ st_now st + 600 → MW G s.heap.size h2 H2 → va_S (fun q => s.heap.size ≤ q) s.heap H2 locs2 → lv_has ls2 9 [(5, .int (nI i)), (4, .ref o2), (3, .ref o), (2, .ref m), (1, .ref x), (0, .ref b)] → W p l e room_1 s mt #[.ref b] below meth c H2 locs2 (cells + 20) (slots + 500) Q (F0 mt 2972 ls2 [])) : W p l e room_1 s mt #[.ref b] below meth c H locs cells slots Q (F0 mt 1135 ls []) := by
  have hx := C.1
  have hb := C.2.1
  have hown := C.2.2.2.1
  have hE := C.2.2.2.2.2.2.1
  have hL9 : L < 2 ^ 31 := by omega
  have hbA : ¬ (fun q : Nat => s.heap.size ≤ q) b := Nat.not_le.mpr hbl
  refine lv_aload_n hx hb dL_law_1135 rfl (lv_at hl 4 rfl) ?_
  refine m_scr (k := 1) hx hb hX hbl hbA hS hL9 (by omega) (lv_at hl 5 rfl) (lv_at hl 0 rfl) dL_law_1136 dL_law_1137 dL_law_1139 (by decide) dL_law_1140 dL_law_1141 ?_
  refine m_scl (k := 2) hx hb hX hbl hbA hS hL9 (by omega) (lv_at hl 5 rfl) (lv_at hl 0 rfl) hown (hE.good Z kl_L_187 _) dL_law_1142 dL_law_1143 dL_law_1145 (by decide) dL_law_1146 dL_law_1147 dL_law_1148 dL_law_1149 dL_law_1151 dL_law_1152 dL_law_1153 dL_law_1155 (by decide) dL_law_1156 dL_law_1157 dL_law_1158 dL_law_1159 dL_law_1162 dL_law_1163 ?_
  refine m_scl (k := 4) hx hb hX hbl hbA hS hL9 (by omega) (lv_at hl 5 rfl) (lv_at hl 0 rfl) hown (hE.good Z kl_L_187 _) dL_law_1164 dL_law_1165 dL_law_1167 (by decide) dL_law_1168 dL_law_1169 dL_law_1170 dL_law_1171 dL_law_1173 dL_law_1174 dL_law_1175 dL_law_1177 (by decide) dL_law_1178 dL_law_1179 dL_law_1180 dL_law_1181 dL_law_1184 dL_law_1185 ?_
  refine lv_aload_n hx hb dL_law_1186 rfl (lv_at hl 2 rfl) ?_
  refine m_callH Z C hM hS (As := [.ref x, .int (xs (i + 1)), .long (sl xs (i + 2)), .long (sl xs (i + 4)), .ref o]) (rest := []) (c_L_sum Z No h x m q o o2 f g st hJ hk (xs (i + 1)) (sl xs (i + 2)) (sl xs (i + 4))) yi_L_sum ml_L_193 ⟨Nat.le_of_ble_eq_true rfl, Nat.le_of_ble_eq_true rfl⟩ (Nat.le_of_ble_eq_true rfl) hl.1 rfl rfl dL_law_1187 ⟨(by show cells + 2 ≤ 603072; omega), (by show slots + 12 ≤ 7223402; omega)⟩ (fun v h1 H locs hv hM hS => ?_)
  obtain ⟨hv, f9, hJ1, hz1⟩ := hv
  subst hv
  refine W.eq (g2 := F0 mt 1190 ls [.int (st_thr (T_sum st (xs (i + 1)) (sl xs (i + 2)) (sl xs (i + 4))).1)]) rfl ?_
  refine lv_istore (lv' := [(6, .int (st_thr (T_sum st (xs (i + 1)) (sl xs (i + 2)) (sl xs (i + 4))).1)), (5, .int (nI i)), (4, .ref o2), (3, .ref o), (2, .ref m), (1, .ref x), (0, .ref b)]) hx hb dL_law_1190 hl (by decide) rfl (fun ls hl => ?_)
  refine lv_aload_n hx hb dL_law_1192 rfl (lv_at hl 4 rfl) ?_
  refine m_scr (k := 1) hx hb hX hbl hbA hS hL9 (by omega) (lv_at hl 6 rfl) (lv_at hl 1 rfl) dL_law_1193 dL_law_1194 dL_law_1196 (by decide) dL_law_1197 dL_law_1198 ?_
  refine m_scl (k := 2) hx hb hX hbl hbA hS hL9 (by omega) (lv_at hl 6 rfl) (lv_at hl 1 rfl) hown (hE.good Z kl_L_187 _) dL_law_1199 dL_law_1200 dL_law_1202 (by decide) dL_law_1203 dL_law_1204 dL_law_1205 dL_law_1206 dL_law_1208 dL_law_1209 dL_law_1210 dL_law_1212 (by decide) dL_law_1213 dL_law_1214 dL_law_1215 dL_law_1216 dL_law_1219 dL_law_1220 ?_
  refine m_scl (k := 4) hx hb hX hbl hbA hS hL9 (by omega) (lv_at hl 6 rfl) (lv_at hl 1 rfl) hown (hE.good Z kl_L_187 _) dL_law_1221 dL_law_1222 dL_law_1224 (by decide) dL_law_1225 dL_law_1226 dL_law_1227 dL_law_1228 dL_law_1230 dL_law_1231 dL_law_1232 dL_law_1234 (by decide) dL_law_1235 dL_law_1236 dL_law_1237 dL_law_1238 dL_law_1241 dL_law_1242 ?_
  refine m_callV Z C hM hS (As := [.int (xs (i + 1)), .long (sl xs (i + 2)), .long (sl xs (i + 4))]) (rest := []) (d_X6_sum Z h1 x m q o o2 f9 g (T_sum st (xs (i + 1)) (sl xs (i + 2)) (sl xs (i + 4))).1 st hJ1 hk (xs (i + 1)) (sl xs (i + 2)) (sl xs (i + 4))) yi_X6_sum ml_L_195 hJ1.mdl.o rfl ⟨Nat.le_of_ble_eq_true rfl, Nat.le_of_ble_eq_true rfl⟩ (Nat.le_of_ble_eq_true rfl) hl.1 rfl rfl dL_law_1243 ⟨(by show cells + 2 + 0 ≤ 603072; omega), (by show slots + 12 + 0 ≤ 7223402; omega)⟩ (fun v h2 H locs hv hM hS => ?_)
  obtain ⟨w, hv, hJ2, hz2⟩ := hv
  subst hv
  refine W.eq (g2 := F0 mt 1246 ls [.long w]) rfl ?_
  refine lv_lstore (lv' := [(7, .long w), (6, .int (st_thr (T_sum st (xs (i + 1)) (sl xs (i + 2)) (sl xs (i + 4))).1)), (5, .int (nI i)), (4, .ref o2), (3, .ref o), (2, .ref m), (1, .ref x), (0, .ref b)]) hx hb dL_law_1246 hl (by decide) rfl (fun ls hl => ?_)
  refine lv_aload_n hx hb dL_law_1248 rfl (lv_at hl 5 rfl) ?_
  refine m_callV Z C hM hS (As := []) (rest := []) (c_X6_thrown Z h2 m q (T_sum st (xs (i + 1)) (sl xs (i + 2)) (sl xs (i + 4))).1 hJ2.mdl) yi_X6_thrown ml_L_136 hJ2.mdl.o rfl ⟨Nat.le_of_ble_eq_true rfl, Nat.le_of_ble_eq_true rfl⟩ (Nat.le_of_ble_eq_true rfl) hl.1 rfl rfl dL_law_1249 ⟨(by show cells + 2 + 0 + 0 ≤ 603072; omega), (by show slots + 12 + 0 + 0 ≤ 7223402; omega)⟩ (fun v h3 H locs hv hM hS => ?_)
  obtain ⟨hv, hh3⟩ := hv
  subst hv
  rw [hh3] at hM
  refine W.eq (g2 := F0 mt 1252 ls [.int (st_thr (T_sum st (xs (i + 1)) (sl xs (i + 2)) (sl xs (i + 4))).1)]) rfl ?_
  refine lv_iload hx hb dL_law_1252 (lv_at hl 1 rfl) ?_
  refine lv_icmp_eq (tgt := 1259) hx hb dL_law_1254 (by decide) (fun _ => ?_) (fun z9 => absurd rfl z9)
  refine lv_iload hx hb dL_law_1259 (lv_at hl 1 rfl) ?_
  refine lv_if_ne (tgt := 1275) hx hb dL_law_1261 (by decide) (fun _ => ?_) (fun z9 => ?_)
  · -- thrown
    refine lv_goto (tgt := 2972) hx hb dL_law_1275 (by decide) ?_
    exact W.widen (k := cells + 20) (n := slots + 500) (by omega) (by omega) (kk _ _ _ _ _ _ _ hJ2 (IvT_sum hk hnow (xs (i + 1)) (sl xs (i + 2)) (sl xs (i + 4))) (nwT_sum (xs (i + 1)) (sl xs (i + 2)) (sl xs (i + 4))) hM hS (lv_sub hl [2, 3, 4, 5, 6, 7] rfl))
  · -- answered
    refine lv_aload_n hx hb dL_law_1264 rfl (lv_at hl 4 rfl) ?_
    refine lv_iconst (v := nI 0) hx hb dL_law_1265 (by decide) ?_
    refine m_lald Z C hM hJ2.oo 0 rfl (by decide) (by decide) dL_law_1266 ?_
    refine lv_lload hx hb dL_law_1267 (lv_at hl 0 rfl) ?_
    have e9 : f9 0 = w := (hz1 z9).trans (hz2 z9).symm
    refine W.lcmp hx hb dL_law_1269 ?_
    refine n_lc_eq (tgt := 1275) hx hb dL_law_1270 (by decide) (fun _ => ?_) (fun z => absurd e9 z)
    refine lv_goto (tgt := 2972) hx hb dL_law_1275 (by decide) ?_
    exact W.widen (k := cells + 20) (n := slots + 500) (by omega) (by omega) (kk _ _ _ _ _ _ _ hJ2 (IvT_sum hk hnow (xs (i + 1)) (sl xs (i + 2)) (sl xs (i + 4))) (nwT_sum (xs (i + 1)) (sl xs (i + 2)) (sl xs (i + 4))) hM hS (lv_sub hl [2, 3, 4, 5, 6, 7] rfl))
set_option maxRecDepth 100000 in
set_option maxHeartbeats 4000000 in
theorem law_case_17 {p : Program} {l : Launch} {e : Env} {s : State} {mt : MethodId} {below : List Frame} {meth : Method} {c : Code} {H : Heap} {locs : List Loc} {cells slots : Nat} {Q : State → Prop} {ls : Array Slot} {G : mG} {h : Hp} {b L i : Nat} {xs : Nat → Int32} {x m : Nat} {q : Nat → Nat} {o o2 : Nat} {f : Nat → Int64} {g : Nat → UInt64} {st : Ms} {nm9 : String} (Z : mZ l G #[.ref b] s) (No : mNo s) (C : mC s p s mt meth c cL_law 9 RL (some .boolean) nm9) (hX : va_X b L xs s s.heap) (hbl : b < s.heap.size) (hL : L ≤ 3072) (hi : i + 6 ≤ L) (hJ : LJ G h x m q o o2 f g st st) (hk : Iv st) (hnow : st_now st + 600 < 1073741824) (hM : MW G s.heap.size h H) (hS : va_S (fun q => s.heap.size ≤ q) s.heap H locs) (hl : lv_has ls 9 [(5, .int (nI i)), (4, .ref o2), (3, .ref o), (2, .ref m), (1, .ref x), (0, .ref b)]) (hc : cells + 20 ≤ 603072 ∧ slots + 500 ≤ 7223402) (kk : ∀ (st2 : Ms) (f2 : Nat → Int64) (g2 : Nat → UInt64) (h2 : Hp) (H2 : Heap) (locs2 : List Loc) (ls2 : Array Slot), LJ G h2 x m q o o2 f2 g2 st2 st2 → Iv st2 → st_now st2 ≤ st_now st + 600 → MW G s.heap.size h2 H2 → va_S (fun q => s.heap.size ≤ q) s.heap H2 locs2 → lv_has ls2 9 [(5, .int (nI i)), (4, .ref o2), (3, .ref o), (2, .ref m), (1, .ref x), (0, .ref b)] → W p l e room_1 s mt #[.ref b] below meth c H2 locs2 (cells + 20) (slots + 500) Q (F0 mt 2972 ls2 [])) : W p l e room_1 s mt #[.ref b] below meth c H locs cells slots Q (F0 mt 1278 ls []) := by
  have hx := C.1
  have hb := C.2.1
  have hown := C.2.2.2.1
  have hE := C.2.2.2.2.2.2.1
  have hL9 : L < 2 ^ 31 := by omega
  have hbA : ¬ (fun q : Nat => s.heap.size ≤ q) b := Nat.not_le.mpr hbl
  refine lv_aload_n hx hb dL_law_1278 rfl (lv_at hl 4 rfl) ?_
  refine m_scr (k := 1) hx hb hX hbl hbA hS hL9 (by omega) (lv_at hl 5 rfl) (lv_at hl 0 rfl) dL_law_1279 dL_law_1280 dL_law_1282 (by decide) dL_law_1283 dL_law_1284 ?_
  refine m_scl (k := 2) hx hb hX hbl hbA hS hL9 (by omega) (lv_at hl 5 rfl) (lv_at hl 0 rfl) hown (hE.good Z kl_L_187 _) dL_law_1285 dL_law_1286 dL_law_1288 (by decide) dL_law_1289 dL_law_1290 dL_law_1291 dL_law_1292 dL_law_1294 dL_law_1295 dL_law_1296 dL_law_1298 (by decide) dL_law_1299 dL_law_1300 dL_law_1301 dL_law_1302 dL_law_1305 dL_law_1306 ?_
  refine m_scl (k := 4) hx hb hX hbl hbA hS hL9 (by omega) (lv_at hl 5 rfl) (lv_at hl 0 rfl) hown (hE.good Z kl_L_187 _) dL_law_1307 dL_law_1308 dL_law_1310 (by decide) dL_law_1311 dL_law_1312 dL_law_1313 dL_law_1314 dL_law_1316 dL_law_1317 dL_law_1318 dL_law_1320 (by decide) dL_law_1321 dL_law_1322 dL_law_1323 dL_law_1324 dL_law_1327 dL_law_1328 ?_
  refine lv_aload_n hx hb dL_law_1329 rfl (lv_at hl 2 rfl) ?_
  refine m_callH Z C hM hS (As := [.ref x, .int (xs (i + 1)), .long (sl xs (i + 2)), .long (sl xs (i + 4)), .ref o]) (rest := []) (c_L_sumByReading Z No h x m q o o2 f g st hJ hk (xs (i + 1)) (sl xs (i + 2)) (sl xs (i + 4))) yi_L_sumByReading ml_L_196 ⟨Nat.le_of_ble_eq_true rfl, Nat.le_of_ble_eq_true rfl⟩ (Nat.le_of_ble_eq_true rfl) hl.1 rfl rfl dL_law_1330 ⟨(by show cells + 2 ≤ 603072; omega), (by show slots + 12 ≤ 7223402; omega)⟩ (fun v h1 H locs hv hM hS => ?_)
  obtain ⟨hv, f9, hJ1, hz1⟩ := hv
  subst hv
  refine W.eq (g2 := F0 mt 1333 ls [.int (st_thr (T_sumByReading st (xs (i + 1)) (sl xs (i + 2)) (sl xs (i + 4))).1)]) rfl ?_
  refine lv_istore (lv' := [(6, .int (st_thr (T_sumByReading st (xs (i + 1)) (sl xs (i + 2)) (sl xs (i + 4))).1)), (5, .int (nI i)), (4, .ref o2), (3, .ref o), (2, .ref m), (1, .ref x), (0, .ref b)]) hx hb dL_law_1333 hl (by decide) rfl (fun ls hl => ?_)
  refine lv_aload_n hx hb dL_law_1335 rfl (lv_at hl 4 rfl) ?_
  refine m_scr (k := 1) hx hb hX hbl hbA hS hL9 (by omega) (lv_at hl 6 rfl) (lv_at hl 1 rfl) dL_law_1336 dL_law_1337 dL_law_1339 (by decide) dL_law_1340 dL_law_1341 ?_
  refine m_scl (k := 2) hx hb hX hbl hbA hS hL9 (by omega) (lv_at hl 6 rfl) (lv_at hl 1 rfl) hown (hE.good Z kl_L_187 _) dL_law_1342 dL_law_1343 dL_law_1345 (by decide) dL_law_1346 dL_law_1347 dL_law_1348 dL_law_1349 dL_law_1351 dL_law_1352 dL_law_1353 dL_law_1355 (by decide) dL_law_1356 dL_law_1357 dL_law_1358 dL_law_1359 dL_law_1362 dL_law_1363 ?_
  refine m_scl (k := 4) hx hb hX hbl hbA hS hL9 (by omega) (lv_at hl 6 rfl) (lv_at hl 1 rfl) hown (hE.good Z kl_L_187 _) dL_law_1364 dL_law_1365 dL_law_1367 (by decide) dL_law_1368 dL_law_1369 dL_law_1370 dL_law_1371 dL_law_1373 dL_law_1374 dL_law_1375 dL_law_1377 (by decide) dL_law_1378 dL_law_1379 dL_law_1380 dL_law_1381 dL_law_1384 dL_law_1385 ?_
  refine m_callV Z C hM hS (As := [.int (xs (i + 1)), .long (sl xs (i + 2)), .long (sl xs (i + 4))]) (rest := []) (d_X6_sumByReading Z h1 x m q o o2 f9 g (T_sumByReading st (xs (i + 1)) (sl xs (i + 2)) (sl xs (i + 4))).1 st hJ1 hk (xs (i + 1)) (sl xs (i + 2)) (sl xs (i + 4))) yi_X6_sumByReading ml_L_198 hJ1.mdl.o rfl ⟨Nat.le_of_ble_eq_true rfl, Nat.le_of_ble_eq_true rfl⟩ (Nat.le_of_ble_eq_true rfl) hl.1 rfl rfl dL_law_1386 ⟨(by show cells + 2 + 0 ≤ 603072; omega), (by show slots + 12 + 0 ≤ 7223402; omega)⟩ (fun v h2 H locs hv hM hS => ?_)
  obtain ⟨w, hv, hJ2, hz2⟩ := hv
  subst hv
  refine W.eq (g2 := F0 mt 1389 ls [.long w]) rfl ?_
  refine lv_lstore (lv' := [(7, .long w), (6, .int (st_thr (T_sumByReading st (xs (i + 1)) (sl xs (i + 2)) (sl xs (i + 4))).1)), (5, .int (nI i)), (4, .ref o2), (3, .ref o), (2, .ref m), (1, .ref x), (0, .ref b)]) hx hb dL_law_1389 hl (by decide) rfl (fun ls hl => ?_)
  refine lv_aload_n hx hb dL_law_1391 rfl (lv_at hl 5 rfl) ?_
  refine m_callV Z C hM hS (As := []) (rest := []) (c_X6_thrown Z h2 m q (T_sumByReading st (xs (i + 1)) (sl xs (i + 2)) (sl xs (i + 4))).1 hJ2.mdl) yi_X6_thrown ml_L_136 hJ2.mdl.o rfl ⟨Nat.le_of_ble_eq_true rfl, Nat.le_of_ble_eq_true rfl⟩ (Nat.le_of_ble_eq_true rfl) hl.1 rfl rfl dL_law_1392 ⟨(by show cells + 2 + 0 + 0 ≤ 603072; omega), (by show slots + 12 + 0 + 0 ≤ 7223402; omega)⟩ (fun v h3 H locs hv hM hS => ?_)
  obtain ⟨hv, hh3⟩ := hv
  subst hv
  rw [hh3] at hM
  refine W.eq (g2 := F0 mt 1395 ls [.int (st_thr (T_sumByReading st (xs (i + 1)) (sl xs (i + 2)) (sl xs (i + 4))).1)]) rfl ?_
  refine lv_iload hx hb dL_law_1395 (lv_at hl 1 rfl) ?_
  refine lv_icmp_eq (tgt := 1402) hx hb dL_law_1397 (by decide) (fun _ => ?_) (fun z9 => absurd rfl z9)
  refine lv_iload hx hb dL_law_1402 (lv_at hl 1 rfl) ?_
  refine lv_if_ne (tgt := 1418) hx hb dL_law_1404 (by decide) (fun _ => ?_) (fun z9 => ?_)
  · -- thrown
    refine lv_goto (tgt := 2972) hx hb dL_law_1418 (by decide) ?_
    exact W.widen (k := cells + 20) (n := slots + 500) (by omega) (by omega) (kk _ _ _ _ _ _ _ hJ2 (IvT_sumByReading hk hnow (xs (i + 1)) (sl xs (i + 2)) (sl xs (i + 4))) (nwT_sumByReading (xs (i + 1)) (sl xs (i + 2)) (sl xs (i + 4))) hM hS (lv_sub hl [2, 3, 4, 5, 6, 7] rfl))
  · -- answered
    refine lv_aload_n hx hb dL_law_1407 rfl (lv_at hl 4 rfl) ?_
    refine lv_iconst (v := nI 0) hx hb dL_law_1408 (by decide) ?_
    refine m_lald Z C hM hJ2.oo 0 rfl (by decide) (by decide) dL_law_1409 ?_
    refine lv_lload hx hb dL_law_1410 (lv_at hl 0 rfl) ?_
    have e9 : f9 0 = w := (hz1 z9).trans (hz2 z9).symm
    refine W.lcmp hx hb dL_law_1412 ?_
    refine n_lc_eq (tgt := 1418) hx hb dL_law_1413 (by decide) (fun _ => ?_) (fun z => absurd e9 z)
    refine lv_goto (tgt := 2972) hx hb dL_law_1418 (by decide) ?_
    exact W.widen (k := cells + 20) (n := slots + 500) (by omega) (by omega) (kk _ _ _ _ _ _ _ hJ2 (IvT_sumByReading hk hnow (xs (i + 1)) (sl xs (i + 2)) (sl xs (i + 4))) (nwT_sumByReading (xs (i + 1)) (sl xs (i + 2)) (sl xs (i + 4))) hM hS (lv_sub hl [2, 3, 4, 5, 6, 7] rfl))
set_option maxRecDepth 100000 in
set_option maxHeartbeats 4000000 in
theorem law_case_18 {p : Program} {l : Launch} {e : Env} {s : State} {mt : MethodId} {below : List Frame} {meth : Method} {c : Code} {H : Heap} {locs : List Loc} {cells slots : Nat} {Q : State → Prop} {ls : Array Slot} {G : mG} {h : Hp} {b L i : Nat} {xs : Nat → Int32} {x m : Nat} {q : Nat → Nat} {o o2 : Nat} {f : Nat → Int64} {g : Nat → UInt64} {st : Ms} {nm9 : String} (Z : mZ l G #[.ref b] s) (No : mNo s) (C : mC s p s mt meth c cL_law 9 RL (some .boolean) nm9) (hX : va_X b L xs s s.heap) (hbl : b < s.heap.size) (hL : L ≤ 3072) (hi : i + 6 ≤ L) (hJ : LJ G h x m q o o2 f g st st) (hk : Iv st) (hnow : st_now st + 600 < 1073741824) (hM : MW G s.heap.size h H) (hS : va_S (fun q => s.heap.size ≤ q) s.heap H locs) (hl : lv_has ls 9 [(5, .int (nI i)), (4, .ref o2), (3, .ref o), (2, .ref m), (1, .ref x), (0, .ref b)]) (hc : cells + 20 ≤ 603072 ∧ slots + 500 ≤ 7223402) (kk : ∀ (st2 : Ms) (f2 : Nat → Int64) (g2 : Nat → UInt64) (h2 : Hp) (H2 : Heap) (locs2 : List Loc) (ls2 : Array Slot), LJ G h2 x m q o o2 f2 g2 st2 st2 → Iv st2 → st_now st2 ≤ st_now st + 600 → MW G s.heap.size h2 H2 → va_S (fun q => s.heap.size ≤ q) s.heap H2 locs2 → lv_has ls2 9 [(5, .int (nI i)), (4, .ref o2), (3, .ref o), (2, .ref m), (1, .ref x), (0, .ref b)] → W p l e room_1 s mt #[.ref b] below meth c H2 locs2 (cells + 20) (slots + 500) Q (F0 mt 2972 ls2 [])) : W p l e room_1 s mt #[.ref b] below meth c H locs cells slots Q (F0 mt 1421 ls []) := by
  have hx := C.1
  have hb := C.2.1
  have hown := C.2.2.2.1
  have hE := C.2.2.2.2.2.2.1
  have hL9 : L < 2 ^ 31 := by omega
  have hbA : ¬ (fun q : Nat => s.heap.size ≤ q) b := Nat.not_le.mpr hbl
  refine lv_aload_n hx hb dL_law_1421 rfl (lv_at hl 4 rfl) ?_
  refine m_scr (k := 1) hx hb hX hbl hbA hS hL9 (by omega) (lv_at hl 5 rfl) (lv_at hl 0 rfl) dL_law_1422 dL_law_1423 dL_law_1425 (by decide) dL_law_1426 dL_law_1427 ?_
  refine m_scl (k := 2) hx hb hX hbl hbA hS hL9 (by omega) (lv_at hl 5 rfl) (lv_at hl 0 rfl) hown (hE.good Z kl_L_187 _) dL_law_1428 dL_law_1429 dL_law_1431 (by decide) dL_law_1432 dL_law_1433 dL_law_1434 dL_law_1435 dL_law_1437 dL_law_1438 dL_law_1439 dL_law_1441 (by decide) dL_law_1442 dL_law_1443 dL_law_1444 dL_law_1445 dL_law_1448 dL_law_1449 ?_
  refine m_scl (k := 4) hx hb hX hbl hbA hS hL9 (by omega) (lv_at hl 5 rfl) (lv_at hl 0 rfl) hown (hE.good Z kl_L_187 _) dL_law_1450 dL_law_1451 dL_law_1453 (by decide) dL_law_1454 dL_law_1455 dL_law_1456 dL_law_1457 dL_law_1459 dL_law_1460 dL_law_1461 dL_law_1463 (by decide) dL_law_1464 dL_law_1465 dL_law_1466 dL_law_1467 dL_law_1470 dL_law_1471 ?_
  refine lv_aload_n hx hb dL_law_1472 rfl (lv_at hl 2 rfl) ?_
  refine m_callH Z C hM hS (As := [.ref x, .int (xs (i + 1)), .long (sl xs (i + 2)), .long (sl xs (i + 4)), .ref o]) (rest := []) (c_L_maximum Z No h x m q o o2 f g st hJ hk (xs (i + 1)) (sl xs (i + 2)) (sl xs (i + 4))) yi_L_maximum ml_L_199 ⟨Nat.le_of_ble_eq_true rfl, Nat.le_of_ble_eq_true rfl⟩ (Nat.le_of_ble_eq_true rfl) hl.1 rfl rfl dL_law_1473 ⟨(by show cells + 3 ≤ 603072; omega), (by show slots + 18 ≤ 7223402; omega)⟩ (fun v h1 H locs hv hM hS => ?_)
  obtain ⟨hv, f9, hJ1, hz1⟩ := hv
  subst hv
  refine W.eq (g2 := F0 mt 1476 ls [.int (st_thr (T_maximum st (xs (i + 1)) (sl xs (i + 2)) (sl xs (i + 4))).1)]) rfl ?_
  refine lv_istore (lv' := [(6, .int (st_thr (T_maximum st (xs (i + 1)) (sl xs (i + 2)) (sl xs (i + 4))).1)), (5, .int (nI i)), (4, .ref o2), (3, .ref o), (2, .ref m), (1, .ref x), (0, .ref b)]) hx hb dL_law_1476 hl (by decide) rfl (fun ls hl => ?_)
  refine lv_aload_n hx hb dL_law_1478 rfl (lv_at hl 4 rfl) ?_
  refine m_scr (k := 1) hx hb hX hbl hbA hS hL9 (by omega) (lv_at hl 6 rfl) (lv_at hl 1 rfl) dL_law_1479 dL_law_1480 dL_law_1482 (by decide) dL_law_1483 dL_law_1484 ?_
  refine m_scl (k := 2) hx hb hX hbl hbA hS hL9 (by omega) (lv_at hl 6 rfl) (lv_at hl 1 rfl) hown (hE.good Z kl_L_187 _) dL_law_1485 dL_law_1486 dL_law_1488 (by decide) dL_law_1489 dL_law_1490 dL_law_1491 dL_law_1492 dL_law_1494 dL_law_1495 dL_law_1496 dL_law_1498 (by decide) dL_law_1499 dL_law_1500 dL_law_1501 dL_law_1502 dL_law_1505 dL_law_1506 ?_
  refine m_scl (k := 4) hx hb hX hbl hbA hS hL9 (by omega) (lv_at hl 6 rfl) (lv_at hl 1 rfl) hown (hE.good Z kl_L_187 _) dL_law_1507 dL_law_1508 dL_law_1510 (by decide) dL_law_1511 dL_law_1512 dL_law_1513 dL_law_1514 dL_law_1516 dL_law_1517 dL_law_1518 dL_law_1520 (by decide) dL_law_1521 dL_law_1522 dL_law_1523 dL_law_1524 dL_law_1527 dL_law_1528 ?_
  refine m_callV Z C hM hS (As := [.int (xs (i + 1)), .long (sl xs (i + 2)), .long (sl xs (i + 4))]) (rest := []) (d_X6_maximum Z h1 x m q o o2 f9 g (T_maximum st (xs (i + 1)) (sl xs (i + 2)) (sl xs (i + 4))).1 st hJ1 hk (xs (i + 1)) (sl xs (i + 2)) (sl xs (i + 4))) yi_X6_maximum ml_L_201 hJ1.mdl.o rfl ⟨Nat.le_of_ble_eq_true rfl, Nat.le_of_ble_eq_true rfl⟩ (Nat.le_of_ble_eq_true rfl) hl.1 rfl rfl dL_law_1529 ⟨(by show cells + 3 + 0 ≤ 603072; omega), (by show slots + 18 + 0 ≤ 7223402; omega)⟩ (fun v h2 H locs hv hM hS => ?_)
  obtain ⟨w, hv, hJ2, hz2⟩ := hv
  subst hv
  refine W.eq (g2 := F0 mt 1532 ls [.int w]) rfl ?_
  refine lv_istore (lv' := [(7, .int w), (6, .int (st_thr (T_maximum st (xs (i + 1)) (sl xs (i + 2)) (sl xs (i + 4))).1)), (5, .int (nI i)), (4, .ref o2), (3, .ref o), (2, .ref m), (1, .ref x), (0, .ref b)]) hx hb dL_law_1532 hl (by decide) rfl (fun ls hl => ?_)
  refine lv_aload_n hx hb dL_law_1534 rfl (lv_at hl 5 rfl) ?_
  refine m_callV Z C hM hS (As := []) (rest := []) (c_X6_thrown Z h2 m q (T_maximum st (xs (i + 1)) (sl xs (i + 2)) (sl xs (i + 4))).1 hJ2.mdl) yi_X6_thrown ml_L_136 hJ2.mdl.o rfl ⟨Nat.le_of_ble_eq_true rfl, Nat.le_of_ble_eq_true rfl⟩ (Nat.le_of_ble_eq_true rfl) hl.1 rfl rfl dL_law_1535 ⟨(by show cells + 3 + 0 + 0 ≤ 603072; omega), (by show slots + 18 + 0 + 0 ≤ 7223402; omega)⟩ (fun v h3 H locs hv hM hS => ?_)
  obtain ⟨hv, hh3⟩ := hv
  subst hv
  rw [hh3] at hM
  refine W.eq (g2 := F0 mt 1538 ls [.int (st_thr (T_maximum st (xs (i + 1)) (sl xs (i + 2)) (sl xs (i + 4))).1)]) rfl ?_
  refine lv_iload hx hb dL_law_1538 (lv_at hl 1 rfl) ?_
  refine lv_icmp_eq (tgt := 1545) hx hb dL_law_1540 (by decide) (fun _ => ?_) (fun z9 => absurd rfl z9)
  refine lv_iload hx hb dL_law_1545 (lv_at hl 1 rfl) ?_
  refine lv_if_ne (tgt := 1562) hx hb dL_law_1547 (by decide) (fun _ => ?_) (fun z9 => ?_)
  · -- thrown
    refine lv_goto (tgt := 2972) hx hb dL_law_1562 (by decide) ?_
    exact W.widen (k := cells + 20) (n := slots + 500) (by omega) (by omega) (kk _ _ _ _ _ _ _ hJ2 (IvT_maximum hk hnow (xs (i + 1)) (sl xs (i + 2)) (sl xs (i + 4))) (nwT_maximum (xs (i + 1)) (sl xs (i + 2)) (sl xs (i + 4))) hM hS (lv_sub hl [2, 3, 4, 5, 6, 7] rfl))
  · -- answered
    refine lv_aload_n hx hb dL_law_1550 rfl (lv_at hl 4 rfl) ?_
    refine lv_iconst (v := nI 0) hx hb dL_law_1551 (by decide) ?_
    refine m_lald Z C hM hJ2.oo 0 rfl (by decide) (by decide) dL_law_1552 ?_
    refine lv_iload hx hb dL_law_1553 (lv_at hl 0 rfl) ?_
    refine lv_i2l hx hb dL_law_1555 rfl ?_
    have e9 : f9 0 = w.toInt64 := (hz1 z9).trans (hz2 z9).symm
    refine W.lcmp hx hb dL_law_1556 ?_
    refine n_lc_eq (tgt := 1562) hx hb dL_law_1557 (by decide) (fun _ => ?_) (fun z => absurd e9 z)
    refine lv_goto (tgt := 2972) hx hb dL_law_1562 (by decide) ?_
    exact W.widen (k := cells + 20) (n := slots + 500) (by omega) (by omega) (kk _ _ _ _ _ _ _ hJ2 (IvT_maximum hk hnow (xs (i + 1)) (sl xs (i + 2)) (sl xs (i + 4))) (nwT_maximum (xs (i + 1)) (sl xs (i + 2)) (sl xs (i + 4))) hM hS (lv_sub hl [2, 3, 4, 5, 6, 7] rfl))
set_option maxRecDepth 100000 in
set_option maxHeartbeats 4000000 in
theorem law_case_19 {p : Program} {l : Launch} {e : Env} {s : State} {mt : MethodId} {below : List Frame} {meth : Method} {c : Code} {H : Heap} {locs : List Loc} {cells slots : Nat} {Q : State → Prop} {ls : Array Slot} {G : mG} {h : Hp} {b L i : Nat} {xs : Nat → Int32} {x m : Nat} {q : Nat → Nat} {o o2 : Nat} {f : Nat → Int64} {g : Nat → UInt64} {st : Ms} {nm9 : String} (Z : mZ l G #[.ref b] s) (No : mNo s) (C : mC s p s mt meth c cL_law 9 RL (some .boolean) nm9) (hX : va_X b L xs s s.heap) (hbl : b < s.heap.size) (hL : L ≤ 3072) (hi : i + 6 ≤ L) (hJ : LJ G h x m q o o2 f g st st) (hk : Iv st) (hnow : st_now st + 600 < 1073741824) (hM : MW G s.heap.size h H) (hS : va_S (fun q => s.heap.size ≤ q) s.heap H locs) (hl : lv_has ls 9 [(5, .int (nI i)), (4, .ref o2), (3, .ref o), (2, .ref m), (1, .ref x), (0, .ref b)]) (hc : cells + 20 ≤ 603072 ∧ slots + 500 ≤ 7223402) (kk : ∀ (st2 : Ms) (f2 : Nat → Int64) (g2 : Nat → UInt64) (h2 : Hp) (H2 : Heap) (locs2 : List Loc) (ls2 : Array Slot), LJ G h2 x m q o o2 f2 g2 st2 st2 → Iv st2 → st_now st2 ≤ st_now st + 600 → MW G s.heap.size h2 H2 → va_S (fun q => s.heap.size ≤ q) s.heap H2 locs2 → lv_has ls2 9 [(5, .int (nI i)), (4, .ref o2), (3, .ref o), (2, .ref m), (1, .ref x), (0, .ref b)] → W p l e room_1 s mt #[.ref b] below meth c H2 locs2 (cells + 20) (slots + 500) Q (F0 mt 2972 ls2 [])) : W p l e room_1 s mt #[.ref b] below meth c H locs cells slots Q (F0 mt 1565 ls []) := by
  have hx := C.1
  have hb := C.2.1
  have hown := C.2.2.2.1
  have hE := C.2.2.2.2.2.2.1
  have hL9 : L < 2 ^ 31 := by omega
  have hbA : ¬ (fun q : Nat => s.heap.size ≤ q) b := Nat.not_le.mpr hbl
  refine lv_aload_n hx hb dL_law_1565 rfl (lv_at hl 4 rfl) ?_
  refine m_scr (k := 1) hx hb hX hbl hbA hS hL9 (by omega) (lv_at hl 5 rfl) (lv_at hl 0 rfl) dL_law_1566 dL_law_1567 dL_law_1569 (by decide) dL_law_1570 dL_law_1571 ?_
  refine m_scl (k := 2) hx hb hX hbl hbA hS hL9 (by omega) (lv_at hl 5 rfl) (lv_at hl 0 rfl) hown (hE.good Z kl_L_187 _) dL_law_1572 dL_law_1573 dL_law_1575 (by decide) dL_law_1576 dL_law_1577 dL_law_1578 dL_law_1579 dL_law_1581 dL_law_1582 dL_law_1583 dL_law_1585 (by decide) dL_law_1586 dL_law_1587 dL_law_1588 dL_law_1589 dL_law_1592 dL_law_1593 ?_
  refine m_scl (k := 4) hx hb hX hbl hbA hS hL9 (by omega) (lv_at hl 5 rfl) (lv_at hl 0 rfl) hown (hE.good Z kl_L_187 _) dL_law_1594 dL_law_1595 dL_law_1597 (by decide) dL_law_1598 dL_law_1599 dL_law_1600 dL_law_1601 dL_law_1603 dL_law_1604 dL_law_1605 dL_law_1607 (by decide) dL_law_1608 dL_law_1609 dL_law_1610 dL_law_1611 dL_law_1614 dL_law_1615 ?_
  refine lv_aload hx hb dL_law_1616 (lv_at hl 1 rfl) ?_
  refine m_callH Z C hM hS (As := [.ref x, .int (xs (i + 1)), .long (sl xs (i + 2)), .long (sl xs (i + 4)), .ref o2]) (rest := []) (c_L_mean Z No h x m q o o2 f g st hJ hk (xs (i + 1)) (sl xs (i + 2)) (sl xs (i + 4))) yi_L_mean ml_L_202 ⟨Nat.le_of_ble_eq_true rfl, Nat.le_of_ble_eq_true rfl⟩ (Nat.le_of_ble_eq_true rfl) hl.1 rfl rfl dL_law_1618 ⟨(by show cells + 3 ≤ 603072; omega), (by show slots + 18 ≤ 7223402; omega)⟩ (fun v h1 H locs hv hM hS => ?_)
  obtain ⟨hv, g9, hJ1, hz1⟩ := hv
  subst hv
  refine W.eq (g2 := F0 mt 1621 ls [.int (st_thr (T_mean st (xs (i + 1)) (sl xs (i + 2)) (sl xs (i + 4))).1)]) rfl ?_
  refine lv_istore (lv' := [(6, .int (st_thr (T_mean st (xs (i + 1)) (sl xs (i + 2)) (sl xs (i + 4))).1)), (5, .int (nI i)), (4, .ref o2), (3, .ref o), (2, .ref m), (1, .ref x), (0, .ref b)]) hx hb dL_law_1621 hl (by decide) rfl (fun ls hl => ?_)
  refine lv_aload_n hx hb dL_law_1623 rfl (lv_at hl 4 rfl) ?_
  refine m_scr (k := 1) hx hb hX hbl hbA hS hL9 (by omega) (lv_at hl 6 rfl) (lv_at hl 1 rfl) dL_law_1624 dL_law_1625 dL_law_1627 (by decide) dL_law_1628 dL_law_1629 ?_
  refine m_scl (k := 2) hx hb hX hbl hbA hS hL9 (by omega) (lv_at hl 6 rfl) (lv_at hl 1 rfl) hown (hE.good Z kl_L_187 _) dL_law_1630 dL_law_1631 dL_law_1633 (by decide) dL_law_1634 dL_law_1635 dL_law_1636 dL_law_1637 dL_law_1639 dL_law_1640 dL_law_1641 dL_law_1643 (by decide) dL_law_1644 dL_law_1645 dL_law_1646 dL_law_1647 dL_law_1650 dL_law_1651 ?_
  refine m_scl (k := 4) hx hb hX hbl hbA hS hL9 (by omega) (lv_at hl 6 rfl) (lv_at hl 1 rfl) hown (hE.good Z kl_L_187 _) dL_law_1652 dL_law_1653 dL_law_1655 (by decide) dL_law_1656 dL_law_1657 dL_law_1658 dL_law_1659 dL_law_1661 dL_law_1662 dL_law_1663 dL_law_1665 (by decide) dL_law_1666 dL_law_1667 dL_law_1668 dL_law_1669 dL_law_1672 dL_law_1673 ?_
  refine m_callV Z C hM hS (As := [.int (xs (i + 1)), .long (sl xs (i + 2)), .long (sl xs (i + 4))]) (rest := []) (d_X6_mean Z h1 x m q o o2 f g9 (T_mean st (xs (i + 1)) (sl xs (i + 2)) (sl xs (i + 4))).1 st hJ1 hk (xs (i + 1)) (sl xs (i + 2)) (sl xs (i + 4))) yi_X6_mean ml_L_205 hJ1.mdl.o rfl ⟨Nat.le_of_ble_eq_true rfl, Nat.le_of_ble_eq_true rfl⟩ (Nat.le_of_ble_eq_true rfl) hl.1 rfl rfl dL_law_1674 ⟨(by show cells + 3 + 0 ≤ 603072; omega), (by show slots + 18 + 0 ≤ 7223402; omega)⟩ (fun v h2 H locs hv hM hS => ?_)
  obtain ⟨w, hv, hJ2, hz2⟩ := hv
  subst hv
  refine W.eq (g2 := F0 mt 1677 ls [.double w]) rfl ?_
  refine lv_dstore (lv' := [(7, .double w), (6, .int (st_thr (T_mean st (xs (i + 1)) (sl xs (i + 2)) (sl xs (i + 4))).1)), (5, .int (nI i)), (4, .ref o2), (3, .ref o), (2, .ref m), (1, .ref x), (0, .ref b)]) hx hb dL_law_1677 hl (by decide) rfl (fun ls hl => ?_)
  refine lv_aload_n hx hb dL_law_1679 rfl (lv_at hl 5 rfl) ?_
  refine m_callV Z C hM hS (As := []) (rest := []) (c_X6_thrown Z h2 m q (T_mean st (xs (i + 1)) (sl xs (i + 2)) (sl xs (i + 4))).1 hJ2.mdl) yi_X6_thrown ml_L_136 hJ2.mdl.o rfl ⟨Nat.le_of_ble_eq_true rfl, Nat.le_of_ble_eq_true rfl⟩ (Nat.le_of_ble_eq_true rfl) hl.1 rfl rfl dL_law_1680 ⟨(by show cells + 3 + 0 + 0 ≤ 603072; omega), (by show slots + 18 + 0 + 0 ≤ 7223402; omega)⟩ (fun v h3 H locs hv hM hS => ?_)
  obtain ⟨hv, hh3⟩ := hv
  subst hv
  rw [hh3] at hM
  refine W.eq (g2 := F0 mt 1683 ls [.int (st_thr (T_mean st (xs (i + 1)) (sl xs (i + 2)) (sl xs (i + 4))).1)]) rfl ?_
  refine lv_iload hx hb dL_law_1683 (lv_at hl 1 rfl) ?_
  refine lv_icmp_eq (tgt := 1690) hx hb dL_law_1685 (by decide) (fun _ => ?_) (fun z9 => absurd rfl z9)
  refine lv_iload hx hb dL_law_1690 (lv_at hl 1 rfl) ?_
  refine lv_if_ne (tgt := 1727) hx hb dL_law_1692 (by decide) (fun _ => ?_) (fun z9 => ?_)
  · -- thrown
    refine lv_goto (tgt := 2972) hx hb dL_law_1727 (by decide) ?_
    exact W.widen (k := cells + 20) (n := slots + 500) (by omega) (by omega) (kk _ _ _ _ _ _ _ hJ2 (IvT_mean hk hnow (xs (i + 1)) (sl xs (i + 2)) (sl xs (i + 4))) (nwT_mean (xs (i + 1)) (sl xs (i + 2)) (sl xs (i + 4))) hM hS (lv_sub hl [2, 3, 4, 5, 6, 7] rfl))
  · -- answered
    have e9 : g9 0 = w := (hz1 z9).trans (hz2 z9).symm
    refine lv_aload hx hb dL_law_1695 (lv_at hl 3 rfl) ?_
    refine lv_iconst (v := nI 0) hx hb dL_law_1697 (by decide) ?_
    refine m_dald Z C hM hJ2.oo2 0 rfl (by decide) (by decide) dL_law_1698 ?_
    refine lv_dload hx hb dL_law_1699 (lv_at hl 0 rfl) ?_
    refine lv_dcmp hx hb dL_law_1701 ?_
    refine lv_if_eq (tgt := 1727) hx hb dL_law_1702 (by decide) (fun _ => ?_) (fun y9 => ?_)
    · -- equal
      refine lv_goto (tgt := 2972) hx hb dL_law_1727 (by decide) ?_
      exact W.widen (k := cells + 20) (n := slots + 500) (by omega) (by omega) (kk _ _ _ _ _ _ _ hJ2 (IvT_mean hk hnow (xs (i + 1)) (sl xs (i + 2)) (sl xs (i + 4))) (nwT_mean (xs (i + 1)) (sl xs (i + 2)) (sl xs (i + 4))) hM hS (lv_sub hl [2, 3, 4, 5, 6, 7] rfl))
    · -- no number
      rw [e9] at y9
      refine lv_aload hx hb dL_law_1705 (lv_at hl 3 rfl) ?_
      refine lv_iconst (v := nI 0) hx hb dL_law_1707 (by decide) ?_
      refine m_dald Z C hM hJ2.oo2 0 rfl (by decide) (by decide) dL_law_1708 ?_
      refine lv_aload hx hb dL_law_1709 (lv_at hl 3 rfl) ?_
      refine lv_iconst (v := nI 0) hx hb dL_law_1711 (by decide) ?_
      refine m_dald Z C hM hJ2.oo2 0 rfl (by decide) (by decide) dL_law_1712 ?_
      refine lv_dcmp hx hb dL_law_1713 ?_
      refine lv_if_eq (tgt := 1725) hx hb dL_law_1714 (by decide) (fun z => absurd (by rw [e9] at z; exact z) y9) (fun _ => ?_)
      refine lv_dload hx hb dL_law_1717 (lv_at hl 0 rfl) ?_
      refine lv_dload hx hb dL_law_1719 (lv_at hl 0 rfl) ?_
      refine lv_dcmp hx hb dL_law_1721 ?_
      refine lv_if_ne (tgt := 1727) hx hb dL_law_1722 (by decide) (fun _ => ?_) (fun z => absurd z y9)
      refine lv_goto (tgt := 2972) hx hb dL_law_1727 (by decide) ?_
      exact W.widen (k := cells + 20) (n := slots + 500) (by omega) (by omega) (kk _ _ _ _ _ _ _ hJ2 (IvT_mean hk hnow (xs (i + 1)) (sl xs (i + 2)) (sl xs (i + 4))) (nwT_mean (xs (i + 1)) (sl xs (i + 2)) (sl xs (i + 4))) hM hS (lv_sub hl [2, 3, 4, 5, 6, 7] rfl))
set_option maxRecDepth 100000 in
set_option maxHeartbeats 4000000 in
theorem law_case_20 {p : Program} {l : Launch} {e : Env} {s : State} {mt : MethodId} {below : List Frame} {meth : Method} {c : Code} {H : Heap} {locs : List Loc} {cells slots : Nat} {Q : State → Prop} {ls : Array Slot} {G : mG} {h : Hp} {b L i : Nat} {xs : Nat → Int32} {x m : Nat} {q : Nat → Nat} {o o2 : Nat} {f : Nat → Int64} {g : Nat → UInt64} {st : Ms} {nm9 : String} (Z : mZ l G #[.ref b] s) (No : mNo s) (C : mC s p s mt meth c cL_law 9 RL (some .boolean) nm9) (hX : va_X b L xs s s.heap) (hbl : b < s.heap.size) (hL : L ≤ 3072) (hi : i + 6 ≤ L) (hJ : LJ G h x m q o o2 f g st st) (hk : Iv st) (hnow : st_now st + 600 < 1073741824) (hM : MW G s.heap.size h H) (hS : va_S (fun q => s.heap.size ≤ q) s.heap H locs) (hl : lv_has ls 9 [(5, .int (nI i)), (4, .ref o2), (3, .ref o), (2, .ref m), (1, .ref x), (0, .ref b)]) (hc : cells + 20 ≤ 603072 ∧ slots + 500 ≤ 7223402) (kk : ∀ (st2 : Ms) (f2 : Nat → Int64) (g2 : Nat → UInt64) (h2 : Hp) (H2 : Heap) (locs2 : List Loc) (ls2 : Array Slot), LJ G h2 x m q o o2 f2 g2 st2 st2 → Iv st2 → st_now st2 ≤ st_now st + 600 → MW G s.heap.size h2 H2 → va_S (fun q => s.heap.size ≤ q) s.heap H2 locs2 → lv_has ls2 9 [(5, .int (nI i)), (4, .ref o2), (3, .ref o), (2, .ref m), (1, .ref x), (0, .ref b)] → W p l e room_1 s mt #[.ref b] below meth c H2 locs2 (cells + 20) (slots + 500) Q (F0 mt 2972 ls2 [])) : W p l e room_1 s mt #[.ref b] below meth c H locs cells slots Q (F0 mt 1730 ls []) := by
  have hx := C.1
  have hb := C.2.1
  have hown := C.2.2.2.1
  have hE := C.2.2.2.2.2.2.1
  have hL9 : L < 2 ^ 31 := by omega
  have hbA : ¬ (fun q : Nat => s.heap.size ≤ q) b := Nat.not_le.mpr hbl
  refine lv_aload_n hx hb dL_law_1730 rfl (lv_at hl 4 rfl) ?_
  refine m_scr (k := 1) hx hb hX hbl hbA hS hL9 (by omega) (lv_at hl 5 rfl) (lv_at hl 0 rfl) dL_law_1731 dL_law_1732 dL_law_1734 (by decide) dL_law_1735 dL_law_1736 ?_
  refine m_scr (k := 2) hx hb hX hbl hbA hS hL9 (by omega) (lv_at hl 5 rfl) (lv_at hl 0 rfl) dL_law_1737 dL_law_1738 dL_law_1740 (by decide) dL_law_1741 dL_law_1742 ?_
  refine lv_aload_n hx hb dL_law_1743 rfl (lv_at hl 2 rfl) ?_
  refine m_callH Z C hM hS (As := [.ref x, .int (xs (i + 1)), .int (xs (i + 2)), .ref o]) (rest := []) (c_L_rollupCount Z No h x m q o o2 f g st hJ hk (xs (i + 1)) (xs (i + 2))) yi_L_rollupCount ml_L_206 ⟨Nat.le_of_ble_eq_true rfl, Nat.le_of_ble_eq_true rfl⟩ (Nat.le_of_ble_eq_true rfl) hl.1 rfl rfl dL_law_1744 ⟨(by show cells + 2 ≤ 603072; omega), (by show slots + 12 ≤ 7223402; omega)⟩ (fun v h1 H locs hv hM hS => ?_)
  obtain ⟨hv, f9, hJ1, hz1⟩ := hv
  subst hv
  refine W.eq (g2 := F0 mt 1747 ls [.int (st_thr (T_rollupCount st (xs (i + 1)) (xs (i + 2))).1)]) rfl ?_
  refine lv_istore (lv' := [(6, .int (st_thr (T_rollupCount st (xs (i + 1)) (xs (i + 2))).1)), (5, .int (nI i)), (4, .ref o2), (3, .ref o), (2, .ref m), (1, .ref x), (0, .ref b)]) hx hb dL_law_1747 hl (by decide) rfl (fun ls hl => ?_)
  refine lv_aload_n hx hb dL_law_1749 rfl (lv_at hl 4 rfl) ?_
  refine m_scr (k := 1) hx hb hX hbl hbA hS hL9 (by omega) (lv_at hl 6 rfl) (lv_at hl 1 rfl) dL_law_1750 dL_law_1751 dL_law_1753 (by decide) dL_law_1754 dL_law_1755 ?_
  refine m_scr (k := 2) hx hb hX hbl hbA hS hL9 (by omega) (lv_at hl 6 rfl) (lv_at hl 1 rfl) dL_law_1756 dL_law_1757 dL_law_1759 (by decide) dL_law_1760 dL_law_1761 ?_
  refine m_callV Z C hM hS (As := [.int (xs (i + 1)), .int (xs (i + 2))]) (rest := []) (d_X6_rollupCount Z h1 x m q o o2 f9 g (T_rollupCount st (xs (i + 1)) (xs (i + 2))).1 st hJ1 hk (xs (i + 1)) (xs (i + 2))) yi_X6_rollupCount ml_L_208 hJ1.mdl.o rfl ⟨Nat.le_of_ble_eq_true rfl, Nat.le_of_ble_eq_true rfl⟩ (Nat.le_of_ble_eq_true rfl) hl.1 rfl rfl dL_law_1762 ⟨(by show cells + 2 + 0 ≤ 603072; omega), (by show slots + 12 + 0 ≤ 7223402; omega)⟩ (fun v h2 H locs hv hM hS => ?_)
  obtain ⟨w, hv, hJ2, hz2⟩ := hv
  subst hv
  refine W.eq (g2 := F0 mt 1765 ls [.int w]) rfl ?_
  refine lv_istore (lv' := [(7, .int w), (6, .int (st_thr (T_rollupCount st (xs (i + 1)) (xs (i + 2))).1)), (5, .int (nI i)), (4, .ref o2), (3, .ref o), (2, .ref m), (1, .ref x), (0, .ref b)]) hx hb dL_law_1765 hl (by decide) rfl (fun ls hl => ?_)
  refine lv_aload_n hx hb dL_law_1767 rfl (lv_at hl 5 rfl) ?_
  refine m_callV Z C hM hS (As := []) (rest := []) (c_X6_thrown Z h2 m q (T_rollupCount st (xs (i + 1)) (xs (i + 2))).1 hJ2.mdl) yi_X6_thrown ml_L_136 hJ2.mdl.o rfl ⟨Nat.le_of_ble_eq_true rfl, Nat.le_of_ble_eq_true rfl⟩ (Nat.le_of_ble_eq_true rfl) hl.1 rfl rfl dL_law_1768 ⟨(by show cells + 2 + 0 + 0 ≤ 603072; omega), (by show slots + 12 + 0 + 0 ≤ 7223402; omega)⟩ (fun v h3 H locs hv hM hS => ?_)
  obtain ⟨hv, hh3⟩ := hv
  subst hv
  rw [hh3] at hM
  refine W.eq (g2 := F0 mt 1771 ls [.int (st_thr (T_rollupCount st (xs (i + 1)) (xs (i + 2))).1)]) rfl ?_
  refine lv_iload hx hb dL_law_1771 (lv_at hl 1 rfl) ?_
  refine lv_icmp_eq (tgt := 1778) hx hb dL_law_1773 (by decide) (fun _ => ?_) (fun z9 => absurd rfl z9)
  refine lv_iload hx hb dL_law_1778 (lv_at hl 1 rfl) ?_
  refine lv_if_ne (tgt := 1795) hx hb dL_law_1780 (by decide) (fun _ => ?_) (fun z9 => ?_)
  · -- thrown
    refine lv_goto (tgt := 2972) hx hb dL_law_1795 (by decide) ?_
    exact W.widen (k := cells + 20) (n := slots + 500) (by omega) (by omega) (kk _ _ _ _ _ _ _ hJ2 (IvT_rollupCount hk hnow (xs (i + 1)) (xs (i + 2))) (nwT_rollupCount (xs (i + 1)) (xs (i + 2))) hM hS (lv_sub hl [2, 3, 4, 5, 6, 7] rfl))
  · -- answered
    refine lv_aload_n hx hb dL_law_1783 rfl (lv_at hl 4 rfl) ?_
    refine lv_iconst (v := nI 0) hx hb dL_law_1784 (by decide) ?_
    refine m_lald Z C hM hJ2.oo 0 rfl (by decide) (by decide) dL_law_1785 ?_
    refine lv_iload hx hb dL_law_1786 (lv_at hl 0 rfl) ?_
    refine lv_i2l hx hb dL_law_1788 rfl ?_
    have e9 : f9 0 = w.toInt64 := (hz1 z9).trans (hz2 z9).symm
    refine W.lcmp hx hb dL_law_1789 ?_
    refine n_lc_eq (tgt := 1795) hx hb dL_law_1790 (by decide) (fun _ => ?_) (fun z => absurd e9 z)
    refine lv_goto (tgt := 2972) hx hb dL_law_1795 (by decide) ?_
    exact W.widen (k := cells + 20) (n := slots + 500) (by omega) (by omega) (kk _ _ _ _ _ _ _ hJ2 (IvT_rollupCount hk hnow (xs (i + 1)) (xs (i + 2))) (nwT_rollupCount (xs (i + 1)) (xs (i + 2))) hM hS (lv_sub hl [2, 3, 4, 5, 6, 7] rfl))
set_option maxRecDepth 100000 in
set_option maxHeartbeats 4000000 in
theorem law_case_21 {p : Program} {l : Launch} {e : Env} {s : State} {mt : MethodId} {below : List Frame} {meth : Method} {c : Code} {H : Heap} {locs : List Loc} {cells slots : Nat} {Q : State → Prop} {ls : Array Slot} {G : mG} {h : Hp} {b L i : Nat} {xs : Nat → Int32} {x m : Nat} {q : Nat → Nat} {o o2 : Nat} {f : Nat → Int64} {g : Nat → UInt64} {st : Ms} {nm9 : String} (Z : mZ l G #[.ref b] s) (No : mNo s) (C : mC s p s mt meth c cL_law 9 RL (some .boolean) nm9) (hX : va_X b L xs s s.heap) (hbl : b < s.heap.size) (hL : L ≤ 3072) (hi : i + 6 ≤ L) (hJ : LJ G h x m q o o2 f g st st) (hk : Iv st) (hnow : st_now st + 600 < 1073741824) (hM : MW G s.heap.size h H) (hS : va_S (fun q => s.heap.size ≤ q) s.heap H locs) (hl : lv_has ls 9 [(5, .int (nI i)), (4, .ref o2), (3, .ref o), (2, .ref m), (1, .ref x), (0, .ref b)]) (hc : cells + 20 ≤ 603072 ∧ slots + 500 ≤ 7223402) (kk : ∀ (st2 : Ms) (f2 : Nat → Int64) (g2 : Nat → UInt64) (h2 : Hp) (H2 : Heap) (locs2 : List Loc) (ls2 : Array Slot), LJ G h2 x m q o o2 f2 g2 st2 st2 → Iv st2 → st_now st2 ≤ st_now st + 600 → MW G s.heap.size h2 H2 → va_S (fun q => s.heap.size ≤ q) s.heap H2 locs2 → lv_has ls2 9 [(5, .int (nI i)), (4, .ref o2), (3, .ref o), (2, .ref m), (1, .ref x), (0, .ref b)] → W p l e room_1 s mt #[.ref b] below meth c H2 locs2 (cells + 20) (slots + 500) Q (F0 mt 2972 ls2 [])) : W p l e room_1 s mt #[.ref b] below meth c H locs cells slots Q (F0 mt 1798 ls []) := by
  have hx := C.1
  have hb := C.2.1
  have hown := C.2.2.2.1
  have hE := C.2.2.2.2.2.2.1
  have hL9 : L < 2 ^ 31 := by omega
  have hbA : ¬ (fun q : Nat => s.heap.size ≤ q) b := Nat.not_le.mpr hbl
  refine lv_aload_n hx hb dL_law_1798 rfl (lv_at hl 4 rfl) ?_
  refine m_scr (k := 1) hx hb hX hbl hbA hS hL9 (by omega) (lv_at hl 5 rfl) (lv_at hl 0 rfl) dL_law_1799 dL_law_1800 dL_law_1802 (by decide) dL_law_1803 dL_law_1804 ?_
  refine m_scl (k := 2) hx hb hX hbl hbA hS hL9 (by omega) (lv_at hl 5 rfl) (lv_at hl 0 rfl) hown (hE.good Z kl_L_187 _) dL_law_1805 dL_law_1806 dL_law_1808 (by decide) dL_law_1809 dL_law_1810 dL_law_1811 dL_law_1812 dL_law_1814 dL_law_1815 dL_law_1816 dL_law_1818 (by decide) dL_law_1819 dL_law_1820 dL_law_1821 dL_law_1822 dL_law_1825 dL_law_1826 ?_
  refine m_scl (k := 4) hx hb hX hbl hbA hS hL9 (by omega) (lv_at hl 5 rfl) (lv_at hl 0 rfl) hown (hE.good Z kl_L_187 _) dL_law_1827 dL_law_1828 dL_law_1830 (by decide) dL_law_1831 dL_law_1832 dL_law_1833 dL_law_1834 dL_law_1836 dL_law_1837 dL_law_1838 dL_law_1840 (by decide) dL_law_1841 dL_law_1842 dL_law_1843 dL_law_1844 dL_law_1847 dL_law_1848 ?_
  refine lv_aload_n hx hb dL_law_1849 rfl (lv_at hl 2 rfl) ?_
  refine m_callH Z C hM hS (As := [.ref x, .int (xs (i + 1)), .long (sl xs (i + 2)), .long (sl xs (i + 4)), .ref o]) (rest := []) (c_L_countLow Z No h x m q o o2 f g st hJ hk (xs (i + 1)) (sl xs (i + 2)) (sl xs (i + 4))) yi_L_countLow ml_L_209 ⟨Nat.le_of_ble_eq_true rfl, Nat.le_of_ble_eq_true rfl⟩ (Nat.le_of_ble_eq_true rfl) hl.1 rfl rfl dL_law_1850 ⟨(by show cells + 2 ≤ 603072; omega), (by show slots + 12 ≤ 7223402; omega)⟩ (fun v h1 H locs hv hM hS => ?_)
  obtain ⟨hv, f9, hJ1, hz1⟩ := hv
  subst hv
  refine W.eq (g2 := F0 mt 1853 ls [.int (st_thr (T_countLow st (xs (i + 1)) (sl xs (i + 2)) (sl xs (i + 4))).1)]) rfl ?_
  refine lv_istore (lv' := [(6, .int (st_thr (T_countLow st (xs (i + 1)) (sl xs (i + 2)) (sl xs (i + 4))).1)), (5, .int (nI i)), (4, .ref o2), (3, .ref o), (2, .ref m), (1, .ref x), (0, .ref b)]) hx hb dL_law_1853 hl (by decide) rfl (fun ls hl => ?_)
  refine lv_aload_n hx hb dL_law_1855 rfl (lv_at hl 4 rfl) ?_
  refine m_scr (k := 1) hx hb hX hbl hbA hS hL9 (by omega) (lv_at hl 6 rfl) (lv_at hl 1 rfl) dL_law_1856 dL_law_1857 dL_law_1859 (by decide) dL_law_1860 dL_law_1861 ?_
  refine m_scl (k := 2) hx hb hX hbl hbA hS hL9 (by omega) (lv_at hl 6 rfl) (lv_at hl 1 rfl) hown (hE.good Z kl_L_187 _) dL_law_1862 dL_law_1863 dL_law_1865 (by decide) dL_law_1866 dL_law_1867 dL_law_1868 dL_law_1869 dL_law_1871 dL_law_1872 dL_law_1873 dL_law_1875 (by decide) dL_law_1876 dL_law_1877 dL_law_1878 dL_law_1879 dL_law_1882 dL_law_1883 ?_
  refine m_scl (k := 4) hx hb hX hbl hbA hS hL9 (by omega) (lv_at hl 6 rfl) (lv_at hl 1 rfl) hown (hE.good Z kl_L_187 _) dL_law_1884 dL_law_1885 dL_law_1887 (by decide) dL_law_1888 dL_law_1889 dL_law_1890 dL_law_1891 dL_law_1893 dL_law_1894 dL_law_1895 dL_law_1897 (by decide) dL_law_1898 dL_law_1899 dL_law_1900 dL_law_1901 dL_law_1904 dL_law_1905 ?_
  refine m_callV Z C hM hS (As := [.int (xs (i + 1)), .long (sl xs (i + 2)), .long (sl xs (i + 4))]) (rest := []) (d_X6_countLow Z h1 x m q o o2 f9 g (T_countLow st (xs (i + 1)) (sl xs (i + 2)) (sl xs (i + 4))).1 st hJ1 hk (xs (i + 1)) (sl xs (i + 2)) (sl xs (i + 4))) yi_X6_countLow ml_L_211 hJ1.mdl.o rfl ⟨Nat.le_of_ble_eq_true rfl, Nat.le_of_ble_eq_true rfl⟩ (Nat.le_of_ble_eq_true rfl) hl.1 rfl rfl dL_law_1906 ⟨(by show cells + 2 + 0 ≤ 603072; omega), (by show slots + 12 + 0 ≤ 7223402; omega)⟩ (fun v h2 H locs hv hM hS => ?_)
  obtain ⟨w, hv, hJ2, hz2⟩ := hv
  subst hv
  refine W.eq (g2 := F0 mt 1909 ls [.int w]) rfl ?_
  refine lv_istore (lv' := [(7, .int w), (6, .int (st_thr (T_countLow st (xs (i + 1)) (sl xs (i + 2)) (sl xs (i + 4))).1)), (5, .int (nI i)), (4, .ref o2), (3, .ref o), (2, .ref m), (1, .ref x), (0, .ref b)]) hx hb dL_law_1909 hl (by decide) rfl (fun ls hl => ?_)
  refine lv_aload_n hx hb dL_law_1911 rfl (lv_at hl 5 rfl) ?_
  refine m_callV Z C hM hS (As := []) (rest := []) (c_X6_thrown Z h2 m q (T_countLow st (xs (i + 1)) (sl xs (i + 2)) (sl xs (i + 4))).1 hJ2.mdl) yi_X6_thrown ml_L_136 hJ2.mdl.o rfl ⟨Nat.le_of_ble_eq_true rfl, Nat.le_of_ble_eq_true rfl⟩ (Nat.le_of_ble_eq_true rfl) hl.1 rfl rfl dL_law_1912 ⟨(by show cells + 2 + 0 + 0 ≤ 603072; omega), (by show slots + 12 + 0 + 0 ≤ 7223402; omega)⟩ (fun v h3 H locs hv hM hS => ?_)
  obtain ⟨hv, hh3⟩ := hv
  subst hv
  rw [hh3] at hM
  refine W.eq (g2 := F0 mt 1915 ls [.int (st_thr (T_countLow st (xs (i + 1)) (sl xs (i + 2)) (sl xs (i + 4))).1)]) rfl ?_
  refine lv_iload hx hb dL_law_1915 (lv_at hl 1 rfl) ?_
  refine lv_icmp_eq (tgt := 1922) hx hb dL_law_1917 (by decide) (fun _ => ?_) (fun z9 => absurd rfl z9)
  refine lv_iload hx hb dL_law_1922 (lv_at hl 1 rfl) ?_
  refine lv_if_ne (tgt := 1939) hx hb dL_law_1924 (by decide) (fun _ => ?_) (fun z9 => ?_)
  · -- thrown
    refine lv_goto (tgt := 2972) hx hb dL_law_1939 (by decide) ?_
    exact W.widen (k := cells + 20) (n := slots + 500) (by omega) (by omega) (kk _ _ _ _ _ _ _ hJ2 (IvT_countLow hk hnow (xs (i + 1)) (sl xs (i + 2)) (sl xs (i + 4))) (nwT_countLow (xs (i + 1)) (sl xs (i + 2)) (sl xs (i + 4))) hM hS (lv_sub hl [2, 3, 4, 5, 6, 7] rfl))
  · -- answered
    refine lv_aload_n hx hb dL_law_1927 rfl (lv_at hl 4 rfl) ?_
    refine lv_iconst (v := nI 0) hx hb dL_law_1928 (by decide) ?_
    refine m_lald Z C hM hJ2.oo 0 rfl (by decide) (by decide) dL_law_1929 ?_
    refine lv_iload hx hb dL_law_1930 (lv_at hl 0 rfl) ?_
    refine lv_i2l hx hb dL_law_1932 rfl ?_
    have e9 : f9 0 = w.toInt64 := (hz1 z9).trans (hz2 z9).symm
    refine W.lcmp hx hb dL_law_1933 ?_
    refine n_lc_eq (tgt := 1939) hx hb dL_law_1934 (by decide) (fun _ => ?_) (fun z => absurd e9 z)
    refine lv_goto (tgt := 2972) hx hb dL_law_1939 (by decide) ?_
    exact W.widen (k := cells + 20) (n := slots + 500) (by omega) (by omega) (kk _ _ _ _ _ _ _ hJ2 (IvT_countLow hk hnow (xs (i + 1)) (sl xs (i + 2)) (sl xs (i + 4))) (nwT_countLow (xs (i + 1)) (sl xs (i + 2)) (sl xs (i + 4))) hM hS (lv_sub hl [2, 3, 4, 5, 6, 7] rfl))
set_option maxRecDepth 100000 in
set_option maxHeartbeats 4000000 in
theorem law_case_22 {p : Program} {l : Launch} {e : Env} {s : State} {mt : MethodId} {below : List Frame} {meth : Method} {c : Code} {H : Heap} {locs : List Loc} {cells slots : Nat} {Q : State → Prop} {ls : Array Slot} {G : mG} {h : Hp} {b L i : Nat} {xs : Nat → Int32} {x m : Nat} {q : Nat → Nat} {o o2 : Nat} {f : Nat → Int64} {g : Nat → UInt64} {st : Ms} {nm9 : String} (Z : mZ l G #[.ref b] s) (No : mNo s) (C : mC s p s mt meth c cL_law 9 RL (some .boolean) nm9) (hX : va_X b L xs s s.heap) (hbl : b < s.heap.size) (hL : L ≤ 3072) (hi : i + 6 ≤ L) (hJ : LJ G h x m q o o2 f g st st) (hk : Iv st) (hnow : st_now st + 600 < 1073741824) (hM : MW G s.heap.size h H) (hS : va_S (fun q => s.heap.size ≤ q) s.heap H locs) (hl : lv_has ls 9 [(5, .int (nI i)), (4, .ref o2), (3, .ref o), (2, .ref m), (1, .ref x), (0, .ref b)]) (hc : cells + 20 ≤ 603072 ∧ slots + 500 ≤ 7223402) (kk : ∀ (st2 : Ms) (f2 : Nat → Int64) (g2 : Nat → UInt64) (h2 : Hp) (H2 : Heap) (locs2 : List Loc) (ls2 : Array Slot), LJ G h2 x m q o o2 f2 g2 st2 st2 → Iv st2 → st_now st2 ≤ st_now st + 600 → MW G s.heap.size h2 H2 → va_S (fun q => s.heap.size ≤ q) s.heap H2 locs2 → lv_has ls2 9 [(5, .int (nI i)), (4, .ref o2), (3, .ref o), (2, .ref m), (1, .ref x), (0, .ref b)] → W p l e room_1 s mt #[.ref b] below meth c H2 locs2 (cells + 20) (slots + 500) Q (F0 mt 2972 ls2 [])) : W p l e room_1 s mt #[.ref b] below meth c H locs cells slots Q (F0 mt 1942 ls []) := by
  have hx := C.1
  have hb := C.2.1
  have hown := C.2.2.2.1
  have hE := C.2.2.2.2.2.2.1
  have hL9 : L < 2 ^ 31 := by omega
  have hbA : ¬ (fun q : Nat => s.heap.size ≤ q) b := Nat.not_le.mpr hbl
  refine lv_aload_n hx hb dL_law_1942 rfl (lv_at hl 4 rfl) ?_
  refine m_scr (k := 1) hx hb hX hbl hbA hS hL9 (by omega) (lv_at hl 5 rfl) (lv_at hl 0 rfl) dL_law_1943 dL_law_1944 dL_law_1946 (by decide) dL_law_1947 dL_law_1948 ?_
  refine m_scl (k := 2) hx hb hX hbl hbA hS hL9 (by omega) (lv_at hl 5 rfl) (lv_at hl 0 rfl) hown (hE.good Z kl_L_187 _) dL_law_1949 dL_law_1950 dL_law_1952 (by decide) dL_law_1953 dL_law_1954 dL_law_1955 dL_law_1956 dL_law_1958 dL_law_1959 dL_law_1960 dL_law_1962 (by decide) dL_law_1963 dL_law_1964 dL_law_1965 dL_law_1966 dL_law_1969 dL_law_1970 ?_
  refine m_scl (k := 4) hx hb hX hbl hbA hS hL9 (by omega) (lv_at hl 5 rfl) (lv_at hl 0 rfl) hown (hE.good Z kl_L_187 _) dL_law_1971 dL_law_1972 dL_law_1974 (by decide) dL_law_1975 dL_law_1976 dL_law_1977 dL_law_1978 dL_law_1980 dL_law_1981 dL_law_1982 dL_law_1984 (by decide) dL_law_1985 dL_law_1986 dL_law_1987 dL_law_1988 dL_law_1991 dL_law_1992 ?_
  refine lv_aload_n hx hb dL_law_1993 rfl (lv_at hl 2 rfl) ?_
  refine m_callH Z C hM hS (As := [.ref x, .int (xs (i + 1)), .long (sl xs (i + 2)), .long (sl xs (i + 4)), .ref o]) (rest := []) (c_L_countHigh Z No h x m q o o2 f g st hJ hk (xs (i + 1)) (sl xs (i + 2)) (sl xs (i + 4))) yi_L_countHigh ml_L_212 ⟨Nat.le_of_ble_eq_true rfl, Nat.le_of_ble_eq_true rfl⟩ (Nat.le_of_ble_eq_true rfl) hl.1 rfl rfl dL_law_1994 ⟨(by show cells + 2 ≤ 603072; omega), (by show slots + 12 ≤ 7223402; omega)⟩ (fun v h1 H locs hv hM hS => ?_)
  obtain ⟨hv, f9, hJ1, hz1⟩ := hv
  subst hv
  refine W.eq (g2 := F0 mt 1997 ls [.int (st_thr (T_countHigh st (xs (i + 1)) (sl xs (i + 2)) (sl xs (i + 4))).1)]) rfl ?_
  refine lv_istore (lv' := [(6, .int (st_thr (T_countHigh st (xs (i + 1)) (sl xs (i + 2)) (sl xs (i + 4))).1)), (5, .int (nI i)), (4, .ref o2), (3, .ref o), (2, .ref m), (1, .ref x), (0, .ref b)]) hx hb dL_law_1997 hl (by decide) rfl (fun ls hl => ?_)
  refine lv_aload_n hx hb dL_law_1999 rfl (lv_at hl 4 rfl) ?_
  refine m_scr (k := 1) hx hb hX hbl hbA hS hL9 (by omega) (lv_at hl 6 rfl) (lv_at hl 1 rfl) dL_law_2000 dL_law_2001 dL_law_2003 (by decide) dL_law_2004 dL_law_2005 ?_
  refine m_scl (k := 2) hx hb hX hbl hbA hS hL9 (by omega) (lv_at hl 6 rfl) (lv_at hl 1 rfl) hown (hE.good Z kl_L_187 _) dL_law_2006 dL_law_2007 dL_law_2009 (by decide) dL_law_2010 dL_law_2011 dL_law_2012 dL_law_2013 dL_law_2015 dL_law_2016 dL_law_2017 dL_law_2019 (by decide) dL_law_2020 dL_law_2021 dL_law_2022 dL_law_2023 dL_law_2026 dL_law_2027 ?_
  refine m_scl (k := 4) hx hb hX hbl hbA hS hL9 (by omega) (lv_at hl 6 rfl) (lv_at hl 1 rfl) hown (hE.good Z kl_L_187 _) dL_law_2028 dL_law_2029 dL_law_2031 (by decide) dL_law_2032 dL_law_2033 dL_law_2034 dL_law_2035 dL_law_2037 dL_law_2038 dL_law_2039 dL_law_2041 (by decide) dL_law_2042 dL_law_2043 dL_law_2044 dL_law_2045 dL_law_2048 dL_law_2049 ?_
  refine m_callV Z C hM hS (As := [.int (xs (i + 1)), .long (sl xs (i + 2)), .long (sl xs (i + 4))]) (rest := []) (d_X6_countHigh Z h1 x m q o o2 f9 g (T_countHigh st (xs (i + 1)) (sl xs (i + 2)) (sl xs (i + 4))).1 st hJ1 hk (xs (i + 1)) (sl xs (i + 2)) (sl xs (i + 4))) yi_X6_countHigh ml_L_214 hJ1.mdl.o rfl ⟨Nat.le_of_ble_eq_true rfl, Nat.le_of_ble_eq_true rfl⟩ (Nat.le_of_ble_eq_true rfl) hl.1 rfl rfl dL_law_2050 ⟨(by show cells + 2 + 0 ≤ 603072; omega), (by show slots + 12 + 0 ≤ 7223402; omega)⟩ (fun v h2 H locs hv hM hS => ?_)
  obtain ⟨w, hv, hJ2, hz2⟩ := hv
  subst hv
  refine W.eq (g2 := F0 mt 2053 ls [.int w]) rfl ?_
  refine lv_istore (lv' := [(7, .int w), (6, .int (st_thr (T_countHigh st (xs (i + 1)) (sl xs (i + 2)) (sl xs (i + 4))).1)), (5, .int (nI i)), (4, .ref o2), (3, .ref o), (2, .ref m), (1, .ref x), (0, .ref b)]) hx hb dL_law_2053 hl (by decide) rfl (fun ls hl => ?_)
  refine lv_aload_n hx hb dL_law_2055 rfl (lv_at hl 5 rfl) ?_
  refine m_callV Z C hM hS (As := []) (rest := []) (c_X6_thrown Z h2 m q (T_countHigh st (xs (i + 1)) (sl xs (i + 2)) (sl xs (i + 4))).1 hJ2.mdl) yi_X6_thrown ml_L_136 hJ2.mdl.o rfl ⟨Nat.le_of_ble_eq_true rfl, Nat.le_of_ble_eq_true rfl⟩ (Nat.le_of_ble_eq_true rfl) hl.1 rfl rfl dL_law_2056 ⟨(by show cells + 2 + 0 + 0 ≤ 603072; omega), (by show slots + 12 + 0 + 0 ≤ 7223402; omega)⟩ (fun v h3 H locs hv hM hS => ?_)
  obtain ⟨hv, hh3⟩ := hv
  subst hv
  rw [hh3] at hM
  refine W.eq (g2 := F0 mt 2059 ls [.int (st_thr (T_countHigh st (xs (i + 1)) (sl xs (i + 2)) (sl xs (i + 4))).1)]) rfl ?_
  refine lv_iload hx hb dL_law_2059 (lv_at hl 1 rfl) ?_
  refine lv_icmp_eq (tgt := 2066) hx hb dL_law_2061 (by decide) (fun _ => ?_) (fun z9 => absurd rfl z9)
  refine lv_iload hx hb dL_law_2066 (lv_at hl 1 rfl) ?_
  refine lv_if_ne (tgt := 2083) hx hb dL_law_2068 (by decide) (fun _ => ?_) (fun z9 => ?_)
  · -- thrown
    refine lv_goto (tgt := 2972) hx hb dL_law_2083 (by decide) ?_
    exact W.widen (k := cells + 20) (n := slots + 500) (by omega) (by omega) (kk _ _ _ _ _ _ _ hJ2 (IvT_countHigh hk hnow (xs (i + 1)) (sl xs (i + 2)) (sl xs (i + 4))) (nwT_countHigh (xs (i + 1)) (sl xs (i + 2)) (sl xs (i + 4))) hM hS (lv_sub hl [2, 3, 4, 5, 6, 7] rfl))
  · -- answered
    refine lv_aload_n hx hb dL_law_2071 rfl (lv_at hl 4 rfl) ?_
    refine lv_iconst (v := nI 0) hx hb dL_law_2072 (by decide) ?_
    refine m_lald Z C hM hJ2.oo 0 rfl (by decide) (by decide) dL_law_2073 ?_
    refine lv_iload hx hb dL_law_2074 (lv_at hl 0 rfl) ?_
    refine lv_i2l hx hb dL_law_2076 rfl ?_
    have e9 : f9 0 = w.toInt64 := (hz1 z9).trans (hz2 z9).symm
    refine W.lcmp hx hb dL_law_2077 ?_
    refine n_lc_eq (tgt := 2083) hx hb dL_law_2078 (by decide) (fun _ => ?_) (fun z => absurd e9 z)
    refine lv_goto (tgt := 2972) hx hb dL_law_2083 (by decide) ?_
    exact W.widen (k := cells + 20) (n := slots + 500) (by omega) (by omega) (kk _ _ _ _ _ _ _ hJ2 (IvT_countHigh hk hnow (xs (i + 1)) (sl xs (i + 2)) (sl xs (i + 4))) (nwT_countHigh (xs (i + 1)) (sl xs (i + 2)) (sl xs (i + 4))) hM hS (lv_sub hl [2, 3, 4, 5, 6, 7] rfl))
set_option maxRecDepth 100000 in
set_option maxHeartbeats 4000000 in
theorem law_case_23 {p : Program} {l : Launch} {e : Env} {s : State} {mt : MethodId} {below : List Frame} {meth : Method} {c : Code} {H : Heap} {locs : List Loc} {cells slots : Nat} {Q : State → Prop} {ls : Array Slot} {G : mG} {h : Hp} {b L i : Nat} {xs : Nat → Int32} {x m : Nat} {q : Nat → Nat} {o o2 : Nat} {f : Nat → Int64} {g : Nat → UInt64} {st : Ms} {nm9 : String} (Z : mZ l G #[.ref b] s) (No : mNo s) (C : mC s p s mt meth c cL_law 9 RL (some .boolean) nm9) (hX : va_X b L xs s s.heap) (hbl : b < s.heap.size) (hL : L ≤ 3072) (hi : i + 6 ≤ L) (hJ : LJ G h x m q o o2 f g st st) (hk : Iv st) (hnow : st_now st + 600 < 1073741824) (hM : MW G s.heap.size h H) (hS : va_S (fun q => s.heap.size ≤ q) s.heap H locs) (hl : lv_has ls 9 [(5, .int (nI i)), (4, .ref o2), (3, .ref o), (2, .ref m), (1, .ref x), (0, .ref b)]) (hc : cells + 20 ≤ 603072 ∧ slots + 500 ≤ 7223402) (kk : ∀ (st2 : Ms) (f2 : Nat → Int64) (g2 : Nat → UInt64) (h2 : Hp) (H2 : Heap) (locs2 : List Loc) (ls2 : Array Slot), LJ G h2 x m q o o2 f2 g2 st2 st2 → Iv st2 → st_now st2 ≤ st_now st + 600 → MW G s.heap.size h2 H2 → va_S (fun q => s.heap.size ≤ q) s.heap H2 locs2 → lv_has ls2 9 [(5, .int (nI i)), (4, .ref o2), (3, .ref o), (2, .ref m), (1, .ref x), (0, .ref b)] → W p l e room_1 s mt #[.ref b] below meth c H2 locs2 (cells + 20) (slots + 500) Q (F0 mt 2972 ls2 [])) : W p l e room_1 s mt #[.ref b] below meth c H locs cells slots Q (F0 mt 2086 ls []) := by
  have hx := C.1
  have hb := C.2.1
  have hown := C.2.2.2.1
  have hE := C.2.2.2.2.2.2.1
  have hL9 : L < 2 ^ 31 := by omega
  have hbA : ¬ (fun q : Nat => s.heap.size ≤ q) b := Nat.not_le.mpr hbl
  refine lv_aload_n hx hb dL_law_2086 rfl (lv_at hl 4 rfl) ?_
  refine m_scr (k := 1) hx hb hX hbl hbA hS hL9 (by omega) (lv_at hl 5 rfl) (lv_at hl 0 rfl) dL_law_2087 dL_law_2088 dL_law_2090 (by decide) dL_law_2091 dL_law_2092 ?_
  refine m_scl (k := 2) hx hb hX hbl hbA hS hL9 (by omega) (lv_at hl 5 rfl) (lv_at hl 0 rfl) hown (hE.good Z kl_L_187 _) dL_law_2093 dL_law_2094 dL_law_2096 (by decide) dL_law_2097 dL_law_2098 dL_law_2099 dL_law_2100 dL_law_2102 dL_law_2103 dL_law_2104 dL_law_2106 (by decide) dL_law_2107 dL_law_2108 dL_law_2109 dL_law_2110 dL_law_2113 dL_law_2114 ?_
  refine m_scl (k := 4) hx hb hX hbl hbA hS hL9 (by omega) (lv_at hl 5 rfl) (lv_at hl 0 rfl) hown (hE.good Z kl_L_187 _) dL_law_2115 dL_law_2116 dL_law_2118 (by decide) dL_law_2119 dL_law_2120 dL_law_2121 dL_law_2122 dL_law_2124 dL_law_2125 dL_law_2126 dL_law_2128 (by decide) dL_law_2129 dL_law_2130 dL_law_2131 dL_law_2132 dL_law_2135 dL_law_2136 ?_
  refine lv_aload_n hx hb dL_law_2137 rfl (lv_at hl 2 rfl) ?_
  refine m_callH Z C hM hS (As := [.ref x, .int (xs (i + 1)), .long (sl xs (i + 2)), .long (sl xs (i + 4)), .ref o]) (rest := []) (c_L_maximumHigh Z No h x m q o o2 f g st hJ hk (xs (i + 1)) (sl xs (i + 2)) (sl xs (i + 4))) yi_L_maximumHigh ml_L_215 ⟨Nat.le_of_ble_eq_true rfl, Nat.le_of_ble_eq_true rfl⟩ (Nat.le_of_ble_eq_true rfl) hl.1 rfl rfl dL_law_2138 ⟨(by show cells + 3 ≤ 603072; omega), (by show slots + 18 ≤ 7223402; omega)⟩ (fun v h1 H locs hv hM hS => ?_)
  obtain ⟨hv, f9, hJ1, hz1⟩ := hv
  subst hv
  refine W.eq (g2 := F0 mt 2141 ls [.int (st_thr (T_maximumHigh st (xs (i + 1)) (sl xs (i + 2)) (sl xs (i + 4))).1)]) rfl ?_
  refine lv_istore (lv' := [(6, .int (st_thr (T_maximumHigh st (xs (i + 1)) (sl xs (i + 2)) (sl xs (i + 4))).1)), (5, .int (nI i)), (4, .ref o2), (3, .ref o), (2, .ref m), (1, .ref x), (0, .ref b)]) hx hb dL_law_2141 hl (by decide) rfl (fun ls hl => ?_)
  refine lv_aload_n hx hb dL_law_2143 rfl (lv_at hl 4 rfl) ?_
  refine m_scr (k := 1) hx hb hX hbl hbA hS hL9 (by omega) (lv_at hl 6 rfl) (lv_at hl 1 rfl) dL_law_2144 dL_law_2145 dL_law_2147 (by decide) dL_law_2148 dL_law_2149 ?_
  refine m_scl (k := 2) hx hb hX hbl hbA hS hL9 (by omega) (lv_at hl 6 rfl) (lv_at hl 1 rfl) hown (hE.good Z kl_L_187 _) dL_law_2150 dL_law_2151 dL_law_2153 (by decide) dL_law_2154 dL_law_2155 dL_law_2156 dL_law_2157 dL_law_2159 dL_law_2160 dL_law_2161 dL_law_2163 (by decide) dL_law_2164 dL_law_2165 dL_law_2166 dL_law_2167 dL_law_2170 dL_law_2171 ?_
  refine m_scl (k := 4) hx hb hX hbl hbA hS hL9 (by omega) (lv_at hl 6 rfl) (lv_at hl 1 rfl) hown (hE.good Z kl_L_187 _) dL_law_2172 dL_law_2173 dL_law_2175 (by decide) dL_law_2176 dL_law_2177 dL_law_2178 dL_law_2179 dL_law_2181 dL_law_2182 dL_law_2183 dL_law_2185 (by decide) dL_law_2186 dL_law_2187 dL_law_2188 dL_law_2189 dL_law_2192 dL_law_2193 ?_
  refine m_callV Z C hM hS (As := [.int (xs (i + 1)), .long (sl xs (i + 2)), .long (sl xs (i + 4))]) (rest := []) (d_X6_maximumHigh Z h1 x m q o o2 f9 g (T_maximumHigh st (xs (i + 1)) (sl xs (i + 2)) (sl xs (i + 4))).1 st hJ1 hk (xs (i + 1)) (sl xs (i + 2)) (sl xs (i + 4))) yi_X6_maximumHigh ml_L_217 hJ1.mdl.o rfl ⟨Nat.le_of_ble_eq_true rfl, Nat.le_of_ble_eq_true rfl⟩ (Nat.le_of_ble_eq_true rfl) hl.1 rfl rfl dL_law_2194 ⟨(by show cells + 3 + 0 ≤ 603072; omega), (by show slots + 18 + 0 ≤ 7223402; omega)⟩ (fun v h2 H locs hv hM hS => ?_)
  obtain ⟨w, hv, hJ2, hz2⟩ := hv
  subst hv
  refine W.eq (g2 := F0 mt 2197 ls [.int w]) rfl ?_
  refine lv_istore (lv' := [(7, .int w), (6, .int (st_thr (T_maximumHigh st (xs (i + 1)) (sl xs (i + 2)) (sl xs (i + 4))).1)), (5, .int (nI i)), (4, .ref o2), (3, .ref o), (2, .ref m), (1, .ref x), (0, .ref b)]) hx hb dL_law_2197 hl (by decide) rfl (fun ls hl => ?_)
  refine lv_aload_n hx hb dL_law_2199 rfl (lv_at hl 5 rfl) ?_
  refine m_callV Z C hM hS (As := []) (rest := []) (c_X6_thrown Z h2 m q (T_maximumHigh st (xs (i + 1)) (sl xs (i + 2)) (sl xs (i + 4))).1 hJ2.mdl) yi_X6_thrown ml_L_136 hJ2.mdl.o rfl ⟨Nat.le_of_ble_eq_true rfl, Nat.le_of_ble_eq_true rfl⟩ (Nat.le_of_ble_eq_true rfl) hl.1 rfl rfl dL_law_2200 ⟨(by show cells + 3 + 0 + 0 ≤ 603072; omega), (by show slots + 18 + 0 + 0 ≤ 7223402; omega)⟩ (fun v h3 H locs hv hM hS => ?_)
  obtain ⟨hv, hh3⟩ := hv
  subst hv
  rw [hh3] at hM
  refine W.eq (g2 := F0 mt 2203 ls [.int (st_thr (T_maximumHigh st (xs (i + 1)) (sl xs (i + 2)) (sl xs (i + 4))).1)]) rfl ?_
  refine lv_iload hx hb dL_law_2203 (lv_at hl 1 rfl) ?_
  refine lv_icmp_eq (tgt := 2210) hx hb dL_law_2205 (by decide) (fun _ => ?_) (fun z9 => absurd rfl z9)
  refine lv_iload hx hb dL_law_2210 (lv_at hl 1 rfl) ?_
  refine lv_if_ne (tgt := 2227) hx hb dL_law_2212 (by decide) (fun _ => ?_) (fun z9 => ?_)
  · -- thrown
    refine lv_goto (tgt := 2972) hx hb dL_law_2227 (by decide) ?_
    exact W.widen (k := cells + 20) (n := slots + 500) (by omega) (by omega) (kk _ _ _ _ _ _ _ hJ2 (IvT_maximumHigh hk hnow (xs (i + 1)) (sl xs (i + 2)) (sl xs (i + 4))) (nwT_maximumHigh (xs (i + 1)) (sl xs (i + 2)) (sl xs (i + 4))) hM hS (lv_sub hl [2, 3, 4, 5, 6, 7] rfl))
  · -- answered
    refine lv_aload_n hx hb dL_law_2215 rfl (lv_at hl 4 rfl) ?_
    refine lv_iconst (v := nI 0) hx hb dL_law_2216 (by decide) ?_
    refine m_lald Z C hM hJ2.oo 0 rfl (by decide) (by decide) dL_law_2217 ?_
    refine lv_iload hx hb dL_law_2218 (lv_at hl 0 rfl) ?_
    refine lv_i2l hx hb dL_law_2220 rfl ?_
    have e9 : f9 0 = w.toInt64 := (hz1 z9).trans (hz2 z9).symm
    refine W.lcmp hx hb dL_law_2221 ?_
    refine n_lc_eq (tgt := 2227) hx hb dL_law_2222 (by decide) (fun _ => ?_) (fun z => absurd e9 z)
    refine lv_goto (tgt := 2972) hx hb dL_law_2227 (by decide) ?_
    exact W.widen (k := cells + 20) (n := slots + 500) (by omega) (by omega) (kk _ _ _ _ _ _ _ hJ2 (IvT_maximumHigh hk hnow (xs (i + 1)) (sl xs (i + 2)) (sl xs (i + 4))) (nwT_maximumHigh (xs (i + 1)) (sl xs (i + 2)) (sl xs (i + 4))) hM hS (lv_sub hl [2, 3, 4, 5, 6, 7] rfl))
set_option maxRecDepth 100000 in
set_option maxHeartbeats 4000000 in
theorem law_case_24 {p : Program} {l : Launch} {e : Env} {s : State} {mt : MethodId} {below : List Frame} {meth : Method} {c : Code} {H : Heap} {locs : List Loc} {cells slots : Nat} {Q : State → Prop} {ls : Array Slot} {G : mG} {h : Hp} {b L i : Nat} {xs : Nat → Int32} {x m : Nat} {q : Nat → Nat} {o o2 : Nat} {f : Nat → Int64} {g : Nat → UInt64} {st : Ms} {nm9 : String} (Z : mZ l G #[.ref b] s) (No : mNo s) (C : mC s p s mt meth c cL_law 9 RL (some .boolean) nm9) (hX : va_X b L xs s s.heap) (hbl : b < s.heap.size) (hL : L ≤ 3072) (hi : i + 6 ≤ L) (hJ : LJ G h x m q o o2 f g st st) (hk : Iv st) (hnow : st_now st + 600 < 1073741824) (hM : MW G s.heap.size h H) (hS : va_S (fun q => s.heap.size ≤ q) s.heap H locs) (hl : lv_has ls 9 [(5, .int (nI i)), (4, .ref o2), (3, .ref o), (2, .ref m), (1, .ref x), (0, .ref b)]) (hc : cells + 20 ≤ 603072 ∧ slots + 500 ≤ 7223402) (kk : ∀ (st2 : Ms) (f2 : Nat → Int64) (g2 : Nat → UInt64) (h2 : Hp) (H2 : Heap) (locs2 : List Loc) (ls2 : Array Slot), LJ G h2 x m q o o2 f2 g2 st2 st2 → Iv st2 → st_now st2 ≤ st_now st + 600 → MW G s.heap.size h2 H2 → va_S (fun q => s.heap.size ≤ q) s.heap H2 locs2 → lv_has ls2 9 [(5, .int (nI i)), (4, .ref o2), (3, .ref o), (2, .ref m), (1, .ref x), (0, .ref b)] → W p l e room_1 s mt #[.ref b] below meth c H2 locs2 (cells + 20) (slots + 500) Q (F0 mt 2972 ls2 [])) : W p l e room_1 s mt #[.ref b] below meth c H locs cells slots Q (F0 mt 2230 ls []) := by
  have hx := C.1
  have hb := C.2.1
  have hown := C.2.2.2.1
  have hE := C.2.2.2.2.2.2.1
  have hL9 : L < 2 ^ 31 := by omega
  have hbA : ¬ (fun q : Nat => s.heap.size ≤ q) b := Nat.not_le.mpr hbl
  refine lv_aload_n hx hb dL_law_2230 rfl (lv_at hl 4 rfl) ?_
  refine m_scr (k := 1) hx hb hX hbl hbA hS hL9 (by omega) (lv_at hl 5 rfl) (lv_at hl 0 rfl) dL_law_2231 dL_law_2232 dL_law_2234 (by decide) dL_law_2235 dL_law_2236 ?_
  refine m_scr (k := 2) hx hb hX hbl hbA hS hL9 (by omega) (lv_at hl 5 rfl) (lv_at hl 0 rfl) dL_law_2237 dL_law_2238 dL_law_2240 (by decide) dL_law_2241 dL_law_2242 ?_
  refine lv_aload_n hx hb dL_law_2243 rfl (lv_at hl 2 rfl) ?_
  refine m_callH Z C hM hS (As := [.ref x, .int (xs (i + 1)), .int (xs (i + 2)), .ref o]) (rest := []) (c_L_quantile Z No h x m q o o2 f g st hJ hk (xs (i + 1)) (xs (i + 2))) yi_L_quantile ml_L_218 ⟨Nat.le_of_ble_eq_true rfl, Nat.le_of_ble_eq_true rfl⟩ (Nat.le_of_ble_eq_true rfl) hl.1 rfl rfl dL_law_2244 ⟨(by show cells + 3 ≤ 603072; omega), (by show slots + 18 ≤ 7223402; omega)⟩ (fun v h1 H locs hv hM hS => ?_)
  obtain ⟨hv, f9, hJ1, hz1⟩ := hv
  subst hv
  refine W.eq (g2 := F0 mt 2247 ls [.int (st_thr (T_quantile st (xs (i + 1)) (xs (i + 2))).1)]) rfl ?_
  refine lv_istore (lv' := [(6, .int (st_thr (T_quantile st (xs (i + 1)) (xs (i + 2))).1)), (5, .int (nI i)), (4, .ref o2), (3, .ref o), (2, .ref m), (1, .ref x), (0, .ref b)]) hx hb dL_law_2247 hl (by decide) rfl (fun ls hl => ?_)
  refine lv_aload_n hx hb dL_law_2249 rfl (lv_at hl 4 rfl) ?_
  refine m_scr (k := 1) hx hb hX hbl hbA hS hL9 (by omega) (lv_at hl 6 rfl) (lv_at hl 1 rfl) dL_law_2250 dL_law_2251 dL_law_2253 (by decide) dL_law_2254 dL_law_2255 ?_
  refine m_scr (k := 2) hx hb hX hbl hbA hS hL9 (by omega) (lv_at hl 6 rfl) (lv_at hl 1 rfl) dL_law_2256 dL_law_2257 dL_law_2259 (by decide) dL_law_2260 dL_law_2261 ?_
  refine m_callV Z C hM hS (As := [.int (xs (i + 1)), .int (xs (i + 2))]) (rest := []) (d_X6_quantile Z h1 x m q o o2 f9 g (T_quantile st (xs (i + 1)) (xs (i + 2))).1 st hJ1 hk (xs (i + 1)) (xs (i + 2))) yi_X6_quantile ml_L_220 hJ1.mdl.o rfl ⟨Nat.le_of_ble_eq_true rfl, Nat.le_of_ble_eq_true rfl⟩ (Nat.le_of_ble_eq_true rfl) hl.1 rfl rfl dL_law_2262 ⟨(by show cells + 3 + 0 ≤ 603072; omega), (by show slots + 18 + 0 ≤ 7223402; omega)⟩ (fun v h2 H locs hv hM hS => ?_)
  obtain ⟨w, hv, hJ2, hz2⟩ := hv
  subst hv
  refine W.eq (g2 := F0 mt 2265 ls [.int w]) rfl ?_
  refine lv_istore (lv' := [(7, .int w), (6, .int (st_thr (T_quantile st (xs (i + 1)) (xs (i + 2))).1)), (5, .int (nI i)), (4, .ref o2), (3, .ref o), (2, .ref m), (1, .ref x), (0, .ref b)]) hx hb dL_law_2265 hl (by decide) rfl (fun ls hl => ?_)
  refine lv_aload_n hx hb dL_law_2267 rfl (lv_at hl 5 rfl) ?_
  refine m_callV Z C hM hS (As := []) (rest := []) (c_X6_thrown Z h2 m q (T_quantile st (xs (i + 1)) (xs (i + 2))).1 hJ2.mdl) yi_X6_thrown ml_L_136 hJ2.mdl.o rfl ⟨Nat.le_of_ble_eq_true rfl, Nat.le_of_ble_eq_true rfl⟩ (Nat.le_of_ble_eq_true rfl) hl.1 rfl rfl dL_law_2268 ⟨(by show cells + 3 + 0 + 0 ≤ 603072; omega), (by show slots + 18 + 0 + 0 ≤ 7223402; omega)⟩ (fun v h3 H locs hv hM hS => ?_)
  obtain ⟨hv, hh3⟩ := hv
  subst hv
  rw [hh3] at hM
  refine W.eq (g2 := F0 mt 2271 ls [.int (st_thr (T_quantile st (xs (i + 1)) (xs (i + 2))).1)]) rfl ?_
  refine lv_iload hx hb dL_law_2271 (lv_at hl 1 rfl) ?_
  refine lv_icmp_eq (tgt := 2278) hx hb dL_law_2273 (by decide) (fun _ => ?_) (fun z9 => absurd rfl z9)
  refine lv_iload hx hb dL_law_2278 (lv_at hl 1 rfl) ?_
  refine lv_if_ne (tgt := 2295) hx hb dL_law_2280 (by decide) (fun _ => ?_) (fun z9 => ?_)
  · -- thrown
    refine lv_goto (tgt := 2972) hx hb dL_law_2295 (by decide) ?_
    exact W.widen (k := cells + 20) (n := slots + 500) (by omega) (by omega) (kk _ _ _ _ _ _ _ hJ2 (IvT_quantile hk hnow (xs (i + 1)) (xs (i + 2))) (nwT_quantile (xs (i + 1)) (xs (i + 2))) hM hS (lv_sub hl [2, 3, 4, 5, 6, 7] rfl))
  · -- answered
    refine lv_aload_n hx hb dL_law_2283 rfl (lv_at hl 4 rfl) ?_
    refine lv_iconst (v := nI 0) hx hb dL_law_2284 (by decide) ?_
    refine m_lald Z C hM hJ2.oo 0 rfl (by decide) (by decide) dL_law_2285 ?_
    refine lv_iload hx hb dL_law_2286 (lv_at hl 0 rfl) ?_
    refine lv_i2l hx hb dL_law_2288 rfl ?_
    have e9 : f9 0 = w.toInt64 := (hz1 z9).trans (hz2 z9).symm
    refine W.lcmp hx hb dL_law_2289 ?_
    refine n_lc_eq (tgt := 2295) hx hb dL_law_2290 (by decide) (fun _ => ?_) (fun z => absurd e9 z)
    refine lv_goto (tgt := 2972) hx hb dL_law_2295 (by decide) ?_
    exact W.widen (k := cells + 20) (n := slots + 500) (by omega) (by omega) (kk _ _ _ _ _ _ _ hJ2 (IvT_quantile hk hnow (xs (i + 1)) (xs (i + 2))) (nwT_quantile (xs (i + 1)) (xs (i + 2))) hM hS (lv_sub hl [2, 3, 4, 5, 6, 7] rfl))
set_option maxRecDepth 100000 in
set_option maxHeartbeats 4000000 in
theorem law_case_25 {p : Program} {l : Launch} {e : Env} {s : State} {mt : MethodId} {below : List Frame} {meth : Method} {c : Code} {H : Heap} {locs : List Loc} {cells slots : Nat} {Q : State → Prop} {ls : Array Slot} {G : mG} {h : Hp} {b L i : Nat} {xs : Nat → Int32} {x m : Nat} {q : Nat → Nat} {o o2 : Nat} {f : Nat → Int64} {g : Nat → UInt64} {st : Ms} {nm9 : String} (Z : mZ l G #[.ref b] s) (No : mNo s) (C : mC s p s mt meth c cL_law 9 RL (some .boolean) nm9) (hX : va_X b L xs s s.heap) (hbl : b < s.heap.size) (hL : L ≤ 3072) (hi : i + 6 ≤ L) (hJ : LJ G h x m q o o2 f g st st) (hk : Iv st) (hnow : st_now st + 600 < 1073741824) (hM : MW G s.heap.size h H) (hS : va_S (fun q => s.heap.size ≤ q) s.heap H locs) (hl : lv_has ls 9 [(5, .int (nI i)), (4, .ref o2), (3, .ref o), (2, .ref m), (1, .ref x), (0, .ref b)]) (hc : cells + 20 ≤ 603072 ∧ slots + 500 ≤ 7223402) (kk : ∀ (st2 : Ms) (f2 : Nat → Int64) (g2 : Nat → UInt64) (h2 : Hp) (H2 : Heap) (locs2 : List Loc) (ls2 : Array Slot), LJ G h2 x m q o o2 f2 g2 st2 st2 → Iv st2 → st_now st2 ≤ st_now st + 600 → MW G s.heap.size h2 H2 → va_S (fun q => s.heap.size ≤ q) s.heap H2 locs2 → lv_has ls2 9 [(5, .int (nI i)), (4, .ref o2), (3, .ref o), (2, .ref m), (1, .ref x), (0, .ref b)] → W p l e room_1 s mt #[.ref b] below meth c H2 locs2 (cells + 20) (slots + 500) Q (F0 mt 2972 ls2 [])) : W p l e room_1 s mt #[.ref b] below meth c H locs cells slots Q (F0 mt 2298 ls []) := by
  have hx := C.1
  have hb := C.2.1
  have hown := C.2.2.2.1
  have hE := C.2.2.2.2.2.2.1
  have hL9 : L < 2 ^ 31 := by omega
  have hbA : ¬ (fun q : Nat => s.heap.size ≤ q) b := Nat.not_le.mpr hbl
  refine lv_aload_n hx hb dL_law_2298 rfl (lv_at hl 4 rfl) ?_
  refine m_scr (k := 1) hx hb hX hbl hbA hS hL9 (by omega) (lv_at hl 5 rfl) (lv_at hl 0 rfl) dL_law_2299 dL_law_2300 dL_law_2302 (by decide) dL_law_2303 dL_law_2304 ?_
  refine m_scr (k := 2) hx hb hX hbl hbA hS hL9 (by omega) (lv_at hl 5 rfl) (lv_at hl 0 rfl) dL_law_2305 dL_law_2306 dL_law_2308 (by decide) dL_law_2309 dL_law_2310 ?_
  refine lv_aload_n hx hb dL_law_2311 rfl (lv_at hl 2 rfl) ?_
  refine m_callH Z C hM hS (As := [.ref x, .int (xs (i + 1)), .int (xs (i + 2)), .ref o]) (rest := []) (c_L_exactQuantile Z No h x m q o o2 f g st hJ hk (xs (i + 1)) (xs (i + 2))) yi_L_exactQuantile ml_L_221 ⟨Nat.le_of_ble_eq_true rfl, Nat.le_of_ble_eq_true rfl⟩ (Nat.le_of_ble_eq_true rfl) hl.1 rfl rfl dL_law_2312 ⟨(by show cells + 3 ≤ 603072; omega), (by show slots + 18 ≤ 7223402; omega)⟩ (fun v h1 H locs hv hM hS => ?_)
  obtain ⟨hv, f9, hJ1, hz1⟩ := hv
  subst hv
  refine W.eq (g2 := F0 mt 2315 ls [.int (st_thr (T_exactQuantile st (xs (i + 1)) (xs (i + 2))).1)]) rfl ?_
  refine lv_istore (lv' := [(6, .int (st_thr (T_exactQuantile st (xs (i + 1)) (xs (i + 2))).1)), (5, .int (nI i)), (4, .ref o2), (3, .ref o), (2, .ref m), (1, .ref x), (0, .ref b)]) hx hb dL_law_2315 hl (by decide) rfl (fun ls hl => ?_)
  refine lv_aload_n hx hb dL_law_2317 rfl (lv_at hl 4 rfl) ?_
  refine m_scr (k := 1) hx hb hX hbl hbA hS hL9 (by omega) (lv_at hl 6 rfl) (lv_at hl 1 rfl) dL_law_2318 dL_law_2319 dL_law_2321 (by decide) dL_law_2322 dL_law_2323 ?_
  refine m_scr (k := 2) hx hb hX hbl hbA hS hL9 (by omega) (lv_at hl 6 rfl) (lv_at hl 1 rfl) dL_law_2324 dL_law_2325 dL_law_2327 (by decide) dL_law_2328 dL_law_2329 ?_
  refine m_callV Z C hM hS (As := [.int (xs (i + 1)), .int (xs (i + 2))]) (rest := []) (d_X6_exactQuantile Z h1 x m q o o2 f9 g (T_exactQuantile st (xs (i + 1)) (xs (i + 2))).1 st hJ1 hk (xs (i + 1)) (xs (i + 2))) yi_X6_exactQuantile ml_L_223 hJ1.mdl.o rfl ⟨Nat.le_of_ble_eq_true rfl, Nat.le_of_ble_eq_true rfl⟩ (Nat.le_of_ble_eq_true rfl) hl.1 rfl rfl dL_law_2330 ⟨(by show cells + 3 + 0 ≤ 603072; omega), (by show slots + 18 + 0 ≤ 7223402; omega)⟩ (fun v h2 H locs hv hM hS => ?_)
  obtain ⟨w, hv, hJ2, hz2⟩ := hv
  subst hv
  refine W.eq (g2 := F0 mt 2333 ls [.int w]) rfl ?_
  refine lv_istore (lv' := [(7, .int w), (6, .int (st_thr (T_exactQuantile st (xs (i + 1)) (xs (i + 2))).1)), (5, .int (nI i)), (4, .ref o2), (3, .ref o), (2, .ref m), (1, .ref x), (0, .ref b)]) hx hb dL_law_2333 hl (by decide) rfl (fun ls hl => ?_)
  refine lv_aload_n hx hb dL_law_2335 rfl (lv_at hl 5 rfl) ?_
  refine m_callV Z C hM hS (As := []) (rest := []) (c_X6_thrown Z h2 m q (T_exactQuantile st (xs (i + 1)) (xs (i + 2))).1 hJ2.mdl) yi_X6_thrown ml_L_136 hJ2.mdl.o rfl ⟨Nat.le_of_ble_eq_true rfl, Nat.le_of_ble_eq_true rfl⟩ (Nat.le_of_ble_eq_true rfl) hl.1 rfl rfl dL_law_2336 ⟨(by show cells + 3 + 0 + 0 ≤ 603072; omega), (by show slots + 18 + 0 + 0 ≤ 7223402; omega)⟩ (fun v h3 H locs hv hM hS => ?_)
  obtain ⟨hv, hh3⟩ := hv
  subst hv
  rw [hh3] at hM
  refine W.eq (g2 := F0 mt 2339 ls [.int (st_thr (T_exactQuantile st (xs (i + 1)) (xs (i + 2))).1)]) rfl ?_
  refine lv_iload hx hb dL_law_2339 (lv_at hl 1 rfl) ?_
  refine lv_icmp_eq (tgt := 2346) hx hb dL_law_2341 (by decide) (fun _ => ?_) (fun z9 => absurd rfl z9)
  refine lv_iload hx hb dL_law_2346 (lv_at hl 1 rfl) ?_
  refine lv_if_ne (tgt := 2363) hx hb dL_law_2348 (by decide) (fun _ => ?_) (fun z9 => ?_)
  · -- thrown
    refine lv_goto (tgt := 2972) hx hb dL_law_2363 (by decide) ?_
    exact W.widen (k := cells + 20) (n := slots + 500) (by omega) (by omega) (kk _ _ _ _ _ _ _ hJ2 (IvT_exactQuantile hk hnow (xs (i + 1)) (xs (i + 2))) (nwT_exactQuantile (xs (i + 1)) (xs (i + 2))) hM hS (lv_sub hl [2, 3, 4, 5, 6, 7] rfl))
  · -- answered
    refine lv_aload_n hx hb dL_law_2351 rfl (lv_at hl 4 rfl) ?_
    refine lv_iconst (v := nI 0) hx hb dL_law_2352 (by decide) ?_
    refine m_lald Z C hM hJ2.oo 0 rfl (by decide) (by decide) dL_law_2353 ?_
    refine lv_iload hx hb dL_law_2354 (lv_at hl 0 rfl) ?_
    refine lv_i2l hx hb dL_law_2356 rfl ?_
    have e9 : f9 0 = w.toInt64 := (hz1 z9).trans (hz2 z9).symm
    refine W.lcmp hx hb dL_law_2357 ?_
    refine n_lc_eq (tgt := 2363) hx hb dL_law_2358 (by decide) (fun _ => ?_) (fun z => absurd e9 z)
    refine lv_goto (tgt := 2972) hx hb dL_law_2363 (by decide) ?_
    exact W.widen (k := cells + 20) (n := slots + 500) (by omega) (by omega) (kk _ _ _ _ _ _ _ hJ2 (IvT_exactQuantile hk hnow (xs (i + 1)) (xs (i + 2))) (nwT_exactQuantile (xs (i + 1)) (xs (i + 2))) hM hS (lv_sub hl [2, 3, 4, 5, 6, 7] rfl))
set_option maxRecDepth 100000 in
set_option maxHeartbeats 4000000 in
theorem law_case_26 {p : Program} {l : Launch} {e : Env} {s : State} {mt : MethodId} {below : List Frame} {meth : Method} {c : Code} {H : Heap} {locs : List Loc} {cells slots : Nat} {Q : State → Prop} {ls : Array Slot} {G : mG} {h : Hp} {b L i : Nat} {xs : Nat → Int32} {x m : Nat} {q : Nat → Nat} {o o2 : Nat} {f : Nat → Int64} {g : Nat → UInt64} {st : Ms} {nm9 : String} (Z : mZ l G #[.ref b] s) (No : mNo s) (C : mC s p s mt meth c cL_law 9 RL (some .boolean) nm9) (hX : va_X b L xs s s.heap) (hbl : b < s.heap.size) (hL : L ≤ 3072) (hi : i + 6 ≤ L) (hJ : LJ G h x m q o o2 f g st st) (hk : Iv st) (hnow : st_now st + 600 < 1073741824) (hM : MW G s.heap.size h H) (hS : va_S (fun q => s.heap.size ≤ q) s.heap H locs) (hl : lv_has ls 9 [(5, .int (nI i)), (4, .ref o2), (3, .ref o), (2, .ref m), (1, .ref x), (0, .ref b)]) (hc : cells + 20 ≤ 603072 ∧ slots + 500 ≤ 7223402) (kk : ∀ (st2 : Ms) (f2 : Nat → Int64) (g2 : Nat → UInt64) (h2 : Hp) (H2 : Heap) (locs2 : List Loc) (ls2 : Array Slot), LJ G h2 x m q o o2 f2 g2 st2 st2 → Iv st2 → st_now st2 ≤ st_now st + 600 → MW G s.heap.size h2 H2 → va_S (fun q => s.heap.size ≤ q) s.heap H2 locs2 → lv_has ls2 9 [(5, .int (nI i)), (4, .ref o2), (3, .ref o), (2, .ref m), (1, .ref x), (0, .ref b)] → W p l e room_1 s mt #[.ref b] below meth c H2 locs2 (cells + 20) (slots + 500) Q (F0 mt 2972 ls2 [])) : W p l e room_1 s mt #[.ref b] below meth c H locs cells slots Q (F0 mt 2366 ls []) := by
  have hx := C.1
  have hb := C.2.1
  have hown := C.2.2.2.1
  have hE := C.2.2.2.2.2.2.1
  have hL9 : L < 2 ^ 31 := by omega
  have hbA : ¬ (fun q : Nat => s.heap.size ≤ q) b := Nat.not_le.mpr hbl
  refine lv_aload_n hx hb dL_law_2366 rfl (lv_at hl 4 rfl) ?_
  refine m_scr (k := 1) hx hb hX hbl hbA hS hL9 (by omega) (lv_at hl 5 rfl) (lv_at hl 0 rfl) dL_law_2367 dL_law_2368 dL_law_2370 (by decide) dL_law_2371 dL_law_2372 ?_
  refine lv_aload_n hx hb dL_law_2373 rfl (lv_at hl 2 rfl) ?_
  refine m_callH Z C hM hS (As := [.ref x, .int (xs (i + 1)), .ref o]) (rest := []) (c_L_bound Z No h x m q o o2 f g st hJ hk (xs (i + 1))) yi_L_bound ml_L_224 ⟨Nat.le_of_ble_eq_true rfl, Nat.le_of_ble_eq_true rfl⟩ (Nat.le_of_ble_eq_true rfl) hl.1 rfl rfl dL_law_2374 ⟨(by show cells + 1 ≤ 603072; omega), (by show slots + 6 ≤ 7223402; omega)⟩ (fun v h1 H locs hv hM hS => ?_)
  obtain ⟨hv, f9, hJ1, hz1⟩ := hv
  subst hv
  refine W.eq (g2 := F0 mt 2377 ls [.int (st_thr (T_bound st (xs (i + 1))).1)]) rfl ?_
  refine lv_istore (lv' := [(6, .int (st_thr (T_bound st (xs (i + 1))).1)), (5, .int (nI i)), (4, .ref o2), (3, .ref o), (2, .ref m), (1, .ref x), (0, .ref b)]) hx hb dL_law_2377 hl (by decide) rfl (fun ls hl => ?_)
  refine lv_aload_n hx hb dL_law_2379 rfl (lv_at hl 4 rfl) ?_
  refine m_scr (k := 1) hx hb hX hbl hbA hS hL9 (by omega) (lv_at hl 6 rfl) (lv_at hl 1 rfl) dL_law_2380 dL_law_2381 dL_law_2383 (by decide) dL_law_2384 dL_law_2385 ?_
  refine m_callV Z C hM hS (As := [.int (xs (i + 1))]) (rest := []) (d_X6_bound Z h1 x m q o o2 f9 g (T_bound st (xs (i + 1))).1 st hJ1 hk (xs (i + 1))) yi_X6_bound ml_L_226 hJ1.mdl.o rfl ⟨Nat.le_of_ble_eq_true rfl, Nat.le_of_ble_eq_true rfl⟩ (Nat.le_of_ble_eq_true rfl) hl.1 rfl rfl dL_law_2386 ⟨(by show cells + 1 + 0 ≤ 603072; omega), (by show slots + 6 + 0 ≤ 7223402; omega)⟩ (fun v h2 H locs hv hM hS => ?_)
  obtain ⟨w, hv, hJ2, hz2⟩ := hv
  subst hv
  refine W.eq (g2 := F0 mt 2389 ls [.int w]) rfl ?_
  refine lv_istore (lv' := [(7, .int w), (6, .int (st_thr (T_bound st (xs (i + 1))).1)), (5, .int (nI i)), (4, .ref o2), (3, .ref o), (2, .ref m), (1, .ref x), (0, .ref b)]) hx hb dL_law_2389 hl (by decide) rfl (fun ls hl => ?_)
  refine lv_aload_n hx hb dL_law_2391 rfl (lv_at hl 5 rfl) ?_
  refine m_callV Z C hM hS (As := []) (rest := []) (c_X6_thrown Z h2 m q (T_bound st (xs (i + 1))).1 hJ2.mdl) yi_X6_thrown ml_L_136 hJ2.mdl.o rfl ⟨Nat.le_of_ble_eq_true rfl, Nat.le_of_ble_eq_true rfl⟩ (Nat.le_of_ble_eq_true rfl) hl.1 rfl rfl dL_law_2392 ⟨(by show cells + 1 + 0 + 0 ≤ 603072; omega), (by show slots + 6 + 0 + 0 ≤ 7223402; omega)⟩ (fun v h3 H locs hv hM hS => ?_)
  obtain ⟨hv, hh3⟩ := hv
  subst hv
  rw [hh3] at hM
  refine W.eq (g2 := F0 mt 2395 ls [.int (st_thr (T_bound st (xs (i + 1))).1)]) rfl ?_
  refine lv_iload hx hb dL_law_2395 (lv_at hl 1 rfl) ?_
  refine lv_icmp_eq (tgt := 2402) hx hb dL_law_2397 (by decide) (fun _ => ?_) (fun z9 => absurd rfl z9)
  refine lv_iload hx hb dL_law_2402 (lv_at hl 1 rfl) ?_
  refine lv_if_ne (tgt := 2419) hx hb dL_law_2404 (by decide) (fun _ => ?_) (fun z9 => ?_)
  · -- thrown
    refine lv_goto (tgt := 2972) hx hb dL_law_2419 (by decide) ?_
    exact W.widen (k := cells + 20) (n := slots + 500) (by omega) (by omega) (kk _ _ _ _ _ _ _ hJ2 (IvT_bound hk hnow (xs (i + 1))) (nwT_bound (xs (i + 1))) hM hS (lv_sub hl [2, 3, 4, 5, 6, 7] rfl))
  · -- answered
    refine lv_aload_n hx hb dL_law_2407 rfl (lv_at hl 4 rfl) ?_
    refine lv_iconst (v := nI 0) hx hb dL_law_2408 (by decide) ?_
    refine m_lald Z C hM hJ2.oo 0 rfl (by decide) (by decide) dL_law_2409 ?_
    refine lv_iload hx hb dL_law_2410 (lv_at hl 0 rfl) ?_
    refine lv_i2l hx hb dL_law_2412 rfl ?_
    have e9 : f9 0 = w.toInt64 := (hz1 z9).trans (hz2 z9).symm
    refine W.lcmp hx hb dL_law_2413 ?_
    refine n_lc_eq (tgt := 2419) hx hb dL_law_2414 (by decide) (fun _ => ?_) (fun z => absurd e9 z)
    refine lv_goto (tgt := 2972) hx hb dL_law_2419 (by decide) ?_
    exact W.widen (k := cells + 20) (n := slots + 500) (by omega) (by omega) (kk _ _ _ _ _ _ _ hJ2 (IvT_bound hk hnow (xs (i + 1))) (nwT_bound (xs (i + 1))) hM hS (lv_sub hl [2, 3, 4, 5, 6, 7] rfl))
set_option maxRecDepth 100000 in
set_option maxHeartbeats 4000000 in
theorem law_case_27 {p : Program} {l : Launch} {e : Env} {s : State} {mt : MethodId} {below : List Frame} {meth : Method} {c : Code} {H : Heap} {locs : List Loc} {cells slots : Nat} {Q : State → Prop} {ls : Array Slot} {G : mG} {h : Hp} {b L i : Nat} {xs : Nat → Int32} {x m : Nat} {q : Nat → Nat} {o o2 : Nat} {f : Nat → Int64} {g : Nat → UInt64} {st : Ms} {nm9 : String} (Z : mZ l G #[.ref b] s) (No : mNo s) (C : mC s p s mt meth c cL_law 9 RL (some .boolean) nm9) (hX : va_X b L xs s s.heap) (hbl : b < s.heap.size) (hL : L ≤ 3072) (hi : i + 6 ≤ L) (hJ : LJ G h x m q o o2 f g st st) (hk : Iv st) (hnow : st_now st + 600 < 1073741824) (hM : MW G s.heap.size h H) (hS : va_S (fun q => s.heap.size ≤ q) s.heap H locs) (hl : lv_has ls 9 [(5, .int (nI i)), (4, .ref o2), (3, .ref o), (2, .ref m), (1, .ref x), (0, .ref b)]) (hc : cells + 20 ≤ 603072 ∧ slots + 500 ≤ 7223402) (kk : ∀ (st2 : Ms) (f2 : Nat → Int64) (g2 : Nat → UInt64) (h2 : Hp) (H2 : Heap) (locs2 : List Loc) (ls2 : Array Slot), LJ G h2 x m q o o2 f2 g2 st2 st2 → Iv st2 → st_now st2 ≤ st_now st + 600 → MW G s.heap.size h2 H2 → va_S (fun q => s.heap.size ≤ q) s.heap H2 locs2 → lv_has ls2 9 [(5, .int (nI i)), (4, .ref o2), (3, .ref o), (2, .ref m), (1, .ref x), (0, .ref b)] → W p l e room_1 s mt #[.ref b] below meth c H2 locs2 (cells + 20) (slots + 500) Q (F0 mt 2972 ls2 [])) : W p l e room_1 s mt #[.ref b] below meth c H locs cells slots Q (F0 mt 2422 ls []) := by
  have hx := C.1
  have hb := C.2.1
  have hown := C.2.2.2.1
  have hE := C.2.2.2.2.2.2.1
  have hL9 : L < 2 ^ 31 := by omega
  have hbA : ¬ (fun q : Nat => s.heap.size ≤ q) b := Nat.not_le.mpr hbl
  refine lv_aload_n hx hb dL_law_2422 rfl (lv_at hl 4 rfl) ?_
  refine m_scr (k := 1) hx hb hX hbl hbA hS hL9 (by omega) (lv_at hl 5 rfl) (lv_at hl 0 rfl) dL_law_2423 dL_law_2424 dL_law_2426 (by decide) dL_law_2427 dL_law_2428 ?_
  refine lv_aload_n hx hb dL_law_2429 rfl (lv_at hl 2 rfl) ?_
  refine m_callH Z C hM hS (As := [.ref x, .int (xs (i + 1)), .ref o]) (rest := []) (c_L_held Z No h x m q o o2 f g st hJ hk (xs (i + 1))) yi_L_held ml_L_227 ⟨Nat.le_of_ble_eq_true rfl, Nat.le_of_ble_eq_true rfl⟩ (Nat.le_of_ble_eq_true rfl) hl.1 rfl rfl dL_law_2430 ⟨(by show cells + 1 ≤ 603072; omega), (by show slots + 6 ≤ 7223402; omega)⟩ (fun v h1 H locs hv hM hS => ?_)
  obtain ⟨hv, f9, hJ1, hz1⟩ := hv
  subst hv
  refine W.eq (g2 := F0 mt 2433 ls [.int (st_thr (T_held st (xs (i + 1))).1)]) rfl ?_
  refine lv_istore (lv' := [(6, .int (st_thr (T_held st (xs (i + 1))).1)), (5, .int (nI i)), (4, .ref o2), (3, .ref o), (2, .ref m), (1, .ref x), (0, .ref b)]) hx hb dL_law_2433 hl (by decide) rfl (fun ls hl => ?_)
  refine lv_aload_n hx hb dL_law_2435 rfl (lv_at hl 4 rfl) ?_
  refine m_scr (k := 1) hx hb hX hbl hbA hS hL9 (by omega) (lv_at hl 6 rfl) (lv_at hl 1 rfl) dL_law_2436 dL_law_2437 dL_law_2439 (by decide) dL_law_2440 dL_law_2441 ?_
  refine m_callV Z C hM hS (As := [.int (xs (i + 1))]) (rest := []) (d_X6_held Z h1 x m q o o2 f9 g (T_held st (xs (i + 1))).1 st hJ1 hk (xs (i + 1))) yi_X6_held ml_L_229 hJ1.mdl.o rfl ⟨Nat.le_of_ble_eq_true rfl, Nat.le_of_ble_eq_true rfl⟩ (Nat.le_of_ble_eq_true rfl) hl.1 rfl rfl dL_law_2442 ⟨(by show cells + 1 + 0 ≤ 603072; omega), (by show slots + 6 + 0 ≤ 7223402; omega)⟩ (fun v h2 H locs hv hM hS => ?_)
  obtain ⟨w, hv, hJ2, hz2⟩ := hv
  subst hv
  refine W.eq (g2 := F0 mt 2445 ls [.int w]) rfl ?_
  refine lv_istore (lv' := [(7, .int w), (6, .int (st_thr (T_held st (xs (i + 1))).1)), (5, .int (nI i)), (4, .ref o2), (3, .ref o), (2, .ref m), (1, .ref x), (0, .ref b)]) hx hb dL_law_2445 hl (by decide) rfl (fun ls hl => ?_)
  refine lv_aload_n hx hb dL_law_2447 rfl (lv_at hl 5 rfl) ?_
  refine m_callV Z C hM hS (As := []) (rest := []) (c_X6_thrown Z h2 m q (T_held st (xs (i + 1))).1 hJ2.mdl) yi_X6_thrown ml_L_136 hJ2.mdl.o rfl ⟨Nat.le_of_ble_eq_true rfl, Nat.le_of_ble_eq_true rfl⟩ (Nat.le_of_ble_eq_true rfl) hl.1 rfl rfl dL_law_2448 ⟨(by show cells + 1 + 0 + 0 ≤ 603072; omega), (by show slots + 6 + 0 + 0 ≤ 7223402; omega)⟩ (fun v h3 H locs hv hM hS => ?_)
  obtain ⟨hv, hh3⟩ := hv
  subst hv
  rw [hh3] at hM
  refine W.eq (g2 := F0 mt 2451 ls [.int (st_thr (T_held st (xs (i + 1))).1)]) rfl ?_
  refine lv_iload hx hb dL_law_2451 (lv_at hl 1 rfl) ?_
  refine lv_icmp_eq (tgt := 2458) hx hb dL_law_2453 (by decide) (fun _ => ?_) (fun z9 => absurd rfl z9)
  refine lv_iload hx hb dL_law_2458 (lv_at hl 1 rfl) ?_
  refine lv_if_ne (tgt := 2475) hx hb dL_law_2460 (by decide) (fun _ => ?_) (fun z9 => ?_)
  · -- thrown
    refine lv_goto (tgt := 2972) hx hb dL_law_2475 (by decide) ?_
    exact W.widen (k := cells + 20) (n := slots + 500) (by omega) (by omega) (kk _ _ _ _ _ _ _ hJ2 (IvT_held hk hnow (xs (i + 1))) (nwT_held (xs (i + 1))) hM hS (lv_sub hl [2, 3, 4, 5, 6, 7] rfl))
  · -- answered
    refine lv_aload_n hx hb dL_law_2463 rfl (lv_at hl 4 rfl) ?_
    refine lv_iconst (v := nI 0) hx hb dL_law_2464 (by decide) ?_
    refine m_lald Z C hM hJ2.oo 0 rfl (by decide) (by decide) dL_law_2465 ?_
    refine lv_iload hx hb dL_law_2466 (lv_at hl 0 rfl) ?_
    refine lv_i2l hx hb dL_law_2468 rfl ?_
    have e9 : f9 0 = w.toInt64 := (hz1 z9).trans (hz2 z9).symm
    refine W.lcmp hx hb dL_law_2469 ?_
    refine n_lc_eq (tgt := 2475) hx hb dL_law_2470 (by decide) (fun _ => ?_) (fun z => absurd e9 z)
    refine lv_goto (tgt := 2972) hx hb dL_law_2475 (by decide) ?_
    exact W.widen (k := cells + 20) (n := slots + 500) (by omega) (by omega) (kk _ _ _ _ _ _ _ hJ2 (IvT_held hk hnow (xs (i + 1))) (nwT_held (xs (i + 1))) hM hS (lv_sub hl [2, 3, 4, 5, 6, 7] rfl))
set_option maxRecDepth 100000 in
set_option maxHeartbeats 4000000 in
theorem law_case_28 {p : Program} {l : Launch} {e : Env} {s : State} {mt : MethodId} {below : List Frame} {meth : Method} {c : Code} {H : Heap} {locs : List Loc} {cells slots : Nat} {Q : State → Prop} {ls : Array Slot} {G : mG} {h : Hp} {b L i : Nat} {xs : Nat → Int32} {x m : Nat} {q : Nat → Nat} {o o2 : Nat} {f : Nat → Int64} {g : Nat → UInt64} {st : Ms} {nm9 : String} (Z : mZ l G #[.ref b] s) (No : mNo s) (C : mC s p s mt meth c cL_law 9 RL (some .boolean) nm9) (hX : va_X b L xs s s.heap) (hbl : b < s.heap.size) (hL : L ≤ 3072) (hi : i + 6 ≤ L) (hJ : LJ G h x m q o o2 f g st st) (hk : Iv st) (hnow : st_now st + 600 < 1073741824) (hM : MW G s.heap.size h H) (hS : va_S (fun q => s.heap.size ≤ q) s.heap H locs) (hl : lv_has ls 9 [(5, .int (nI i)), (4, .ref o2), (3, .ref o), (2, .ref m), (1, .ref x), (0, .ref b)]) (hc : cells + 20 ≤ 603072 ∧ slots + 500 ≤ 7223402) (kk : ∀ (st2 : Ms) (f2 : Nat → Int64) (g2 : Nat → UInt64) (h2 : Hp) (H2 : Heap) (locs2 : List Loc) (ls2 : Array Slot), LJ G h2 x m q o o2 f2 g2 st2 st2 → Iv st2 → st_now st2 ≤ st_now st + 600 → MW G s.heap.size h2 H2 → va_S (fun q => s.heap.size ≤ q) s.heap H2 locs2 → lv_has ls2 9 [(5, .int (nI i)), (4, .ref o2), (3, .ref o), (2, .ref m), (1, .ref x), (0, .ref b)] → W p l e room_1 s mt #[.ref b] below meth c H2 locs2 (cells + 20) (slots + 500) Q (F0 mt 2972 ls2 [])) : W p l e room_1 s mt #[.ref b] below meth c H locs cells slots Q (F0 mt 2478 ls []) := by
  have hx := C.1
  have hb := C.2.1
  have hown := C.2.2.2.1
  have hE := C.2.2.2.2.2.2.1
  have hL9 : L < 2 ^ 31 := by omega
  have hbA : ¬ (fun q : Nat => s.heap.size ≤ q) b := Nat.not_le.mpr hbl
  refine lv_aload_n hx hb dL_law_2478 rfl (lv_at hl 4 rfl) ?_
  refine m_scr (k := 1) hx hb hX hbl hbA hS hL9 (by omega) (lv_at hl 5 rfl) (lv_at hl 0 rfl) dL_law_2479 dL_law_2480 dL_law_2482 (by decide) dL_law_2483 dL_law_2484 ?_
  refine m_scr (k := 2) hx hb hX hbl hbA hS hL9 (by omega) (lv_at hl 5 rfl) (lv_at hl 0 rfl) dL_law_2485 dL_law_2486 dL_law_2488 (by decide) dL_law_2489 dL_law_2490 ?_
  refine lv_aload_n hx hb dL_law_2491 rfl (lv_at hl 2 rfl) ?_
  refine m_callH Z C hM hS (As := [.ref x, .int (xs (i + 1)), .int (xs (i + 2)), .ref o]) (rest := []) (c_L_isWithin Z No h x m q o o2 f g st hJ hk (xs (i + 1)) (xs (i + 2))) yi_L_isWithin ml_L_230 ⟨Nat.le_of_ble_eq_true rfl, Nat.le_of_ble_eq_true rfl⟩ (Nat.le_of_ble_eq_true rfl) hl.1 rfl rfl dL_law_2492 ⟨(by show cells + 3 ≤ 603072; omega), (by show slots + 18 ≤ 7223402; omega)⟩ (fun v h1 H locs hv hM hS => ?_)
  obtain ⟨hv, f9, hJ1, hz1⟩ := hv
  subst hv
  refine W.eq (g2 := F0 mt 2495 ls [.int (st_thr (T_isWithin st (xs (i + 1)) (xs (i + 2))).1)]) rfl ?_
  refine lv_istore (lv' := [(6, .int (st_thr (T_isWithin st (xs (i + 1)) (xs (i + 2))).1)), (5, .int (nI i)), (4, .ref o2), (3, .ref o), (2, .ref m), (1, .ref x), (0, .ref b)]) hx hb dL_law_2495 hl (by decide) rfl (fun ls hl => ?_)
  refine lv_aload_n hx hb dL_law_2497 rfl (lv_at hl 4 rfl) ?_
  refine m_scr (k := 1) hx hb hX hbl hbA hS hL9 (by omega) (lv_at hl 6 rfl) (lv_at hl 1 rfl) dL_law_2498 dL_law_2499 dL_law_2501 (by decide) dL_law_2502 dL_law_2503 ?_
  refine m_scr (k := 2) hx hb hX hbl hbA hS hL9 (by omega) (lv_at hl 6 rfl) (lv_at hl 1 rfl) dL_law_2504 dL_law_2505 dL_law_2507 (by decide) dL_law_2508 dL_law_2509 ?_
  refine m_callV Z C hM hS (As := [.int (xs (i + 1)), .int (xs (i + 2))]) (rest := []) (d_X6_isWithin Z h1 x m q o o2 f9 g (T_isWithin st (xs (i + 1)) (xs (i + 2))).1 st hJ1 hk (xs (i + 1)) (xs (i + 2))) yi_X6_isWithin ml_L_232 hJ1.mdl.o rfl ⟨Nat.le_of_ble_eq_true rfl, Nat.le_of_ble_eq_true rfl⟩ (Nat.le_of_ble_eq_true rfl) hl.1 rfl rfl dL_law_2510 ⟨(by show cells + 3 + 0 ≤ 603072; omega), (by show slots + 18 + 0 ≤ 7223402; omega)⟩ (fun v h2 H locs hv hM hS => ?_)
  obtain ⟨w, hv, hJ2, hz2, hw⟩ := hv
  subst hv
  refine W.eq (g2 := F0 mt 2513 ls [.int w]) rfl ?_
  refine lv_istore (lv' := [(7, .int w), (6, .int (st_thr (T_isWithin st (xs (i + 1)) (xs (i + 2))).1)), (5, .int (nI i)), (4, .ref o2), (3, .ref o), (2, .ref m), (1, .ref x), (0, .ref b)]) hx hb dL_law_2513 hl (by decide) rfl (fun ls hl => ?_)
  refine lv_aload_n hx hb dL_law_2515 rfl (lv_at hl 5 rfl) ?_
  refine m_callV Z C hM hS (As := []) (rest := []) (c_X6_thrown Z h2 m q (T_isWithin st (xs (i + 1)) (xs (i + 2))).1 hJ2.mdl) yi_X6_thrown ml_L_136 hJ2.mdl.o rfl ⟨Nat.le_of_ble_eq_true rfl, Nat.le_of_ble_eq_true rfl⟩ (Nat.le_of_ble_eq_true rfl) hl.1 rfl rfl dL_law_2516 ⟨(by show cells + 3 + 0 + 0 ≤ 603072; omega), (by show slots + 18 + 0 + 0 ≤ 7223402; omega)⟩ (fun v h3 H locs hv hM hS => ?_)
  obtain ⟨hv, hh3⟩ := hv
  subst hv
  rw [hh3] at hM
  refine W.eq (g2 := F0 mt 2519 ls [.int (st_thr (T_isWithin st (xs (i + 1)) (xs (i + 2))).1)]) rfl ?_
  refine lv_iload hx hb dL_law_2519 (lv_at hl 1 rfl) ?_
  refine lv_icmp_eq (tgt := 2526) hx hb dL_law_2521 (by decide) (fun _ => ?_) (fun z9 => absurd rfl z9)
  refine lv_iload hx hb dL_law_2526 (lv_at hl 1 rfl) ?_
  refine lv_if_ne (tgt := 2550) hx hb dL_law_2528 (by decide) (fun _ => ?_) (fun z9 => ?_)
  · -- thrown
    refine lv_goto (tgt := 2972) hx hb dL_law_2550 (by decide) ?_
    exact W.widen (k := cells + 20) (n := slots + 500) (by omega) (by omega) (kk _ _ _ _ _ _ _ hJ2 (IvT_isWithin hk hnow (xs (i + 1)) (xs (i + 2))) (nwT_isWithin (xs (i + 1)) (xs (i + 2))) hM hS (lv_sub hl [2, 3, 4, 5, 6, 7] rfl))
  · -- answered
    refine lv_aload_n hx hb dL_law_2531 rfl (lv_at hl 4 rfl) ?_
    refine lv_iconst (v := nI 0) hx hb dL_law_2532 (by decide) ?_
    refine m_lald Z C hM hJ2.oo 0 rfl (by decide) (by decide) dL_law_2533 ?_
    have e9 : f9 0 = w.toInt64 := (hz1 z9).trans (hz2 z9).symm
    refine lv_iload hx hb dL_law_2534 (lv_at hl 0 rfl) ?_
    rcases hw with hw | hw
    · subst hw
      refine lv_if_eq (tgt := 2543) hx hb dL_law_2536 (by decide) (fun _ => ?_) (fun z => absurd rfl z)
      refine lv_lconst (v := lN 0) hx hb dL_law_2543 (by decide) ?_
      refine W.lcmp hx hb dL_law_2544 ?_
      refine n_lc_eq (tgt := 2550) hx hb dL_law_2545 (by decide) (fun _ => ?_) (fun z => absurd (e9.trans (by decide)) z)
      refine lv_goto (tgt := 2972) hx hb dL_law_2550 (by decide) ?_
      exact W.widen (k := cells + 20) (n := slots + 500) (by omega) (by omega) (kk _ _ _ _ _ _ _ hJ2 (IvT_isWithin hk hnow (xs (i + 1)) (xs (i + 2))) (nwT_isWithin (xs (i + 1)) (xs (i + 2))) hM hS (lv_sub hl [2, 3, 4, 5, 6, 7] rfl))
    · subst hw
      refine lv_if_eq (tgt := 2543) hx hb dL_law_2536 (by decide) (fun z => absurd z (by decide)) (fun _ => ?_)
      refine lv_lconst (v := lN 1) hx hb dL_law_2539 (by decide) ?_
      refine lv_goto (tgt := 2544) hx hb dL_law_2540 (by decide) ?_
      refine W.lcmp hx hb dL_law_2544 ?_
      refine n_lc_eq (tgt := 2550) hx hb dL_law_2545 (by decide) (fun _ => ?_) (fun z => absurd (e9.trans (by decide)) z)
      refine lv_goto (tgt := 2972) hx hb dL_law_2550 (by decide) ?_
      exact W.widen (k := cells + 20) (n := slots + 500) (by omega) (by omega) (kk _ _ _ _ _ _ _ hJ2 (IvT_isWithin hk hnow (xs (i + 1)) (xs (i + 2))) (nwT_isWithin (xs (i + 1)) (xs (i + 2))) hM hS (lv_sub hl [2, 3, 4, 5, 6, 7] rfl))
set_option maxRecDepth 100000 in
set_option maxHeartbeats 4000000 in
theorem law_case_29 {p : Program} {l : Launch} {e : Env} {s : State} {mt : MethodId} {below : List Frame} {meth : Method} {c : Code} {H : Heap} {locs : List Loc} {cells slots : Nat} {Q : State → Prop} {ls : Array Slot} {G : mG} {h : Hp} {b L i : Nat} {xs : Nat → Int32} {x m : Nat} {q : Nat → Nat} {o o2 : Nat} {f : Nat → Int64} {g : Nat → UInt64} {st : Ms} {nm9 : String} (Z : mZ l G #[.ref b] s) (No : mNo s) (C : mC s p s mt meth c cL_law 9 RL (some .boolean) nm9) (hX : va_X b L xs s s.heap) (hbl : b < s.heap.size) (hL : L ≤ 3072) (hi : i + 6 ≤ L) (hJ : LJ G h x m q o o2 f g st st) (hk : Iv st) (hnow : st_now st + 600 < 1073741824) (hM : MW G s.heap.size h H) (hS : va_S (fun q => s.heap.size ≤ q) s.heap H locs) (hl : lv_has ls 9 [(5, .int (nI i)), (4, .ref o2), (3, .ref o), (2, .ref m), (1, .ref x), (0, .ref b)]) (hc : cells + 20 ≤ 603072 ∧ slots + 500 ≤ 7223402) (kk : ∀ (st2 : Ms) (f2 : Nat → Int64) (g2 : Nat → UInt64) (h2 : Hp) (H2 : Heap) (locs2 : List Loc) (ls2 : Array Slot), LJ G h2 x m q o o2 f2 g2 st2 st2 → Iv st2 → st_now st2 ≤ st_now st + 600 → MW G s.heap.size h2 H2 → va_S (fun q => s.heap.size ≤ q) s.heap H2 locs2 → lv_has ls2 9 [(5, .int (nI i)), (4, .ref o2), (3, .ref o), (2, .ref m), (1, .ref x), (0, .ref b)] → W p l e room_1 s mt #[.ref b] below meth c H2 locs2 (cells + 20) (slots + 500) Q (F0 mt 2972 ls2 [])) : W p l e room_1 s mt #[.ref b] below meth c H locs cells slots Q (F0 mt 2553 ls []) := by
  have hx := C.1
  have hb := C.2.1
  have hown := C.2.2.2.1
  have hE := C.2.2.2.2.2.2.1
  have hL9 : L < 2 ^ 31 := by omega
  have hbA : ¬ (fun q : Nat => s.heap.size ≤ q) b := Nat.not_le.mpr hbl
  refine lv_aload_n hx hb dL_law_2553 rfl (lv_at hl 4 rfl) ?_
  refine m_scr (k := 1) hx hb hX hbl hbA hS hL9 (by omega) (lv_at hl 5 rfl) (lv_at hl 0 rfl) dL_law_2554 dL_law_2555 dL_law_2557 (by decide) dL_law_2558 dL_law_2559 ?_
  refine m_scr (k := 2) hx hb hX hbl hbA hS hL9 (by omega) (lv_at hl 5 rfl) (lv_at hl 0 rfl) dL_law_2560 dL_law_2561 dL_law_2563 (by decide) dL_law_2564 dL_law_2565 ?_
  refine m_scr (k := 3) hx hb hX hbl hbA hS hL9 (by omega) (lv_at hl 5 rfl) (lv_at hl 0 rfl) dL_law_2566 dL_law_2567 dL_law_2569 (by decide) dL_law_2570 dL_law_2571 ?_
  refine lv_aload_n hx hb dL_law_2572 rfl (lv_at hl 2 rfl) ?_
  refine m_callH Z C hM hS (As := [.ref x, .int (xs (i + 1)), .int (xs (i + 2)), .int (xs (i + 3)), .ref o]) (rest := []) (c_L_setAlert Z No h x m q o o2 f g st hJ hk (xs (i + 1)) (xs (i + 2)) (xs (i + 3))) yi_L_setAlert ml_L_233 ⟨Nat.le_of_ble_eq_true rfl, Nat.le_of_ble_eq_true rfl⟩ (Nat.le_of_ble_eq_true rfl) hl.1 rfl rfl dL_law_2573 ⟨(by show cells + 3 ≤ 603072; omega), (by show slots + 16 ≤ 7223402; omega)⟩ (fun v h1 H locs hv hM hS => ?_)
  obtain ⟨hv, f9, hJ1, hz1⟩ := hv
  subst hv
  refine W.eq (g2 := F0 mt 2576 ls [.int (st_thr (T_setAlert st (xs (i + 1)) (xs (i + 2)) (xs (i + 3))).1)]) rfl ?_
  refine lv_istore (lv' := [(6, .int (st_thr (T_setAlert st (xs (i + 1)) (xs (i + 2)) (xs (i + 3))).1)), (5, .int (nI i)), (4, .ref o2), (3, .ref o), (2, .ref m), (1, .ref x), (0, .ref b)]) hx hb dL_law_2576 hl (by decide) rfl (fun ls hl => ?_)
  refine lv_aload_n hx hb dL_law_2578 rfl (lv_at hl 4 rfl) ?_
  refine m_scr (k := 1) hx hb hX hbl hbA hS hL9 (by omega) (lv_at hl 6 rfl) (lv_at hl 1 rfl) dL_law_2579 dL_law_2580 dL_law_2582 (by decide) dL_law_2583 dL_law_2584 ?_
  refine m_scr (k := 2) hx hb hX hbl hbA hS hL9 (by omega) (lv_at hl 6 rfl) (lv_at hl 1 rfl) dL_law_2585 dL_law_2586 dL_law_2588 (by decide) dL_law_2589 dL_law_2590 ?_
  refine m_scr (k := 3) hx hb hX hbl hbA hS hL9 (by omega) (lv_at hl 6 rfl) (lv_at hl 1 rfl) dL_law_2591 dL_law_2592 dL_law_2594 (by decide) dL_law_2595 dL_law_2596 ?_
  refine m_callV Z C hM hS (As := [.int (xs (i + 1)), .int (xs (i + 2)), .int (xs (i + 3))]) (rest := []) (d_X6_setAlert Z h1 x m q o o2 f9 g (T_setAlert st (xs (i + 1)) (xs (i + 2)) (xs (i + 3))).1 st hJ1 hk (xs (i + 1)) (xs (i + 2)) (xs (i + 3))) yi_X6_setAlert ml_L_236 hJ1.mdl.o rfl ⟨Nat.le_of_ble_eq_true rfl, Nat.le_of_ble_eq_true rfl⟩ (Nat.le_of_ble_eq_true rfl) hl.1 rfl rfl dL_law_2597 ⟨(by show cells + 3 + 0 ≤ 603072; omega), (by show slots + 16 + 0 ≤ 7223402; omega)⟩ (fun v h2 H locs hv hM hS => ?_)
  obtain ⟨w, hv, hJ2, hz2⟩ := hv
  subst hv
  refine W.eq (g2 := F0 mt 2600 ls [.int w]) rfl ?_
  refine lv_istore (lv' := [(7, .int w), (6, .int (st_thr (T_setAlert st (xs (i + 1)) (xs (i + 2)) (xs (i + 3))).1)), (5, .int (nI i)), (4, .ref o2), (3, .ref o), (2, .ref m), (1, .ref x), (0, .ref b)]) hx hb dL_law_2600 hl (by decide) rfl (fun ls hl => ?_)
  refine lv_aload_n hx hb dL_law_2602 rfl (lv_at hl 5 rfl) ?_
  refine m_callV Z C hM hS (As := []) (rest := []) (c_X6_thrown Z h2 m q (T_setAlert st (xs (i + 1)) (xs (i + 2)) (xs (i + 3))).1 hJ2.mdl) yi_X6_thrown ml_L_136 hJ2.mdl.o rfl ⟨Nat.le_of_ble_eq_true rfl, Nat.le_of_ble_eq_true rfl⟩ (Nat.le_of_ble_eq_true rfl) hl.1 rfl rfl dL_law_2603 ⟨(by show cells + 3 + 0 + 0 ≤ 603072; omega), (by show slots + 16 + 0 + 0 ≤ 7223402; omega)⟩ (fun v h3 H locs hv hM hS => ?_)
  obtain ⟨hv, hh3⟩ := hv
  subst hv
  rw [hh3] at hM
  refine W.eq (g2 := F0 mt 2606 ls [.int (st_thr (T_setAlert st (xs (i + 1)) (xs (i + 2)) (xs (i + 3))).1)]) rfl ?_
  refine lv_iload hx hb dL_law_2606 (lv_at hl 1 rfl) ?_
  refine lv_icmp_eq (tgt := 2613) hx hb dL_law_2608 (by decide) (fun _ => ?_) (fun z9 => absurd rfl z9)
  refine lv_iload hx hb dL_law_2613 (lv_at hl 1 rfl) ?_
  refine lv_if_ne (tgt := 2630) hx hb dL_law_2615 (by decide) (fun _ => ?_) (fun z9 => ?_)
  · -- thrown
    refine lv_goto (tgt := 2972) hx hb dL_law_2630 (by decide) ?_
    exact W.widen (k := cells + 20) (n := slots + 500) (by omega) (by omega) (kk _ _ _ _ _ _ _ hJ2 (IvT_setAlert hk hnow (xs (i + 1)) (xs (i + 2)) (xs (i + 3))) (nwT_setAlert (xs (i + 1)) (xs (i + 2)) (xs (i + 3))) hM hS (lv_sub hl [2, 3, 4, 5, 6, 7] rfl))
  · -- answered
    refine lv_aload_n hx hb dL_law_2618 rfl (lv_at hl 4 rfl) ?_
    refine lv_iconst (v := nI 0) hx hb dL_law_2619 (by decide) ?_
    refine m_lald Z C hM hJ2.oo 0 rfl (by decide) (by decide) dL_law_2620 ?_
    refine lv_iload hx hb dL_law_2621 (lv_at hl 0 rfl) ?_
    refine lv_i2l hx hb dL_law_2623 rfl ?_
    have e9 : f9 0 = w.toInt64 := (hz1 z9).trans (hz2 z9).symm
    refine W.lcmp hx hb dL_law_2624 ?_
    refine n_lc_eq (tgt := 2630) hx hb dL_law_2625 (by decide) (fun _ => ?_) (fun z => absurd e9 z)
    refine lv_goto (tgt := 2972) hx hb dL_law_2630 (by decide) ?_
    exact W.widen (k := cells + 20) (n := slots + 500) (by omega) (by omega) (kk _ _ _ _ _ _ _ hJ2 (IvT_setAlert hk hnow (xs (i + 1)) (xs (i + 2)) (xs (i + 3))) (nwT_setAlert (xs (i + 1)) (xs (i + 2)) (xs (i + 3))) hM hS (lv_sub hl [2, 3, 4, 5, 6, 7] rfl))
set_option maxRecDepth 100000 in
set_option maxHeartbeats 4000000 in
theorem law_case_30 {p : Program} {l : Launch} {e : Env} {s : State} {mt : MethodId} {below : List Frame} {meth : Method} {c : Code} {H : Heap} {locs : List Loc} {cells slots : Nat} {Q : State → Prop} {ls : Array Slot} {G : mG} {h : Hp} {b L i : Nat} {xs : Nat → Int32} {x m : Nat} {q : Nat → Nat} {o o2 : Nat} {f : Nat → Int64} {g : Nat → UInt64} {st : Ms} {nm9 : String} (Z : mZ l G #[.ref b] s) (No : mNo s) (C : mC s p s mt meth c cL_law 9 RL (some .boolean) nm9) (hX : va_X b L xs s s.heap) (hbl : b < s.heap.size) (hL : L ≤ 3072) (hi : i + 6 ≤ L) (hJ : LJ G h x m q o o2 f g st st) (hk : Iv st) (hnow : st_now st + 600 < 1073741824) (hM : MW G s.heap.size h H) (hS : va_S (fun q => s.heap.size ≤ q) s.heap H locs) (hl : lv_has ls 9 [(5, .int (nI i)), (4, .ref o2), (3, .ref o), (2, .ref m), (1, .ref x), (0, .ref b)]) (hc : cells + 20 ≤ 603072 ∧ slots + 500 ≤ 7223402) (kk : ∀ (st2 : Ms) (f2 : Nat → Int64) (g2 : Nat → UInt64) (h2 : Hp) (H2 : Heap) (locs2 : List Loc) (ls2 : Array Slot), LJ G h2 x m q o o2 f2 g2 st2 st2 → Iv st2 → st_now st2 ≤ st_now st + 600 → MW G s.heap.size h2 H2 → va_S (fun q => s.heap.size ≤ q) s.heap H2 locs2 → lv_has ls2 9 [(5, .int (nI i)), (4, .ref o2), (3, .ref o), (2, .ref m), (1, .ref x), (0, .ref b)] → W p l e room_1 s mt #[.ref b] below meth c H2 locs2 (cells + 20) (slots + 500) Q (F0 mt 2972 ls2 [])) : W p l e room_1 s mt #[.ref b] below meth c H locs cells slots Q (F0 mt 2633 ls []) := by
  have hx := C.1
  have hb := C.2.1
  have hown := C.2.2.2.1
  have hE := C.2.2.2.2.2.2.1
  have hL9 : L < 2 ^ 31 := by omega
  have hbA : ¬ (fun q : Nat => s.heap.size ≤ q) b := Nat.not_le.mpr hbl
  refine lv_aload_n hx hb dL_law_2633 rfl (lv_at hl 4 rfl) ?_
  refine m_scr (k := 1) hx hb hX hbl hbA hS hL9 (by omega) (lv_at hl 5 rfl) (lv_at hl 0 rfl) dL_law_2634 dL_law_2635 dL_law_2637 (by decide) dL_law_2638 dL_law_2639 ?_
  refine lv_aload_n hx hb dL_law_2640 rfl (lv_at hl 2 rfl) ?_
  refine m_callH Z C hM hS (As := [.ref x, .int (xs (i + 1)), .ref o]) (rest := []) (c_L_removeAlert Z No h x m q o o2 f g st hJ hk (xs (i + 1))) yi_L_removeAlert ml_L_237 ⟨Nat.le_of_ble_eq_true rfl, Nat.le_of_ble_eq_true rfl⟩ (Nat.le_of_ble_eq_true rfl) hl.1 rfl rfl dL_law_2641 ⟨(by show cells + 2 ≤ 603072; omega), (by show slots + 12 ≤ 7223402; omega)⟩ (fun v h1 H locs hv hM hS => ?_)
  obtain ⟨hv, f9, hJ1, hz1⟩ := hv
  subst hv
  refine W.eq (g2 := F0 mt 2644 ls [.int (st_thr (T_removeAlert st (xs (i + 1))).1)]) rfl ?_
  refine lv_istore (lv' := [(6, .int (st_thr (T_removeAlert st (xs (i + 1))).1)), (5, .int (nI i)), (4, .ref o2), (3, .ref o), (2, .ref m), (1, .ref x), (0, .ref b)]) hx hb dL_law_2644 hl (by decide) rfl (fun ls hl => ?_)
  refine lv_aload_n hx hb dL_law_2646 rfl (lv_at hl 4 rfl) ?_
  refine m_scr (k := 1) hx hb hX hbl hbA hS hL9 (by omega) (lv_at hl 6 rfl) (lv_at hl 1 rfl) dL_law_2647 dL_law_2648 dL_law_2650 (by decide) dL_law_2651 dL_law_2652 ?_
  refine m_callV Z C hM hS (As := [.int (xs (i + 1))]) (rest := []) (d_X6_removeAlert Z h1 x m q o o2 f9 g (T_removeAlert st (xs (i + 1))).1 st hJ1 hk (xs (i + 1))) yi_X6_removeAlert ml_L_239 hJ1.mdl.o rfl ⟨Nat.le_of_ble_eq_true rfl, Nat.le_of_ble_eq_true rfl⟩ (Nat.le_of_ble_eq_true rfl) hl.1 rfl rfl dL_law_2653 ⟨(by show cells + 2 + 0 ≤ 603072; omega), (by show slots + 12 + 0 ≤ 7223402; omega)⟩ (fun v h2 H locs hv hM hS => ?_)
  obtain ⟨w, hv, hJ2, hz2⟩ := hv
  subst hv
  refine W.eq (g2 := F0 mt 2656 ls [.int w]) rfl ?_
  refine lv_istore (lv' := [(7, .int w), (6, .int (st_thr (T_removeAlert st (xs (i + 1))).1)), (5, .int (nI i)), (4, .ref o2), (3, .ref o), (2, .ref m), (1, .ref x), (0, .ref b)]) hx hb dL_law_2656 hl (by decide) rfl (fun ls hl => ?_)
  refine lv_aload_n hx hb dL_law_2658 rfl (lv_at hl 5 rfl) ?_
  refine m_callV Z C hM hS (As := []) (rest := []) (c_X6_thrown Z h2 m q (T_removeAlert st (xs (i + 1))).1 hJ2.mdl) yi_X6_thrown ml_L_136 hJ2.mdl.o rfl ⟨Nat.le_of_ble_eq_true rfl, Nat.le_of_ble_eq_true rfl⟩ (Nat.le_of_ble_eq_true rfl) hl.1 rfl rfl dL_law_2659 ⟨(by show cells + 2 + 0 + 0 ≤ 603072; omega), (by show slots + 12 + 0 + 0 ≤ 7223402; omega)⟩ (fun v h3 H locs hv hM hS => ?_)
  obtain ⟨hv, hh3⟩ := hv
  subst hv
  rw [hh3] at hM
  refine W.eq (g2 := F0 mt 2662 ls [.int (st_thr (T_removeAlert st (xs (i + 1))).1)]) rfl ?_
  refine lv_iload hx hb dL_law_2662 (lv_at hl 1 rfl) ?_
  refine lv_icmp_eq (tgt := 2669) hx hb dL_law_2664 (by decide) (fun _ => ?_) (fun z9 => absurd rfl z9)
  refine lv_iload hx hb dL_law_2669 (lv_at hl 1 rfl) ?_
  refine lv_if_ne (tgt := 2686) hx hb dL_law_2671 (by decide) (fun _ => ?_) (fun z9 => ?_)
  · -- thrown
    refine lv_goto (tgt := 2972) hx hb dL_law_2686 (by decide) ?_
    exact W.widen (k := cells + 20) (n := slots + 500) (by omega) (by omega) (kk _ _ _ _ _ _ _ hJ2 (IvT_removeAlert hk hnow (xs (i + 1))) (nwT_removeAlert (xs (i + 1))) hM hS (lv_sub hl [2, 3, 4, 5, 6, 7] rfl))
  · -- answered
    refine lv_aload_n hx hb dL_law_2674 rfl (lv_at hl 4 rfl) ?_
    refine lv_iconst (v := nI 0) hx hb dL_law_2675 (by decide) ?_
    refine m_lald Z C hM hJ2.oo 0 rfl (by decide) (by decide) dL_law_2676 ?_
    refine lv_iload hx hb dL_law_2677 (lv_at hl 0 rfl) ?_
    refine lv_i2l hx hb dL_law_2679 rfl ?_
    have e9 : f9 0 = w.toInt64 := (hz1 z9).trans (hz2 z9).symm
    refine W.lcmp hx hb dL_law_2680 ?_
    refine n_lc_eq (tgt := 2686) hx hb dL_law_2681 (by decide) (fun _ => ?_) (fun z => absurd e9 z)
    refine lv_goto (tgt := 2972) hx hb dL_law_2686 (by decide) ?_
    exact W.widen (k := cells + 20) (n := slots + 500) (by omega) (by omega) (kk _ _ _ _ _ _ _ hJ2 (IvT_removeAlert hk hnow (xs (i + 1))) (nwT_removeAlert (xs (i + 1))) hM hS (lv_sub hl [2, 3, 4, 5, 6, 7] rfl))
set_option maxRecDepth 100000 in
set_option maxHeartbeats 4000000 in
theorem law_case_31 {p : Program} {l : Launch} {e : Env} {s : State} {mt : MethodId} {below : List Frame} {meth : Method} {c : Code} {H : Heap} {locs : List Loc} {cells slots : Nat} {Q : State → Prop} {ls : Array Slot} {G : mG} {h : Hp} {b L i : Nat} {xs : Nat → Int32} {x m : Nat} {q : Nat → Nat} {o o2 : Nat} {f : Nat → Int64} {g : Nat → UInt64} {st : Ms} {nm9 : String} (Z : mZ l G #[.ref b] s) (No : mNo s) (C : mC s p s mt meth c cL_law 9 RL (some .boolean) nm9) (hX : va_X b L xs s s.heap) (hbl : b < s.heap.size) (hL : L ≤ 3072) (hi : i + 6 ≤ L) (hJ : LJ G h x m q o o2 f g st st) (hk : Iv st) (hnow : st_now st + 600 < 1073741824) (hM : MW G s.heap.size h H) (hS : va_S (fun q => s.heap.size ≤ q) s.heap H locs) (hl : lv_has ls 9 [(5, .int (nI i)), (4, .ref o2), (3, .ref o), (2, .ref m), (1, .ref x), (0, .ref b)]) (hc : cells + 20 ≤ 603072 ∧ slots + 500 ≤ 7223402) (kk : ∀ (st2 : Ms) (f2 : Nat → Int64) (g2 : Nat → UInt64) (h2 : Hp) (H2 : Heap) (locs2 : List Loc) (ls2 : Array Slot), LJ G h2 x m q o o2 f2 g2 st2 st2 → Iv st2 → st_now st2 ≤ st_now st + 600 → MW G s.heap.size h2 H2 → va_S (fun q => s.heap.size ≤ q) s.heap H2 locs2 → lv_has ls2 9 [(5, .int (nI i)), (4, .ref o2), (3, .ref o), (2, .ref m), (1, .ref x), (0, .ref b)] → W p l e room_1 s mt #[.ref b] below meth c H2 locs2 (cells + 20) (slots + 500) Q (F0 mt 2972 ls2 [])) : W p l e room_1 s mt #[.ref b] below meth c H locs cells slots Q (F0 mt 2689 ls []) := by
  have hx := C.1
  have hb := C.2.1
  have hown := C.2.2.2.1
  have hE := C.2.2.2.2.2.2.1
  have hL9 : L < 2 ^ 31 := by omega
  have hbA : ¬ (fun q : Nat => s.heap.size ≤ q) b := Nat.not_le.mpr hbl
  refine lv_aload_n hx hb dL_law_2689 rfl (lv_at hl 4 rfl) ?_
  refine m_scr (k := 1) hx hb hX hbl hbA hS hL9 (by omega) (lv_at hl 5 rfl) (lv_at hl 0 rfl) dL_law_2690 dL_law_2691 dL_law_2693 (by decide) dL_law_2694 dL_law_2695 ?_
  refine lv_aload_n hx hb dL_law_2696 rfl (lv_at hl 2 rfl) ?_
  refine m_callH Z C hM hS (As := [.ref x, .int (xs (i + 1)), .ref o]) (rest := []) (c_L_alertOf Z No h x m q o o2 f g st hJ hk (xs (i + 1))) yi_L_alertOf ml_L_240 ⟨Nat.le_of_ble_eq_true rfl, Nat.le_of_ble_eq_true rfl⟩ (Nat.le_of_ble_eq_true rfl) hl.1 rfl rfl dL_law_2697 ⟨(by show cells + 2 ≤ 603072; omega), (by show slots + 12 ≤ 7223402; omega)⟩ (fun v h1 H locs hv hM hS => ?_)
  obtain ⟨hv, f9, hJ1, hz1⟩ := hv
  subst hv
  refine W.eq (g2 := F0 mt 2700 ls [.int (st_thr (T_alertOf st (xs (i + 1))).1)]) rfl ?_
  refine lv_istore (lv' := [(6, .int (st_thr (T_alertOf st (xs (i + 1))).1)), (5, .int (nI i)), (4, .ref o2), (3, .ref o), (2, .ref m), (1, .ref x), (0, .ref b)]) hx hb dL_law_2700 hl (by decide) rfl (fun ls hl => ?_)
  refine lv_aload_n hx hb dL_law_2702 rfl (lv_at hl 4 rfl) ?_
  refine m_scr (k := 1) hx hb hX hbl hbA hS hL9 (by omega) (lv_at hl 6 rfl) (lv_at hl 1 rfl) dL_law_2703 dL_law_2704 dL_law_2706 (by decide) dL_law_2707 dL_law_2708 ?_
  refine m_callV Z C hM hS (As := [.int (xs (i + 1))]) (rest := []) (d_X6_alertOf Z h1 x m q o o2 f9 g (T_alertOf st (xs (i + 1))).1 st hJ1 hk (xs (i + 1))) yi_X6_alertOf ml_L_242 hJ1.mdl.o rfl ⟨Nat.le_of_ble_eq_true rfl, Nat.le_of_ble_eq_true rfl⟩ (Nat.le_of_ble_eq_true rfl) hl.1 rfl rfl dL_law_2709 ⟨(by show cells + 2 + 0 ≤ 603072; omega), (by show slots + 12 + 0 ≤ 7223402; omega)⟩ (fun v h2 H locs hv hM hS => ?_)
  obtain ⟨w, hv, hJ2, hz2⟩ := hv
  subst hv
  refine W.eq (g2 := F0 mt 2712 ls [.int w]) rfl ?_
  refine lv_istore (lv' := [(7, .int w), (6, .int (st_thr (T_alertOf st (xs (i + 1))).1)), (5, .int (nI i)), (4, .ref o2), (3, .ref o), (2, .ref m), (1, .ref x), (0, .ref b)]) hx hb dL_law_2712 hl (by decide) rfl (fun ls hl => ?_)
  refine lv_aload_n hx hb dL_law_2714 rfl (lv_at hl 5 rfl) ?_
  refine m_callV Z C hM hS (As := []) (rest := []) (c_X6_thrown Z h2 m q (T_alertOf st (xs (i + 1))).1 hJ2.mdl) yi_X6_thrown ml_L_136 hJ2.mdl.o rfl ⟨Nat.le_of_ble_eq_true rfl, Nat.le_of_ble_eq_true rfl⟩ (Nat.le_of_ble_eq_true rfl) hl.1 rfl rfl dL_law_2715 ⟨(by show cells + 2 + 0 + 0 ≤ 603072; omega), (by show slots + 12 + 0 + 0 ≤ 7223402; omega)⟩ (fun v h3 H locs hv hM hS => ?_)
  obtain ⟨hv, hh3⟩ := hv
  subst hv
  rw [hh3] at hM
  refine W.eq (g2 := F0 mt 2718 ls [.int (st_thr (T_alertOf st (xs (i + 1))).1)]) rfl ?_
  refine lv_iload hx hb dL_law_2718 (lv_at hl 1 rfl) ?_
  refine lv_icmp_eq (tgt := 2725) hx hb dL_law_2720 (by decide) (fun _ => ?_) (fun z9 => absurd rfl z9)
  refine lv_iload hx hb dL_law_2725 (lv_at hl 1 rfl) ?_
  refine lv_if_ne (tgt := 2742) hx hb dL_law_2727 (by decide) (fun _ => ?_) (fun z9 => ?_)
  · -- thrown
    refine lv_goto (tgt := 2972) hx hb dL_law_2742 (by decide) ?_
    exact W.widen (k := cells + 20) (n := slots + 500) (by omega) (by omega) (kk _ _ _ _ _ _ _ hJ2 (IvT_alertOf hk hnow (xs (i + 1))) (nwT_alertOf (xs (i + 1))) hM hS (lv_sub hl [2, 3, 4, 5, 6, 7] rfl))
  · -- answered
    refine lv_aload_n hx hb dL_law_2730 rfl (lv_at hl 4 rfl) ?_
    refine lv_iconst (v := nI 0) hx hb dL_law_2731 (by decide) ?_
    refine m_lald Z C hM hJ2.oo 0 rfl (by decide) (by decide) dL_law_2732 ?_
    refine lv_iload hx hb dL_law_2733 (lv_at hl 0 rfl) ?_
    refine lv_i2l hx hb dL_law_2735 rfl ?_
    have e9 : f9 0 = w.toInt64 := (hz1 z9).trans (hz2 z9).symm
    refine W.lcmp hx hb dL_law_2736 ?_
    refine n_lc_eq (tgt := 2742) hx hb dL_law_2737 (by decide) (fun _ => ?_) (fun z => absurd e9 z)
    refine lv_goto (tgt := 2972) hx hb dL_law_2742 (by decide) ?_
    exact W.widen (k := cells + 20) (n := slots + 500) (by omega) (by omega) (kk _ _ _ _ _ _ _ hJ2 (IvT_alertOf hk hnow (xs (i + 1))) (nwT_alertOf (xs (i + 1))) hM hS (lv_sub hl [2, 3, 4, 5, 6, 7] rfl))
set_option maxRecDepth 100000 in
set_option maxHeartbeats 4000000 in
theorem law_case_32 {p : Program} {l : Launch} {e : Env} {s : State} {mt : MethodId} {below : List Frame} {meth : Method} {c : Code} {H : Heap} {locs : List Loc} {cells slots : Nat} {Q : State → Prop} {ls : Array Slot} {G : mG} {h : Hp} {b L i : Nat} {xs : Nat → Int32} {x m : Nat} {q : Nat → Nat} {o o2 : Nat} {f : Nat → Int64} {g : Nat → UInt64} {st : Ms} {nm9 : String} (Z : mZ l G #[.ref b] s) (No : mNo s) (C : mC s p s mt meth c cL_law 9 RL (some .boolean) nm9) (hX : va_X b L xs s s.heap) (hbl : b < s.heap.size) (hL : L ≤ 3072) (hi : i + 6 ≤ L) (hJ : LJ G h x m q o o2 f g st st) (hk : Iv st) (hnow : st_now st + 600 < 1073741824) (hM : MW G s.heap.size h H) (hS : va_S (fun q => s.heap.size ≤ q) s.heap H locs) (hl : lv_has ls 9 [(5, .int (nI i)), (4, .ref o2), (3, .ref o), (2, .ref m), (1, .ref x), (0, .ref b)]) (hc : cells + 20 ≤ 603072 ∧ slots + 500 ≤ 7223402) (kk : ∀ (st2 : Ms) (f2 : Nat → Int64) (g2 : Nat → UInt64) (h2 : Hp) (H2 : Heap) (locs2 : List Loc) (ls2 : Array Slot), LJ G h2 x m q o o2 f2 g2 st2 st2 → Iv st2 → st_now st2 ≤ st_now st + 600 → MW G s.heap.size h2 H2 → va_S (fun q => s.heap.size ≤ q) s.heap H2 locs2 → lv_has ls2 9 [(5, .int (nI i)), (4, .ref o2), (3, .ref o), (2, .ref m), (1, .ref x), (0, .ref b)] → W p l e room_1 s mt #[.ref b] below meth c H2 locs2 (cells + 20) (slots + 500) Q (F0 mt 2972 ls2 [])) : W p l e room_1 s mt #[.ref b] below meth c H locs cells slots Q (F0 mt 2745 ls []) := by
  have hx := C.1
  have hb := C.2.1
  have hown := C.2.2.2.1
  have hE := C.2.2.2.2.2.2.1
  have hL9 : L < 2 ^ 31 := by omega
  have hbA : ¬ (fun q : Nat => s.heap.size ≤ q) b := Nat.not_le.mpr hbl
  refine lv_aload_n hx hb dL_law_2745 rfl (lv_at hl 4 rfl) ?_
  obtain ⟨fs9, hx9⟩ := hJ.xx
  refine m_callV Z C hM hS (As := []) (rest := []) (d_X5_firing Z h x m q o o2 f g st hJ hk) yi_X5_firing ml_L_243 hx9 rfl ⟨Nat.le_of_ble_eq_true rfl, Nat.le_of_ble_eq_true rfl⟩ (Nat.le_of_ble_eq_true rfl) hl.1 rfl rfl dL_law_2746 ⟨(by show cells + 0 ≤ 603072; omega), (by show slots + 0 ≤ 7223402; omega)⟩ (fun v h1 H locs hv hM hS => ?_)
  obtain ⟨hv, hJ1⟩ := hv
  subst hv
  refine W.eq (g2 := F0 mt 2749 ls [.int (nI (z_ct (z_fi st) (st_many st)))]) rfl ?_
  refine lv_aload_n hx hb dL_law_2749 rfl (lv_at hl 3 rfl) ?_
  refine m_callV Z C hM hS (As := []) (rest := [.int (nI (z_ct (z_fi st) (st_many st)))]) (d_X6_firing Z h1 x m q o o2 f g (s_thr st (nI 0)) st hJ1 hk) yi_X6_firing ml_L_246 hJ1.mdl.o rfl ⟨Nat.le_of_ble_eq_true rfl, Nat.le_of_ble_eq_true rfl⟩ (Nat.le_of_ble_eq_true rfl) hl.1 rfl rfl dL_law_2750 ⟨(by show cells + 0 + 0 ≤ 603072; omega), (by show slots + 0 + 0 ≤ 7223402; omega)⟩ (fun v h2 H locs hv hM hS => ?_)
  obtain ⟨hv, hJ2⟩ := hv
  subst hv
  refine W.eq (g2 := F0 mt 2753 ls [.int (nI (z_ct (z_fi st) (st_many st))), .int (nI (z_ct (z_fi st) (st_many st)))]) rfl ?_
  refine lv_icmp_eq (tgt := 2972) hx hb dL_law_2753 (by decide) (fun _ => ?_) (fun z9 => absurd rfl z9)
  exact W.widen (k := cells + 20) (n := slots + 500) (by omega) (by omega) (kk _ _ _ _ _ _ _ hJ2 (Iv_thr hk _) (Nat.le_add_right _ _) hM hS (lv_sub hl [0, 1, 2, 3, 4, 5] rfl))
set_option maxRecDepth 100000 in
set_option maxHeartbeats 4000000 in
theorem law_case_33 {p : Program} {l : Launch} {e : Env} {s : State} {mt : MethodId} {below : List Frame} {meth : Method} {c : Code} {H : Heap} {locs : List Loc} {cells slots : Nat} {Q : State → Prop} {ls : Array Slot} {G : mG} {h : Hp} {b L i : Nat} {xs : Nat → Int32} {x m : Nat} {q : Nat → Nat} {o o2 : Nat} {f : Nat → Int64} {g : Nat → UInt64} {st : Ms} {nm9 : String} (Z : mZ l G #[.ref b] s) (No : mNo s) (C : mC s p s mt meth c cL_law 9 RL (some .boolean) nm9) (hX : va_X b L xs s s.heap) (hbl : b < s.heap.size) (hL : L ≤ 3072) (hi : i + 6 ≤ L) (hJ : LJ G h x m q o o2 f g st st) (hk : Iv st) (hnow : st_now st + 600 < 1073741824) (hM : MW G s.heap.size h H) (hS : va_S (fun q => s.heap.size ≤ q) s.heap H locs) (hl : lv_has ls 9 [(5, .int (nI i)), (4, .ref o2), (3, .ref o), (2, .ref m), (1, .ref x), (0, .ref b)]) (hc : cells + 20 ≤ 603072 ∧ slots + 500 ≤ 7223402) (kk : ∀ (st2 : Ms) (f2 : Nat → Int64) (g2 : Nat → UInt64) (h2 : Hp) (H2 : Heap) (locs2 : List Loc) (ls2 : Array Slot), LJ G h2 x m q o o2 f2 g2 st2 st2 → Iv st2 → st_now st2 ≤ st_now st + 600 → MW G s.heap.size h2 H2 → va_S (fun q => s.heap.size ≤ q) s.heap H2 locs2 → lv_has ls2 9 [(5, .int (nI i)), (4, .ref o2), (3, .ref o), (2, .ref m), (1, .ref x), (0, .ref b)] → W p l e room_1 s mt #[.ref b] below meth c H2 locs2 (cells + 20) (slots + 500) Q (F0 mt 2972 ls2 [])) : W p l e room_1 s mt #[.ref b] below meth c H locs cells slots Q (F0 mt 2758 ls []) := by
  have hx := C.1
  have hb := C.2.1
  have hown := C.2.2.2.1
  have hE := C.2.2.2.2.2.2.1
  have hL9 : L < 2 ^ 31 := by omega
  have hbA : ¬ (fun q : Nat => s.heap.size ≤ q) b := Nat.not_le.mpr hbl
  refine lv_aload_n hx hb dL_law_2758 rfl (lv_at hl 4 rfl) ?_
  refine m_scr (k := 1) hx hb hX hbl hbA hS hL9 (by omega) (lv_at hl 5 rfl) (lv_at hl 0 rfl) dL_law_2759 dL_law_2760 dL_law_2762 (by decide) dL_law_2763 dL_law_2764 ?_
  refine m_scr (k := 2) hx hb hX hbl hbA hS hL9 (by omega) (lv_at hl 5 rfl) (lv_at hl 0 rfl) dL_law_2765 dL_law_2766 dL_law_2768 (by decide) dL_law_2769 dL_law_2770 ?_
  refine lv_aload_n hx hb dL_law_2771 rfl (lv_at hl 2 rfl) ?_
  refine m_callH Z C hM hS (As := [.ref x, .int (xs (i + 1)), .int (xs (i + 2)), .ref o]) (rest := []) (c_L_joinCount Z No h x m q o o2 f g st hJ hk (xs (i + 1)) (xs (i + 2))) yi_L_joinCount ml_L_247 ⟨Nat.le_of_ble_eq_true rfl, Nat.le_of_ble_eq_true rfl⟩ (Nat.le_of_ble_eq_true rfl) hl.1 rfl rfl dL_law_2772 ⟨(by show cells + 1 ≤ 603072; omega), (by show slots + 6 ≤ 7223402; omega)⟩ (fun v h1 H locs hv hM hS => ?_)
  obtain ⟨hv, f9, hJ1, hz1⟩ := hv
  subst hv
  refine W.eq (g2 := F0 mt 2775 ls [.int (st_thr (T_joinCount st (xs (i + 1)) (xs (i + 2))).1)]) rfl ?_
  refine lv_istore (lv' := [(6, .int (st_thr (T_joinCount st (xs (i + 1)) (xs (i + 2))).1)), (5, .int (nI i)), (4, .ref o2), (3, .ref o), (2, .ref m), (1, .ref x), (0, .ref b)]) hx hb dL_law_2775 hl (by decide) rfl (fun ls hl => ?_)
  refine lv_aload_n hx hb dL_law_2777 rfl (lv_at hl 4 rfl) ?_
  refine m_scr (k := 1) hx hb hX hbl hbA hS hL9 (by omega) (lv_at hl 6 rfl) (lv_at hl 1 rfl) dL_law_2778 dL_law_2779 dL_law_2781 (by decide) dL_law_2782 dL_law_2783 ?_
  refine m_scr (k := 2) hx hb hX hbl hbA hS hL9 (by omega) (lv_at hl 6 rfl) (lv_at hl 1 rfl) dL_law_2784 dL_law_2785 dL_law_2787 (by decide) dL_law_2788 dL_law_2789 ?_
  refine m_callV Z C hM hS (As := [.int (xs (i + 1)), .int (xs (i + 2))]) (rest := []) (d_X6_joinCount Z h1 x m q o o2 f9 g (T_joinCount st (xs (i + 1)) (xs (i + 2))).1 st hJ1 hk (xs (i + 1)) (xs (i + 2))) yi_X6_joinCount ml_L_249 hJ1.mdl.o rfl ⟨Nat.le_of_ble_eq_true rfl, Nat.le_of_ble_eq_true rfl⟩ (Nat.le_of_ble_eq_true rfl) hl.1 rfl rfl dL_law_2790 ⟨(by show cells + 1 + 0 ≤ 603072; omega), (by show slots + 6 + 0 ≤ 7223402; omega)⟩ (fun v h2 H locs hv hM hS => ?_)
  obtain ⟨w, hv, hJ2, hz2⟩ := hv
  subst hv
  refine W.eq (g2 := F0 mt 2793 ls [.int w]) rfl ?_
  refine lv_istore (lv' := [(7, .int w), (6, .int (st_thr (T_joinCount st (xs (i + 1)) (xs (i + 2))).1)), (5, .int (nI i)), (4, .ref o2), (3, .ref o), (2, .ref m), (1, .ref x), (0, .ref b)]) hx hb dL_law_2793 hl (by decide) rfl (fun ls hl => ?_)
  refine lv_aload_n hx hb dL_law_2795 rfl (lv_at hl 5 rfl) ?_
  refine m_callV Z C hM hS (As := []) (rest := []) (c_X6_thrown Z h2 m q (T_joinCount st (xs (i + 1)) (xs (i + 2))).1 hJ2.mdl) yi_X6_thrown ml_L_136 hJ2.mdl.o rfl ⟨Nat.le_of_ble_eq_true rfl, Nat.le_of_ble_eq_true rfl⟩ (Nat.le_of_ble_eq_true rfl) hl.1 rfl rfl dL_law_2796 ⟨(by show cells + 1 + 0 + 0 ≤ 603072; omega), (by show slots + 6 + 0 + 0 ≤ 7223402; omega)⟩ (fun v h3 H locs hv hM hS => ?_)
  obtain ⟨hv, hh3⟩ := hv
  subst hv
  rw [hh3] at hM
  refine W.eq (g2 := F0 mt 2799 ls [.int (st_thr (T_joinCount st (xs (i + 1)) (xs (i + 2))).1)]) rfl ?_
  refine lv_iload hx hb dL_law_2799 (lv_at hl 1 rfl) ?_
  refine lv_icmp_eq (tgt := 2806) hx hb dL_law_2801 (by decide) (fun _ => ?_) (fun z9 => absurd rfl z9)
  refine lv_iload hx hb dL_law_2806 (lv_at hl 1 rfl) ?_
  refine lv_if_ne (tgt := 2823) hx hb dL_law_2808 (by decide) (fun _ => ?_) (fun z9 => ?_)
  · -- thrown
    refine lv_goto (tgt := 2972) hx hb dL_law_2823 (by decide) ?_
    exact W.widen (k := cells + 20) (n := slots + 500) (by omega) (by omega) (kk _ _ _ _ _ _ _ hJ2 (IvT_joinCount hk hnow (xs (i + 1)) (xs (i + 2))) (nwT_joinCount (xs (i + 1)) (xs (i + 2))) hM hS (lv_sub hl [2, 3, 4, 5, 6, 7] rfl))
  · -- answered
    refine lv_aload_n hx hb dL_law_2811 rfl (lv_at hl 4 rfl) ?_
    refine lv_iconst (v := nI 0) hx hb dL_law_2812 (by decide) ?_
    refine m_lald Z C hM hJ2.oo 0 rfl (by decide) (by decide) dL_law_2813 ?_
    refine lv_iload hx hb dL_law_2814 (lv_at hl 0 rfl) ?_
    refine lv_i2l hx hb dL_law_2816 rfl ?_
    have e9 : f9 0 = w.toInt64 := (hz1 z9).trans (hz2 z9).symm
    refine W.lcmp hx hb dL_law_2817 ?_
    refine n_lc_eq (tgt := 2823) hx hb dL_law_2818 (by decide) (fun _ => ?_) (fun z => absurd e9 z)
    refine lv_goto (tgt := 2972) hx hb dL_law_2823 (by decide) ?_
    exact W.widen (k := cells + 20) (n := slots + 500) (by omega) (by omega) (kk _ _ _ _ _ _ _ hJ2 (IvT_joinCount hk hnow (xs (i + 1)) (xs (i + 2))) (nwT_joinCount (xs (i + 1)) (xs (i + 2))) hM hS (lv_sub hl [2, 3, 4, 5, 6, 7] rfl))
set_option maxRecDepth 100000 in
set_option maxHeartbeats 4000000 in
theorem law_case_34 {p : Program} {l : Launch} {e : Env} {s : State} {mt : MethodId} {below : List Frame} {meth : Method} {c : Code} {H : Heap} {locs : List Loc} {cells slots : Nat} {Q : State → Prop} {ls : Array Slot} {G : mG} {h : Hp} {b L i : Nat} {xs : Nat → Int32} {x m : Nat} {q : Nat → Nat} {o o2 : Nat} {f : Nat → Int64} {g : Nat → UInt64} {st : Ms} {nm9 : String} (Z : mZ l G #[.ref b] s) (No : mNo s) (C : mC s p s mt meth c cL_law 9 RL (some .boolean) nm9) (hX : va_X b L xs s s.heap) (hbl : b < s.heap.size) (hL : L ≤ 3072) (hi : i + 6 ≤ L) (hJ : LJ G h x m q o o2 f g st st) (hk : Iv st) (hnow : st_now st + 600 < 1073741824) (hM : MW G s.heap.size h H) (hS : va_S (fun q => s.heap.size ≤ q) s.heap H locs) (hl : lv_has ls 9 [(5, .int (nI i)), (4, .ref o2), (3, .ref o), (2, .ref m), (1, .ref x), (0, .ref b)]) (hc : cells + 20 ≤ 603072 ∧ slots + 500 ≤ 7223402) (kk : ∀ (st2 : Ms) (f2 : Nat → Int64) (g2 : Nat → UInt64) (h2 : Hp) (H2 : Heap) (locs2 : List Loc) (ls2 : Array Slot), LJ G h2 x m q o o2 f2 g2 st2 st2 → Iv st2 → st_now st2 ≤ st_now st + 600 → MW G s.heap.size h2 H2 → va_S (fun q => s.heap.size ≤ q) s.heap H2 locs2 → lv_has ls2 9 [(5, .int (nI i)), (4, .ref o2), (3, .ref o), (2, .ref m), (1, .ref x), (0, .ref b)] → W p l e room_1 s mt #[.ref b] below meth c H2 locs2 (cells + 20) (slots + 500) Q (F0 mt 2972 ls2 [])) : W p l e room_1 s mt #[.ref b] below meth c H locs cells slots Q (F0 mt 2826 ls []) := by
  have hx := C.1
  have hb := C.2.1
  have hown := C.2.2.2.1
  have hE := C.2.2.2.2.2.2.1
  have hL9 : L < 2 ^ 31 := by omega
  have hbA : ¬ (fun q : Nat => s.heap.size ≤ q) b := Nat.not_le.mpr hbl
  refine lv_aload_n hx hb dL_law_2826 rfl (lv_at hl 4 rfl) ?_
  refine m_scr (k := 1) hx hb hX hbl hbA hS hL9 (by omega) (lv_at hl 5 rfl) (lv_at hl 0 rfl) dL_law_2827 dL_law_2828 dL_law_2830 (by decide) dL_law_2831 dL_law_2832 ?_
  refine m_scr (k := 2) hx hb hX hbl hbA hS hL9 (by omega) (lv_at hl 5 rfl) (lv_at hl 0 rfl) dL_law_2833 dL_law_2834 dL_law_2836 (by decide) dL_law_2837 dL_law_2838 ?_
  refine lv_aload_n hx hb dL_law_2839 rfl (lv_at hl 2 rfl) ?_
  refine m_callH Z C hM hS (As := [.ref x, .int (xs (i + 1)), .int (xs (i + 2)), .ref o]) (rest := []) (c_L_joinSum Z No h x m q o o2 f g st hJ hk (xs (i + 1)) (xs (i + 2))) yi_L_joinSum ml_L_250 ⟨Nat.le_of_ble_eq_true rfl, Nat.le_of_ble_eq_true rfl⟩ (Nat.le_of_ble_eq_true rfl) hl.1 rfl rfl dL_law_2840 ⟨(by show cells + 1 ≤ 603072; omega), (by show slots + 6 ≤ 7223402; omega)⟩ (fun v h1 H locs hv hM hS => ?_)
  obtain ⟨hv, f9, hJ1, hz1⟩ := hv
  subst hv
  refine W.eq (g2 := F0 mt 2843 ls [.int (st_thr (T_joinSum st (xs (i + 1)) (xs (i + 2))).1)]) rfl ?_
  refine lv_istore (lv' := [(6, .int (st_thr (T_joinSum st (xs (i + 1)) (xs (i + 2))).1)), (5, .int (nI i)), (4, .ref o2), (3, .ref o), (2, .ref m), (1, .ref x), (0, .ref b)]) hx hb dL_law_2843 hl (by decide) rfl (fun ls hl => ?_)
  refine lv_aload_n hx hb dL_law_2845 rfl (lv_at hl 4 rfl) ?_
  refine m_scr (k := 1) hx hb hX hbl hbA hS hL9 (by omega) (lv_at hl 6 rfl) (lv_at hl 1 rfl) dL_law_2846 dL_law_2847 dL_law_2849 (by decide) dL_law_2850 dL_law_2851 ?_
  refine m_scr (k := 2) hx hb hX hbl hbA hS hL9 (by omega) (lv_at hl 6 rfl) (lv_at hl 1 rfl) dL_law_2852 dL_law_2853 dL_law_2855 (by decide) dL_law_2856 dL_law_2857 ?_
  refine m_callV Z C hM hS (As := [.int (xs (i + 1)), .int (xs (i + 2))]) (rest := []) (d_X6_joinSum Z h1 x m q o o2 f9 g (T_joinSum st (xs (i + 1)) (xs (i + 2))).1 st hJ1 hk (xs (i + 1)) (xs (i + 2))) yi_X6_joinSum ml_L_252 hJ1.mdl.o rfl ⟨Nat.le_of_ble_eq_true rfl, Nat.le_of_ble_eq_true rfl⟩ (Nat.le_of_ble_eq_true rfl) hl.1 rfl rfl dL_law_2858 ⟨(by show cells + 1 + 0 ≤ 603072; omega), (by show slots + 6 + 0 ≤ 7223402; omega)⟩ (fun v h2 H locs hv hM hS => ?_)
  obtain ⟨w, hv, hJ2, hz2⟩ := hv
  subst hv
  refine W.eq (g2 := F0 mt 2861 ls [.long w]) rfl ?_
  refine lv_lstore (lv' := [(7, .long w), (6, .int (st_thr (T_joinSum st (xs (i + 1)) (xs (i + 2))).1)), (5, .int (nI i)), (4, .ref o2), (3, .ref o), (2, .ref m), (1, .ref x), (0, .ref b)]) hx hb dL_law_2861 hl (by decide) rfl (fun ls hl => ?_)
  refine lv_aload_n hx hb dL_law_2863 rfl (lv_at hl 5 rfl) ?_
  refine m_callV Z C hM hS (As := []) (rest := []) (c_X6_thrown Z h2 m q (T_joinSum st (xs (i + 1)) (xs (i + 2))).1 hJ2.mdl) yi_X6_thrown ml_L_136 hJ2.mdl.o rfl ⟨Nat.le_of_ble_eq_true rfl, Nat.le_of_ble_eq_true rfl⟩ (Nat.le_of_ble_eq_true rfl) hl.1 rfl rfl dL_law_2864 ⟨(by show cells + 1 + 0 + 0 ≤ 603072; omega), (by show slots + 6 + 0 + 0 ≤ 7223402; omega)⟩ (fun v h3 H locs hv hM hS => ?_)
  obtain ⟨hv, hh3⟩ := hv
  subst hv
  rw [hh3] at hM
  refine W.eq (g2 := F0 mt 2867 ls [.int (st_thr (T_joinSum st (xs (i + 1)) (xs (i + 2))).1)]) rfl ?_
  refine lv_iload hx hb dL_law_2867 (lv_at hl 1 rfl) ?_
  refine lv_icmp_eq (tgt := 2874) hx hb dL_law_2869 (by decide) (fun _ => ?_) (fun z9 => absurd rfl z9)
  refine lv_iload hx hb dL_law_2874 (lv_at hl 1 rfl) ?_
  refine lv_if_ne (tgt := 2890) hx hb dL_law_2876 (by decide) (fun _ => ?_) (fun z9 => ?_)
  · -- thrown
    refine lv_goto (tgt := 2972) hx hb dL_law_2890 (by decide) ?_
    exact W.widen (k := cells + 20) (n := slots + 500) (by omega) (by omega) (kk _ _ _ _ _ _ _ hJ2 (IvT_joinSum hk hnow (xs (i + 1)) (xs (i + 2))) (nwT_joinSum (xs (i + 1)) (xs (i + 2))) hM hS (lv_sub hl [2, 3, 4, 5, 6, 7] rfl))
  · -- answered
    refine lv_aload_n hx hb dL_law_2879 rfl (lv_at hl 4 rfl) ?_
    refine lv_iconst (v := nI 0) hx hb dL_law_2880 (by decide) ?_
    refine m_lald Z C hM hJ2.oo 0 rfl (by decide) (by decide) dL_law_2881 ?_
    refine lv_lload hx hb dL_law_2882 (lv_at hl 0 rfl) ?_
    have e9 : f9 0 = w := (hz1 z9).trans (hz2 z9).symm
    refine W.lcmp hx hb dL_law_2884 ?_
    refine n_lc_eq (tgt := 2890) hx hb dL_law_2885 (by decide) (fun _ => ?_) (fun z => absurd e9 z)
    refine lv_goto (tgt := 2972) hx hb dL_law_2890 (by decide) ?_
    exact W.widen (k := cells + 20) (n := slots + 500) (by omega) (by omega) (kk _ _ _ _ _ _ _ hJ2 (IvT_joinSum hk hnow (xs (i + 1)) (xs (i + 2))) (nwT_joinSum (xs (i + 1)) (xs (i + 2))) hM hS (lv_sub hl [2, 3, 4, 5, 6, 7] rfl))
set_option maxRecDepth 100000 in
set_option maxHeartbeats 4000000 in
theorem law_case_35 {p : Program} {l : Launch} {e : Env} {s : State} {mt : MethodId} {below : List Frame} {meth : Method} {c : Code} {H : Heap} {locs : List Loc} {cells slots : Nat} {Q : State → Prop} {ls : Array Slot} {G : mG} {h : Hp} {b L i : Nat} {xs : Nat → Int32} {x m : Nat} {q : Nat → Nat} {o o2 : Nat} {f : Nat → Int64} {g : Nat → UInt64} {st : Ms} {nm9 : String} (Z : mZ l G #[.ref b] s) (No : mNo s) (C : mC s p s mt meth c cL_law 9 RL (some .boolean) nm9) (hX : va_X b L xs s s.heap) (hbl : b < s.heap.size) (hL : L ≤ 3072) (hi : i + 6 ≤ L) (hJ : LJ G h x m q o o2 f g st st) (hk : Iv st) (hnow : st_now st + 600 < 1073741824) (hM : MW G s.heap.size h H) (hS : va_S (fun q => s.heap.size ≤ q) s.heap H locs) (hl : lv_has ls 9 [(5, .int (nI i)), (4, .ref o2), (3, .ref o), (2, .ref m), (1, .ref x), (0, .ref b)]) (hc : cells + 20 ≤ 603072 ∧ slots + 500 ≤ 7223402) (kk : ∀ (st2 : Ms) (f2 : Nat → Int64) (g2 : Nat → UInt64) (h2 : Hp) (H2 : Heap) (locs2 : List Loc) (ls2 : Array Slot), LJ G h2 x m q o o2 f2 g2 st2 st2 → Iv st2 → st_now st2 ≤ st_now st + 600 → MW G s.heap.size h2 H2 → va_S (fun q => s.heap.size ≤ q) s.heap H2 locs2 → lv_has ls2 9 [(5, .int (nI i)), (4, .ref o2), (3, .ref o), (2, .ref m), (1, .ref x), (0, .ref b)] → W p l e room_1 s mt #[.ref b] below meth c H2 locs2 (cells + 20) (slots + 500) Q (F0 mt 2972 ls2 [])) : W p l e room_1 s mt #[.ref b] below meth c H locs cells slots Q (F0 mt 2893 ls []) := by
  have hx := C.1
  have hb := C.2.1
  have hown := C.2.2.2.1
  have hE := C.2.2.2.2.2.2.1
  have hL9 : L < 2 ^ 31 := by omega
  have hbA : ¬ (fun q : Nat => s.heap.size ≤ q) b := Nat.not_le.mpr hbl
  refine lv_aload_n hx hb dL_law_2893 rfl (lv_at hl 4 rfl) ?_
  refine lv_aload hx hb dL_law_2894 (lv_at hl 1 rfl) ?_
  refine m_callH Z C hM hS (As := [.ref x, .ref o2]) (rest := []) (c_L_firingShare Z No h x m q o o2 f g st hJ hk ) yi_L_firingShare ml_L_253 ⟨Nat.le_of_ble_eq_true rfl, Nat.le_of_ble_eq_true rfl⟩ (Nat.le_of_ble_eq_true rfl) hl.1 rfl rfl dL_law_2896 ⟨(by show cells + 1 ≤ 603072; omega), (by show slots + 6 ≤ 7223402; omega)⟩ (fun v h1 H locs hv hM hS => ?_)
  obtain ⟨hv, g9, hJ1, hz1⟩ := hv
  subst hv
  refine W.eq (g2 := F0 mt 2899 ls [.int (st_thr (T_firingShare st).1)]) rfl ?_
  refine lv_istore (lv' := [(6, .int (st_thr (T_firingShare st).1)), (5, .int (nI i)), (4, .ref o2), (3, .ref o), (2, .ref m), (1, .ref x), (0, .ref b)]) hx hb dL_law_2899 hl (by decide) rfl (fun ls hl => ?_)
  refine lv_aload_n hx hb dL_law_2901 rfl (lv_at hl 4 rfl) ?_
  refine m_callV Z C hM hS (As := []) (rest := []) (d_X6_firingShare Z h1 x m q o o2 f g9 (T_firingShare st).1 st hJ1 hk ) yi_X6_firingShare ml_L_256 hJ1.mdl.o rfl ⟨Nat.le_of_ble_eq_true rfl, Nat.le_of_ble_eq_true rfl⟩ (Nat.le_of_ble_eq_true rfl) hl.1 rfl rfl dL_law_2902 ⟨(by show cells + 1 + 0 ≤ 603072; omega), (by show slots + 6 + 0 ≤ 7223402; omega)⟩ (fun v h2 H locs hv hM hS => ?_)
  obtain ⟨w, hv, hJ2, hz2⟩ := hv
  subst hv
  refine W.eq (g2 := F0 mt 2905 ls [.float w]) rfl ?_
  refine lv_fstore (lv' := [(7, .float w), (6, .int (st_thr (T_firingShare st).1)), (5, .int (nI i)), (4, .ref o2), (3, .ref o), (2, .ref m), (1, .ref x), (0, .ref b)]) hx hb dL_law_2905 hl (by decide) rfl (fun ls hl => ?_)
  refine lv_aload_n hx hb dL_law_2907 rfl (lv_at hl 5 rfl) ?_
  refine m_callV Z C hM hS (As := []) (rest := []) (c_X6_thrown Z h2 m q (T_firingShare st).1 hJ2.mdl) yi_X6_thrown ml_L_136 hJ2.mdl.o rfl ⟨Nat.le_of_ble_eq_true rfl, Nat.le_of_ble_eq_true rfl⟩ (Nat.le_of_ble_eq_true rfl) hl.1 rfl rfl dL_law_2908 ⟨(by show cells + 1 + 0 + 0 ≤ 603072; omega), (by show slots + 6 + 0 + 0 ≤ 7223402; omega)⟩ (fun v h3 H locs hv hM hS => ?_)
  obtain ⟨hv, hh3⟩ := hv
  subst hv
  rw [hh3] at hM
  refine W.eq (g2 := F0 mt 2911 ls [.int (st_thr (T_firingShare st).1)]) rfl ?_
  refine lv_iload hx hb dL_law_2911 (lv_at hl 1 rfl) ?_
  refine lv_icmp_eq (tgt := 2918) hx hb dL_law_2913 (by decide) (fun _ => ?_) (fun z9 => absurd rfl z9)
  refine lv_iload hx hb dL_law_2918 (lv_at hl 1 rfl) ?_
  refine lv_if_ne (tgt := 2956) hx hb dL_law_2920 (by decide) (fun _ => ?_) (fun z9 => ?_)
  · -- thrown
    refine lv_goto (tgt := 2972) hx hb dL_law_2956 (by decide) ?_
    exact W.widen (k := cells + 20) (n := slots + 500) (by omega) (by omega) (kk _ _ _ _ _ _ _ hJ2 (IvT_firingShare hk hnow) nwT_firingShare hM hS (lv_sub hl [2, 3, 4, 5, 6, 7] rfl))
  · -- answered
    have hm9 : ¬ st_many st = 0 := fun z => by rw [RA_firingShare_1 (st := st) hk.m10 z] at z9; exact absurd (show nI 1 = nI 0 from z9) (by decide)
    have hm10 := hk.m10
    have hct := z_ct_le (z_fi st) (st_many st)
    have e0 := RA_firingShare_0 (st := st) hk.m10 hm9
    have e2 : w = FP.fdiv (FP.i2f (nI (z_ct (z_fi st) (st_many st)))) (FP.i2f (nI (st_many st))) := (hz2 z9).trans (by rw [e0])
    have e9 : g9 0 = FP.f2d w := (hz1 z9).trans (by rw [hz2 z9])
    refine lv_aload hx hb dL_law_2923 (lv_at hl 3 rfl) ?_
    refine lv_iconst (v := nI 0) hx hb dL_law_2925 (by decide) ?_
    refine m_dald Z C hM hJ2.oo2 0 rfl (by decide) (by decide) dL_law_2926 ?_
    refine lv_fload hx hb dL_law_2927 (lv_at hl 0 rfl) ?_
    refine lv_f2d hx hb dL_law_2929 (by rw [e2]; exact (f_div_ok _ (by omega) _ (by omega) (by omega)).2) ?_
    refine lv_dcmp hx hb dL_law_2930 ?_
    refine lv_if_eq (tgt := 2956) hx hb dL_law_2931 (by decide) (fun _ => ?_) (fun z => absurd (by rw [e9, e2]; exact f_cmp_ok _ (by omega) _ (by omega) (by omega)) z)
    refine lv_goto (tgt := 2972) hx hb dL_law_2956 (by decide) ?_
    exact W.widen (k := cells + 20) (n := slots + 500) (by omega) (by omega) (kk _ _ _ _ _ _ _ hJ2 (IvT_firingShare hk hnow) nwT_firingShare hM hS (lv_sub hl [2, 3, 4, 5, 6, 7] rfl))
set_option maxRecDepth 100000 in
set_option maxHeartbeats 4000000 in
theorem law_case_36 {p : Program} {l : Launch} {e : Env} {s : State} {mt : MethodId} {below : List Frame} {meth : Method} {c : Code} {H : Heap} {locs : List Loc} {cells slots : Nat} {Q : State → Prop} {ls : Array Slot} {G : mG} {h : Hp} {b L i : Nat} {xs : Nat → Int32} {x m : Nat} {q : Nat → Nat} {o o2 : Nat} {f : Nat → Int64} {g : Nat → UInt64} {st : Ms} {nm9 : String} (Z : mZ l G #[.ref b] s) (No : mNo s) (C : mC s p s mt meth c cL_law 9 RL (some .boolean) nm9) (hX : va_X b L xs s s.heap) (hbl : b < s.heap.size) (hL : L ≤ 3072) (hi : i + 6 ≤ L) (hJ : LJ G h x m q o o2 f g st st) (hk : Iv st) (hnow : st_now st + 600 < 1073741824) (hM : MW G s.heap.size h H) (hS : va_S (fun q => s.heap.size ≤ q) s.heap H locs) (hl : lv_has ls 9 [(5, .int (nI i)), (4, .ref o2), (3, .ref o), (2, .ref m), (1, .ref x), (0, .ref b)]) (hc : cells + 20 ≤ 603072 ∧ slots + 500 ≤ 7223402) (kk : ∀ (st2 : Ms) (f2 : Nat → Int64) (g2 : Nat → UInt64) (h2 : Hp) (H2 : Heap) (locs2 : List Loc) (ls2 : Array Slot), LJ G h2 x m q o o2 f2 g2 st2 st2 → Iv st2 → st_now st2 ≤ st_now st + 600 → MW G s.heap.size h2 H2 → va_S (fun q => s.heap.size ≤ q) s.heap H2 locs2 → lv_has ls2 9 [(5, .int (nI i)), (4, .ref o2), (3, .ref o), (2, .ref m), (1, .ref x), (0, .ref b)] → W p l e room_1 s mt #[.ref b] below meth c H2 locs2 (cells + 20) (slots + 500) Q (F0 mt 2972 ls2 [])) : W p l e room_1 s mt #[.ref b] below meth c H locs cells slots Q (F0 mt 2959 ls []) := by
  have hx := C.1
  have hb := C.2.1
  have hown := C.2.2.2.1
  have hE := C.2.2.2.2.2.2.1
  have hL9 : L < 2 ^ 31 := by omega
  have hbA : ¬ (fun q : Nat => s.heap.size ≤ q) b := Nat.not_le.mpr hbl
  refine lv_aload_n hx hb dL_law_2959 rfl (lv_at hl 4 rfl) ?_
  obtain ⟨fs9, hx9⟩ := hJ.xx
  refine m_callV Z C hM hS (As := []) (rest := []) (d_X5_isConsistent Z h x m q o o2 f g st hJ hk) yi_X5_isConsistent ml_L_257 hx9 rfl ⟨Nat.le_of_ble_eq_true rfl, Nat.le_of_ble_eq_true rfl⟩ (Nat.le_of_ble_eq_true rfl) hl.1 rfl rfl dL_law_2960 ⟨(by show cells + 0 ≤ 603072; omega), (by show slots + 0 ≤ 7223402; omega)⟩ (fun v h1 H locs hv hM hS => ?_)
  obtain ⟨hv, hJ1⟩ := hv
  subst hv
  refine W.eq (g2 := F0 mt 2963 ls [.int (nI 1)]) rfl ?_
  refine lv_aload_n hx hb dL_law_2963 rfl (lv_at hl 3 rfl) ?_
  refine m_callV Z C hM hS (As := []) (rest := [.int (nI 1)]) (d_X6_isConsistent Z h1 x m q o o2 f g (s_thr st (nI 0)) st hJ1 hk) yi_X6_isConsistent ml_L_261 hJ1.mdl.o rfl ⟨Nat.le_of_ble_eq_true rfl, Nat.le_of_ble_eq_true rfl⟩ (Nat.le_of_ble_eq_true rfl) hl.1 rfl rfl dL_law_2964 ⟨(by show cells + 0 + 0 ≤ 603072; omega), (by show slots + 0 + 0 ≤ 7223402; omega)⟩ (fun v h2 H locs hv hM hS => ?_)
  obtain ⟨hv, hJ2⟩ := hv
  subst hv
  refine W.eq (g2 := F0 mt 2967 ls [.int (nI 1), .int (nI 1)]) rfl ?_
  refine lv_icmp_eq (tgt := 2972) hx hb dL_law_2967 (by decide) (fun _ => ?_) (fun z9 => absurd rfl z9)
  exact W.widen (k := cells + 20) (n := slots + 500) (by omega) (by omega) (kk _ _ _ _ _ _ _ hJ2 (Iv_thr hk _) (Nat.le_add_right _ _) hM hS (lv_sub hl [0, 1, 2, 3, 4, 5] rfl))
