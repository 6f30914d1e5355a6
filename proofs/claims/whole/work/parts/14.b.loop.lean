/-! THE LOOP over the script -/
set_option maxRecDepth 100000 in
set_option maxHeartbeats 4000000 in
theorem law_loop {p : Program} {l : Launch} {e : Env} {s : State} {mt : MethodId} {below : List Frame} {meth : Method} {c : Code} {G : mG} {b L : Nat} {xs : Nat → Int32} {nm9 : String} (Z : mZ l G #[.ref b] s) (No : mNo s) (C : mC s p s mt meth c cL_law 9 RL (some .boolean) nm9) (hX : va_X b L xs s s.heap) (hbl : b < s.heap.size) (hL : L ≤ 3072) (x m : Nat) (q : Nat → Nat) (o o2 : Nat) : ∀ (n k i : Nat), k + n = 513 → i = 6 * k → i ≤ L → ∀ (cells slots : Nat), cells + 20 * n ≤ 603072 → slots + 500 * n ≤ 7223402 → ∀ (st : Ms) (f : Nat → Int64) (g : Nat → UInt64) (h : Hp) (H : Heap) (locs : List Loc) (ls : Array Slot), LJ G h x m q o o2 f g st st → Iv st → st_now st ≤ 600 * k → MW G s.heap.size h H → va_S (fun q => s.heap.size ≤ q) s.heap H locs → lv_has ls 9 [(5, .int (nI i)), (4, .ref o2), (3, .ref o), (2, .ref m), (1, .ref x), (0, .ref b)] → W p l e room_1 s mt #[.ref b] below meth c H locs cells slots (lw_Z below #[.ref b] s) (F0 mt 28 ls []) := by
  have hx := C.1
  have hb := C.2.1
  have hlk := C.2.2.2.2.1
  have hr := C.2.2.2.2.2.1
  have hL9 : L < 2 ^ 31 := by omega
  have hbA : ¬ (fun q : Nat => s.heap.size ≤ q) b := Nat.not_le.mpr hbl
  intro n
  induction n with
  | zero => intro k i h1 h2 h3; exact absurd h3 (by omega)
  | succ n ih =>
    intro k i hkn hik hiL cells slots hce hsl st f g h H locs ls hJ hk hnow hM hS hl
    refine lv_iload hx hb dL_law_28 (lv_at hl 0 rfl) ?_
    refine lv_aload_n hx hb dL_law_30 rfl (lv_at hl 5 rfl) ?_
    refine va_slen hx hb hX hbl hbA hS dL_law_31 ?_
    refine lv_bipush (v := nI 6) hx hb dL_law_32 (by decide) ?_
    refine lv_isub hx hb dL_law_34 ?_
    refine lv_icmp_gt (tgt := 2978) hx hb dL_law_35 (by decide) (fun _ => ?_) (fun z => ?_)
    · -- the script is over
      refine lv_iconst (v := 1) hx hb dL_law_2978 (by decide) ?_
      refine va_forget (fun a ha => hS.2.2 a ha) ?_
      refine W.widen (k := 603072) (n := 7223402) (by omega) (by omega) ?_
      refine W.base ?_
      exact lw_ret (Drawn.sameBut.refl s.drawn lw_cs) hx hb hr hlk dL_law_2979
    · -- one more call
      have hi : i + 6 ≤ L := lp_in hL hiL z
      have kk : ∀ (st2 : Ms) (f2 : Nat → Int64) (g2 : Nat → UInt64) (h2 : Hp) (H2 : Heap) (locs2 : List Loc) (ls2 : Array Slot), LJ G h2 x m q o o2 f2 g2 st2 st2 → Iv st2 → st_now st2 ≤ st_now st + 600 → MW G s.heap.size h2 H2 → va_S (fun q => s.heap.size ≤ q) s.heap H2 locs2 → lv_has ls2 9 [(5, .int (nI i)), (4, .ref o2), (3, .ref o), (2, .ref m), (1, .ref x), (0, .ref b)] → W p l e room_1 s mt #[.ref b] below meth c H2 locs2 (cells + 20) (slots + 500) (lw_Z below #[.ref b] s) (F0 mt 2972 ls2 []) := by
        intro st2 f2 g2 h2 H2 locs2 ls2 hJ2 hk2 hn2 hM2 hS2 hl2
        refine lv_iinc (v := nI (i + 6)) (lv' := [(5, .int (nI (i + 6))), (4, .ref o2), (3, .ref o), (2, .ref m), (1, .ref x), (0, .ref b)]) hx hb dL_law_2972 hl2 (k := 0) rfl (nI_add _ _) (by decide) rfl (fun ls hl => ?_)
        refine lv_goto (tgt := 28) hx hb dL_law_2975 (by decide) ?_
        exact ih (k + 1) (i + 6) (by omega) (by omega) hi _ _ (by omega) (by omega) st2 f2 g2 h2 H2 locs2 ls hJ2 hk2 (by omega) hM2 hS2 hl
      refine lv_aload_n hx hb dL_law_38 rfl (lv_at hl 5 rfl) ?_
      refine lv_iload hx hb dL_law_39 (lv_at hl 0 rfl) ?_
      refine va_sld hx hb hX hbl hbA hS (vp_in_nI (by omega) hL9) dL_law_41 ?_
      refine lv_bipush (v := nI 63) hx hb dL_law_42 (by decide) ?_
      refine lv_iand hx hb dL_law_44 ?_
      generalize xs (nI i).toNatClampNeg &&& nI 63 = y
      have hc : cells + 20 ≤ 603072 ∧ slots + 500 ≤ 7223402 := ⟨by omega, by omega⟩
      have hnow9 : st_now st + 600 < 1073741824 := by omega
      rcases tsw y with hy | ⟨j, hj, ey⟩
      · refine lv_tableOut (tgt := 2972) hx hb dL_law_45 hy (by decide) ?_
        exact W.widen (k := cells + 20) (n := slots + 500) (by omega) (by omega) (kk st f g h H locs ls hJ hk (by omega) hM hS hl)
      · match j, hj, ey with
        | 0, _, ey => exact lv_tableIn (off := 163) (tgt := 208) hx hb dL_law_45 (by rw [ey]; decide) (by rw [ey]; decide) (by rw [ey]; rfl) (by decide) (law_case_0 Z No C hX hbl hL hi hJ hk hnow9 hM hS hl hc kk)
        | 1, _, ey => exact lv_tableIn (off := 231) (tgt := 276) hx hb dL_law_45 (by rw [ey]; decide) (by rw [ey]; decide) (by rw [ey]; rfl) (by decide) (law_case_1 Z No C hX hbl hL hi hJ hk hnow9 hM hS hl hc kk)
        | 2, _, ey => exact lv_tableIn (off := 286) (tgt := 331) hx hb dL_law_45 (by rw [ey]; decide) (by rw [ey]; decide) (by rw [ey]; rfl) (by decide) (law_case_2 Z No C hX hbl hL hi hJ hk hnow9 hM hS hl hc kk)
        | 3, _, ey => exact lv_tableIn (off := 354) (tgt := 399) hx hb dL_law_45 (by rw [ey]; decide) (by rw [ey]; decide) (by rw [ey]; rfl) (by decide) (law_case_3 Z No C hX hbl hL hi hJ hk hnow9 hM hS hl hc kk)
        | 4, _, ey => exact lv_tableIn (off := 368) (tgt := 413) hx hb dL_law_45 (by rw [ey]; decide) (by rw [ey]; decide) (by rw [ey]; rfl) (by decide) (law_case_4 Z No C hX hbl hL hi hJ hk hnow9 hM hS hl hc kk)
        | 5, _, ey => exact lv_tableIn (off := 381) (tgt := 426) hx hb dL_law_45 (by rw [ey]; decide) (by rw [ey]; decide) (by rw [ey]; rfl) (by decide) (law_case_5 Z No C hX hbl hL hi hJ hk hnow9 hM hS hl hc kk)
        | 6, _, ey => exact lv_tableIn (off := 449) (tgt := 494) hx hb dL_law_45 (by rw [ey]; decide) (by rw [ey]; decide) (by rw [ey]; rfl) (by decide) (law_case_6 Z No C hX hbl hL hi hJ hk hnow9 hM hS hl hc kk)
        | 7, _, ey => exact lv_tableIn (off := 505) (tgt := 550) hx hb dL_law_45 (by rw [ey]; decide) (by rw [ey]; decide) (by rw [ey]; rfl) (by decide) (law_case_7 Z No C hX hbl hL hi hJ hk hnow9 hM hS hl hc kk)
        | 8, _, ey => exact lv_tableIn (off := 561) (tgt := 606) hx hb dL_law_45 (by rw [ey]; decide) (by rw [ey]; decide) (by rw [ey]; rfl) (by decide) (law_case_8 Z No C hX hbl hL hi hJ hk hnow9 hM hS hl hc kk)
        | 9, _, ey => exact lv_tableIn (off := 617) (tgt := 662) hx hb dL_law_45 (by rw [ey]; decide) (by rw [ey]; decide) (by rw [ey]; rfl) (by decide) (law_case_9 Z No C hX hbl hL hi hJ hk hnow9 hM hS hl hc kk)
        | 10, _, ey => exact lv_tableIn (off := 673) (tgt := 718) hx hb dL_law_45 (by rw [ey]; decide) (by rw [ey]; decide) (by rw [ey]; rfl) (by decide) (law_case_10 Z No C hX hbl hL hi hJ hk hnow9 hM hS hl hc kk)
        | 11, _, ey => exact lv_tableIn (off := 729) (tgt := 774) hx hb dL_law_45 (by rw [ey]; decide) (by rw [ey]; decide) (by rw [ey]; rfl) (by decide) (law_case_11 Z No C hX hbl hL hi hJ hk hnow9 hM hS hl hc kk)
        | 12, _, ey => exact lv_tableIn (off := 797) (tgt := 842) hx hb dL_law_45 (by rw [ey]; decide) (by rw [ey]; decide) (by rw [ey]; rfl) (by decide) (law_case_12 Z No C hX hbl hL hi hJ hk hnow9 hM hS hl hc kk)
        | 13, _, ey => exact lv_tableIn (off := 864) (tgt := 909) hx hb dL_law_45 (by rw [ey]; decide) (by rw [ey]; decide) (by rw [ey]; rfl) (by decide) (law_case_13 Z No C hX hbl hL hi hJ hk hnow9 hM hS hl hc kk)
        | 14, _, ey => exact lv_tableIn (off := 932) (tgt := 977) hx hb dL_law_45 (by rw [ey]; decide) (by rw [ey]; decide) (by rw [ey]; rfl) (by decide) (law_case_14 Z No C hX hbl hL hi hJ hk hnow9 hM hS hl hc kk)
        | 15, _, ey => exact lv_tableIn (off := 946) (tgt := 991) hx hb dL_law_45 (by rw [ey]; decide) (by rw [ey]; decide) (by rw [ey]; rfl) (by decide) (law_case_15 Z No C hX hbl hL hi hJ hk hnow9 hM hS hl hc kk)
        | 16, _, ey => exact lv_tableIn (off := 1090) (tgt := 1135) hx hb dL_law_45 (by rw [ey]; decide) (by rw [ey]; decide) (by rw [ey]; rfl) (by decide) (law_case_16 Z No C hX hbl hL hi hJ hk hnow9 hM hS hl hc kk)
        | 17, _, ey => exact lv_tableIn (off := 1233) (tgt := 1278) hx hb dL_law_45 (by rw [ey]; decide) (by rw [ey]; decide) (by rw [ey]; rfl) (by decide) (law_case_17 Z No C hX hbl hL hi hJ hk hnow9 hM hS hl hc kk)
        | 18, _, ey => exact lv_tableIn (off := 1376) (tgt := 1421) hx hb dL_law_45 (by rw [ey]; decide) (by rw [ey]; decide) (by rw [ey]; rfl) (by decide) (law_case_18 Z No C hX hbl hL hi hJ hk hnow9 hM hS hl hc kk)
        | 19, _, ey => exact lv_tableIn (off := 1520) (tgt := 1565) hx hb dL_law_45 (by rw [ey]; decide) (by rw [ey]; decide) (by rw [ey]; rfl) (by decide) (law_case_19 Z No C hX hbl hL hi hJ hk hnow9 hM hS hl hc kk)
        | 20, _, ey => exact lv_tableIn (off := 1685) (tgt := 1730) hx hb dL_law_45 (by rw [ey]; decide) (by rw [ey]; decide) (by rw [ey]; rfl) (by decide) (law_case_20 Z No C hX hbl hL hi hJ hk hnow9 hM hS hl hc kk)
        | 21, _, ey => exact lv_tableIn (off := 1753) (tgt := 1798) hx hb dL_law_45 (by rw [ey]; decide) (by rw [ey]; decide) (by rw [ey]; rfl) (by decide) (law_case_21 Z No C hX hbl hL hi hJ hk hnow9 hM hS hl hc kk)
        | 22, _, ey => exact lv_tableIn (off := 1897) (tgt := 1942) hx hb dL_law_45 (by rw [ey]; decide) (by rw [ey]; decide) (by rw [ey]; rfl) (by decide) (law_case_22 Z No C hX hbl hL hi hJ hk hnow9 hM hS hl hc kk)
        | 23, _, ey => exact lv_tableIn (off := 2041) (tgt := 2086) hx hb dL_law_45 (by rw [ey]; decide) (by rw [ey]; decide) (by rw [ey]; rfl) (by decide) (law_case_23 Z No C hX hbl hL hi hJ hk hnow9 hM hS hl hc kk)
        | 24, _, ey => exact lv_tableIn (off := 2185) (tgt := 2230) hx hb dL_law_45 (by rw [ey]; decide) (by rw [ey]; decide) (by rw [ey]; rfl) (by decide) (law_case_24 Z No C hX hbl hL hi hJ hk hnow9 hM hS hl hc kk)
        | 25, _, ey => exact lv_tableIn (off := 2253) (tgt := 2298) hx hb dL_law_45 (by rw [ey]; decide) (by rw [ey]; decide) (by rw [ey]; rfl) (by decide) (law_case_25 Z No C hX hbl hL hi hJ hk hnow9 hM hS hl hc kk)
        | 26, _, ey => exact lv_tableIn (off := 2321) (tgt := 2366) hx hb dL_law_45 (by rw [ey]; decide) (by rw [ey]; decide) (by rw [ey]; rfl) (by decide) (law_case_26 Z No C hX hbl hL hi hJ hk hnow9 hM hS hl hc kk)
        | 27, _, ey => exact lv_tableIn (off := 2377) (tgt := 2422) hx hb dL_law_45 (by rw [ey]; decide) (by rw [ey]; decide) (by rw [ey]; rfl) (by decide) (law_case_27 Z No C hX hbl hL hi hJ hk hnow9 hM hS hl hc kk)
        | 28, _, ey => exact lv_tableIn (off := 2433) (tgt := 2478) hx hb dL_law_45 (by rw [ey]; decide) (by rw [ey]; decide) (by rw [ey]; rfl) (by decide) (law_case_28 Z No C hX hbl hL hi hJ hk hnow9 hM hS hl hc kk)
        | 29, _, ey => exact lv_tableIn (off := 2508) (tgt := 2553) hx hb dL_law_45 (by rw [ey]; decide) (by rw [ey]; decide) (by rw [ey]; rfl) (by decide) (law_case_29 Z No C hX hbl hL hi hJ hk hnow9 hM hS hl hc kk)
        | 30, _, ey => exact lv_tableIn (off := 2588) (tgt := 2633) hx hb dL_law_45 (by rw [ey]; decide) (by rw [ey]; decide) (by rw [ey]; rfl) (by decide) (law_case_30 Z No C hX hbl hL hi hJ hk hnow9 hM hS hl hc kk)
        | 31, _, ey => exact lv_tableIn (off := 2644) (tgt := 2689) hx hb dL_law_45 (by rw [ey]; decide) (by rw [ey]; decide) (by rw [ey]; rfl) (by decide) (law_case_31 Z No C hX hbl hL hi hJ hk hnow9 hM hS hl hc kk)
        | 32, _, ey => exact lv_tableIn (off := 2700) (tgt := 2745) hx hb dL_law_45 (by rw [ey]; decide) (by rw [ey]; decide) (by rw [ey]; rfl) (by decide) (law_case_32 Z No C hX hbl hL hi hJ hk hnow9 hM hS hl hc kk)
        | 33, _, ey => exact lv_tableIn (off := 2713) (tgt := 2758) hx hb dL_law_45 (by rw [ey]; decide) (by rw [ey]; decide) (by rw [ey]; rfl) (by decide) (law_case_33 Z No C hX hbl hL hi hJ hk hnow9 hM hS hl hc kk)
        | 34, _, ey => exact lv_tableIn (off := 2781) (tgt := 2826) hx hb dL_law_45 (by rw [ey]; decide) (by rw [ey]; decide) (by rw [ey]; rfl) (by decide) (law_case_34 Z No C hX hbl hL hi hJ hk hnow9 hM hS hl hc kk)
        | 35, _, ey => exact lv_tableIn (off := 2848) (tgt := 2893) hx hb dL_law_45 (by rw [ey]; decide) (by rw [ey]; decide) (by rw [ey]; rfl) (by decide) (law_case_35 Z No C hX hbl hL hi hJ hk hnow9 hM hS hl hc kk)
        | 36, _, ey => exact lv_tableIn (off := 2914) (tgt := 2959) hx hb dL_law_45 (by rw [ey]; decide) (by rw [ey]; decide) (by rw [ey]; rfl) (by decide) (law_case_36 Z No C hX hbl hL hi hJ hk hnow9 hM hS hl hc kk)
        | j + 37, hj, _ => exact absurd hj (by omega)
