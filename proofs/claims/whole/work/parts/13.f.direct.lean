theorem d_X5_time {l : Launch} {G : mG} {a0 : Array Value} {s0 : State} (Z : mZ l G a0 s0) (h0 : Hp) (x m : Nat) (q : Nat → Nat) (o o2 : Nat) (f : Nat → Int64) (g : Nat → UInt64) (st : Ms) (hJ : LJ G h0 x m q o o2 f g st st) (hk : Iv st) : mM l G s0 yX5_time cX5_time 1 (some .long) 0 0 0 0 h0 [.ref x] (fun v9 h9 => v9 = some (.long (lN (st_now st))) ∧ LJ G h9 x m q o o2 f g (s_thr st (nI 0)) st) := by
  obtain ⟨A, tg, X, fd, tt, gr, hA, hC, hR, hW, ho, ho2, t1, t2, t3, t4, n1, n2, n3, n4, n5⟩ := hJ
  subst hA
  exact mM.mono (c_X5_time Z h0 A tg st X fd tt gr hC hk hR) (fun v9 h9 hv => ⟨hv.1, LJ.cls (X := X) (fd := fd) (tt := tt) (gr := gr) hW ho ho2 ⟨t1, t2, t3, t4⟩ ⟨n1, n2, n3, n4, n5⟩ (NW_thr hv.2 _)⟩)
theorem d_X6_time_ {l : Launch} {G : mG} {a0 : Array Value} {s0 : State} (Z : mZ l G a0 s0) (h0 : Hp) (x m : Nat) (q : Nat → Nat) (o o2 : Nat) (f : Nat → Int64) (g : Nat → UInt64) (S st : Ms) (hJ : LJ G h0 x m q o o2 f g S st) (hk : Iv st) : mM l G s0 yX6_time_ cX6_time_ 1 (some .long) 0 0 0 0 h0 [.ref m] (fun v9 h9 => v9 = some (.long (lN (st_now st))) ∧ LJ G h9 x m q o o2 f g S (s_thr st (nI 0))) := mM.mono (c_X6_time_ Z h0 m q st hJ.mdl) (fun v9 h9 hv => ⟨hv.1, hJ.ref hv.2.1 hv.2.2⟩)
theorem d_X5_seriesCount {l : Launch} {G : mG} {a0 : Array Value} {s0 : State} (Z : mZ l G a0 s0) (h0 : Hp) (x m : Nat) (q : Nat → Nat) (o o2 : Nat) (f : Nat → Int64) (g : Nat → UInt64) (st : Ms) (hJ : LJ G h0 x m q o o2 f g st st) (hk : Iv st) : mM l G s0 yX5_seriesCount cX5_seriesCount 1 (some .int) 0 0 0 0 h0 [.ref x] (fun v9 h9 => v9 = some (.int (nI (st_many st))) ∧ LJ G h9 x m q o o2 f g (s_thr st (nI 0)) st) := by
  obtain ⟨A, tg, X, fd, tt, gr, hA, hC, hR, hW, ho, ho2, t1, t2, t3, t4, n1, n2, n3, n4, n5⟩ := hJ
  subst hA
  exact mM.mono (c_X5_seriesCount Z h0 A tg st X fd tt gr hC hk hR) (fun v9 h9 hv => ⟨hv.1, LJ.cls (X := X) (fd := fd) (tt := tt) (gr := gr) hW ho ho2 ⟨t1, t2, t3, t4⟩ ⟨n1, n2, n3, n4, n5⟩ (NW_thr hv.2 _)⟩)
theorem d_X6_seriesCount {l : Launch} {G : mG} {a0 : Array Value} {s0 : State} (Z : mZ l G a0 s0) (h0 : Hp) (x m : Nat) (q : Nat → Nat) (o o2 : Nat) (f : Nat → Int64) (g : Nat → UInt64) (S st : Ms) (hJ : LJ G h0 x m q o o2 f g S st) (hk : Iv st) : mM l G s0 yX6_seriesCount cX6_seriesCount 1 (some .int) 0 0 0 0 h0 [.ref m] (fun v9 h9 => v9 = some (.int (nI (st_many st))) ∧ LJ G h9 x m q o o2 f g S (s_thr st (nI 0))) := mM.mono (c_X6_seriesCount Z h0 m q st hJ.mdl) (fun v9 h9 hv => ⟨hv.1, hJ.ref hv.2.1 hv.2.2⟩)
theorem d_X5_allBits {l : Launch} {G : mG} {a0 : Array Value} {s0 : State} (Z : mZ l G a0 s0) (h0 : Hp) (x m : Nat) (q : Nat → Nat) (o o2 : Nat) (f : Nat → Int64) (g : Nat → UInt64) (st : Ms) (hJ : LJ G h0 x m q o o2 f g st st) (hk : Iv st) : mM l G s0 yX5_allBits cX5_allBits 7 (some .long) 1 26 0 0 h0 [.ref x] (fun v9 h9 => v9 = some (.long (lN (z_all st (st_many st)))) ∧ LJ G h9 x m q o o2 f g (s_thr st (nI 0)) st) := by
  obtain ⟨A, tg, X, fd, tt, gr, hA, hC, hR, hW, ho, ho2, t1, t2, t3, t4, n1, n2, n3, n4, n5⟩ := hJ
  subst hA
  exact mM.mono (c_X5_allBits Z h0 A tg st X fd tt gr hC hk hR) (fun v9 h9 hv => ⟨hv.1, LJ.cls (X := X) (fd := fd) (tt := tt) (gr := gr) hW ho ho2 ⟨t1, t2, t3, t4⟩ ⟨n1, n2, n3, n4, n5⟩ (NW_thr hv.2 _)⟩)
theorem d_X6_allBits {l : Launch} {G : mG} {a0 : Array Value} {s0 : State} (Z : mZ l G a0 s0) (h0 : Hp) (x m : Nat) (q : Nat → Nat) (o o2 : Nat) (f : Nat → Int64) (g : Nat → UInt64) (S st : Ms) (hJ : LJ G h0 x m q o o2 f g S st) (hk : Iv st) : mM l G s0 yX6_allBits cX6_allBits 5 (some .long) 2 49 0 0 h0 [.ref m] (fun v9 h9 => v9 = some (.long (lN (z_all st (st_many st)))) ∧ LJ G h9 x m q o o2 f g S (s_thr st (nI 0))) := mM.mono (c_X6_allBits Z h0 m q st hJ.mdl hk.mok) (fun v9 h9 hv => ⟨hv.1, hJ.ref hv.2.1 hv.2.2⟩)
theorem d_X5_firing {l : Launch} {G : mG} {a0 : Array Value} {s0 : State} (Z : mZ l G a0 s0) (h0 : Hp) (x m : Nat) (q : Nat → Nat) (o o2 : Nat) (f : Nat → Int64) (g : Nat → UInt64) (st : Ms) (hJ : LJ G h0 x m q o o2 f g st st) (hk : Iv st) : mM l G s0 yX5_firing cX5_firing 1 (some .int) 2 47 0 0 h0 [.ref x] (fun v9 h9 => v9 = some (.int (nI (z_ct (z_fi st) (st_many st)))) ∧ LJ G h9 x m q o o2 f g (s_thr st (nI 0)) st) := by
  obtain ⟨A, tg, X, fd, tt, gr, hA, hC, hR, hW, ho, ho2, t1, t2, t3, t4, n1, n2, n3, n4, n5⟩ := hJ
  subst hA
  exact mM.mono (c_X5_firing Z h0 A tg st X fd tt gr hC hk hR) (fun v9 h9 hv => ⟨hv.1, LJ.cls (X := X) (fd := fd) (tt := tt) (gr := gr) hW ho ho2 ⟨t1, t2, t3, t4⟩ ⟨n1, n2, n3, n4, n5⟩ (NW_thr hv.2 _)⟩)
theorem d_X6_firing {l : Launch} {G : mG} {a0 : Array Value} {s0 : State} (Z : mZ l G a0 s0) (h0 : Hp) (x m : Nat) (q : Nat → Nat) (o o2 : Nat) (f : Nat → Int64) (g : Nat → UInt64) (S st : Ms) (hJ : LJ G h0 x m q o o2 f g S st) (hk : Iv st) : mM l G s0 yX6_firing cX6_firing 3 (some .int) 1 21 0 0 h0 [.ref m] (fun v9 h9 => v9 = some (.int (nI (z_ct (z_fi st) (st_many st)))) ∧ LJ G h9 x m q o o2 f g S (s_thr st (nI 0))) := mM.mono (c_X6_firing Z h0 m q st hJ.mdl hk.mok) (fun v9 h9 hv => ⟨hv.1, hJ.ref hv.2.1 hv.2.2⟩)
theorem d_X5_isConsistent {l : Launch} {G : mG} {a0 : Array Value} {s0 : State} (Z : mZ l G a0 s0) (h0 : Hp) (x m : Nat) (q : Nat → Nat) (o o2 : Nat) (f : Nat → Int64) (g : Nat → UInt64) (st : Ms) (hJ : LJ G h0 x m q o o2 f g st st) (hk : Iv st) : mM l G s0 yX5_isConsistent cX5_isConsistent 5 (some .boolean) 4 93 0 0 h0 [.ref x] (fun v9 h9 => v9 = some (.int (nI 1)) ∧ LJ G h9 x m q o o2 f g (s_thr st (nI 0)) st) := by
  obtain ⟨A, tg, X, fd, tt, gr, hA, hC, hR, hW, ho, ho2, t1, t2, t3, t4, n1, n2, n3, n4, n5⟩ := hJ
  subst hA
  exact mM.mono (c_X5_isConsistent Z h0 A tg st X fd tt gr hC hk hR) (fun v9 h9 hv => ⟨hv.1, LJ.cls (X := X) (fd := fd) (tt := tt) (gr := gr) hW ho ho2 ⟨t1, t2, t3, t4⟩ ⟨n1, n2, n3, n4, n5⟩ (NW_thr hv.2 _)⟩)
theorem d_X6_isConsistent {l : Launch} {G : mG} {a0 : Array Value} {s0 : State} (Z : mZ l G a0 s0) (h0 : Hp) (x m : Nat) (q : Nat → Nat) (o o2 : Nat) (f : Nat → Int64) (g : Nat → UInt64) (S st : Ms) (hJ : LJ G h0 x m q o o2 f g S st) (hk : Iv st) : mM l G s0 yX6_isConsistent cX6_isConsistent 1 (some .boolean) 0 0 0 0 h0 [.ref m] (fun v9 h9 => v9 = some (.int (nI 1)) ∧ LJ G h9 x m q o o2 f g S (s_thr st (nI 0))) := mM.mono (c_X6_isConsistent Z h0 m q st hJ.mdl) (fun v9 h9 hv => ⟨hv.1, hJ.ref hv.2.1 hv.2.2⟩)
def sl (xs : Nat → Int32) (k : Nat) : Int64 := ((xs k).toInt64 <<< ((nI 32).toInt64 &&& 63)) ||| ((xs (k + 1)).toInt64 &&& lN 4294967295)
theorem f_cmp_ok : ∀ a : Nat, a < 11 → ∀ d : Nat, d < 11 → d ≠ 0 → Op.cmpValue (FP.dcmp (FP.f2d (FP.fdiv (FP.i2f (nI a)) (FP.i2f (nI d)))) (FP.f2d (FP.fdiv (FP.i2f (nI a)) (FP.i2f (nI d))))) .l = 0 := by decide +kernel
section
variable {p : Program} {l : Launch} {e : Env} {R : Room} {s : State} {m : MethodId} {args : Array Value} {below : List Frame} {meth : Method} {c : Code} {H H0 : Heap} {locs : List Loc} {cells slots : Nat} {Q : State → Prop} {A : Nat → Prop}
variable {cc : ByteArray} {pc : Nat} {ls : Array Slot} {rest : List Value} {b L i k : Nat} {xs : Nat → Int32} {n n2 : Int} {own : String} {j : Nat}
/-- a word of the script -/
theorem m_scr (hx : p.tables.exec = Jvm.exec) (hb : c.code = cc) (hX : va_X b L xs s H0) (hbl : b < H0.size) (hbA : ¬ A b) (hS : va_S A H0 H locs) (hL : L < 2 ^ 31) (hi : i + k < L) (hl0 : ls[0]? = some (.val (.ref b))) (hl5 : ls[5]? = some (.val (.int (nI i)))) (d0 : decode cc pc = .ok (.aload_n 0, 1)) (d1 : decode cc (pc + 1) = .ok (.iload 5, 2)) (d2 : decode cc (pc + 3) = .ok (.iconst n, 1)) (hn : Int32.ofInt n = nI k) (d3 : decode cc (pc + 4) = .ok (.iadd, 1)) (d4 : decode cc (pc + 5) = .ok (.iaload, 1))
    (kk : W p l e R s m args below meth c H locs cells slots Q (F0 m (pc + 6) ls (.int (xs (i + k)) :: rest))) : W p l e R s m args below meth c H locs cells slots Q (F0 m pc ls rest) := by
  refine lv_aload_n hx hb d0 rfl hl0 ?_
  refine lv_iload hx hb d1 hl5 ?_
  refine lv_iconst (v := nI k) hx hb d2 hn ?_
  refine n_iadd hx hb d3 ?_
  refine va_sld hx hb hX hbl hbA hS (vp_in_nI hi hL) d4 ?_
  rw [nI_clamp (Nat.lt_trans hi hL)]
  exact kk
/-- two words as a long -/
theorem m_scl (hx : p.tables.exec = Jvm.exec) (hb : c.code = cc) (hX : va_X b L xs s H0) (hbl : b < H0.size) (hbA : ¬ A b) (hS : va_S A H0 H locs) (hL : L < 2 ^ 31) (hi : i + k + 1 < L) (hl0 : ls[0]? = some (.val (.ref b))) (hl5 : ls[5]? = some (.val (.int (nI i)))) (hown : s.vm.findClass own = some m.cls) (hc : (Jvm.Cond.constantLong own j (lN 4294967295)).before args s = true)
    (d0 : decode cc pc = .ok (.aload_n 0, 1)) (d1 : decode cc (pc + 1) = .ok (.iload 5, 2)) (d2 : decode cc (pc + 3) = .ok (.iconst n, 1)) (hn : Int32.ofInt n = nI k) (d3 : decode cc (pc + 4) = .ok (.iadd, 1)) (d4 : decode cc (pc + 5) = .ok (.iaload, 1)) (d5 : decode cc (pc + 6) = .ok (.i2l, 1)) (d6 : decode cc (pc + 7) = .ok (.bipush 32, 2)) (d7 : decode cc (pc + 9) = .ok (.lshl, 1))
    (f0 : decode cc (pc + 10) = .ok (.aload_n 0, 1)) (f1 : decode cc (pc + 11) = .ok (.iload 5, 2)) (f2 : decode cc (pc + 13) = .ok (.iconst n2, 1)) (hn2 : Int32.ofInt n2 = nI (k + 1)) (f3 : decode cc (pc + 14) = .ok (.iadd, 1)) (f4 : decode cc (pc + 15) = .ok (.iaload, 1)) (f5 : decode cc (pc + 16) = .ok (.i2l, 1)) (f6 : decode cc (pc + 17) = .ok (.ldc2_w j, 3)) (f7 : decode cc (pc + 20) = .ok (.land, 1)) (f8 : decode cc (pc + 21) = .ok (.lor, 1))
    (kk : W p l e R s m args below meth c H locs cells slots Q (F0 m (pc + 22) ls (.long (sl xs (i + k)) :: rest))) : W p l e R s m args below meth c H locs cells slots Q (F0 m pc ls rest) := by
  refine m_scr hx hb hX hbl hbA hS hL (Nat.lt_of_succ_lt hi) hl0 hl5 d0 d1 d2 hn d3 d4 ?_
  refine lv_i2l hx hb d5 rfl ?_
  refine lv_bipush (v := nI 32) hx hb d6 (by decide) ?_
  refine lv_lshl hx hb d7 rfl ?_
  refine m_scr hx hb hX hbl hbA hS hL (k := k + 1) hi hl0 hl5 f0 f1 f2 hn2 f3 f4 ?_
  refine lv_i2l hx hb f5 rfl ?_
  refine lv_ldc2 (v := lN 4294967295) hx hb hown hc f6 ?_
  refine lv_land hx hb f7 ?_
  refine lv_lor hx hb f8 ?_
  exact kk
end
