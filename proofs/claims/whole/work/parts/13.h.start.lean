/-! THE START: what the Statement gives of it -/
theorem sa_prim {a0 : Array Value} {s : State} {ty : FieldType} (hp : ∀ cA : ClassId, va_RA s cA ty = (s.vm.findClass ("[" ++ ty.toString) = some cA)) (h : (Cond.arrayClass ty).before a0 s = true) : ∃ cA : ClassId, ArrOfT s cA ty ∧ va_RA s cA ty := by
  obtain ⟨c, k, comp, h1, h2, h3⟩ := Cond.arrayClass_spec h
  exact ⟨c, fun n z => ⟨(fun q hq => by cases hq), k, h2, comp, h3⟩, by rw [hp]; exact h1⟩
theorem sa_obj {a0 : Array Value} {s : State} {Cn : String} (h : (Cond.arrayOver (.object Cn)).before a0 s = true) : ∃ cA : ClassId, ArrOfT s cA (.object Cn) ∧ va_RA s cA (.object Cn) := by
  obtain ⟨comp, c, k, h1, -, h3, h4, h5⟩ := Cond.arrayOver_spec h
  exact ⟨c, fun n z => ⟨(fun q hq => by cases hq), k, h3, comp, h4⟩, k, comp, h3, h4, h1, h5⟩
theorem sa_arr {a0 : Array Value} {s : State} {t : FieldType} (h : (Cond.arrayOver (.array t)).before a0 s = true) : ∃ cA : ClassId, ArrOfT s cA (.array t) ∧ va_RA s cA (.array t) := by
  obtain ⟨comp, c, k, h1, h3, h4, h5⟩ := Cond.arrayOver_specA h
  exact ⟨c, fun n z => ⟨(fun q hq => by cases hq), k, h3, comp, h4⟩, h5⟩
theorem sa_str {a0 : Array Value} {s : State} {o t : String} {k : Nat} (h : (Cond.stringRef o k t).before a0 s = true) : ∃ a, vk_R o k t a s := by
  have hcur : ∃ cur, s.vm.findClass o = some cur := by
    have h1 := h
    simp only [Cond.before, Cond.holds, Cond.value] at h1
    cases hc : s.vm.findClass o with
    | none => simp [hc] at h1
    | some cur => exact ⟨cur, rfl⟩
  obtain ⟨cur, hcur⟩ := hcur
  obtain ⟨k9, cf, i, a, -, -, -, -, -, hev⟩ := Cond.stringRef_spec hcur h
  exact ⟨a, vk_R.of h hev⟩
theorem sa_ao2 : mIn' (.arrayOver (.object RX1)) := mIn'_of 315 (by decide +kernel)
theorem sa_ao3 : mIn' (.arrayOver (.object RX2)) := mIn'_of 96 (by decide +kernel)
theorem sa_l1 : mIn' (.laysStatic Bundle.tN "UNASSIGNED_STACK" Bundle.steD) := mIn'_of 245 (by decide +kernel)
theorem sa_l2 : mIn' (.laysStatic Bundle.tN "SUPPRESSED_SENTINEL" Bundle.listD) := mIn'_of 247 (by decide +kernel)
theorem sa_in : mIn' (.initialized Bundle.tN) := mIn'_of 72 (by decide +kernel)
def sa_5 (c0 c1 c2 c3 c4 c5 c6 : ClassId) : Nat → ClassId := fun k => match k with
  | 0 => c0 | 1 => c1 | 2 => c2 | 3 => c3 | 4 => c4 | 5 => c5 | _ => c6
def sa_6 (c0 c1 c2 c3 c4 c5 c6 : Nat → Nat) : Nat → Nat → Nat := fun k => match k with
  | 0 => c0 | 1 => c1 | 2 => c2 | 3 => c3 | 4 => c4 | 5 => c5 | _ => c6
theorem mZ_of {l : Launch} (hfl : l.stackTraces = false) {a0 : Array Value} {s : State} (hts : ∀ w ∈ lw_tbl, w.before a0 s = true) (hU : (Cond.isRef (.static Bundle.tN "UNASSIGNED_STACK" Bundle.steD)).before a0 s = true) (hN : (Cond.isRef (.static Bundle.tN "SUPPRESSED_SENTINEL" Bundle.listD)).before a0 s = true) : ∃ G : mG, mZ l G a0 s := by
  obtain ⟨c0, i0, k0⟩ := u_known (n := 4) hts (fun w hw => (K_X0.2.1 w hw).1) (hts _ ci_X0.1)
  obtain ⟨c1, i1, k1⟩ := u_known (n := 9) hts (fun w hw => (K_X1.2.1 w hw).1) (hts _ ci_X1.1)
  obtain ⟨c2, i2, k2⟩ := u_known (n := 9) hts (fun w hw => (K_X2.2.1 w hw).1) (hts _ ci_X2.1)
  obtain ⟨c3, i3, k3⟩ := u_known (n := 4) hts (fun w hw => (K_X3.2.1 w hw).1) (hts _ ci_X3.1)
  obtain ⟨c4, i4, k4⟩ := u_known (n := 3) hts (fun w hw => (K_X4.2.1 w hw).1) (hts _ ci_X4.1)
  obtain ⟨c5, i5, k5⟩ := u_known (n := 4) hts (fun w hw => (K_X5.2.1 w hw).1) (hts _ ci_X5.1)
  obtain ⟨c6, i6, k6⟩ := u_known (n := 17) hts (fun w hw => (K_X6.2.1 w hw).1) (hts _ ci_X6.1)
  obtain ⟨d0, r0⟩ := sa_prim (ty := .int) (fun _ => rfl) (hts _ wa_int.1)
  obtain ⟨d1, r1⟩ := sa_prim (ty := .long) (fun _ => rfl) (hts _ wa_long.1)
  obtain ⟨d2, r2⟩ := sa_obj (hts _ sa_ao2)
  obtain ⟨d3, r3⟩ := sa_obj (hts _ sa_ao3)
  obtain ⟨d4, r4⟩ := sa_arr (hts _ wo_ii)
  obtain ⟨d5, r5⟩ := sa_prim (ty := .double) (fun _ => rfl) (hts _ wa_double.1)
  refine ⟨((sa_5 c0 c1 c2 c3 c4 c5 c6, sa_6 i0 i1 i2 i3 i4 i5 i6), sa_5 d0 d1 d2 d3 d4 d5 d5), hts, ⟨?_, ?_⟩, hfl, ⟨?_, ?_⟩, fun o k t w => sa_str (hts _ w), fun a b h => va_Nc.of h⟩
  · intro k q hq
    match k, hq with
    | 0, hq => cases hq; exact k0
    | 1, hq => cases hq; exact k1
    | 2, hq => cases hq; exact k2
    | 3, hq => cases hq; exact k3
    | 4, hq => cases hq; exact k4
    | 5, hq => cases hq; exact k5
    | 6, hq => cases hq; exact k6
    | k + 7, hq => simp [mCl] at hq
  · intro k q hq
    match k, hq with
    | 0, hq => cases hq; exact r0
    | 1, hq => cases hq; exact r1
    | 2, hq => cases hq; exact r2
    | 3, hq => cases hq; exact r3
    | 4, hq => cases hq; exact r4
    | 5, hq => cases hq; exact r5
    | k + 6, hq => simp [mTy] at hq
  · exact vx_Zqof (hts _ sa_l1) (hts _ sa_in) hU (fun a h => Nat.not_le.mpr h)
  · exact vx_Zqof (hts _ sa_l2) (hts _ sa_in) hN (fun a h => Nat.not_le.mpr h)
/-- the store as it is made -/
theorem CW_start {G : mG} {h : Hp} {x r t : Nat} {X : Nat → Xs} (hx : hat h x (eO 5 [.ref r, .ref t, .int (nI 0), .long (lN 0)])) (hr : hat h r (eS G 10 (fun _ => none))) (ht : hat h t (eO 4 [.int 0, .long 0, .int 0])) : ∃ (A : Cd → Nat) (tg : Nat → Cd), A (cd 0 1 0) = x ∧ CW h A tg (clS G A 0 0 X 0 (lN 0) (nI 0)) ∧ ∀ a : Nat, a ≠ x → a ≠ r → a ≠ t → tg a = cd 0 0 0 := by
  have n1 : x ≠ r := hat_ne hx hr rfl
  have n2 : x ≠ t := hat_ne hx ht rfl
  have n3 : r ≠ t := hat_ne hr ht rfl
  obtain ⟨A, a1, a2, a3⟩ : ∃ A : Cd → Nat, A (cd 0 1 0) = x ∧ A (cd 0 2 0) = r ∧ A (cd 0 3 0) = t := ⟨fun y => if y = cd 0 1 0 then x else if y = cd 0 2 0 then r else t, if_pos rfl, (if_neg (by decide)).trans (if_pos rfl), (if_neg (by decide)).trans (if_neg (by decide))⟩
  obtain ⟨tg, t1, t2, t3, t4⟩ : ∃ tg : Nat → Cd, tg x = cd 0 1 0 ∧ tg r = cd 0 2 0 ∧ tg t = cd 0 3 0 ∧ ∀ a : Nat, a ≠ x → a ≠ r → a ≠ t → tg a = cd 0 0 0 := ⟨fun a => if a = x then cd 0 1 0 else if a = r then cd 0 2 0 else if a = t then cd 0 3 0 else cd 0 0 0, if_pos rfl, (if_neg n1.symm).trans (if_pos rfl), (if_neg n2.symm).trans ((if_neg n3.symm).trans (if_pos rfl)), fun a m1 m2 m3 => (if_neg m1).trans ((if_neg m2).trans (if_neg m3))⟩
  refine ⟨A, tg, a1, ?_, t4⟩
  intro y e hy
  unfold clS at hy
  by_cases q0 : y.1 = 0
  · rw [if_pos q0] at hy
    by_cases q1 : y.2 = (1, 0)
    · have q : y = cd 0 1 0 := Prod.ext q0 q1
      rw [if_pos q1] at hy
      cases hy
      rw [q, a1, a2, a3]
      exact ⟨hx, t1⟩
    · rw [if_neg q1] at hy
      by_cases q2 : y.2 = (2, 0)
      · have q : y = cd 0 2 0 := Prod.ext q0 q2
        rw [if_pos q2] at hy
        cases hy
        have e0 : rwL A 0 = fun _ => none := funext fun i => if_neg (Nat.not_lt_zero i)
        rw [q, a2, e0]
        exact ⟨hr, t2⟩
      · rw [if_neg q2] at hy
        by_cases q3 : y.2 = (3, 0)
        · have q : y = cd 0 3 0 := Prod.ext q0 q3
          rw [if_pos q3] at hy
          cases hy
          rw [q, a3]
          exact ⟨ht, t3⟩
        · rw [if_neg q3] at hy
          cases hy
  · rw [if_neg q0, if_neg (by omega)] at hy
    cases hy
def s_st : Ms := (nI 0, 0, 0, fun _ => 0, fun _ => 0, fun _ => 0, fun _ => 0, fun _ => 0, fun _ => 0, fun _ => 0, fun _ => 0, fun _ => 0, fun _ => 0, fun _ => 0, fun _ => 0, fun _ => 0, fun _ => 0)
theorem sa_z : ∀ y : Nat, y < 6 → 0 = SZ 0 y ∧ 0 = HV 0 y := by decide
theorem Iv_st : Iv s_st := by
  refine ⟨⟨Nat.zero_le _, by decide, fun z hz => absurd hz (Nat.not_lt_zero z)⟩, fun k hk => ⟨Nat.zero_le _, (by show 0 = BD 0; decide), fun y hy => ?_, fun _ => ⟨rfl, rfl, rfl⟩⟩⟩
  show 0 = SZ 0 y ∧ 0 = HV 0 y
  exact sa_z y hy
def sq (q1 q2 q3 q4 q5 q6 q7 q8 q9 q10 q11 q12 q13 q14 : Nat) : Nat → Nat := fun i => match i with
  | 3 => q1 | 4 => q2 | 5 => q3 | 6 => q4 | 7 => q5 | 8 => q6 | 9 => q7 | 10 => q8 | 11 => q9 | 12 => q10 | 13 => q11 | 14 => q12 | 15 => q13 | _ => q14
theorem tsw (y : Int32) : (y.toInt < 0 ∨ 36 < y.toInt) ∨ ∃ j : Nat, j < 37 ∧ y.toInt = (j : Int) := by
  by_cases h : y.toInt < 0 ∨ 36 < y.toInt
  · exact Or.inl h
  · exact Or.inr ⟨y.toInt.toNat, by omega, by omega⟩
theorem lp_in {L i : Nat} (hL : L ≤ 3072) (hi : i ≤ L) (z : ¬ (Int32.ofNat L - nI 6) < nI i) : i + 6 ≤ L := by
  have h1 : (nI L - nI 6).toInt = (L : Int) - 6 := by rw [fb_subI] <;> rw [kt (by omega), kt (by omega)] <;> omega
  have z2 : ¬ (nI L - nI 6) < nI i := z
  rw [Int32.lt_iff_toInt_lt, h1, kt (by omega)] at z2
  omega
