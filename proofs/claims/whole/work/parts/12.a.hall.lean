/-! THE WHOLE CLASS: the store, its rows, its totals, its series -/
def rwL (A : Cd → Nat) (N : Nat) : Nat → Option Nat := fun i => if i < N then some (A (cd (i + 1) 0 0)) else none
theorem rwL_at {A : Cd → Nat} {N i : Nat} (h : i < N) : va_rf (rwL A N i) = .ref (A (cd (i + 1) 0 0)) := by unfold rwL; rw [if_pos h]; rfl
theorem rwL_no {A : Cd → Nat} {N i : Nat} (h : ¬ i < N) : va_rf (rwL A N i) = .null := by unfold rwL; rw [if_neg h]; rfl
def clS (G : mG) (A : Cd → Nat) (N t : Nat) (X : Nat → Xs) (fd : Nat) (tt : Int64) (gr : Int32) : Cd → Option va_E := fun x =>
  if x.1 = 0 then
    if x.2 = (1, 0) then some (eO 5 [.ref (A (cd 0 2 0)), .ref (A (cd 0 3 0)), .int (nI N), .long (lN t)])
    else if x.2 = (2, 0) then some (eS G 10 (rwL A N))
    else if x.2 = (3, 0) then some (eO 4 [.int (nI fd), .long tt, .int gr])
    else none
  else if x.1 ≤ N then srC G A (x.1 - 1) (X (x.1 - 1)) x.2 else none
section
variable {G : mG} {A : Cd → Nat} {N t : Nat} {X : Nat → Xs} {fd : Nat} {tt : Int64} {gr : Int32} {k : Nat} {Xk : Xs}
theorem clS_h : clS G A N t X fd tt gr (cd 0 1 0) = some (eO 5 [.ref (A (cd 0 2 0)), .ref (A (cd 0 3 0)), .int (nI N), .long (lN t)]) := by simp [clS, cd]
theorem clS_r : clS G A N t X fd tt gr (cd 0 2 0) = some (eS G 10 (rwL A N)) := by simp [clS, cd]
theorem clS_t : clS G A N t X fd tt gr (cd 0 3 0) = some (eO 4 [.int (nI fd), .long tt, .int gr]) := by simp [clS, cd]
theorem clS_0 : clS G A N t X fd tt gr (cd 0 0 0) = none := by simp [clS, cd]
theorem clS_sr (hk : k < N) (hX : X k = Xk) : srS G A (clS G A N t X fd tt gr) k Xk = clS G A N t X fd tt gr := by
  funext x
  unfold srS
  by_cases q : x.1 = k + 1
  · rw [if_pos q]
    unfold clS
    rw [if_neg (by omega), if_pos (by omega), show x.1 - 1 = k by omega, hX]
  · rw [if_neg q]
theorem clS_at (hk : k < N) (hX : X k = Xk) {x : Cd} {e : va_E} (h : srS G A (clS G A N t X fd tt gr) k Xk x = some e) : clS G A N t X fd tt gr x = some e := by
  rw [clS_sr hk hX] at h
  exact h
/-- the alert's cell, there or not -/
theorem clS_13 (hk : k < N) (hX : X k = Xk) : clS G A N t X fd tt gr (cd (k + 1) 13 0) = x_ac Xk.2.2.2.2.2.2 := by
  rw [← clS_sr hk hX]
  exact srS_13
theorem clS_p3 {fd2 : Nat} {tt2 : Int64} {gr2 : Int32} : up3 (clS G A N t X fd tt gr) (cd 0 3 0) (some (eO 4 [.int (nI fd2), .long tt2, .int gr2])) = clS G A N t X fd2 tt2 gr2 := by
  funext x
  by_cases q : x = cd 0 3 0
  · rw [q, up3_self, clS_t]
  · rw [up3_ne _ _ q]
    unfold clS
    by_cases q1 : x.1 = 0
    · have q2 : x.2 ≠ (3, 0) := fun r => q (Prod.ext q1 r)
      rw [if_pos q1, if_pos q1, if_neg q2, if_neg q2]
    · rw [if_neg q1, if_neg q1]
theorem clS_p1 {t2 : Nat} : up3 (clS G A N t X fd tt gr) (cd 0 1 0) (some (eO 5 [.ref (A (cd 0 2 0)), .ref (A (cd 0 3 0)), .int (nI N), .long (lN t2)])) = clS G A N t2 X fd tt gr := by
  funext x
  by_cases q : x = cd 0 1 0
  · rw [q, up3_self, clS_h]
  · rw [up3_ne _ _ q]
    unfold clS
    by_cases q1 : x.1 = 0
    · have q2 : x.2 ≠ (1, 0) := fun r => q (Prod.ext q1 r)
      rw [if_pos q1, if_pos q1, if_neg q2, if_neg q2]
    · rw [if_neg q1, if_neg q1]
theorem clS_sk {nm ho : Int32} {n : Nat} {T : Nat → Nat} {U : Nat → Int32} {F : Nat → Nat → Int32} {z v : Nat → Nat} {d : Nat} {al : Xa} (hk : k < N) (hX : X k = (nm, ho, n, T, U, (F, z, v, d), al)) : skS G A (clS G A N t X fd tt gr) k F z v d = clS G A N t X fd tt gr :=
  skS_id (clS_at hk hX srS_5) (clS_at hk hX srS_6) (clS_at hk hX srS_8) (clS_at hk hX srS_9) (fun _ hi => clS_at hk hX (srS_7 hi))
/-- one series changes, under addresses that are the old ones but for that series -/
theorem clS_srS {A9 : Cd → Nat} {Xn : Xs} (hk : k < N) (e : ∀ y : Cd, y.1 ≠ k + 1 → A9 y = A y) (e0 : A9 (cd (k + 1) 0 0) = A (cd (k + 1) 0 0)) : srS G A9 (clS G A N t X fd tt gr) k Xn = clS G A9 N t (va_up X k Xn) fd tt gr := by
  funext x
  unfold srS clS
  have e1 : ∀ r j : Nat, A9 (cd 0 r j) = A (cd 0 r j) := fun r j => e _ (by show 0 ≠ k + 1; omega)
  have er : rwL A9 N = rwL A N := by
    funext i
    unfold rwL
    by_cases q : i = k
    · rw [q, e0]
    · rw [e (cd (i + 1) 0 0) (fun z => q (by have : i + 1 = k + 1 := z; omega))]
  by_cases q : x.1 = k + 1
  · rw [if_pos q, if_neg (by omega), if_pos (by omega), show x.1 - 1 = k by omega, va_up_self]
  · rw [if_neg q]
    by_cases q1 : x.1 = 0
    · rw [if_pos q1, if_pos q1, e1, e1, er]
    · rw [if_neg q1, if_neg q1]
      by_cases q2 : x.1 ≤ N
      · rw [if_pos q2, if_pos q2, va_up_ne _ _ (show x.1 - 1 ≠ k by omega)]
        rw [srC_A (A := A) (A9 := A9) (k := x.1 - 1) (X := X (x.1 - 1)) (fun r j _ => e _ (by show x.1 - 1 + 1 ≠ k + 1; omega))]
      · rw [if_neg q2, if_neg q2]
end
/-! what ties the class to the reference's state -/
def Ra (st : Ms) (k : Nat) : Xa → Prop
  | none => st_ha st k = nI 0
  | some (li, wa, on, si) => st_ha st k = nI 1 ∧ li = st_li st k ∧ wa = st_wa st k ∧ on = st_on st k ∧ (¬ on = nI 0 → si = lN (st_si st k)) ∧ (on = nI 0 ∨ on = nI 1)
def Ri (st : Ms) (k : Nat) (T : Nat → Nat) (U : Nat → Int32) (F : Nat → Nat → Int32) (al : Xa) : Prop :=
  (∀ i : Nat, i < st_n st k → T i = st_T st (120 * k + i)) ∧ (∀ i : Nat, i < st_n st k → U i = st_V st (120 * k + i)) ∧ Hd Vr U (st_n st k)
  ∧ Rw Vr (F, SZ (st_n st k), HV (st_n st k), BD (st_n st k)) ∧ Er (F, SZ (st_n st k), HV (st_n st k), BD (st_n st k)) (fun x => ctl U x (st_n st k))
  ∧ (∀ y : Nat, y < 5 → ∀ i : Nat, i < SZ (st_n st k) y → F y i = st_sk st (8 * (6 * k + y) + i)) ∧ Ra st k al
def Rx (st : Ms) (k : Nat) (X : Xs) : Prop := ∃ (T : Nat → Nat) (U : Nat → Int32) (F : Nat → Nat → Int32) (al : Xa), X = (st_nm st k, st_ho st k, st_n st k, T, U, (F, SZ (st_n st k), HV (st_n st k), BD (st_n st k)), al) ∧ Ri st k T U F al
/-- what the reference's state keeps -/
def Iv (st : Ms) : Prop := Mok st ∧ ∀ k : Nat, k < 10 → st_n st k ≤ 120 ∧ st_bd st k = BD (st_n st k) ∧ (∀ y : Nat, y < 6 → st_sz st (6 * k + y) = SZ (st_n st k) y ∧ st_hv st (6 * k + y) = HV (st_n st k) y) ∧ (st_many st ≤ k → st_n st k = 0 ∧ st_ha st k = nI 0 ∧ st_si st k = 0)
/-- the class's world behind a call -/
def NW (G : mG) (h0 h9 : Hp) (A : Cd → Nat) (tg : Nat → Cd) (st : Ms) : Prop := ∃ (A9 : Cd → Nat) (tg9 : Nat → Cd) (X9 : Nat → Xs) (fd9 : Nat) (tt9 : Int64) (gr9 : Int32), A9 (cd 0 1 0) = A (cd 0 1 0) ∧ CW h9 A9 tg9 (clS G A9 (st_many st) (st_now st) X9 fd9 tt9 gr9) ∧ cFr h0 tg h9 tg9 ∧ ∀ k : Nat, k < st_many st → Rx st k (X9 k)
section
variable {st : Ms} {k : Nat}
theorem Iv.mok (hI : Iv st) : Mok st := hI.1
theorem Iv.m10 (hI : Iv st) : st_many st ≤ 10 := hI.1.1
theorem Iv.now (hI : Iv st) : st_now st < 1073741824 := hI.1.2.1
theorem Iv.n (hI : Iv st) (hk : k < st_many st) : st_n st k ≤ 120 := (hI.2 k (by have := hI.1.1; omega)).1
theorem Iv.T (hI : Iv st) (hk : k < st_many st) {i : Nat} (hi : i < st_n st k) : st_T st (120 * k + i) < 1073741824 := by
  have h1 := (hI.1.2.2 k hk).2.1 i hi
  have h2 := hI.1.2.1
  omega
end
/-- an int is a number below N, or none -/
theorem ix_lt {x : Int32} {N : Nat} (h1 : ¬ x < 0) (h2 : ¬ nI N ≤ x) (hN : N < 1000000) : ∃ k : Nat, k < N ∧ x = nI k := by
  obtain ⟨j, hj, rfl⟩ := nI_of h1
  refine ⟨j, ?_, rfl⟩
  rw [nI_leI (by omega) hj] at h2
  omega
theorem ix_neg {x : Int32} {N : Nat} (h : x < 0) (hN : N < 1000000) : ∀ k : Nat, k < N → x ≠ nI k := fun k hk q => by
  rw [q] at h
  exact nI_pos (by omega) h
theorem ix_ge {x : Int32} {M N : Nat} (h : nI M ≤ x) (hM : M < 1000000) (hN : N ≤ M) : ∀ k : Nat, k < N → x ≠ nI k := fun k hk q => by
  rw [q, nI_leI (by omega) (by omega)] at h
  omega
theorem ix_ne {k N : Nat} (h : ¬ k < N) (hk : k < 1000000) (hN : N < 1000000) : ∀ j : Nat, j < N → nI k ≠ nI j := fun j hj q => by
  rw [nI_eq (by omega) (by omega)] at q
  omega
theorem lab_ge {x : Int32} (h : nI 10 ≤ x) : ¬ x ≤ nI 9 := fun q => by
  have h1 := i_tr h q
  exact absurd ((nI_leI (by decide) (by decide)).mp h1) (by decide)
theorem lab_lt {x : Int32} (h : ¬ nI 10 ≤ x) : x ≤ nI 9 := by
  have h1 : (nI 10).toInt = 10 := kt (by decide)
  have h2 : (nI 9).toInt = 9 := kt (by decide)
  rw [Int32.le_iff_toInt_le, h1] at h
  rw [Int32.le_iff_toInt_le, h2]
  omega
