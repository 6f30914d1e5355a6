/-! the other changes of state -/
theorem Iv_thr {st : Ms} (hk : Iv st) (t : Int32) : Iv (s_thr st t) := hk
theorem Rx_thr {st : Ms} {j : Nat} {X : Xs} (h : Rx st j X) (t : Int32) : Rx (s_thr st t) j X := h
theorem Iv_pass {st : Ms} (hk : Iv st) (d : Nat) (h : st_now st + d < 1073741824) : Iv (s_pass st d) :=
  Iv_mk hk.1.1 h (fun _ hz i hi => Nat.le_trans (hk.Tn hz i hi) (Nat.le_add_right _ _)) (fun _ hz => Nat.le_trans (hk.si hz) (Nat.le_add_right _ _)) hk.2
theorem Rx_pass {st : Ms} {j : Nat} {X : Xs} (h : Rx st j X) (d : Nat) : Rx (s_pass st d) j X := h
theorem Iv_open {st : Ms} (hk : Iv st) (h : st_many st < 10) (a d : Int32) : Iv (s_open st a d) := by
  refine Iv_mk (show st_many st + 1 ≤ 10 by omega) hk.1.2.1 (fun z hz i hi => ?_) (fun z hz => ?_) (fun z hz => ?_)
  · replace hz : z < st_many st + 1 := hz
    rcases Nat.lt_or_ge z (st_many st) with q | q
    · exact hk.Tn q i hi
    · replace hi : i < st_n st z := hi
      rw [((hk.2 z (by omega)).2.2.2 q).1] at hi
      exact absurd hi (Nat.not_lt_zero i)
  · replace hz : z < st_many st + 1 := hz
    show st_si st z ≤ st_now st
    rcases Nat.lt_or_ge z (st_many st) with q | q
    · exact hk.si q
    · rw [((hk.2 z (by omega)).2.2.2 q).2.2]
      exact Nat.zero_le _
  · obtain ⟨h1, h2, h3, h4⟩ := hk.2 z hz
    exact ⟨h1, h2, h3, fun q => h4 (by replace q : st_many st + 1 ≤ z := q; omega)⟩
theorem SZ_0 : SZ 0 = fun _ => 0 := by
  funext y
  unfold SZ
  split
  · rfl
  · split
    · rw [Nat.zero_div]
    · rfl
theorem HV_0 : HV 0 = fun _ => 0 := by
  funext y
  unfold HV
  rw [Nat.zero_div]
theorem wt_none (F : Nat → Nat → Int32) (x : Int32) (m : Nat) : k_wt F (SZ 0) x m = 0 := wt_0 m (fun y _ => by rw [SZ_0]; exact ctl_0 _ _)
abbrev X_new (a d : Int32) : Xs := (a, d, 0, fun _ => 0, fun _ => 0, (fun _ _ => 0, SZ 0, HV 0, BD 0), none)
theorem Rx_open {st : Ms} {X : Nat → Xs} (hk : Iv st) (hR : ∀ j : Nat, j < st_many st → Rx st j (X j)) (h : st_many st < 10) (a d : Int32) : ∀ j : Nat, j < st_many (s_open st a d) → Rx (s_open st a d) j (va_up X (st_many st) (X_new a d) j) := by
  intro j hj
  replace hj : j < st_many st + 1 := hj
  rcases Nat.lt_or_ge j (st_many st) with q | q
  · rw [va_up_ne _ _ (by omega)]
    exact Rx_keep (hk.n q) (va_up_ne _ _ (by omega)) (va_up_ne _ _ (by omega)) rfl (fun _ _ => rfl) (fun _ _ => rfl) (fun _ _ _ _ => rfl) rfl rfl rfl rfl rfl (hR j q)
  · have e : j = st_many st := by omega
    subst e
    rw [va_up_self]
    obtain ⟨h1, h2, h3, h4⟩ := hk.2 (st_many st) h
    obtain ⟨g1, g2, g3⟩ := h4 (Nat.le_refl _)
    have en : st_n (s_open st a d) (st_many st) = 0 := g1
    refine ⟨fun _ => 0, fun _ => 0, fun _ _ => 0, none, ?_, ?_⟩
    · rw [en]
      show X_new a d = (va_up (st_nm st) (st_many st) a (st_many st), va_up (st_ho st) (st_many st) d (st_many st), _)
      rw [va_up_self, va_up_self]
    · unfold Ri
      rw [en]
      refine ⟨fun i hi => absurd hi (Nat.not_lt_zero i), fun i hi => absurd hi (Nat.not_lt_zero i), fun i hi => absurd hi (Nat.not_lt_zero i), fun y hy i hi => ?_, fun x => ?_, fun y hy i hi => ?_, g2⟩
      · replace hi : i < SZ 0 y := hi
        rw [SZ_0] at hi
        exact absurd hi (Nat.not_lt_zero i)
      · show k_wt _ (SZ 0) x 5 ≤ ctl _ x 0 + BD 0 ∧ ctl _ x 0 ≤ k_wt _ (SZ 0) x 5 + BD 0
        rw [wt_none, ctl_0]
        exact ⟨Nat.zero_le _, Nat.zero_le _⟩
      · rw [SZ_0] at hi
        exact absurd hi (Nat.not_lt_zero i)
theorem Iv_al {st : Ms} (hk : Iv st) {k : Nat} (h : k < st_many st) (a w : Int32) : Iv (s_al st k a w) := by
  refine Iv_mk hk.1.1 hk.1.2.1 (fun z hz i hi => hk.Tn hz i hi) (fun z hz => ?_) (fun z hz => ?_)
  · show va_up (st_si st) k (st_now st) z ≤ st_now st
    by_cases q : z = k
    · rw [q, va_up_self]
      exact Nat.le_refl _
    · rw [va_up_ne _ _ q]
      exact hk.si hz
  · obtain ⟨h1, h2, h3, h4⟩ := hk.2 z hz
    refine ⟨h1, h2, h3, fun q => ?_⟩
    replace q : st_many st ≤ z := q
    show st_n st z = 0 ∧ va_up (st_ha st) k (nI 1) z = nI 0 ∧ va_up (st_si st) k (st_now st) z = 0
    rw [va_up_ne _ _ (by omega), va_up_ne _ _ (by omega)]
    exact h4 q
theorem Iv_ra {st : Ms} (hk : Iv st) {k : Nat} (h : k < st_many st) : Iv (s_ra st k) := by
  refine Iv_mk hk.1.1 hk.1.2.1 (fun z hz i hi => hk.Tn hz i hi) (fun z hz => hk.si hz) (fun z hz => ?_)
  obtain ⟨h1, h2, h3, h4⟩ := hk.2 z hz
  refine ⟨h1, h2, h3, fun q => ?_⟩
  replace q : st_many st ≤ z := q
  show st_n st z = 0 ∧ va_up (st_ha st) k (nI 0) z = nI 0 ∧ st_si st z = 0
  rw [va_up_ne _ _ (by omega)]
  exact h4 q
section
variable {st : Ms} {k : Nat} {T : Nat → Nat} {U : Nat → Int32} {F : Nat → Nat → Int32} {al : Xa} {X : Nat → Xs}
/-- the alert that is set -/
def x_set (st : Ms) (k : Nat) (U : Nat → Int32) (a w : Int32) : Int32 × Int32 × Int32 × Int64 := if 0 < st_n st k ∧ a < U (st_n st k - 1) then (a, w, nI 1, lN (st_now st)) else (a, w, nI 0, lN 0)
theorem x_set_t {a w : Int32} (h : 0 < st_n st k ∧ a < U (st_n st k - 1)) : x_set st k U a w = (a, w, nI 1, lN (st_now st)) := if_pos h
theorem x_set_f {a w : Int32} (h : ¬ (0 < st_n st k ∧ a < U (st_n st k - 1))) : x_set st k U a w = (a, w, nI 0, lN 0) := if_neg h
theorem Ri_other {s2 : Ms} {al2 : Xa} (e1 : st_n s2 = st_n st) (e2 : st_T s2 = st_T st) (e3 : st_V s2 = st_V st) (e4 : st_sk s2 = st_sk st) (h : Ri st k T U F al) (ha : Ra s2 k al2) : Ri s2 k T U F al2 := by
  obtain ⟨h1, h2, h3, h4, h5, h6, h7⟩ := h
  unfold Ri
  rw [e1, e2, e3, e4]
  exact ⟨h1, h2, h3, h4, h5, h6, ha⟩
theorem Ra_al (hi : Ri st k T U F al) (a w : Int32) : Ra (s_al st k a w) k (some (x_set st k U a w)) := by
  have e1 : st_ha (s_al st k a w) k = nI 1 := va_up_self _ _ _
  have e2 : st_li (s_al st k a w) k = a := va_up_self _ _ _
  have e3 : st_wa (s_al st k a w) k = w := va_up_self _ _ _
  have e4 : st_on (s_al st k a w) k = if 0 < st_n st k ∧ a < z_la st k then nI 1 else nI 0 := va_up_self _ _ _
  have e5 : st_si (s_al st k a w) k = st_now st := va_up_self _ _ _
  by_cases q : 0 < st_n st k ∧ a < U (st_n st k - 1)
  · have eu : U (st_n st k - 1) = z_la st k := hi.2.1 _ (by omega)
    rw [x_set_t q]
    rw [if_pos ⟨q.1, by rw [← eu]; exact q.2⟩] at e4
    exact ⟨e1, e2.symm, e3.symm, e4.symm, fun _ => by rw [e5], Or.inr rfl⟩
  · rw [x_set_f q]
    have q2 : ¬ (0 < st_n st k ∧ a < z_la st k) := fun z => q ⟨z.1, by rw [hi.2.1 _ (by omega)]; exact z.2⟩
    rw [if_neg q2] at e4
    exact ⟨e1, e2.symm, e3.symm, e4.symm, fun z => absurd rfl z, Or.inl rfl⟩
theorem Rx_al (hk : Iv st) (hR : ∀ j : Nat, j < st_many st → Rx st j (X j)) (h : k < st_many st) (hi : Ri st k T U F al) (a w : Int32) : ∀ j : Nat, j < st_many (s_al st k a w) → Rx (s_al st k a w) j (va_up X k (st_nm st k, st_ho st k, st_n st k, T, U, (F, SZ (st_n st k), HV (st_n st k), BD (st_n st k)), some (x_set st k U a w)) j) := by
  intro j hj
  replace hj : j < st_many st := hj
  by_cases q : j = k
  · subst q
    rw [va_up_self]
    exact ⟨T, U, F, some (x_set st j U a w), rfl, Ri_other (st := st) (s2 := s_al st j a w) rfl rfl rfl rfl hi (Ra_al hi a w)⟩
  · rw [va_up_ne _ _ q]
    exact Rx_keep (hk.n hj) rfl rfl rfl (fun _ _ => rfl) (fun _ _ => rfl) (fun _ _ _ _ => rfl) (va_up_ne _ _ q) (va_up_ne _ _ q) (va_up_ne _ _ q) (va_up_ne _ _ q) (va_up_ne _ _ q) (hR j hj)
theorem Rx_ra (hk : Iv st) (hR : ∀ j : Nat, j < st_many st → Rx st j (X j)) (h : k < st_many st) (hi : Ri st k T U F al) : ∀ j : Nat, j < st_many (s_ra st k) → Rx (s_ra st k) j (va_up X k (st_nm st k, st_ho st k, st_n st k, T, U, (F, SZ (st_n st k), HV (st_n st k), BD (st_n st k)), none) j) := by
  intro j hj
  replace hj : j < st_many st := hj
  by_cases q : j = k
  · subst q
    rw [va_up_self]
    exact ⟨T, U, F, none, rfl, Ri_other (st := st) (s2 := s_ra st j) rfl rfl rfl rfl hi (show st_ha (s_ra st j) j = nI 0 from va_up_self _ _ _)⟩
  · rw [va_up_ne _ _ q]
    exact Rx_keep (hk.n hj) rfl rfl rfl (fun _ _ => rfl) (fun _ _ => rfl) (fun _ _ _ _ => rfl) (va_up_ne _ _ q) rfl rfl (va_up_ne _ _ q) rfl (hR j hj)
end
/-! the class's world under a new alert, without one, with a new series -/
section
variable {G : mG} {A A9 : Cd → Nat} {N t : Nat} {X : Nat → Xs} {fd : Nat} {tt : Int64} {gr : Int32} {k : Nat} {nm ho : Int32} {n : Nat} {T : Nat → Nat} {U : Nat → Int32} {K : Ks} {al al2 : Xa}
theorem srC_ne {y : Nat × Nat} (h0 : y ≠ (0, 0)) (h13 : y ≠ (13, 0)) (e : ∀ r j : Nat, r ≠ 13 → A9 (cd (k + 1) r j) = A (cd (k + 1) r j)) : srC G A9 k (nm, ho, n, T, U, K, al2) y = srC G A k (nm, ho, n, T, U, K, al) y := by
  have hsk : skL A9 k = skL A k := by funext i; unfold skL; rw [e 7 i (by decide)]
  have hch : chL A9 k (x_nb n) = chL A k (x_nb n) := by
    funext i
    unfold chL
    rw [e 14 i (by decide)]
  have hbo : ∀ j, x_bo A9 k T U n j = x_bo A k T U n j := by
    intro j
    unfold x_bo
    rw [e 15 j (by decide), e 16 j (by decide)]
  unfold srC
  rw [if_neg h0, if_neg h0, if_neg h13, if_neg h13]
  show (if y = (1, 0) then _ else _) = (if y = (1, 0) then _ else _)
  rw [e 6 0 (by decide), e 8 0 (by decide), e 9 0 (by decide), hsk, hch, hbo]
theorem clS_A (e : ∀ y : Cd, y.1 ≠ k + 1 → A9 y = A y) (e0 : k < N → A9 (cd (k + 1) 0 0) = A (cd (k + 1) 0 0)) {x : Cd} (hx : x.1 ≠ k + 1) : clS G A9 N t X fd tt gr x = clS G A N t X fd tt gr x := by
  unfold clS
  by_cases q1 : x.1 = 0
  · have er : rwL A9 N = rwL A N := by
      funext i
      unfold rwL
      by_cases q : i < N
      · rw [if_pos q, if_pos q]
        by_cases r : i = k
        · rw [r, e0 (by omega)]
        · rw [e (cd (i + 1) 0 0) (by show i + 1 ≠ k + 1; omega)]
      · rw [if_neg q, if_neg q]
    rw [if_pos q1, if_pos q1, er, e (cd 0 2 0) (by show 0 ≠ k + 1; omega), e (cd 0 3 0) (by show 0 ≠ k + 1; omega)]
  · rw [if_neg q1, if_neg q1]
    by_cases q2 : x.1 ≤ N
    · rw [if_pos q2, if_pos q2, srC_A (A := A) (A9 := A9) (k := x.1 - 1) (X := X (x.1 - 1)) (fun r j _ => e _ (by show x.1 - 1 + 1 ≠ k + 1; omega))]
    · rw [if_neg q2, if_neg q2]
theorem clS_X {Xn : Xs} {x : Cd} (hx : x.1 ≠ k + 1) : clS G A N t (va_up X k Xn) fd tt gr x = clS G A N t X fd tt gr x := by
  unfold clS
  by_cases q1 : x.1 = 0
  · rw [if_pos q1, if_pos q1]
  · rw [if_neg q1, if_neg q1, va_up_ne _ _ (show x.1 - 1 ≠ k by omega)]
theorem clS_al (hk : k < N) (hX : X k = (nm, ho, n, T, U, K, al)) (e : ∀ y : Cd, y ≠ cd (k + 1) 13 0 → A9 y = A y) (a2 : Int32 × Int32 × Int32 × Int64) : up3 (clS G A N t X fd tt gr) (cd (k + 1) 13 0) (x_ac (some a2)) = up3 (clS G A9 N t (va_up X k (nm, ho, n, T, U, K, some a2)) fd tt gr) (cd (k + 1) 0 0) (some (eO 2 [.int nm, .int ho, .ref (A9 (cd (k + 1) 1 0)), .ref (A9 (cd (k + 1) 2 0)), .ref (A9 (cd (k + 1) 3 0)), .ref (A9 (cd (k + 1) 4 0)), .ref (A9 (cd (k + 1) 5 0)), .int (nI n), x_av A k al])) := by
  funext x
  by_cases q0 : x = cd (k + 1) 0 0
  · rw [q0, up3_self, up3_ne _ _ (cd_r (by decide)), clS_at hk hX srS_0, e (cd (k + 1) 1 0) (cd_r (by decide)), e (cd (k + 1) 2 0) (cd_r (by decide)), e (cd (k + 1) 3 0) (cd_r (by decide)), e (cd (k + 1) 4 0) (cd_r (by decide)), e (cd (k + 1) 5 0) (cd_r (by decide))]
  · rw [up3_ne _ _ q0]
    by_cases q13 : x = cd (k + 1) 13 0
    · rw [q13, up3_self, clS_13 hk (va_up_self _ _ _)]
    · rw [up3_ne _ _ q13]
      by_cases q1 : x.1 = k + 1
      · have n0 : ¬ x.1 = 0 := by omega
        have n1 : x.1 ≤ N := by omega
        unfold clS
        rw [if_neg n0, if_neg n0, if_pos n1, if_pos n1, show x.1 - 1 = k by omega, va_up_self, hX]
        exact (srC_ne (fun r => q0 (Prod.ext q1 r)) (fun r => q13 (Prod.ext q1 r)) (fun r j hr => e _ (cd_r hr))).symm
      · rw [clS_X q1]
        exact (clS_A (fun y hy => e y (fun z => hy (congrArg Prod.fst z))) (fun _ => e _ (cd_r (by decide))) q1).symm
theorem clS_p13 {a a2 : Int32 × Int32 × Int32 × Int64} (hk : k < N) (hX : X k = (nm, ho, n, T, U, K, some a)) : up3 (clS G A N t X fd tt gr) (cd (k + 1) 13 0) (x_ac (some a2)) = clS G A N t (va_up X k (nm, ho, n, T, U, K, some a2)) fd tt gr :=
  (congrArg (fun σ => up3 σ (cd (k + 1) 13 0) (x_ac (some a2))) (clS_sr hk hX).symm).trans (srS_p13.trans (clS_srS hk (fun _ _ => rfl) rfl))
theorem clS_rm (hk : k < N) (hX : X k = (nm, ho, n, T, U, K, al)) : ∀ (x : Cd) (e : va_E), clS G A N t (va_up X k (nm, ho, n, T, U, K, none)) fd tt gr x = some e → up3 (clS G A N t X fd tt gr) (cd (k + 1) 0 0) (some (eO 2 [.int nm, .int ho, .ref (A (cd (k + 1) 1 0)), .ref (A (cd (k + 1) 2 0)), .ref (A (cd (k + 1) 3 0)), .ref (A (cd (k + 1) 4 0)), .ref (A (cd (k + 1) 5 0)), .int (nI n), .null])) x = some e := by
  intro x e h
  by_cases q0 : x = cd (k + 1) 0 0
  · rw [q0, clS_at hk (va_up_self _ _ _) srS_0] at h
    rw [q0, up3_self]
    exact h
  · rw [up3_ne _ _ q0]
    by_cases q13 : x = cd (k + 1) 13 0
    · rw [q13, clS_13 hk (va_up_self _ _ _)] at h
      cases h
    · by_cases q1 : x.1 = k + 1
      · have n0 : ¬ x.1 = 0 := by omega
        have n1 : x.1 ≤ N := by omega
        unfold clS at h ⊢
        rw [if_neg n0, if_pos n1, show x.1 - 1 = k by omega, va_up_self, srC_ne (A := A) (al := al) (fun r => q0 (Prod.ext q1 r)) (fun r => q13 (Prod.ext q1 r)) (fun _ _ _ => rfl)] at h
        rw [if_neg n0, if_pos n1, show x.1 - 1 = k by omega, hX]
        exact h
      · rw [clS_X q1] at h
        exact h
/-- a new series: the world, once its cells have names -/
theorem srS_clS_A {Xn : Xs} (e : ∀ y : Cd, y.1 ≠ N + 1 → A9 y = A y) : srS G A9 (clS G A N t X fd tt gr) N Xn = srS G A9 (clS G A9 N t X fd tt gr) N Xn := by
  funext x
  unfold srS
  by_cases q : x.1 = N + 1
  · rw [if_pos q, if_pos q]
  · rw [if_neg q, if_neg q]
    exact (clS_A e (fun z => absurd z (Nat.lt_irrefl N)) q).symm
theorem clS_open {Xn : Xs} : up3 (up3 (srS G A (clS G A N t X fd tt gr) N Xn) (cd 0 2 0) (some (eS G 10 (va_up (rwL A N) N (some (A (cd (N + 1) 0 0))))))) (cd 0 1 0) (some (eO 5 [.ref (A (cd 0 2 0)), .ref (A (cd 0 3 0)), .int (nI (N + 1)), .long (lN t)])) = clS G A (N + 1) t (va_up X N Xn) fd tt gr := by
  have er : va_up (rwL A N) N (some (A (cd (N + 1) 0 0))) = rwL A (N + 1) := by
    funext i
    unfold rwL
    by_cases q : i = N
    · rw [q, va_up_self, if_pos (Nat.lt_succ_self N)]
    · rw [va_up_ne _ _ q]
      by_cases r : i < N
      · rw [if_pos r, if_pos (by omega)]
      · rw [if_neg r, if_neg (by omega)]
  rw [er]
  funext x
  by_cases q1 : x = cd 0 1 0
  · rw [q1, up3_self, clS_h]
  · rw [up3_ne _ _ q1]
    by_cases q2 : x = cd 0 2 0
    · rw [q2, up3_self, clS_r]
    · rw [up3_ne _ _ q2]
      unfold srS
      by_cases q3 : x.1 = N + 1
      · have n0 : ¬ x.1 = 0 := by omega
        have n1 : x.1 ≤ N + 1 := by omega
        rw [if_pos q3]
        unfold clS
        rw [if_neg n0, if_pos n1, show x.1 - 1 = N by omega, va_up_self]
      · rw [if_neg q3]
        unfold clS
        by_cases q4 : x.1 = 0
        · have n1 : ¬ x.2 = (1, 0) := fun r => q1 (Prod.ext q4 r)
          have n2 : ¬ x.2 = (2, 0) := fun r => q2 (Prod.ext q4 r)
          rw [if_pos q4, if_pos q4, if_neg n1, if_neg n1, if_neg n2, if_neg n2]
        · rw [if_neg q4, if_neg q4]
          by_cases q5 : x.1 ≤ N
          · have n1 : x.1 ≤ N + 1 := by omega
            rw [if_pos q5, if_pos n1, va_up_ne _ _ (show x.1 - 1 ≠ N by omega)]
          · have n1 : ¬ x.1 ≤ N + 1 := by omega
            rw [if_neg q5, if_neg n1]
end
/-! names for a new series' cells -/
def msz (e : va_E) : Nat := match e with
  | .inr _ => 0
  | .inl a => a.2.1
def rk (e : va_E) : Nat × Nat := (mkd e, msz e)
def cr : Nat → Nat × Nat
  | 0 => (12, 0)
  | 1 => (1, 120)
  | 2 => (0, 120)
  | 3 => (0, 120)
  | 4 => (4, 15)
  | 5 => (13, 0)
  | 6 => (4, 5)
  | 7 => (0, 8)
  | 8 => (0, 5)
  | _ => (0, 5)
theorem cr_k : ∀ i, i < 10 → ∀ j, j < 10 → cr j = cr i → i = j ∨ i * 10 + j = 23 ∨ i * 10 + j = 32 ∨ i * 10 + j = 89 ∨ i * 10 + j = 98 := by decide +kernel
theorem new_names {G : mG} {h h9 : Hp} {A : Cd → Nat} {tg : Nat → Cd} {N t : Nat} {X : Nat → Xs} {fd : Nat} {tt : Int64} {gr : Int32} (w : CW h A tg (clS G A N t X fd tt gr)) (hkp : ∀ (b : Nat) (e : va_E), hat h b e → hat h9 b e) (a d : Int32) {qn q1 q2 q3 q4 q5 q6 q7 q8 : Nat} {r : Nat → Nat}
    (h0 : hat h9 qn (eO 2 [.int a, .int d, .ref q1, .ref q2, .ref q3, .ref q4, .ref q5, .int (nI 0), .null])) (h1 : hat h9 q1 (eL G 120 (fun _ => 0))) (h2 : hat h9 q2 (eI G 120 (fun _ => 0))) (h3 : hat h9 q3 (eI G 120 (fun _ => 0))) (h4 : hat h9 q4 (eB G 15 (fun _ => none))) (h5 : hat h9 q5 (eO 3 [.ref q6, .ref q7, .ref q8, .int (nI 0)])) (h6 : hat h9 q6 (eA G 5 (fun i => if i < 5 then some (r i) else none))) (h7 : hat h9 q7 (eI G 5 (fun _ => 0))) (h8 : hat h9 q8 (eI G 5 (fun _ => 0))) (hr : ∀ i : Nat, i < 5 → hat h9 (r i) (eI G 8 (fun _ => 0))) (hinj : ∀ i j : Nat, i < 5 → j < 5 → r i = r j → i = j) (hrn : ∀ i : Nat, i < 5 → r i ∉ h.1)
    (f0 : qn ∉ h.1) (f1 : q1 ∉ h.1) (f2 : q2 ∉ h.1) (f3 : q3 ∉ h.1) (f4 : q4 ∉ h.1) (f5 : q5 ∉ h.1) (f6 : q6 ∉ h.1) (f7 : q7 ∉ h.1) (f8 : q8 ∉ h.1) (n23 : q2 ≠ q3) (n78 : q7 ≠ q8) :
    ∃ (A9 : Cd → Nat) (tg9 : Nat → Cd), (∀ y : Cd, y.1 ≠ N + 1 → A9 y = A y) ∧ A9 (cd (N + 1) 0 0) = qn ∧ CW h9 A9 tg9 (srS G A9 (clS G A9 N t X fd tt gr) N (X_new a d)) ∧ cFr h tg h9 tg9 := by
  let B : Cd → Nat := fun x => if x.1 = N + 1 then
      if x.2 = (0, 0) then qn else if x.2 = (1, 0) then q1 else if x.2 = (2, 0) then q2 else if x.2 = (3, 0) then q3 else if x.2 = (4, 0) then q4 else if x.2 = (5, 0) then q5 else if x.2 = (6, 0) then q6 else if x.2 = (8, 0) then q7 else if x.2 = (9, 0) then q8 else if x.2.1 = 7 ∧ x.2.2 < 5 then r x.2.2 else A x
    else A x
  have b0 : B (cd (N + 1) 0 0) = qn := by simp [B, cd]
  have b1 : B (cd (N + 1) 1 0) = q1 := by simp [B, cd]
  have b2 : B (cd (N + 1) 2 0) = q2 := by simp [B, cd]
  have b3 : B (cd (N + 1) 3 0) = q3 := by simp [B, cd]
  have b4 : B (cd (N + 1) 4 0) = q4 := by simp [B, cd]
  have b5 : B (cd (N + 1) 5 0) = q5 := by simp [B, cd]
  have b6 : B (cd (N + 1) 6 0) = q6 := by simp [B, cd]
  have b8 : B (cd (N + 1) 8 0) = q7 := by simp [B, cd]
  have b9 : B (cd (N + 1) 9 0) = q8 := by simp [B, cd]
  have b7 : ∀ i : Nat, i < 5 → B (cd (N + 1) 7 i) = r i := fun i hi => by simp [B, cd, hi]
  have bo : ∀ y : Cd, y.1 ≠ N + 1 → B y = A y := fun y hy => if_neg hy
  let sn : Cd → Option va_E := srS G B (fun _ => none) N (X_new a d)
  have sk : skL B N = fun i => if i < 5 then some (r i) else none := by
    funext i
    unfold skL
    by_cases q : i < 5
    · rw [if_pos q, if_pos q, b7 i q]
    · rw [if_neg q, if_neg q]
  have ch : chL B N 0 = fun _ => none := by
    funext i
    exact if_neg (Nat.not_lt_zero i)
  have z0 : ∀ i, nI (SZ 0 i) = 0 := fun i => by rw [SZ_0]; rfl
  have v0 : ∀ i, nI (HV 0 i) = 0 := fun i => by rw [HV_0]; rfl
  have P1 : ∀ (x : Cd) (e : va_E), sn x = some e → (hat h9 (B x) e ∧ B x ∉ h.1) ∧ rk e = cr x.2.1 ∧ x.1 = N + 1 ∧ x.2.1 ≤ 9 ∧ (x.2.1 ≠ 7 → x.2.2 = 0) ∧ (x.2.1 = 7 → x.2.2 < 5) := by
    refine srS_all (P := fun x e => (hat h9 (B x) e ∧ B x ∉ h.1) ∧ rk e = cr x.2.1 ∧ x.1 = N + 1 ∧ x.2.1 ≤ 9 ∧ (x.2.1 ≠ 7 → x.2.2 = 0) ∧ (x.2.1 = 7 → x.2.2 < 5)) ?_ ?_ ?_ ?_ ?_ ?_ ?_ ?_ ?_ ?_ ?_ ?_ ?_ ?_ ?_
    · refine ⟨⟨?_, by rw [b0]; exact f0⟩, rfl, rfl, Nat.le_of_ble_eq_true rfl, fun _ => rfl, fun z => absurd (show 0 = 7 from z) (by decide)⟩
      rw [b0, b1, b2, b3, b4, b5]
      exact h0
    · exact ⟨⟨by rw [b1]; exact h1, by rw [b1]; exact f1⟩, rfl, rfl, Nat.le_of_ble_eq_true rfl, fun _ => rfl, fun z => absurd (show 1 = 7 from z) (by decide)⟩
    · exact ⟨⟨by rw [b2]; exact h2, by rw [b2]; exact f2⟩, rfl, rfl, Nat.le_of_ble_eq_true rfl, fun _ => rfl, fun z => absurd (show 2 = 7 from z) (by decide)⟩
    · exact ⟨⟨by rw [b3]; exact h3, by rw [b3]; exact f3⟩, rfl, rfl, Nat.le_of_ble_eq_true rfl, fun _ => rfl, fun z => absurd (show 3 = 7 from z) (by decide)⟩
    · refine ⟨⟨?_, by rw [b4]; exact f4⟩, rfl, rfl, Nat.le_of_ble_eq_true rfl, fun _ => rfl, fun z => absurd (show 4 = 7 from z) (by decide)⟩
      rw [b4]
      show hat h9 q4 (eB G 15 (chL B N (x_nb 0)))
      rw [show x_nb 0 = 0 by unfold x_nb; omega, ch]
      exact h4
    · refine ⟨⟨?_, by rw [b5]; exact f5⟩, rfl, rfl, Nat.le_of_ble_eq_true rfl, fun _ => rfl, fun z => absurd (show 5 = 7 from z) (by decide)⟩
      rw [b5, b6, b8, b9]
      exact h5
    · refine ⟨⟨?_, by rw [b6]; exact f6⟩, rfl, rfl, Nat.le_of_ble_eq_true rfl, fun _ => rfl, fun z => absurd (show 6 = 7 from z) (by decide)⟩
      rw [b6, sk]
      exact h6
    · refine ⟨⟨?_, by rw [b8]; exact f7⟩, rfl, rfl, Nat.le_of_ble_eq_true rfl, fun _ => rfl, fun z => absurd (show 8 = 7 from z) (by decide)⟩
      rw [b8]
      show hat h9 q7 (eI G 5 (fun i => nI (SZ 0 i)))
      rw [funext z0]
      exact h7
    · refine ⟨⟨?_, by rw [b9]; exact f8⟩, rfl, rfl, Nat.le_of_ble_eq_true rfl, fun _ => rfl, fun z => absurd (show 9 = 7 from z) (by decide)⟩
      rw [b9]
      show hat h9 q8 (eI G 5 (fun i => nI (HV 0 i)))
      rw [funext v0]
      exact h8
    · intro e he
      cases he
    · intro i hi
      exact ⟨⟨by rw [b7 i hi]; exact hr i hi, by rw [b7 i hi]; exact hrn i hi⟩, rfl, rfl, by show 7 ≤ 9; decide, fun z => absurd rfl z, fun _ => hi⟩
    · intro i hi
      exact absurd hi (by show ¬ i < x_nb 0; unfold x_nb; omega)
    · intro i hi
      exact absurd hi (by show ¬ i < x_nb 0; unfold x_nb; omega)
    · intro i hi
      exact absurd hi (by show ¬ i < x_nb 0; unfold x_nb; omega)
    · intro x e _ he
      cases he
  have P2 : ∀ x y : Cd, sn x ≠ none → sn y ≠ none → B x = B y → x = y := by
    intro x y hx hy hB
    cases ex : sn x with
    | none => exact absurd ex hx
    | some e1 =>
      cases ey : sn y with
      | none => exact absurd ey hy
      | some e2 =>
        obtain ⟨⟨p1, -⟩, p3, p4, p5, p6, p7⟩ := P1 x e1 ex
        obtain ⟨⟨g1, -⟩, g3, g4, g5, g6, g7⟩ := P1 y e2 ey
        have ee : e1 = e2 := hat_uni p1 (by rw [hB]; exact g1)
        rw [ee, g3] at p3
        obtain ⟨x1, x2, x3⟩ := x
        obtain ⟨y1, y2, y3⟩ := y
        replace p3 : cr y2 = cr x2 := p3
        replace p4 : x1 = N + 1 := p4
        replace g4 : y1 = N + 1 := g4
        replace p5 : x2 ≤ 9 := p5
        replace g5 : y2 ≤ 9 := g5
        replace p6 : x2 ≠ 7 → x3 = 0 := p6
        replace g6 : y2 ≠ 7 → y3 = 0 := g6
        replace p7 : x2 = 7 → x3 < 5 := p7
        replace g7 : y2 = 7 → y3 < 5 := g7
        subst p4 g4
        have key : x2 = y2 ∨ (x2 = 2 ∧ y2 = 3) ∨ (x2 = 3 ∧ y2 = 2) ∨ (x2 = 8 ∧ y2 = 9) ∨ (x2 = 9 ∧ y2 = 8) := by
          have := cr_k x2 (by omega) y2 (by omega) p3
          omega
        rcases key with k | ⟨k1, k2⟩ | ⟨k1, k2⟩ | ⟨k1, k2⟩ | ⟨k1, k2⟩
        · subst k
          by_cases s7 : x2 = 7
          · subst s7
            have e9 : r x3 = r y3 := by
              have := hB
              rw [show ((N + 1, 7, x3) : Cd) = cd (N + 1) 7 x3 from rfl, show ((N + 1, 7, y3) : Cd) = cd (N + 1) 7 y3 from rfl, b7 x3 (p7 rfl), b7 y3 (g7 rfl)] at this
              exact this
            rw [hinj _ _ (p7 rfl) (g7 rfl) e9]
          · rw [p6 s7, g6 s7]
        · subst k1 k2
          rw [p6 (by decide), g6 (by decide)] at hB
          exact absurd (b2.symm.trans (hB.trans b3)) n23
        · subst k1 k2
          rw [p6 (by decide), g6 (by decide)] at hB
          exact absurd (b2.symm.trans (hB.symm.trans b3)) n23
        · subst k1 k2
          rw [p6 (by decide), g6 (by decide)] at hB
          exact absurd (b8.symm.trans (hB.trans b9)) n78
        · subst k1 k2
          rw [p6 (by decide), g6 (by decide)] at hB
          exact absurd (b8.symm.trans (hB.symm.trans b9)) n78
  obtain ⟨A9, tg9, g1, g2, g3, g4⟩ := w.grow hkp sn B (fun x e hx => (P1 x e hx).1) P2
  have eA : A9 = B := by
    funext x
    by_cases q : sn x = none
    · rw [g1 x q]
      by_cases q1 : x.1 = N + 1
      · obtain ⟨x1, y⟩ := x
        replace q1 : x1 = N + 1 := q1
        subst q1
        have nn : ∀ y' : Nat × Nat, sn (N + 1, y') ≠ none → y ≠ y' := fun y' hy' e => hy' (e ▸ q)
        have hs0 : sn (cd (N + 1) 0 0) ≠ none := by rw [show sn (cd (N + 1) 0 0) = _ from srS_0]; exact fun z => by cases z
        have hs1 : sn (cd (N + 1) 1 0) ≠ none := by rw [show sn (cd (N + 1) 1 0) = _ from srS_1]; exact fun z => by cases z
        have hs2 : sn (cd (N + 1) 2 0) ≠ none := by rw [show sn (cd (N + 1) 2 0) = _ from srS_2]; exact fun z => by cases z
        have hs3 : sn (cd (N + 1) 3 0) ≠ none := by rw [show sn (cd (N + 1) 3 0) = _ from srS_3]; exact fun z => by cases z
        have hs4 : sn (cd (N + 1) 4 0) ≠ none := by rw [show sn (cd (N + 1) 4 0) = _ from srS_4]; exact fun z => by cases z
        have hs5 : sn (cd (N + 1) 5 0) ≠ none := by rw [show sn (cd (N + 1) 5 0) = _ from srS_5]; exact fun z => by cases z
        have hs6 : sn (cd (N + 1) 6 0) ≠ none := by rw [show sn (cd (N + 1) 6 0) = _ from srS_6]; exact fun z => by cases z
        have hs8 : sn (cd (N + 1) 8 0) ≠ none := by rw [show sn (cd (N + 1) 8 0) = _ from srS_8]; exact fun z => by cases z
        have hs9 : sn (cd (N + 1) 9 0) ≠ none := by rw [show sn (cd (N + 1) 9 0) = _ from srS_9]; exact fun z => by cases z
        have hs7 : ¬ (y.1 = 7 ∧ y.2 < 5) := fun ⟨e1, e2⟩ => by
          obtain ⟨y1, y2⟩ := y
          replace e1 : y1 = 7 := e1
          subst e1
          have : sn (cd (N + 1) 7 y2) = _ := srS_7 e2
          rw [show sn (N + 1, 7, y2) = _ from this] at q
          cases q
        show A (N + 1, y) = if (N + 1 = N + 1) then _ else _
        rw [if_pos rfl]
        show A (N + 1, y) = if y = (0, 0) then qn else if y = (1, 0) then q1 else if y = (2, 0) then q2 else if y = (3, 0) then q3 else if y = (4, 0) then q4 else if y = (5, 0) then q5 else if y = (6, 0) then q6 else if y = (8, 0) then q7 else if y = (9, 0) then q8 else if y.1 = 7 ∧ y.2 < 5 then r y.2 else A (N + 1, y)
        rw [if_neg (nn _ hs0), if_neg (nn _ hs1), if_neg (nn _ hs2), if_neg (nn _ hs3), if_neg (nn _ hs4), if_neg (nn _ hs5), if_neg (nn _ hs6), if_neg (nn _ hs8), if_neg (nn _ hs9), if_neg hs7]
      · exact (bo x q1).symm
    · exact g2 x q
  refine ⟨B, tg9, bo, b0, ?_, fun b hb => ⟨(hkp b (h.2 b) ⟨hb, rfl⟩).1, g3 b hb, fun _ => (hkp b (h.2 b) ⟨hb, rfl⟩).2⟩⟩
  rw [← srS_clS_A (A := A) bo, ← eA]
  refine g4.less (fun x e hx => ?_)
  show (if sn x = none then clS G A N t X fd tt gr x else sn x) = some e
  rw [eA] at hx
  unfold srS at hx
  by_cases q1 : x.1 = N + 1
  · rw [if_pos q1] at hx
    have e1 : sn x = some e := by
      show srS G B (fun _ => none) N (X_new a d) x = some e
      unfold srS
      rw [if_pos q1]
      exact hx
    rw [e1, if_neg (fun z => by cases z)]
  · rw [if_neg q1] at hx
    have e1 : sn x = none := by
      show srS G B (fun _ => none) N (X_new a d) x = none
      unfold srS
      rw [if_neg q1]
    rw [if_pos e1]
    exact hx
