/-! a block under one sample more; a series' content read through other addresses; the alert put into it -/
theorem x_bo_up (A : Cd → Nat) (k : Nat) (T : Nat → Nat) (U : Nat → Int32) (n t : Nat) (x : Int32) (j : Nat) (h : 8 * j + 8 ≤ n) : x_bo A k (va_up T n t) (va_up U n x) (n + 1) j = x_bo A k T U n j := by
  have e1 : x_sz (n + 1) j = 8 := by unfold x_sz; omega
  have e2 : x_sz n j = 8 := by unfold x_sz; omega
  have t1 : va_up T n t (8 * j) = T (8 * j) := va_up_ne _ _ (by omega)
  have t2 : va_up T n t (8 * j + (8 - 1)) = T (8 * j + (8 - 1)) := va_up_ne _ _ (by omega)
  have u1 : va_up U n x (8 * j) = U (8 * j) := va_up_ne _ _ (by omega)
  have u2 : va_up U n x (8 * j + (8 - 1)) = U (8 * j + (8 - 1)) := va_up_ne _ _ (by omega)
  unfold x_bo
  rw [e1, e2, t1, t2, u1, u2, x_bb_up T U n t x j (8 - 1) (by omega), x_gp_up T n t j (8 - 1) (by omega)]
theorem x_bo_in (A : Cd → Nat) (k : Nat) (T : Nat → Nat) (U : Nat → Int32) (n t : Nat) (x : Int32) (j : Nat) (h1 : 8 * j < n) (h2 : n < 8 * j + 8) : x_bo A k (va_up T n t) (va_up U n x) (n + 1) j = eO 1 [.long (lN (T (8 * j))), .int (U (8 * j)), .ref (A (cd (k + 1) 15 j)), .ref (A (cd (k + 1) 16 j)), .int (nI (x_sz n j + 1)), .int (nI (x_bb T U j (x_sz n j - 1) + (z_tb (lN t - lN (T (8 * j + (x_sz n j - 1))) - x_gp T j (x_sz n j - 1)) + z_vb (x - U (8 * j + (x_sz n j - 1)))))), .long (lN t), .long (lN t - lN (T (8 * j + (x_sz n j - 1)))), .int x] := by
  obtain ⟨y, hy⟩ : ∃ y, n = 8 * j + (y + 1) := ⟨n - 8 * j - 1, by omega⟩
  subst hy
  have e1 : x_sz (8 * j + (y + 1) + 1) j = y + 2 := by unfold x_sz; omega
  have e2 : x_sz (8 * j + (y + 1)) j = y + 1 := by unfold x_sz; omega
  have t1 : va_up T (8 * j + (y + 1)) t (8 * j) = T (8 * j) := va_up_ne _ _ (by omega)
  have u1 : va_up U (8 * j + (y + 1)) x (8 * j) = U (8 * j) := va_up_ne _ _ (by omega)
  have t2 : va_up T (8 * j + (y + 1)) t (8 * j + (y + 1)) = t := va_up_self _ _ _
  have u2 : va_up U (8 * j + (y + 1)) x (8 * j + (y + 1)) = x := va_up_self _ _ _
  have t3 : va_up T (8 * j + (y + 1)) t (8 * j + y) = T (8 * j + y) := va_up_ne _ _ (by omega)
  have u3 : va_up U (8 * j + (y + 1)) x (8 * j + y) = U (8 * j + y) := va_up_ne _ _ (by omega)
  have g1 : x_gp (va_up T (8 * j + (y + 1)) t) j (y + 1) = lN t - lN (T (8 * j + y)) := by
    unfold x_gp
    rw [if_neg (by omega), Nat.add_sub_cancel, t2, t3]
  have b1 : x_bb (va_up T (8 * j + (y + 1)) t) (va_up U (8 * j + (y + 1)) x) j (y + 1) = x_bb T U j y + (z_tb (lN t - lN (T (8 * j + y)) - x_gp T j y) + z_vb (x - U (8 * j + y))) := by
    rw [x_bb, x_bb_up T U _ t x j y (by omega), g1, x_gp_up T _ t j y (by omega), u2, u3]
  unfold x_bo
  rw [e1, e2, show y + 2 - 1 = y + 1 from rfl, Nat.add_sub_cancel, t1, u1, t2, u2, b1, g1]
theorem x_bo_0 (A : Cd → Nat) (k : Nat) (T : Nat → Nat) (U : Nat → Int32) (n t : Nat) (x : Int32) (j : Nat) (h : n = 8 * j) : x_bo A k (va_up T n t) (va_up U n x) (n + 1) j = eO 1 [.long (lN t), .int x, .ref (A (cd (k + 1) 15 j)), .ref (A (cd (k + 1) 16 j)), .int (nI 1), .int (nI 64), .long (lN t), .long (lN 0), .int x] := by
  subst h
  have e1 : x_sz (8 * j + 1) j = 1 := by unfold x_sz; omega
  have t1 : va_up T (8 * j) t (8 * j) = t := va_up_self _ _ _
  have u1 : va_up U (8 * j) x (8 * j) = x := va_up_self _ _ _
  have t2 : va_up T (8 * j) t (8 * j + (1 - 1)) = t := t1
  have u2 : va_up U (8 * j) x (8 * j + (1 - 1)) = x := u1
  unfold x_bo
  rw [e1, t1, u1, t2, u2]
  rfl
theorem srC_A {G : mG} {A A9 : Cd → Nat} {k : Nat} {X : Xs} (e : ∀ r j : Nat, (14 ≤ r → j < x_nb X.2.2.1) → A9 (cd (k + 1) r j) = A (cd (k + 1) r j)) : srC G A9 k X = srC G A k X := by
  have r : ∀ r j : Nat, r < 14 → A9 (cd (k + 1) r j) = A (cd (k + 1) r j) := fun r j h => e r j (fun q => absurd q (by omega))
  have hsk : skL A9 k = skL A k := by funext i; unfold skL; rw [r 7 i (by decide)]
  have hch : chL A9 k (x_nb X.2.2.1) = chL A k (x_nb X.2.2.1) := by
    funext i
    unfold chL
    by_cases q : i < x_nb X.2.2.1
    · rw [if_pos q, if_pos q, e 14 i (fun _ => q)]
    · rw [if_neg q, if_neg q]
  have hbo : ∀ j, j < x_nb X.2.2.1 → x_bo A9 k X.2.2.2.1 X.2.2.2.2.1 X.2.2.1 j = x_bo A k X.2.2.2.1 X.2.2.2.2.1 X.2.2.1 j := by
    intro j hj
    unfold x_bo
    rw [e 15 j (fun _ => hj), e 16 j (fun _ => hj)]
  have hav : x_av A9 k X.2.2.2.2.2.2 = x_av A k X.2.2.2.2.2.2 := by
    cases X.2.2.2.2.2.2 with
    | none => rfl
    | some a => show Value.ref _ = Value.ref _; rw [r 13 0 (by decide)]
  funext y
  unfold srC
  rw [r 1 0 (by decide), r 2 0 (by decide), r 3 0 (by decide), r 4 0 (by decide), r 5 0 (by decide), r 6 0 (by decide), r 8 0 (by decide), r 9 0 (by decide), hsk, hch, hav]
  by_cases q : y.1 = 14 ∧ y.2 < x_nb X.2.2.1
  · rw [hbo _ q.2]
  · rw [if_neg q, if_neg q]
theorem srS_A {G : mG} {A A9 : Cd → Nat} {sg : Cd → Option va_E} {k : Nat} {X : Xs} (e : ∀ r j : Nat, (14 ≤ r → j < x_nb X.2.2.1) → A9 (cd (k + 1) r j) = A (cd (k + 1) r j)) : srS G A9 sg k X = srS G A sg k X := by
  unfold srS
  rw [srC_A e]
/-- the alert of a series changes -/
theorem srS_p13 {G : mG} {A : Cd → Nat} {sg : Cd → Option va_E} {k : Nat} {nm ho : Int32} {n : Nat} {T : Nat → Nat} {U : Nat → Int32} {K : Ks} {a a2 : Int32 × Int32 × Int32 × Int64} : up3 (srS G A sg k (nm, ho, n, T, U, K, some a)) (cd (k + 1) 13 0) (x_ac (some a2)) = srS G A sg k (nm, ho, n, T, U, K, some a2) := by
  funext x
  by_cases q : x = cd (k + 1) 13 0
  · rw [q, up3_self, srS_13]
  · rw [up3_ne _ _ q]
    unfold srS
    by_cases q1 : x.1 = k + 1
    · have q2 : x.2 ≠ (13, 0) := fun r => q (Prod.ext q1 r)
      rw [if_pos q1, if_pos q1]
      unfold srC
      rw [if_neg q2, if_neg q2]
      rfl
    · rw [if_neg q1, if_neg q1]
theorem x_see_a {li wa on : Int32} {si : Int64} {t : Nat} {x : Int32} (h : x ≤ li) : x_see (some (li, wa, on, si)) t x = some (li, wa, 0, si) := by
  show some (if x ≤ li then (li, wa, 0, si) else if on = 0 then (li, wa, 1, lN t) else (li, wa, on, si)) = _
  rw [if_pos h]
theorem x_see_b {li wa on : Int32} {si : Int64} {t : Nat} {x : Int32} (h : ¬ x ≤ li) (h2 : on = 0) : x_see (some (li, wa, on, si)) t x = some (li, wa, 1, lN t) := by
  show some (if x ≤ li then (li, wa, 0, si) else if on = 0 then (li, wa, 1, lN t) else (li, wa, on, si)) = _
  rw [if_neg h, if_pos h2]
theorem x_see_c {li wa on : Int32} {si : Int64} {t : Nat} {x : Int32} (h : ¬ x ≤ li) (h2 : ¬ on = 0) : x_see (some (li, wa, on, si)) t x = some (li, wa, on, si) := by
  show some (if x ≤ li then (li, wa, 0, si) else if on = 0 then (li, wa, 1, lN t) else (li, wa, on, si)) = _
  rw [if_neg h, if_neg h2]
theorem cd_14 {k r j r2 nb nb2 : Nat} (h : 14 ≤ r → j < nb2) (hr : 14 ≤ r2) (hn : nb2 ≤ nb) : cd k r j ≠ cd k r2 nb := fun q => by
  have e1 : r = r2 := congrArg (fun x : Cd => x.2.1) q
  have e2 : j = nb := congrArg (fun x : Cd => x.2.2) q
  have := h (by omega)
  omega
theorem cd_14n {y : Cd} {k r nb : Nat} (h : y.1 = k + 1 → y.2.1 < 14) (hr : 14 ≤ r) : y ≠ cd (k + 1) r nb := fun q => by
  subst q
  have h1 : r < 14 := h rfl
  omega
