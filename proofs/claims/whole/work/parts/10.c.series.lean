/-! a sample more -/
theorem x_so_up (U : Nat → Int32) (n : Nat) (x : Int32) : ∀ m, m ≤ n → x_so (va_up U n x) m = x_so U m
  | 0, _ => rfl
  | m + 1, h => by rw [x_so, x_so, x_so_up U n x m (by omega), va_up_ne _ _ (by omega)]
theorem x_so_add (U : Nat → Int32) (n : Nat) (x : Int32) : x_so (va_up U n x) (n + 1) = z_ins 0 x n (x_so U n) := by rw [x_so, x_so_up U n x n (Nat.le_refl n), va_up_self]
theorem x_gp_up (T : Nat → Nat) (n t j i : Nat) (h : 8 * j + i < n) : x_gp (va_up T n t) j i = x_gp T j i := by
  unfold x_gp
  split
  · rfl
  · rw [va_up_ne _ _ (by omega), va_up_ne _ _ (by omega)]
theorem x_bb_up (T : Nat → Nat) (U : Nat → Int32) (n t : Nat) (x : Int32) (j : Nat) : ∀ i, 8 * j + i < n → x_bb (va_up T n t) (va_up U n x) j i = x_bb T U j i
  | 0, _ => rfl
  | i + 1, h => by
    rw [x_bb, x_bb, x_bb_up T U n t x j i (by omega), x_gp_up T n t j (i + 1) h, x_gp_up T n t j i (by omega), va_up_ne _ _ (by omega), va_up_ne _ _ (by omega)]
theorem x_ts_up (T : Nat → Nat) (n t j : Nat) (h : 8 * j + 8 ≤ n) : x_ts (va_up T n t) (n + 1) j = x_ts T n j := by
  funext i
  have e1 : x_sz (n + 1) j = 8 := by unfold x_sz; omega
  have e2 : x_sz n j = 8 := by unfold x_sz; omega
  unfold x_ts
  rw [e1, e2]
  by_cases q : 1 ≤ i ∧ i < 8
  · rw [if_pos q, if_pos q, x_gp_up T n t j i (by omega), x_gp_up T n t j (i - 1) (by omega)]
  · rw [if_neg q, if_neg q]
theorem x_vs_up (U : Nat → Int32) (n j : Nat) (x : Int32) (h : 8 * j + 8 ≤ n) : x_vs (va_up U n x) (n + 1) j = x_vs U n j := by
  funext i
  have e1 : x_sz (n + 1) j = 8 := by unfold x_sz; omega
  have e2 : x_sz n j = 8 := by unfold x_sz; omega
  unfold x_vs
  rw [e1, e2]
  by_cases q : 1 ≤ i ∧ i < 8
  · rw [if_pos q, if_pos q, va_up_ne _ _ (by omega), va_up_ne _ _ (by omega)]
  · rw [if_neg q, if_neg q]
/-- the last block, not full, takes the sample -/
theorem x_ts_in (T : Nat → Nat) (n t j : Nat) (h1 : 8 * j < n) (h2 : n < 8 * j + 8) : x_ts (va_up T n t) (n + 1) j = va_up (x_ts T n j) (x_sz n j) (lN t - lN (T (8 * j + (x_sz n j - 1))) - x_gp T j (x_sz n j - 1)) := by
  have e1 : x_sz (n + 1) j = n - 8 * j + 1 := by unfold x_sz; omega
  have e2 : x_sz n j = n - 8 * j := by unfold x_sz; omega
  funext i
  by_cases q : i = x_sz n j
  · subst q
    rw [va_up_self]
    unfold x_ts
    rw [if_pos (by omega), x_gp_up T n t j (x_sz n j - 1) (by omega)]
    have e3 : x_gp (va_up T n t) j (x_sz n j) = lN t - lN (T (8 * j + (x_sz n j - 1))) := by
      unfold x_gp
      rw [if_neg (by omega), show 8 * j + x_sz n j = n by omega, va_up_self, va_up_ne _ _ (by omega)]
    rw [e3]
  · rw [va_up_ne _ _ q]
    unfold x_ts
    by_cases r : 1 ≤ i ∧ i < x_sz n j
    · rw [if_pos r, if_pos (by omega), x_gp_up T n t j i (by omega), x_gp_up T n t j (i - 1) (by omega)]
    · rw [if_neg r, if_neg (by omega)]
theorem x_vs_in (U : Nat → Int32) (n j : Nat) (x : Int32) (h1 : 8 * j < n) (h2 : n < 8 * j + 8) : x_vs (va_up U n x) (n + 1) j = va_up (x_vs U n j) (x_sz n j) (x - U (8 * j + (x_sz n j - 1))) := by
  have e1 : x_sz (n + 1) j = n - 8 * j + 1 := by unfold x_sz; omega
  have e2 : x_sz n j = n - 8 * j := by unfold x_sz; omega
  funext i
  by_cases q : i = x_sz n j
  · subst q
    rw [va_up_self]
    unfold x_vs
    rw [if_pos (by omega), show 8 * j + x_sz n j = n by omega, va_up_self, va_up_ne _ _ (by omega)]
  · rw [va_up_ne _ _ q]
    unfold x_vs
    by_cases r : 1 ≤ i ∧ i < x_sz n j
    · rw [if_pos r, if_pos (by omega), va_up_ne _ _ (by omega), va_up_ne _ _ (by omega)]
    · rw [if_neg r, if_neg (by omega)]
/-- a new block's steps are none -/
theorem x_ts_0 (T : Nat → Nat) (n j : Nat) (h : n = 8 * j) : x_ts T (n + 1) j = fun _ => 0 := by
  funext i
  have e1 : x_sz (n + 1) j = 1 := by unfold x_sz; omega
  unfold x_ts
  rw [if_neg (by omega)]
theorem x_vs_0 (U : Nat → Int32) (n j : Nat) (h : n = 8 * j) : x_vs U (n + 1) j = fun _ => 0 := by
  funext i
  have e1 : x_sz (n + 1) j = 1 := by unfold x_sz; omega
  unfold x_vs
  rw [if_neg (by omega)]
/-- the alert sees a value -/
def x_see (al : Xa) (t : Nat) (x : Int32) : Xa :=
  match al with
  | none => none
  | some (li, wa, on, si) => some (if x ≤ li then (li, wa, 0, si) else if on = 0 then (li, wa, 1, lN t) else (li, wa, on, si))
