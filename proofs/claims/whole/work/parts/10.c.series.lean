/-! a sample more -/
theorem x_so_up (U : Nat → Int32) (n : Nat) (x : Int32) : ∀ m, m ≤ n → x_so (va_up U n x) m = x_so U m
  | 0, _ => rfl
  | m + 1, h => by rw [x_so, x_so, x_so_up U n x m (by omega), va_up_ne _ _ (by omega)]
theorem x_so_add (U : Nat → Int32) (n : Nat) (x : Int32) : x_so (va_up U n x) (n + 1) = z_ins 0 x n (x_so U n) := by rw [x_so, x_so_up U n x n (Nat.le_refl n), va_up_self]
theorem x_gp_up (T : Nat → Nat) (n t j i : Nat) (h : 8 * j + i < n) : x_gp (va_up T n t) j i = x_gp T j i := by
  unfold x_gp
  split
  · rfl
  · rw [va_up_ne _ _ (by omega), va_up_ne _ _ (by omega)]
theorem x_bb_up (T : Nat → Nat) (U : Nat → Int32) (n t : Nat) (x : Int32) (j : Nat) : ∀ i, 8 * j + i < n → x_bb (va_up T n t) (va_up U n x) j i = x_bb T U j i
  | 0, _ => rfl
  | i + 1, h => by
    rw [x_bb, x_bb, x_bb_up T U n t x j i (by omega), x_gp_up T n t j (i + 1) h, x_gp_up T n t j i (by omega), va_up_ne _ _ (by omega), va_up_ne _ _ (by omega)]
theorem x_ts_up (T : Nat → Nat) (n t j : Nat) (h : 8 * j + 8 ≤ n) : x_ts (va_up T n t) (n + 1) j = x_ts T n j := by
  funext i
  have e1 : x_sz (n + 1) j = 8 := by unfold x_sz; omega
  have e2 : x_sz n j = 8 := by unfold x_sz; omega
  unfold x_ts
  rw [e1, e2]
  by_cases q : 1 ≤ i ∧ i < 8
  · rw [if_pos q, if_pos q, x_gp_up T n t j i (by omega), x_gp_up T n t j (i - 1) (by omega)]
  · rw [if_neg q, if_neg q]
theorem x_vs_up (U : Nat → Int32) (n j : Nat) (x : Int32) (h : 8 * j + 8 ≤ n) : x_vs (va_up U n x) (n + 1) j = x_vs U n j := by
  funext i
  have e1 : x_sz (n + 1) j = 8 := by unfold x_sz; omega
  have e2 : x_sz n j = 8 := by unfold x_sz; omega
  unfold x_vs
  rw [e1, e2]
  by_cases q : 1 ≤ i ∧ i < 8
  · rw [if_pos q, if_pos q, va_up_ne _ _ (by omega), va_up_ne _ _ (by omega)]
  · rw [if_neg q, if_neg q]
