theorem isIn_g {n : Nat} (hn : n ≤ 1000000) (x : Int32) : (nI 0 ≤ x ∧ x ≤ nI n - nI 1) ↔ ∃ k : Nat, k < n ∧ x = nI k := by
  have h1 : (nI n - nI 1).toInt = (n : Int) - 1 := by rw [fb_subI] <;> rw [kt (by omega), kt (by omega)] <;> omega
  constructor
  · intro ⟨a, c⟩
    rw [Int32.le_iff_toInt_le, kt (by omega)] at a
    rw [Int32.le_iff_toInt_le, h1] at c
    refine ⟨x.toInt.toNat, by omega, Int32.toInt_inj.mp ?_⟩
    rw [kt (by omega)]
    omega
  · rintro ⟨k, hk, rfl⟩
    rw [Int32.le_iff_toInt_le, Int32.le_iff_toInt_le, h1, kt (by omega), kt (by omega)]
    omega
theorem isIn_b {u v : Nat} (hv : v ≤ 1000000) (hu : u ≤ v) (x : Int32) : (nI u ≤ x ∧ x ≤ nI v) ↔ ∃ k : Nat, u ≤ k ∧ k ≤ v ∧ x = nI k := by
  constructor
  · intro ⟨a, c⟩
    rw [Int32.le_iff_toInt_le, kt (by omega)] at a
    rw [Int32.le_iff_toInt_le, kt (by omega)] at c
    refine ⟨x.toInt.toNat, by omega, by omega, Int32.toInt_inj.mp ?_⟩
    rw [kt (by omega)]
    omega
  · rintro ⟨k, hk, hk2, rfl⟩
    rw [Int32.le_iff_toInt_le, Int32.le_iff_toInt_le, kt (by omega), kt (by omega), kt (by omega)]
    omega
/-- the states behind open, pass, setAlert, removeAlert -/
def s_thr (st : Ms) (t : Int32) : Ms := se_now (se_many (se_thr st t) (st_many st)) (st_now st)
def s_open (st : Ms) (a d : Int32) : Ms := se_now (se_many (se_thr (se_ho (se_nm st (va_up (st_nm st) (st_many st) a)) (va_up (st_ho st) (st_many st) d)) (nI 0)) (st_many st + 1)) (st_now st)
def s_pass (st : Ms) (d : Nat) : Ms := se_now (se_many (se_thr st (nI 0)) (st_many st)) (st_now st + d)
def s_set (st : Ms) (z : Nat) (a w : Int32) : Ms := s_thr (se_si (se_on (se_wa (se_li (se_ha st (va_up (st_ha st) z (nI 1))) (va_up (st_li st) z a)) (va_up (st_wa st) z w)) (va_up (st_on st) z (if 0 < st_n st z ∧ a < z_la st z then nI 1 else nI 0))) (va_up (st_si st) z (st_now st))) (nI 0)
def s_rem (st : Ms) (z : Nat) : Ms := s_thr (se_on (se_ha st (va_up (st_ha st) z (nI 0))) (va_up (st_on st) z (nI 0))) (nI 0)
