/-- the bounds that the state keeps, as far as the reference's own code asks them -/
def Mok (st : Ms) : Prop := st_many st ≤ 10 ∧ st_now st < 1073741824 ∧ ∀ z : Nat, z < st_many st → st_n st z ≤ 120 ∧ (∀ i : Nat, i < st_n st z → st_T st (120 * z + i) ≤ st_now st) ∧ (∀ l : Nat, l < 6 → z_z st z l ≤ 8) ∧ st_si st z ≤ st_now st ∧ st_bd st z < 1048576 ∧ ∀ l : Nat, l < 6 → st_hv st (6 * z + l) < 1048576
theorem z_ct_f0 {p : Nat → Prop} [DecidablePred p] {n : Nat} (h : ¬ p n) : z_ct p (n + 1) = z_ct p n + 0 := z_ct_f h
theorem z_std_le {st : Ms} {z : Nat} (h : ∀ l : Nat, l < 6 → z_z st z l ≤ 8) (x : Int32) : ∀ l, l ≤ 6 → z_su (z_sd st z x) l ≤ 256 * l := by
  intro l hl
  refine z_su_le l (fun k hk => ?_)
  have h1 := h k (by omega)
  have h2 : 2 ^ k ≤ 2 ^ 5 := Nat.pow_le_pow_right (by decide) (by omega)
  have h3 : z_sd st z x k ≤ 32 * z_z st z k := by
    unfold z_sd
    refine z_su_le _ (fun j _ => ?_)
    split <;> omega
  omega
theorem z_sdi_le (st : Ms) (z l : Nat) (x : Int32) (hl : l < 6) : ∀ j, j ≤ 8 → z_su (fun k => if z_k st z l k ≤ x then 2 ^ l else 0) j ≤ 256 := by
  intro j hj
  have h2 : 2 ^ l ≤ 2 ^ 5 := Nat.pow_le_pow_right (by decide) (by omega)
  have h3 : z_su (fun k => if z_k st z l k ≤ x then 2 ^ l else 0) j ≤ 32 * j := z_su_le j (fun k _ => by split <;> omega)
  omega
theorem i_nlt {x y : Int32} (h : ¬ x < y) : y ≤ x := by rw [Int32.lt_iff_toInt_lt] at h; rw [Int32.le_iff_toInt_le]; omega
theorem i_nle {x y : Int32} (h : ¬ x ≤ y) : y < x := by rw [Int32.le_iff_toInt_le] at h; rw [Int32.lt_iff_toInt_lt]; omega
theorem i_ltn {x y : Int32} (h : x < y) : ¬ y ≤ x := by rw [Int32.lt_iff_toInt_lt] at h; rw [Int32.le_iff_toInt_le]; omega
theorem i_len {x y : Int32} (h : x ≤ y) : ¬ y < x := by rw [Int32.le_iff_toInt_le] at h; rw [Int32.lt_iff_toInt_lt]; omega
theorem l_nlt {x y : Int64} (h : ¬ x < y) : y ≤ x := by rw [Int64.lt_iff_toInt_lt] at h; rw [Int64.le_iff_toInt_le]; omega
theorem l_nle {x y : Int64} (h : ¬ x ≤ y) : y < x := by rw [Int64.le_iff_toInt_le] at h; rw [Int64.lt_iff_toInt_lt]; omega
theorem l_ltn {x y : Int64} (h : x < y) : ¬ y ≤ x := by rw [Int64.lt_iff_toInt_lt] at h; rw [Int64.le_iff_toInt_le]; omega
theorem l_len {x y : Int64} (h : x ≤ y) : ¬ y < x := by rw [Int64.le_iff_toInt_le] at h; rw [Int64.lt_iff_toInt_lt]; omega
