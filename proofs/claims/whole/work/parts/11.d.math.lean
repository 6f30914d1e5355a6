/-! the least value that reaches a target -/
def gqi (W : Int32 → Nat) (f : Nat → Int32) (t : Nat) (x0 : Int32) : Nat → Int32
  | 0 => x0
  | m + 1 => if f m < gqi W f t x0 m ∧ t ≤ W (f m) then f m else gqi W f t x0 m
def gqo (W : Int32 → Nat) (F : Nat → Nat → Int32) (z : Nat → Nat) (t : Nat) (x0 : Int32) : Nat → Int32
  | 0 => x0
  | y + 1 => gqi W (F y) t (gqo W F z t x0 y) (z y)
theorem gqi_ok (W : Int32 → Nat) (f : Nat → Int32) (t : Nat) (x0 : Int32) (m : Nat) : gqi W f t x0 m ≤ x0 ∧ (∀ i, i < m → t ≤ W (f i) → gqi W f t x0 m ≤ f i) ∧ (gqi W f t x0 m = x0 ∨ ∃ i, i < m ∧ gqi W f t x0 m = f i ∧ t ≤ W (f i)) := by
  induction m with
  | zero => exact ⟨i_rf _, fun i hi => absurd hi (Nat.not_lt_zero i), Or.inl rfl⟩
  | succ m ih =>
    obtain ⟨h1, h2, h3⟩ := ih
    rw [gqi]
    by_cases q : f m < gqi W f t x0 m ∧ t ≤ W (f m)
    · rw [if_pos q]
      refine ⟨i_tr (i_lt_le q.1) h1, fun i hi hw => ?_, Or.inr ⟨m, Nat.lt_succ_self m, rfl, q.2⟩⟩
      rcases Nat.lt_or_ge i m with r | r
      · exact i_tr (i_lt_le q.1) (h2 i r hw)
      · rw [show i = m by omega]
        exact i_rf _
    · rw [if_neg q]
      refine ⟨h1, fun i hi hw => ?_, h3.imp id (fun ⟨i, a, b, c⟩ => ⟨i, by omega, b, c⟩)⟩
      rcases Nat.lt_or_ge i m with r | r
      · exact h2 i r hw
      · have e : i = m := by omega
        subst e
        exact i_nlt (fun z => q ⟨z, hw⟩)
theorem gqo_ok (W : Int32 → Nat) (F : Nat → Nat → Int32) (z : Nat → Nat) (t : Nat) (x0 : Int32) (m : Nat) : gqo W F z t x0 m ≤ x0 ∧ (∀ y, y < m → ∀ i, i < z y → t ≤ W (F y i) → gqo W F z t x0 m ≤ F y i) ∧ (gqo W F z t x0 m = x0 ∨ ∃ y, y < m ∧ ∃ i, i < z y ∧ gqo W F z t x0 m = F y i ∧ t ≤ W (F y i)) := by
  induction m with
  | zero => exact ⟨i_rf _, fun i hi => absurd hi (Nat.not_lt_zero i), Or.inl rfl⟩
  | succ m ih =>
    obtain ⟨h1, h2, h3⟩ := ih
    obtain ⟨g1, g2, g3⟩ := gqi_ok W (F m) t (gqo W F z t x0 m) (z m)
    rw [gqo]
    refine ⟨i_tr g1 h1, fun y hy i hi hw => ?_, ?_⟩
    · rcases Nat.lt_or_ge y m with r | r
      · exact i_tr g1 (h2 y r i hi hw)
      · have e : y = m := by omega
        subst e
        exact g2 i hi hw
    · rcases g3 with g3 | ⟨i, a, b, c⟩
      · rw [g3]
        exact h3.imp id (fun ⟨y, a, b⟩ => ⟨y, by omega, b⟩)
      · exact Or.inr ⟨m, Nat.lt_succ_self m, i, a, b, c⟩
theorem gqi_c {W W2 : Int32 → Nat} {f f2 : Nat → Int32} {t : Nat} {x0 : Int32} (m : Nat) (hW : ∀ x, W x = W2 x) (hf : ∀ i, i < m → f i = f2 i) : gqi W f t x0 m = gqi W2 f2 t x0 m := by
  induction m with
  | zero => rw [gqi, gqi]
  | succ m ih => rw [gqi, gqi, ih (fun i hi => hf i (by omega)), hf m (Nat.lt_succ_self m), hW]
theorem gqo_c {W W2 : Int32 → Nat} {F F2 : Nat → Nat → Int32} {z z2 : Nat → Nat} {t : Nat} {x0 : Int32} (m : Nat) (hW : ∀ x, W x = W2 x) (hz : ∀ y, y < m → z y = z2 y) (hF : ∀ y, y < m → ∀ i, i < z y → F y i = F2 y i) : gqo W F z t x0 m = gqo W2 F2 z2 t x0 m := by
  induction m with
  | zero => rw [gqo, gqo]
  | succ m ih =>
    rw [gqo, gqo, ih (fun y hy => hz y (by omega)) (fun y hy => hF y (by omega)), hz m (Nat.lt_succ_self m)]
    exact gqi_c _ hW (fun i hi => hF m (Nat.lt_succ_self m) i (by rw [hz m (Nat.lt_succ_self m)]; exact hi))
theorem li_g (F : Nat → Nat → Int32) (z : Nat → Nat) (t y : Nat) (x : Int32) (m : Nat) : k_li F z t y x m = gqi (fun v => k_wt F z v 5) (F y) t x m := by
  induction m with
  | zero => rw [k_li, gqi]
  | succ m ih => rw [k_li, gqi, ih]
theorem lo_g (F : Nat → Nat → Int32) (z : Nat → Nat) (t m : Nat) : k_lo F z t m = gqo (fun v => k_wt F z v 5) F z t (nI 10000) m := by
  induction m with
  | zero => rw [k_lo, gqo]
  | succ m ih => rw [k_lo, gqo, ih, li_g]
theorem qi_g (st : Ms) (z t y : Nat) (x : Int32) (m : Nat) : z_qi st z t y x m = gqi (z_std st z) (z_k st z y) t x m := by
  induction m with
  | zero => rw [z_qi, gqi]
  | succ m ih => rw [z_qi, gqi, ih]
theorem qo_g (st : Ms) (z t : Nat) (x : Int32) (m : Nat) : z_qo st z t x m = gqo (z_std st z) (z_k st z) (z_z st z) t x m := by
  induction m with
  | zero => rw [z_qo, gqo]
  | succ m ih => rw [z_qo, gqo, ih, qi_g]
theorem eq_g (st : Ms) (z t : Nat) (m : Nat) : z_eq st z t m = gqi (z_up st z) (z_v st z) t (nI 20000) m := by
  induction m with
  | zero => rw [z_eq, gqi]
  | succ m ih => rw [z_eq, gqi, ih]
/-- a weight that reaches the target is reached by a value that is held -/
theorem ctl_low {f : Nat → Int32} {x : Int32} {m : Nat} (h : ∀ i, i < m → ¬ f i ≤ x) : ctl f x m = 0 := by
  induction m with
  | zero => rw [ctl_0]
  | succ m ih => rw [ctl_s, ih (fun i hi => h i (by omega)), if_neg (h m (Nat.lt_succ_self m))]
theorem i_pred {x v : Int32} (hx : -2147483648 < x.toInt) (h : v ≠ x) : (v ≤ x - nI 1 ↔ v ≤ x) := by
  have e : (x - nI 1).toInt = x.toInt - 1 := by
    have := fb_rng x
    rw [fb_subI] <;> rw [kt (by decide)] <;> omega
  have h9 : v.toInt ≠ x.toInt := fun z => h (Int32.toInt_inj.mp z)
  rw [Int32.le_iff_toInt_le, Int32.le_iff_toInt_le, e]
  omega
theorem ctl_pred {f : Nat → Int32} {x : Int32} (hx : -2147483648 < x.toInt) {m : Nat} (h : ∀ i, i < m → f i ≠ x) : ctl f (x - nI 1) m = ctl f x m := by
  induction m with
  | zero => rw [ctl_0, ctl_0]
  | succ m ih =>
    have h1 := i_pred hx (h m (Nat.lt_succ_self m))
    rw [ctl_s, ctl_s, ih (fun i hi => h i (by omega))]
    by_cases q : f m ≤ x
    · rw [if_pos q, if_pos (h1.mpr q)]
    · rw [if_neg q, if_neg (fun z => q (h1.mp z))]
theorem wt_c {F : Nat → Nat → Int32} {z : Nat → Nat} {x x2 : Int32} (m : Nat) (h : ∀ y, y < m → ctl (F y) x (z y) = ctl (F y) x2 (z y)) : k_wt F z x m = k_wt F z x2 m := by
  induction m with
  | zero => rw [k_wt, k_wt]
  | succ m ih => rw [k_wt_s, k_wt_s, ih (fun y hy => h y (by omega)), h m (Nat.lt_succ_self m)]
theorem wt_0 {F : Nat → Nat → Int32} {z : Nat → Nat} {x : Int32} (m : Nat) (h : ∀ y, y < m → ctl (F y) x (z y) = 0) : k_wt F z x m = 0 := by
  induction m with
  | zero => rw [k_wt]
  | succ m ih => rw [k_wt_s, ih (fun y hy => h y (by omega)), h m (Nat.lt_succ_self m), Nat.mul_zero]
theorem wt_ex {F : Nat → Nat → Int32} {z : Nat → Nat} {t : Nat} (hr : ∀ y, y < 5 → ∀ i, i < z y → (-10000) ≤ F y i) (ht : 1 ≤ t) (c : Nat) : ∀ x : Int32, x.toInt + 10001 = c → t ≤ k_wt F z x 5 → ∃ y, y < 5 ∧ ∃ i, i < z y ∧ F y i ≤ x ∧ t ≤ k_wt F z (F y i) 5 := by
  have h10 : ((-10000 : Int32)).toInt = -10000 := by decide
  induction c with
  | zero =>
    intro x hx hw
    have e := wt_0 (F := F) (z := z) (x := x) 5 (fun y hy => ctl_low (fun i hi q => by
      have h1 := i_tr (hr y hy i hi) q
      rw [Int32.le_iff_toInt_le, h10] at h1
      omega))
    omega
  | succ c ih =>
    intro x hx hw
    by_cases q : ∃ y, y < 5 ∧ ∃ i, i < z y ∧ F y i = x
    · obtain ⟨y, hy, i, hi, e⟩ := q
      exact ⟨y, hy, i, hi, by rw [e]; exact i_rf x, by rw [e]; exact hw⟩
    · have hn : ∀ y, y < 5 → ∀ i, i < z y → F y i ≠ x := fun y hy i hi e => q ⟨y, hy, i, hi, e⟩
      have hb : -2147483648 < x.toInt := by omega
      have e1 : (x - nI 1).toInt = x.toInt - 1 := by
        have := fb_rng x
        rw [fb_subI] <;> rw [kt (by decide)] <;> omega
      have e2 : k_wt F z (x - nI 1) 5 = k_wt F z x 5 := wt_c 5 (fun y hy => ctl_pred hb (hn y hy))
      obtain ⟨y, hy, i, hi, h1, h2⟩ := ih (x - nI 1) (by omega) (by rw [e2]; exact hw)
      exact ⟨y, hy, i, hi, (i_pred hb (hn y hy i hi)).mp h1, h2⟩
/-- the same with a start that no value reaches -/
theorem wt_ex' {F : Nat → Nat → Int32} {z : Nat → Nat} {t : Nat} {x : Int32} (hr : ∀ y, y < 5 → ∀ i, i < z y → (-10000) ≤ F y i) (ht : 1 ≤ t) (hx : (-10001) ≤ x) (hw : t ≤ k_wt F z x 5) : ∃ y, y < 5 ∧ ∃ i, i < z y ∧ F y i ≤ x ∧ t ≤ k_wt F z (F y i) 5 := by
  have h10 : ((-10001 : Int32)).toInt = -10001 := by decide
  rw [Int32.le_iff_toInt_le, h10] at hx
  exact wt_ex hr ht (x.toInt + 10001).toNat x (by omega) hw
/-- all values stand for all samples -/
theorem SZ_su : ∀ n, n < 121 → SZ n 0 + (2 * SZ n 1 + (4 * SZ n 2 + (8 * SZ n 3 + 16 * SZ n 4))) = n := by decide +kernel
theorem wt_all {F : Nat → Nat → Int32} {n : Nat} (hn : n ≤ 120) (hr : Rw Vr (F, SZ n, HV n, BD n)) : k_wt F (SZ n) (nI 10000) 5 = n := by
  have e : ∀ y, y < 5 → ctl (F y) (nI 10000) (SZ n y) = SZ n y := fun y hy => ctl_all _ (fun i hi => (hr y hy i hi).2)
  rw [k_wt_s, k_wt_s, k_wt_s, k_wt_s, k_wt_s, e 0 (by decide), e 1 (by decide), e 2 (by decide), e 3 (by decide), e 4 (by decide), k_wt]
  have h := SZ_su n (by omega)
  have p1 : 2 ^ 0 * SZ n 0 = SZ n 0 := by rw [Nat.pow_zero, Nat.one_mul]
  have p2 : 2 ^ 1 * SZ n 1 = 2 * SZ n 1 := rfl
  have p3 : 2 ^ 2 * SZ n 2 = 4 * SZ n 2 := rfl
  have p4 : 2 ^ 3 * SZ n 3 = 8 * SZ n 3 := rfl
  have p5 : 2 ^ 4 * SZ n 4 = 16 * SZ n 4 := rfl
  omega
section
variable {F : Nat → Nat → Int32} {n t : Nat}
theorem lo_ok (hn : n ≤ 120) (hr : Rw Vr (F, SZ n, HV n, BD n)) (h1 : 1 ≤ t) (h2 : t ≤ n) : Vr (k_lo F (SZ n) t 5) ∧ (∀ y, y < 5 → ∀ i, i < SZ n y → t ≤ k_wt F (SZ n) (F y i) 5 → k_lo F (SZ n) t 5 ≤ F y i) ∧ ∃ y, y < 5 ∧ ∃ i, i < SZ n y ∧ k_lo F (SZ n) t 5 = F y i ∧ t ≤ k_wt F (SZ n) (F y i) 5 := by
  obtain ⟨g1, g2, g3⟩ := gqo_ok (fun v => k_wt F (SZ n) v 5) F (SZ n) t (nI 10000) 5
  rw [← lo_g] at g1 g2 g3
  have hlo : ∀ y, y < 5 → ∀ i, i < SZ n y → (-10000) ≤ F y i := fun y hy i hi => (hr y hy i hi).1
  obtain ⟨y, hy, i, hi, k1, k2⟩ := wt_ex' (x := nI 10000) hlo h1 (by decide) (by rw [wt_all hn hr]; exact h2)
  have ex : ∃ y, y < 5 ∧ ∃ i, i < SZ n y ∧ k_lo F (SZ n) t 5 = F y i ∧ t ≤ k_wt F (SZ n) (F y i) 5 := by
    rcases g3 with g3 | ⟨y2, a, i2, b, c, e⟩
    · have l1 := g2 y hy i hi k2
      rw [g3] at l1 ⊢
      exact ⟨y, hy, i, hi, i_eq l1 k1, k2⟩
    · exact ⟨y2, a, i2, b, c, e⟩
  refine ⟨?_, g2, ex⟩
  obtain ⟨y2, a, i2, b, c, e⟩ := ex
  rw [c]
  exact hr y2 a i2 b
/-- it is within the bound -/
theorem lo_wi (hn : n ≤ 120) (hr : Rw Vr (F, SZ n, HV n, BD n)) {U : Nat → Int32} (he : Er (F, SZ n, HV n, BD n) (fun x => ctl U x n)) (h1 : 1 ≤ t) (h2 : t ≤ n) : nI t - nI (BD n) ≤ nI (ctl U (k_lo F (SZ n) t 5) n) ∧ ctl U (k_lo F (SZ n) t 5 - nI 1) n < t + BD n := by
  obtain ⟨v1, v2, y, hy, i, hi, e, hw⟩ := lo_ok hn hr h1 h2
  obtain ⟨q, hq⟩ : ∃ q, q = k_lo F (SZ n) t 5 := ⟨_, rfl⟩
  rw [← hq] at v1 v2 e ⊢
  rw [← e] at hw
  have hb := BD_le n hn
  have hc := ctl_le U q n
  have hlo : ∀ y, y < 5 → ∀ i, i < SZ n y → (-10000) ≤ F y i := fun y hy i hi => (hr y hy i hi).1
  constructor
  · have k1 := (he q).1
    replace k1 : k_wt F (SZ n) q 5 ≤ ctl U q n + BD n := k1
    have e2 : (nI t - nI (BD n)).toInt = (t : Int) - BD n := by rw [fb_subI] <;> rw [kt (by omega), kt (by omega)] <;> omega
    rw [Int32.le_iff_toInt_le, e2, kt (by omega)]
    omega
  · have k2 := (he (q - nI 1)).2
    replace k2 : ctl U (q - nI 1) n ≤ k_wt F (SZ n) (q - nI 1) 5 + BD n := k2
    have h10 : ((-10000 : Int32)).toInt = -10000 := by decide
    have hq1 : -10000 ≤ q.toInt := by
      have := v1.1
      rw [Int32.le_iff_toInt_le, h10] at this
      exact this
    have e1 : (q - nI 1).toInt = q.toInt - 1 := by
      have := fb_rng q
      rw [fb_subI] <;> rw [kt (by decide)] <;> omega
    rcases Nat.lt_or_ge (k_wt F (SZ n) (q - nI 1) 5) t with r | r
    · omega
    · have h11 : ((-10001 : Int32)).toInt = -10001 := by decide
      obtain ⟨y2, a, i2, b, c, d⟩ := wt_ex' (x := q - nI 1) hlo h1 (by rw [Int32.le_iff_toInt_le, h11, e1]; omega) r
      have l1 := i_tr (v2 y2 a i2 b d) c
      rw [Int32.le_iff_toInt_le, e1] at l1
      omega
end
/-- the exact quantile -/
theorem so_eq {U : Nat → Int32} {n t : Nat} (hr : Hd Vr U n) (h1 : 1 ≤ t) (h2 : t ≤ n) : x_so U n (t - 1) = gqi (fun x => ctl U x n) U t (nI 20000) n := by
  obtain ⟨g1, g2, g3⟩ := gqi_ok (fun x => ctl U x n) U t (nI 20000) n
  obtain ⟨r, hr9⟩ : ∃ r, r = gqi (fun x => ctl U x n) U t (nI 20000) n := ⟨_, rfl⟩
  rw [← hr9] at g1 g2 g3 ⊢
  have hl : ∀ x, x_so U n (t - 1) ≤ x ↔ t - 1 < ctl U x n := fun x => by
    have := Sd_lead x n (x_so_sd U n) (t - 1) (by omega)
    rw [x_so_ct] at this
    exact this
  obtain ⟨i, hi, e⟩ : ∃ i, i < n ∧ U i = x_so U n (t - 1) := x_so_hd (R := fun v => ∃ i, i < n ∧ U i = v) U n (fun i hi => ⟨i, hi, rfl⟩) (t - 1) (by omega)
  have k1 : r ≤ x_so U n (t - 1) := by
    have hs := (hl (x_so U n (t - 1))).mp (i_rf _)
    have := g2 i hi (by rw [e]; show t ≤ ctl U (x_so U n (t - 1)) n; omega)
    rw [e] at this
    exact this
  refine i_eq ?_ k1
  rcases g3 with g3 | ⟨j, hj, c, d⟩
  · exfalso
    have l1 := i_tr k1 (by rw [← e]; exact (hr i hi).2 : x_so U n (t - 1) ≤ nI 10000)
    rw [g3] at l1
    exact absurd ((nI_leI (by decide) (by decide)).mp l1) (by decide)
  · rw [c]
    refine (hl (U j)).mpr ?_
    have d2 : t ≤ ctl U (U j) n := d
    omega
