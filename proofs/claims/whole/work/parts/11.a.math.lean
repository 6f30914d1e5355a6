/-! sorted rows: what an insertion does to the order, to the counts and to what is held -/
theorem i_tr {x y z : Int32} (a : x ≤ y) (b : y ≤ z) : x ≤ z := by
  rw [Int32.le_iff_toInt_le] at a b ⊢
  omega
theorem i_rf (x : Int32) : x ≤ x := by
  rw [Int32.le_iff_toInt_le]
  omega
theorem i_lt_le {x y : Int32} (h : x < y) : x ≤ y := by
  rw [Int32.lt_iff_toInt_lt] at h
  rw [Int32.le_iff_toInt_le]
  omega
theorem i_le_lt {x y z : Int32} (a : x ≤ y) (b : y < z) : x < z := by
  rw [Int32.le_iff_toInt_le] at a
  rw [Int32.lt_iff_toInt_lt] at b ⊢
  omega
theorem i_lt_le' {x y z : Int32} (a : x < y) (b : y ≤ z) : x < z := by
  rw [Int32.le_iff_toInt_le] at b
  rw [Int32.lt_iff_toInt_lt] at a ⊢
  omega
theorem i_eq {x y : Int32} (a : x ≤ y) (b : y ≤ x) : x = y := by
  rw [Int32.le_iff_toInt_le] at a b
  exact Int32.toInt_inj.mp (by omega)
/-- the number of the first m values that are not greater -/
def ctl (f : Nat → Int32) (x : Int32) (m : Nat) : Nat := z_ct (fun i => f i ≤ x) m
theorem ctl_0 (f : Nat → Int32) (x : Int32) : ctl f x 0 = 0 := rfl
theorem ctl_s (f : Nat → Int32) (x : Int32) (m : Nat) : ctl f x (m + 1) = ctl f x m + if f m ≤ x then 1 else 0 := rfl
theorem ctl_le (f : Nat → Int32) (x : Int32) (m : Nat) : ctl f x m ≤ m := z_ct_le _ m
theorem ctl_c {f g : Nat → Int32} (x : Int32) (m : Nat) : (∀ i, i < m → f i = g i) → ctl f x m = ctl g x m := by
  induction m with
  | zero => intro _; rw [ctl_0, ctl_0]
  | succ m ih => intro h; rw [ctl_s, ctl_s, ih (fun i hi => h i (by omega)), h m (Nat.lt_succ_self m)]
def Sd (f : Nat → Int32) (m : Nat) : Prop := ∀ i j : Nat, i ≤ j → j < m → f i ≤ f j
theorem Sd_less {f : Nat → Int32} {m k : Nat} (h : Sd f m) (hk : k ≤ m) : Sd f k := fun i j hij hj => h i j hij (by omega)
theorem Sd_c {f g : Nat → Int32} {m : Nat} (h : Sd f m) (e : ∀ i, i < m → g i = f i) : Sd g m := fun i j hij hj => by rw [e i (by omega), e j hj]; exact h i j hij hj
/-- in a sorted row, what is not greater leads -/
theorem Sd_lead {f : Nat → Int32} (x : Int32) : ∀ m, Sd f m → ∀ i, i < m → (f i ≤ x ↔ i < ctl f x m)
  | 0, _, i, hi => absurd hi (Nat.not_lt_zero i)
  | m + 1, h, i, hi => by
    have h1 := Sd_lead x m (Sd_less h (Nat.le_succ m))
    rw [ctl_s]
    by_cases q : f m ≤ x
    · rw [if_pos q]
      have e : ctl f x m = m := by
        rcases Nat.lt_or_ge (ctl f x m) m with q2 | q2
        · have h2 := (h1 (ctl f x m) q2).mp (i_tr (h _ _ (by omega) (Nat.lt_succ_self m)) q)
          omega
        · have := ctl_le f x m
          omega
      exact ⟨fun _ => by omega, fun _ => i_tr (h i m (by omega) (Nat.lt_succ_self m)) q⟩
    · rw [if_neg q]
      rcases Nat.lt_or_ge i m with q2 | q2
      · exact h1 i q2
      · have e : i = m := by omega
        subst e
        have := ctl_le f x i
        exact ⟨fun z => absurd z q, fun z => by omega⟩
theorem ctl_all {f : Nat → Int32} {x : Int32} : ∀ m, (∀ i, i < m → f i ≤ x) → ctl f x m = m
  | 0, _ => rfl
  | m + 1, h => by rw [ctl_s, if_pos (h m (Nat.lt_succ_self m)), ctl_all m (fun i hi => h i (by omega))]
theorem ctl_mono {f : Nat → Int32} {x y : Int32} (h : x ≤ y) : ∀ m, ctl f x m ≤ ctl f y m
  | 0 => Nat.le_refl 0
  | m + 1 => by
    have h1 := ctl_mono (f := f) h m
    rw [ctl_s, ctl_s]
    by_cases q : f m ≤ x
    · rw [if_pos q, if_pos (i_tr q h)]
      omega
    · rw [if_neg q]
      split <;> omega
/-- what is held -/
def Hd (R : Int32 → Prop) (f : Nat → Int32) (m : Nat) : Prop := ∀ i : Nat, i < m → R (f i)
-- the insertion at 0
theorem ins_out (v : Int32) : ∀ (k : Nat) (f : Nat → Int32) (j : Nat), k < j → z_ins 0 v k f j = f j
  | 0, f, j, h => by rw [z_ins]; exact va_up_ne _ _ (by omega)
  | k + 1, f, j, h => by
    rw [z_ins]
    split
    · rw [ins_out v k _ j (by omega)]
      exact va_up_ne _ _ (by omega)
    · exact va_up_ne _ _ (by omega)
theorem ins_hd {R : Int32 → Prop} (v : Int32) (hv : R v) : ∀ (k : Nat) (f : Nat → Int32), Hd R f k → Hd R (z_ins 0 v k f) (k + 1)
  | 0, f, _, i, hi => by
    rw [z_ins, show i = 0 + 0 by omega, va_up_self]
    exact hv
  | k + 1, f, h, i, hi => by
    rw [z_ins]
    split
    · rcases Nat.lt_or_ge i (k + 1) with q | q
      · exact ins_hd v hv k _ (fun j hj => by rw [va_up_ne _ _ (by omega)]; exact h j (by omega)) i q
      · rw [ins_out v k _ i (by omega), show i = 0 + (k + 1) by omega, va_up_self, Nat.zero_add]
        exact h k (Nat.lt_succ_self k)
    · rcases Nat.lt_or_ge i (k + 1) with q | q
      · rw [va_up_ne _ _ (by omega)]
        exact h i q
      · rw [show i = 0 + (k + 1) by omega, va_up_self]
        exact hv
theorem ins_ct (v x : Int32) : ∀ (k : Nat) (f : Nat → Int32), ctl (z_ins 0 v k f) x (k + 1) = ctl f x k + if v ≤ x then 1 else 0
  | 0, f => by
    rw [ctl_s, ctl_0, ctl_0, z_ins, va_up_self]
  | k + 1, f => by
    rw [z_ins]
    split
    · rw [ctl_s, ins_ct v x k, ins_out v k _ (k + 1) (Nat.lt_succ_self k), ctl_s f x k]
      rw [show va_up f (0 + (k + 1)) (f (0 + k)) (k + 1) = f k from by rw [show 0 + (k + 1) = k + 1 by omega, va_up_self, Nat.zero_add]]
      rw [ctl_c (f := va_up f (0 + (k + 1)) (f (0 + k))) (g := f) x k (fun i hi => va_up_ne _ _ (by omega))]
      omega
    · rw [ctl_s]
      rw [show va_up f (0 + (k + 1)) v (k + 1) = v from by rw [show 0 + (k + 1) = k + 1 by omega, va_up_self]]
      rw [ctl_c (f := va_up f (0 + (k + 1)) v) (g := f) x (k + 1) (fun i hi => va_up_ne _ _ (by omega))]
theorem ins_sd (v : Int32) : ∀ (k : Nat) (f : Nat → Int32), Sd f k → Sd (z_ins 0 v k f) (k + 1)
  | 0, f, _, i, j, hij, hj => by
    rw [show i = j by omega]
    exact i_rf _
  | k + 1, f, h, i, j, hij, hj => by
    have hs : Sd f k := Sd_less h (Nat.le_succ k)
    rw [z_ins]
    by_cases q : v < f (0 + k)
    · rw [if_pos q]
      rw [Nat.zero_add] at q
      have e : ∀ a, a < k → va_up f (0 + (k + 1)) (f (0 + k)) a = f a := fun a ha => va_up_ne _ _ (by omega)
      have h1 := ins_sd v k (va_up f (0 + (k + 1)) (f (0 + k))) (Sd_c hs e)
      rcases Nat.lt_or_ge j (k + 1) with r | r
      · exact h1 i j hij r
      · have ej : j = k + 1 := by omega
        subst ej
        have e1 : z_ins 0 v k (va_up f (0 + (k + 1)) (f (0 + k))) (k + 1) = f k := by
          rw [ins_out v k _ (k + 1) (Nat.lt_succ_self k), show 0 + (k + 1) = k + 1 by omega, va_up_self, Nat.zero_add]
        rcases Nat.lt_or_ge i (k + 1) with r2 | r2
        · rw [e1]
          exact ins_hd (R := fun y => y ≤ f k) v (i_lt_le q) k _ (fun a ha => by rw [e a ha]; exact h a k (by omega) (Nat.lt_succ_self k)) i r2
        · rw [show i = k + 1 by omega]
          exact i_rf _
    · rw [if_neg q]
      rw [Nat.zero_add] at q
      rcases Nat.lt_or_ge j (k + 1) with r | r
      · rw [va_up_ne _ _ (by omega), va_up_ne _ _ (by omega)]
        exact h i j hij r
      · have ej : j = 0 + (k + 1) := by omega
        subst ej
        rw [va_up_self]
        rcases Nat.lt_or_ge i (k + 1) with r2 | r2
        · rw [va_up_ne _ _ (by omega)]
          exact i_tr (h i k (by omega) (Nat.lt_succ_self k)) (i_nlt q)
        · rw [show i = 0 + (k + 1) by omega, va_up_self]
          exact i_rf _
-- a row of eight sorted
theorem so_out (f : Nat → Int32) : ∀ (m j : Nat), m < j → z_so f 0 m j = f j
  | 0, _, _ => rfl
  | m + 1, j, h => by
    rw [z_so, ins_out _ _ _ _ h]
    exact so_out f m j (by omega)
theorem so_sd (f : Nat → Int32) : ∀ m, Sd (z_so f 0 m) (m + 1)
  | 0 => fun i j hij hj => by
    rw [show i = j by omega]
    exact i_rf _
  | m + 1 => by
    rw [z_so]
    exact ins_sd _ _ _ (so_sd f m)
theorem so_ct (f : Nat → Int32) (x : Int32) : ∀ m, ctl (z_so f 0 m) x (m + 1) = ctl f x (m + 1)
  | 0 => rfl
  | m + 1 => by
    rw [z_so, ins_ct, so_ct f x m, ctl_s f x (m + 1), Nat.zero_add, so_out f m (m + 1) (Nat.lt_succ_self m)]
theorem so_hd {R : Int32 → Prop} (f : Nat → Int32) : ∀ m, Hd R f (m + 1) → Hd R (z_so f 0 m) (m + 1)
  | 0, h => h
  | m + 1, h => by
    rw [z_so]
    refine ins_hd _ ?_ _ _ (so_hd f m (fun i hi => h i (by omega)))
    rw [Nat.zero_add, so_out f m (m + 1) (Nat.lt_succ_self m)]
    exact h (m + 1) (Nat.lt_succ_self _)
-- a series' values sorted
theorem x_so_sd (U : Nat → Int32) : ∀ n, Sd (x_so U n) n
  | 0 => fun _ j _ hj => absurd hj (Nat.not_lt_zero j)
  | n + 1 => by
    rw [x_so]
    exact ins_sd _ _ _ (x_so_sd U n)
theorem x_so_ct (U : Nat → Int32) (x : Int32) : ∀ n, ctl (x_so U n) x n = ctl U x n
  | 0 => rfl
  | n + 1 => by
    rw [x_so, ins_ct, x_so_ct U x n, ctl_s U x n]
theorem x_so_hd {R : Int32 → Prop} (U : Nat → Int32) : ∀ n, Hd R U n → Hd R (x_so U n) n
  | 0, _ => fun j hj => absurd hj (Nat.not_lt_zero j)
  | n + 1, h => by
    rw [x_so]
    exact ins_hd _ (h n (Nat.lt_succ_self n)) _ _ (x_so_hd U n (fun i hi => h i (by omega)))
/-- how many lead in the sorted row: how many of the values are not greater -/
theorem x_so_fr (U : Nat → Int32) (n : Nat) (x : Int32) : z_fr (fun i => ¬ x_so U n i ≤ x) n = ctl U x n := by
  have hl := Sd_lead x n (x_so_sd U n)
  rw [x_so_ct] at hl
  have h1 := ctl_le U x n
  rcases Nat.lt_or_ge (ctl U x n) n with q | q
  · exact z_fr_at (fun z => absurd ((hl _ q).mp z) (Nat.lt_irrefl _)) (fun j hj z => z ((hl j (by omega)).mpr hj)) n q
  · have e : ctl U x n = n := by omega
    rw [z_fr_none n (fun j hj z => z ((hl j hj).mpr (by omega))), e]
/-- every second of eight sorted values -/
theorem half_ct {f : Nat → Int32} (h : Sd f 8) (x : Int32) (e : Nat) (he : e < 2) : ctl (fun t => f (e + 2 * t)) x 4 = (ctl f x 8 + (1 - e)) / 2 := by
  have hl := Sd_lead x 8 h
  have h8 := ctl_le f x 8
  obtain ⟨c, hc⟩ : ∃ c, c = ctl f x 8 := ⟨_, rfl⟩
  rw [← hc] at hl h8 ⊢
  have k : ∀ t, t < 4 → ((if (fun t => f (e + 2 * t)) t ≤ x then 1 else 0 : Nat) = if e + 2 * t < c then 1 else 0) := by
    intro t ht
    have := hl (e + 2 * t) (by omega)
    by_cases q : f (e + 2 * t) ≤ x
    · rw [if_pos q, if_pos (this.mp q)]
    · rw [if_neg q, if_neg (fun z => q (this.mpr z))]
  rw [ctl_s, ctl_s, ctl_s, ctl_s, ctl_0, k 0 (by decide), k 1 (by decide), k 2 (by decide), k 3 (by decide)]
  rcases (show e = 0 ∨ e = 1 by omega) with rfl | rfl
  · split <;> split <;> split <;> split <;> omega
  · split <;> split <;> split <;> split <;> omega
