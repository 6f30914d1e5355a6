/-! the sketch: weights, what is held, sizes -/
theorem k_row (f : Nat → Int32) (x : Int32) (c : Nat) : ∀ m, z_su (fun r => if f r ≤ x then c else 0) m = c * ctl f x m
  | 0 => by rw [z_su, ctl_0, Nat.mul_zero]
  | m + 1 => by
    rw [z_su, ctl_s, k_row f x c m, Nat.mul_add]
    split
    · rw [Nat.mul_one]
    · rw [Nat.mul_zero]
theorem k_wt_s (F : Nat → Nat → Int32) (z : Nat → Nat) (x : Int32) (y : Nat) : k_wt F z x (y + 1) = k_wt F z x y + 2 ^ y * ctl (F y) x (z y) := by
  rw [k_wt, k_row]
/-- one level changes -/
theorem k_wt_at {F F2 : Nat → Nat → Int32} {z z2 : Nat → Nat} (y : Nat) (x : Int32) (h : ∀ i, i ≠ y → F2 i = F i ∧ z2 i = z i) : ∀ m, k_wt F2 z2 x m + (if y < m then 2 ^ y * ctl (F y) x (z y) else 0) = k_wt F z x m + (if y < m then 2 ^ y * ctl (F2 y) x (z2 y) else 0)
  | 0 => by rw [if_neg (Nat.not_lt_zero y), if_neg (Nat.not_lt_zero y)]; rfl
  | m + 1 => by
    have h1 := k_wt_at y x h m
    rw [k_wt_s, k_wt_s]
    by_cases q : y = m
    · subst q
      rw [if_neg (Nat.lt_irrefl y), if_neg (Nat.lt_irrefl y)] at h1
      rw [if_pos (Nat.lt_succ_self y), if_pos (Nat.lt_succ_self y)]
      omega
    · obtain ⟨e1, e2⟩ := h m (Ne.symm q)
      rw [e1, e2]
      by_cases r : y < m
      · rw [if_pos r, if_pos r] at h1
        rw [if_pos (by omega), if_pos (by omega)]
        omega
      · rw [if_neg r, if_neg r] at h1
        rw [if_neg (by omega), if_neg (by omega)]
        omega
def kW (u : Ks) (x : Int32) : Nat := k_wt u.1 u.2.1 x 5
theorem up_ctl (f : Nat → Int32) (m : Nat) (v x : Int32) : ctl (va_up f m v) x (m + 1) = ctl f x m + if v ≤ x then 1 else 0 := by
  rw [ctl_s, va_up_self, ctl_c (f := va_up f m v) (g := f) x m (fun i hi => va_up_ne _ _ (by omega))]
theorem wt_put (u : Ks) (y : Nat) (v x : Int32) (hy : y < 5) : kW (k_put u y v) x = kW u x + 2 ^ y * (if v ≤ x then 1 else 0) := by
  have h := k_wt_at (F := u.1) (F2 := (k_put u y v).1) (z := u.2.1) (z2 := (k_put u y v).2.1) y x (fun i hi => ⟨va_up_ne _ _ hi, va_up_ne _ _ hi⟩) 5
  rw [if_pos hy, if_pos hy] at h
  have e1 : (k_put u y v).1 y = va_up (u.1 y) (u.2.1 y) v := va_up_self _ _ _
  have e2 : (k_put u y v).2.1 y = u.2.1 y + 1 := va_up_self _ _ _
  rw [e1, e2, up_ctl, Nat.mul_add] at h
  unfold kW
  omega
theorem wt_pk (u : Ks) (y i : Nat) (g : Nat → Int32) (x : Int32) (hy : y + 1 < 5) : ∀ t, kW (k_pk u y i g t) x = kW u x + 2 ^ (y + 1) * ctl (fun t => g (i + 2 * t)) x t
  | 0 => by rw [k_pk, ctl_0, Nat.mul_zero, Nat.add_zero]
  | t + 1 => by
    rw [k_pk, wt_put _ _ _ _ hy, wt_pk u y i g x hy t, ctl_s, Nat.mul_add, Nat.add_assoc]
theorem wt_srt (u : Ks) (y : Nat) (x : Int32) (h8 : u.2.1 y = 8) : kW (k_srt u y) x = kW u x := by
  have h := k_wt_at (F := u.1) (F2 := (k_srt u y).1) (z := u.2.1) (z2 := (k_srt u y).2.1) y x (fun i hi => ⟨va_up_ne _ _ hi, rfl⟩) 5
  have e1 : (k_srt u y).1 y = z_so (u.1 y) 0 7 := va_up_self _ _ _
  have e2 : (k_srt u y).2.1 y = 8 := h8
  have e3 : ctl (z_so (u.1 y) 0 7) x 8 = ctl (u.1 y) x 8 := so_ct (u.1 y) x 7
  rw [e1, e2, h8, e3] at h
  unfold kW
  split at h <;> omega
theorem wt_h2 (u : Ks) (y : Nat) (x : Int32) (hy : y < 5) : kW (k_h2 u y) x + 2 ^ y * ctl (u.1 y) x (u.2.1 y) = kW u x := by
  have h := k_wt_at (F := u.1) (F2 := (k_h2 u y).1) (z := u.2.1) (z2 := (k_h2 u y).2.1) y x (fun i hi => ⟨rfl, va_up_ne _ _ hi⟩) 5
  have e2 : (k_h2 u y).2.1 y = 0 := va_up_self _ _ _
  rw [if_pos hy, if_pos hy, e2, ctl_0, Nat.mul_zero, Nat.add_zero] at h
  unfold kW
  exact h
theorem hs_pk_row (u : Ks) (y i : Nat) : ∀ t, (k_pk (k_srt u y) y i (z_so (u.1 y) 0 7) t).1 y = z_so (u.1 y) 0 7 := fun t => by
  rw [k_pk_row]
  exact va_up_self _ _ _
theorem hs_2 (u : Ks) (y : Nat) : (k_hs u y).2 = (va_up (va_up u.2.1 (y + 1) (u.2.1 (y + 1) + 4)) y 0, va_up u.2.2.1 y (u.2.2.1 y + 1), u.2.2.2 + 2 ^ y) := by
  obtain ⟨h1, h2⟩ := k_pk_keeps (k_srt u y) y (if u.2.2.1 y % 2 = 0 then 1 else 0) (z_so (u.1 y) 0 7) 4
  unfold k_hs k_h2
  rw [h1, h2]
  rfl
/-- a level halved: no weight is off by more than one of its values stands for -/
theorem wt_hs (u : Ks) (y : Nat) (x : Int32) (hy : y < 4) (h8 : u.2.1 y = 8) : kW (k_hs u y) x ≤ kW u x + 2 ^ y ∧ kW u x ≤ kW (k_hs u y) x + 2 ^ y := by
  obtain ⟨e, he⟩ : ∃ e, e = (if u.2.2.1 y % 2 = 0 then 1 else 0) := ⟨_, rfl⟩
  have he2 : e < 2 := by rw [he]; split <;> decide
  have h1 := wt_h2 (k_pk (k_srt u y) y e (z_so (u.1 y) 0 7) 4) y x (by omega)
  have h2 := wt_pk (k_srt u y) y e (z_so (u.1 y) 0 7) x (by omega) 4
  have h3 := wt_srt u y x h8
  have e1 : (k_pk (k_srt u y) y e (z_so (u.1 y) 0 7) 4).2.1 y = 8 := by
    rw [(k_pk_keeps _ _ _ _ 4).2, va_up_ne _ _ (by omega)]
    exact h8
  rw [hs_pk_row, e1] at h1
  have hsd : Sd (z_so (u.1 y) 0 7) 8 := so_sd (u.1 y) 7
  rw [half_ct hsd x e he2] at h2
  have hk : k_hs u y = k_h2 (k_pk (k_srt u y) y e (z_so (u.1 y) 0 7) 4) y := by unfold k_hs; rw [← he]
  rw [hk]
  obtain ⟨c, hc⟩ : ∃ c, c = ctl (z_so (u.1 y) 0 7) x 8 := ⟨_, rfl⟩
  rw [← hc] at h1 h2
  obtain ⟨p, hp⟩ : ∃ p, p = (c + (1 - e)) / 2 := ⟨_, rfl⟩
  rw [← hp] at h2
  have g1 : 2 * p ≤ c + 1 := by omega
  have g2 : c ≤ 2 * p + 1 := by omega
  have m1 := Nat.mul_le_mul_left (2 ^ y) g1
  have m2 := Nat.mul_le_mul_left (2 ^ y) g2
  rw [Nat.mul_add, Nat.mul_one] at m1 m2
  have m3 : 2 ^ (y + 1) * p = 2 ^ y * (2 * p) := by rw [Nat.pow_succ, Nat.mul_assoc]
  rw [m3] at h2
  omega
/-- how far the weights are off from a count -/
def Er (u : Ks) (C : Int32 → Nat) : Prop := ∀ x, kW u x ≤ C x + u.2.2.2 ∧ C x ≤ kW u x + u.2.2.2
def Rw (R : Int32 → Prop) (u : Ks) : Prop := ∀ y : Nat, y < 5 → Hd R (u.1 y) (u.2.1 y)
theorem er_hs {u : Ks} {C : Int32 → Nat} (h : Er u C) {y : Nat} (hy : y < 4) (h8 : u.2.1 y = 8) : Er (k_hs u y) C := fun x => by
  have h1 := wt_hs u y x hy h8
  have h2 := h x
  have e : (k_hs u y).2.2.2 = u.2.2.2 + 2 ^ y := by rw [hs_2]
  rw [e]
  omega
theorem er_put {u : Ks} {C : Int32 → Nat} (h : Er u C) (v : Int32) : Er (k_put u 0 v) (fun x => C x + if v ≤ x then 1 else 0) := fun x => by
  have h1 := wt_put u 0 v x (by decide)
  have h2 := h x
  have e : (k_put u 0 v).2.2.2 = u.2.2.2 := rfl
  rw [e, h1]
  have e2 : 2 ^ 0 * (if v ≤ x then 1 else 0 : Nat) = (if v ≤ x then 1 else 0) := by rw [Nat.pow_zero, Nat.one_mul]
  rw [e2]
  show _ ≤ (C x + if v ≤ x then 1 else 0) + _ ∧ (C x + if v ≤ x then 1 else 0) ≤ _
  omega
theorem rw_put {R : Int32 → Prop} {u : Ks} (h : Rw R u) (y : Nat) (v : Int32) (hv : R v) : Rw R (k_put u y v) := fun i hi r hr => by
  by_cases q : i = y
  · subst q
    have e1 : (k_put u i v).1 i = va_up (u.1 i) (u.2.1 i) v := va_up_self _ _ _
    have e2 : (k_put u i v).2.1 i = u.2.1 i + 1 := va_up_self _ _ _
    rw [e2] at hr
    rw [e1]
    by_cases q2 : r = u.2.1 i
    · rw [q2, va_up_self]
      exact hv
    · rw [va_up_ne _ _ q2]
      exact h i hi r (by omega)
  · have e1 : (k_put u y v).1 i = u.1 i := va_up_ne _ _ q
    have e2 : (k_put u y v).2.1 i = u.2.1 i := va_up_ne _ _ q
    rw [e2] at hr
    rw [e1]
    exact h i hi r hr
theorem rw_pk {R : Int32 → Prop} {u : Ks} (h : Rw R u) (y i : Nat) (g : Nat → Int32) : ∀ t, (∀ a, a < t → R (g (i + 2 * a))) → Rw R (k_pk u y i g t)
  | 0, _ => h
  | t + 1, hg => by
    rw [k_pk]
    exact rw_put (rw_pk h y i g t (fun a ha => hg a (by omega))) _ _ (hg t (Nat.lt_succ_self t))
theorem rw_hs {R : Int32 → Prop} {u : Ks} (h : Rw R u) {y : Nat} (hy : y < 4) (h8 : u.2.1 y = 8) : Rw R (k_hs u y) := by
  have hg : Hd R (z_so (u.1 y) 0 7) 8 := so_hd (u.1 y) 7 (by have h9 := h y (by omega); rw [h8] at h9; exact h9)
  have h1 : Rw R (k_srt u y) := fun i hi r hr => by
    by_cases q : i = y
    · subst q
      have e1 : (k_srt u i).1 i = z_so (u.1 i) 0 7 := va_up_self _ _ _
      have e2 : (k_srt u i).2.1 i = 8 := h8
      rw [e2] at hr
      rw [e1]
      exact hg r hr
    · have e1 : (k_srt u y).1 i = u.1 i := va_up_ne _ _ q
      rw [e1]
      exact h i hi r hr
  have h2 := rw_pk h1 y (if u.2.2.1 y % 2 = 0 then 1 else 0) (z_so (u.1 y) 0 7) 4 (fun a ha => hg _ (by split <;> omega))
  intro i hi r hr
  have e1 : (k_hs u y).1 = (k_pk (k_srt u y) y (if u.2.2.1 y % 2 = 0 then 1 else 0) (z_so (u.1 y) 0 7) 4).1 := rfl
  rw [e1]
  by_cases q : i = y
  · subst q
    have e2 : (k_hs u i).2.1 i = 0 := va_up_self _ _ _
    rw [e2] at hr
    exact absurd hr (Nat.not_lt_zero r)
  · have e2 : (k_hs u y).2.1 i = (k_pk (k_srt u y) y (if u.2.2.1 y % 2 = 0 then 1 else 0) (z_so (u.1 y) 0 7) 4).2.1 i := va_up_ne _ _ q
    rw [e2] at hr
    exact h2 i hi r hr
/-! sizes, halvings and bound as functions of the number of samples -/
def SZ (n y : Nat) : Nat := if y = 0 then n % 8 else if y ≤ 4 then 4 * (n / 2 ^ (y + 2) % 2) else 0
def HV (n y : Nat) : Nat := n / 2 ^ (y + 3)
def BD (n : Nat) : Nat := n / 8 + 2 * (n / 16) + 4 * (n / 32) + 8 * (n / 64)
def nh (w : (Nat → Nat) × (Nat → Nat) × Nat) (y : Nat) : (Nat → Nat) × (Nat → Nat) × Nat := (va_up (va_up w.1 (y + 1) (w.1 (y + 1) + 4)) y 0, va_up w.2.1 y (w.2.1 y + 1), w.2.2 + 2 ^ y)
def ns (u : (Nat → Nat) × (Nat → Nat) × Nat) : Nat → (Nat → Nat) × (Nat → Nat) × Nat
  | 0 => u
  | y + 1 => if 8 ≤ (ns u y).1 y then nh (ns u y) y else ns u y
theorem lv_ns (u : Ks) : ∀ y, (k_lv u y).2 = ns u.2 y
  | 0 => rfl
  | y + 1 => by
    have h := lv_ns u y
    rw [k_lv, ns, ← h]
    by_cases q : 8 ≤ (k_lv u y).2.1 y
    · rw [if_pos q, if_pos q, hs_2]
      rfl
    · rw [if_neg q, if_neg q]
theorem ns_hi (u : (Nat → Nat) × (Nat → Nat) × Nat) : ∀ Y y, Y < y → (ns u Y).1 y = u.1 y
  | 0, _, _ => rfl
  | Y + 1, y, h => by
    rw [ns]
    split
    · show va_up (va_up (ns u Y).1 (Y + 1) _) Y 0 y = _
      rw [va_up_ne _ _ (by omega), va_up_ne _ _ (by omega)]
      exact ns_hi u Y y (by omega)
    · exact ns_hi u Y y (by omega)
theorem ns_hi2 (u : (Nat → Nat) × (Nat → Nat) × Nat) : ∀ Y y, Y ≤ y → (ns u Y).2.1 y = u.2.1 y
  | 0, _, _ => rfl
  | Y + 1, y, h => by
    rw [ns]
    split
    · show va_up (ns u Y).2.1 Y _ y = _
      rw [va_up_ne _ _ (by omega)]
      exact ns_hi2 u Y y (by omega)
    · exact ns_hi2 u Y y (by omega)
/-- the sizes behind one more value at the level 0 -/
def nA (n : Nat) : (Nat → Nat) × (Nat → Nat) × Nat := (va_up (SZ n) 0 (SZ n 0 + 1), HV n, BD n)
theorem nA_z : ∀ n, n < 120 → ∀ y, y < 5 → (ns (nA n) 4).1 y = SZ (n + 1) y := by decide +kernel
theorem nA_v : ∀ n, n < 120 → ∀ y, y < 4 → (ns (nA n) 4).2.1 y = HV (n + 1) y := by decide +kernel
theorem nA_d : ∀ n, n < 120 → (ns (nA n) 4).2.2 = BD (n + 1) := by decide +kernel
theorem nA_8 : ∀ n, n < 120 → ∀ Y, Y < 5 → ∀ y, y < 5 → (ns (nA n) Y).1 y ≤ 8 := by decide +kernel
theorem nA_4 : ∀ n, n < 120 → ∀ Y, Y < 4 → 8 ≤ (ns (nA n) Y).1 Y → (ns (nA n) Y).1 (Y + 1) ≤ 4 := by decide +kernel
theorem nA_h : ∀ n, n < 120 → ∀ Y, Y < 5 → ∀ y, y < 5 → (ns (nA n) Y).2.1 y < 200 := by decide +kernel
theorem nA_b : ∀ n, n < 120 → ∀ Y, Y < 5 → (ns (nA n) Y).2.2 < 2000 := by decide +kernel
theorem SZ_5 (n y : Nat) (h : 5 ≤ y) : SZ n y = 0 := by
  unfold SZ
  rw [if_neg (by omega), if_neg (by omega)]
theorem SZ_8 : ∀ n, n ≤ 120 → ∀ y, y < 5 → SZ n y < 8 := by
  intro n hn
  exact (show ∀ n, n < 121 → ∀ y, y < 5 → SZ n y < 8 by decide +kernel) n (by omega)
theorem HV_4 (n y : Nat) (hn : n ≤ 120) (h : 4 ≤ y) : HV n y = 0 := by
  unfold HV
  have h1 : 2 ^ 7 ≤ 2 ^ (y + 3) := Nat.pow_le_pow_right (by decide) (by omega)
  exact Nat.div_eq_of_lt (by omega)
theorem HV_le (n y : Nat) (hn : n ≤ 120) : HV n y ≤ 120 := by
  unfold HV
  exact Nat.le_trans (Nat.div_le_self _ _) hn
theorem BD_le : ∀ n, n ≤ 120 → BD n < 2000 := fun n hn => by unfold BD; omega
theorem nA_all {n : Nat} (hn : n < 120) : ns (nA n) 4 = (SZ (n + 1), HV (n + 1), BD (n + 1)) := by
  have e1 : (ns (nA n) 4).1 = SZ (n + 1) := by
    funext y
    rcases Nat.lt_or_ge y 5 with q | q
    · exact nA_z n hn y q
    · rw [ns_hi _ 4 y (by omega), SZ_5 _ _ q]
      show va_up (SZ n) 0 _ y = 0
      rw [va_up_ne _ _ (by omega)]
      exact SZ_5 _ _ q
  have e2 : (ns (nA n) 4).2.1 = HV (n + 1) := by
    funext y
    rcases Nat.lt_or_ge y 4 with q | q
    · exact nA_v n hn y q
    · rw [ns_hi2 _ 4 y q, HV_4 _ _ (by omega) q]
      exact HV_4 _ _ (by omega) q
  rw [← e1, ← e2, ← nA_d n hn]
/-- the sketch of n samples takes one more -/
theorem lv_all {F : Nat → Nat → Int32} {n : Nat} (x : Int32) (hn : n < 120) : (k_lv (k_put (F, SZ n, HV n, BD n) 0 x) 4).2 = (SZ (n + 1), HV (n + 1), BD (n + 1)) := by
  rw [lv_ns, ← nA_all hn]
  rfl
theorem lv_Tk {F : Nat → Nat → Int32} {n : Nat} (x : Int32) (hn : n < 120) : TkOK (k_put (F, SZ n, HV n, BD n) 0 x) := fun y hy => by
  have e : (k_lv (k_put (F, SZ n, HV n, BD n) 0 x) y).2 = ns (nA n) y := lv_ns _ y
  rw [e]
  refine ⟨nA_8 n hn y (by omega) y (by omega), nA_4 n hn y hy, ?_⟩
  have := nA_h n hn y (by omega) y (by omega)
  omega
theorem lv_inv {F : Nat → Nat → Int32} {n : Nat} {C : Int32 → Nat} {R : Int32 → Prop} (x : Int32) (hn : n < 120) (he : Er (F, SZ n, HV n, BD n) C) (hr : Rw R (F, SZ n, HV n, BD n)) (hx : R x) : ∀ y, y ≤ 4 → Er (k_lv (k_put (F, SZ n, HV n, BD n) 0 x) y) (fun v => C v + if x ≤ v then 1 else 0) ∧ Rw R (k_lv (k_put (F, SZ n, HV n, BD n) 0 x) y)
  | 0, _ => ⟨er_put he x, rw_put hr 0 x hx⟩
  | y + 1, hy => by
    obtain ⟨h1, h2⟩ := lv_inv x hn he hr hx y (by omega)
    have ht := lv_Tk (F := F) x hn y (by omega)
    rw [k_lv]
    by_cases q : 8 ≤ (k_lv (k_put (F, SZ n, HV n, BD n) 0 x) y).2.1 y
    · rw [if_pos q]
      have h8 : (k_lv (k_put (F, SZ n, HV n, BD n) 0 x) y).2.1 y = 8 := by omega
      exact ⟨er_hs h1 (by omega) h8, rw_hs h2 (by omega) h8⟩
    · rw [if_neg q]
      exact ⟨h1, h2⟩
