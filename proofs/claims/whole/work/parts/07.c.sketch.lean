/-! what the sketch answers and becomes, out of its rows F, sizes z, halvings v, bound d -/
def k_wt (F : Nat → Nat → Int32) (z : Nat → Nat) (x : Int32) : Nat → Nat
  | 0 => 0
  | y + 1 => k_wt F z x y + z_su (fun r => if F y r ≤ x then 2 ^ y else 0) (z y)
def k_li (F : Nat → Nat → Int32) (z : Nat → Nat) (t y : Nat) (x : Int32) : Nat → Int32
  | 0 => x
  | r + 1 => if F y r < k_li F z t y x r ∧ t ≤ k_wt F z (F y r) 5 then F y r else k_li F z t y x r
def k_lo (F : Nat → Nat → Int32) (z : Nat → Nat) (t : Nat) : Nat → Int32
  | 0 => nI 10000
  | y + 1 => k_li F z t y (k_lo F z t y) (z y)
abbrev Ks : Type := (Nat → Nat → Int32) × (Nat → Nat) × (Nat → Nat) × Nat
def k_put (u : Ks) (y : Nat) (x : Int32) : Ks := (va_up u.1 y (va_up (u.1 y) (u.2.1 y) x), va_up u.2.1 y (u.2.1 y + 1), u.2.2.1, u.2.2.2)
def k_pk (u : Ks) (y i : Nat) (g : Nat → Int32) : Nat → Ks
  | 0 => u
  | t + 1 => k_put (k_pk u y i g t) (y + 1) (g (i + 2 * t))
def k_h2 (u : Ks) (y : Nat) : Ks := (u.1, va_up u.2.1 y 0, va_up u.2.2.1 y (u.2.2.1 y + 1), u.2.2.2 + 2 ^ y)
def k_srt (u : Ks) (y : Nat) : Ks := (va_up u.1 y (z_so (u.1 y) 0 7), u.2.1, u.2.2.1, u.2.2.2)
def k_hs (u : Ks) (y : Nat) : Ks := k_h2 (k_pk (k_srt u y) y (if u.2.2.1 y % 2 = 0 then 1 else 0) (z_so (u.1 y) 0 7) 4) y
def k_lv (u : Ks) : Nat → Ks
  | 0 => u
  | y + 1 => if 8 ≤ (k_lv u y).2.1 y then k_hs (k_lv u y) y else k_lv u y
theorem k_wt_le {F : Nat → Nat → Int32} {z : Nat → Nat} (hz : ∀ i : Nat, i < 5 → z i ≤ 8) (x : Int32) : ∀ y, y ≤ 5 → k_wt F z x y ≤ 256 * y
  | 0, _ => Nat.zero_le _
  | y + 1, h => by
    have h1 := k_wt_le hz x (F := F) y (by omega)
    have h2 := hz y (by omega)
    have h3 : 2 ^ y ≤ 2 ^ 5 := Nat.pow_le_pow_right (by decide) (by omega)
    have h4 : z_su (fun r => if F y r ≤ x then 2 ^ y else 0) (z y) ≤ 32 * z y := z_su_le _ (fun j _ => by split <;> omega)
    rw [k_wt]
    omega
theorem k_pk_keeps (u : Ks) (y i : Nat) (g : Nat → Int32) : ∀ t, (k_pk u y i g t).2.2 = u.2.2 ∧ (k_pk u y i g t).2.1 = va_up u.2.1 (y + 1) (u.2.1 (y + 1) + t)
  | 0 => ⟨rfl, by funext j; by_cases e : j = y + 1; (· subst e; exact (va_up_self _ _ _).symm); (· exact (va_up_ne _ _ e).symm)⟩
  | t + 1 => by
    obtain ⟨h1, h2⟩ := k_pk_keeps u y i g t
    refine ⟨h1, ?_⟩
    show va_up (k_pk u y i g t).2.1 (y + 1) ((k_pk u y i g t).2.1 (y + 1) + 1) = _
    rw [h2]
    funext j
    by_cases e : j = y + 1
    · subst e; rw [va_up_self, va_up_self, va_up_self]; omega
    · rw [va_up_ne _ _ e, va_up_ne _ _ e, va_up_ne _ _ e]
theorem k_pk_row (u : Ks) (y i : Nat) (g : Nat → Int32) : ∀ t, (k_pk u y i g t).1 y = u.1 y
  | 0 => rfl
  | t + 1 => by
    show va_up (k_pk u y i g t).1 (y + 1) _ y = _
    rw [va_up_ne _ _ (by omega)]
    exact k_pk_row u y i g t
/-- what the levels must be for the sketch to take a value without a refusal -/
def TkOK (u : Ks) : Prop := ∀ y : Nat, y < 4 → (k_lv u y).2.1 y ≤ 8 ∧ (8 ≤ (k_lv u y).2.1 y → (k_lv u y).2.1 (y + 1) ≤ 4) ∧ (k_lv u y).2.2.1 y < 1000000
