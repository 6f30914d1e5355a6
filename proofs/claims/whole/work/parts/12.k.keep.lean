theorem va_uu {α : Type} (f : Nat → α) (k : Nat) (v w : α) : va_up (va_up f k v) k w = va_up f k w := by
  funext j
  by_cases q : j = k
  · rw [q, va_up_self, va_up_self]
  · rw [va_up_ne _ _ q, va_up_ne _ _ q, va_up_ne _ _ q]
theorem al_nar (c d : Prop) [Decidable c] [Decidable d] : narrow .char (.int (nI (if c then 111 else if d then 102 else 112))) = .int (nI (if c then 111 else if d then 102 else 112)) := by
  split
  · rfl
  · split
    · rfl
    · rfl
