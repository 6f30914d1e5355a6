/-- the chain of series k + 1 with nb blocks -/
def chL (A : Cd → Nat) (k nb : Nat) : Nat → Option Nat := fun i => if i < nb then some (A (cd (k + 1) 14 i)) else none
theorem chL_at {A : Cd → Nat} {k nb i : Nat} (h : i < nb) : va_rf (chL A k nb i) = .ref (A (cd (k + 1) 14 i)) := by unfold chL; rw [if_pos h]; rfl
theorem chL_no {A : Cd → Nat} {k nb i : Nat} (h : ¬ i < nb) : va_rf (chL A k nb i) = .null := by unfold chL; rw [if_neg h]; rfl
theorem chL_up {A A9 : Cd → Nat} {k nb b : Nat} (h : ∀ i, i < nb → A9 (cd (k + 1) 14 i) = A (cd (k + 1) 14 i)) (hb : A9 (cd (k + 1) 14 nb) = b) : va_up (chL A k nb) nb (some b) = chL A9 k (nb + 1) := by
  funext i
  unfold chL
  by_cases q : i = nb
  · subst q; rw [va_up_self, if_pos (Nat.lt_succ_self _), hb]
  · rw [va_up_ne _ _ q]
    by_cases r : i < nb
    · rw [if_pos r, if_pos (by omega), h i r]
    · rw [if_neg r, if_neg (by omega)]
