/-! the sketch of series k + 1: rows F, sizes z, halvings v, bound d, over what else there is -/
def skL (A : Cd → Nat) (k : Nat) : Nat → Option Nat := fun i => if i < 5 then some (A (cd (k + 1) 7 i)) else none
def skS (G : mG) (A : Cd → Nat) (sg : Cd → Option va_E) (k : Nat) (F : Nat → Nat → Int32) (z v : Nat → Nat) (d : Nat) : Cd → Option va_E := fun x =>
  if x.1 = k + 1 then
    if x.2 = (5, 0) then some (eO 3 [.ref (A (cd (k + 1) 6 0)), .ref (A (cd (k + 1) 8 0)), .ref (A (cd (k + 1) 9 0)), .int (nI d)])
    else if x.2 = (6, 0) then some (eA G 5 (skL A k))
    else if x.2 = (8, 0) then some (eI G 5 (fun i => nI (z i)))
    else if x.2 = (9, 0) then some (eI G 5 (fun i => nI (v i)))
    else if x.2.1 = 7 ∧ x.2.2 < 5 then some (eI G 8 (F x.2.2))
    else sg x
  else sg x
section
variable {G : mG} {A : Cd → Nat} {sg : Cd → Option va_E} {k : Nat} {F : Nat → Nat → Int32} {z v : Nat → Nat} {d : Nat}
theorem skS_5 : skS G A sg k F z v d (cd (k + 1) 5 0) = some (eO 3 [.ref (A (cd (k + 1) 6 0)), .ref (A (cd (k + 1) 8 0)), .ref (A (cd (k + 1) 9 0)), .int (nI d)]) := by simp [skS, cd]
theorem skS_6 : skS G A sg k F z v d (cd (k + 1) 6 0) = some (eA G 5 (skL A k)) := by simp [skS, cd]
theorem skS_8 : skS G A sg k F z v d (cd (k + 1) 8 0) = some (eI G 5 (fun i => nI (z i))) := by simp [skS, cd]
theorem skS_9 : skS G A sg k F z v d (cd (k + 1) 9 0) = some (eI G 5 (fun i => nI (v i))) := by simp [skS, cd]
theorem skS_7 {i : Nat} (h : i < 5) : skS G A sg k F z v d (cd (k + 1) 7 i) = some (eI G 8 (F i)) := by simp [skS, cd, h]
theorem skS_ne {x : Cd} (h : x.1 = k + 1 → x.2.1 ≠ 5 ∧ x.2.1 ≠ 6 ∧ x.2.1 ≠ 7 ∧ x.2.1 ≠ 8 ∧ x.2.1 ≠ 9) : skS G A sg k F z v d x = sg x := by
  unfold skS
  split
  · next q =>
    obtain ⟨h5, h6, h7, h8, h9⟩ := h q
    rw [if_neg (fun r => h5 (congrArg Prod.fst r)), if_neg (fun r => h6 (congrArg Prod.fst r)), if_neg (fun r => h8 (congrArg Prod.fst r)), if_neg (fun r => h9 (congrArg Prod.fst r)), if_neg (fun r => h7 r.1)]
  · rfl
theorem skS_p5 {d2 : Nat} : up3 (skS G A sg k F z v d) (cd (k + 1) 5 0) (some (eO 3 [.ref (A (cd (k + 1) 6 0)), .ref (A (cd (k + 1) 8 0)), .ref (A (cd (k + 1) 9 0)), .int (nI d2)])) = skS G A sg k F z v d2 := by
  funext x
  by_cases q : x = cd (k + 1) 5 0
  · rw [q, up3_self, skS_5]
  · rw [up3_ne _ _ q]
    unfold skS
    by_cases q1 : x.1 = k + 1
    · have q2 : x.2 ≠ (5, 0) := fun r => q (Prod.ext q1 r)
      rw [if_pos q1, if_pos q1, if_neg q2, if_neg q2]
    · rw [if_neg q1, if_neg q1]
theorem skS_p8 {z2 : Nat → Nat} : up3 (skS G A sg k F z v d) (cd (k + 1) 8 0) (some (eI G 5 (fun i => nI (z2 i)))) = skS G A sg k F z2 v d := by
  funext x
  by_cases q : x = cd (k + 1) 8 0
  · rw [q, up3_self, skS_8]
  · rw [up3_ne _ _ q]
    unfold skS
    by_cases q1 : x.1 = k + 1
    · have q2 : x.2 ≠ (8, 0) := fun r => q (Prod.ext q1 r)
      rw [if_pos q1, if_pos q1, if_neg q2, if_neg q2]
    · rw [if_neg q1, if_neg q1]
theorem skS_p9 {v2 : Nat → Nat} : up3 (skS G A sg k F z v d) (cd (k + 1) 9 0) (some (eI G 5 (fun i => nI (v2 i)))) = skS G A sg k F z v2 d := by
  funext x
  by_cases q : x = cd (k + 1) 9 0
  · rw [q, up3_self, skS_9]
  · rw [up3_ne _ _ q]
    unfold skS
    by_cases q1 : x.1 = k + 1
    · have q2 : x.2 ≠ (9, 0) := fun r => q (Prod.ext q1 r)
      rw [if_pos q1, if_pos q1, if_neg q2, if_neg q2]
    · rw [if_neg q1, if_neg q1]
theorem skS_p7 {i : Nat} {f : Nat → Int32} (h : i < 5) : up3 (skS G A sg k F z v d) (cd (k + 1) 7 i) (some (eI G 8 f)) = skS G A sg k (va_up F i f) z v d := by
  funext x
  by_cases q : x = cd (k + 1) 7 i
  · rw [q, up3_self, skS_7 h, va_up_self]
  · rw [up3_ne _ _ q]
    unfold skS
    by_cases q1 : x.1 = k + 1
    · by_cases q2 : x.2.1 = 7 ∧ x.2.2 < 5
      · have q3 : x.2.2 ≠ i := fun r => q (Prod.ext q1 (Prod.ext q2.1 r))
        rw [if_pos q1, if_pos q1, if_pos q2, if_pos q2, va_up_ne _ _ q3]
      · rw [if_pos q1, if_pos q1, if_neg q2, if_neg q2]
    · rw [if_neg q1, if_neg q1]
theorem skS_id (h5 : sg (cd (k + 1) 5 0) = some (eO 3 [.ref (A (cd (k + 1) 6 0)), .ref (A (cd (k + 1) 8 0)), .ref (A (cd (k + 1) 9 0)), .int (nI d)])) (h6 : sg (cd (k + 1) 6 0) = some (eA G 5 (skL A k))) (h8 : sg (cd (k + 1) 8 0) = some (eI G 5 (fun i => nI (z i)))) (h9 : sg (cd (k + 1) 9 0) = some (eI G 5 (fun i => nI (v i)))) (h7 : ∀ i : Nat, i < 5 → sg (cd (k + 1) 7 i) = some (eI G 8 (F i))) : skS G A sg k F z v d = sg := by
  funext x
  unfold skS
  by_cases q1 : x.1 = k + 1
  · rw [if_pos q1]
    split
    · next q => rw [show x = cd (k + 1) 5 0 from Prod.ext q1 q, h5]
    · split
      · next q => rw [show x = cd (k + 1) 6 0 from Prod.ext q1 q, h6]
      · split
        · next q => rw [show x = cd (k + 1) 8 0 from Prod.ext q1 q, h8]
        · split
          · next q => rw [show x = cd (k + 1) 9 0 from Prod.ext q1 q, h9]
          · split
            · next q => rw [show x = cd (k + 1) 7 x.2.2 from Prod.ext q1 (Prod.ext q.1 rfl)]; exact (h7 _ q.2).symm
            · rfl
  · rw [if_neg q1]
end
theorem skL_at {A : Cd → Nat} {k i : Nat} (h : i < 5) : va_rf (skL A k i) = .ref (A (cd (k + 1) 7 i)) := by unfold skL; rw [if_pos h]; rfl
