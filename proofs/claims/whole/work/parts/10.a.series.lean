/-! a series' content: name, host, size, times, values, sketch, alert; all else of it is derived -/
abbrev Xa : Type := Option (Int32 × Int32 × Int32 × Int64)
abbrev Xs : Type := Int32 × Int32 × Nat × (Nat → Nat) × (Nat → Int32) × Ks × Xa
def x_so (U : Nat → Int32) : Nat → (Nat → Int32)
  | 0 => fun _ => 0
  | n + 1 => z_ins 0 (U n) n (x_so U n)
def x_nb (n : Nat) : Nat := (n + 8 - 1) / 8
def x_sz (n j : Nat) : Nat := min 8 (n - 8 * j)
def x_gp (T : Nat → Nat) (j i : Nat) : Int64 := if i = 0 then lN 0 else lN (T (8 * j + i)) - lN (T (8 * j + (i - 1)))
def x_ts (T : Nat → Nat) (n j : Nat) : Nat → Int64 := fun i => if 1 ≤ i ∧ i < x_sz n j then x_gp T j i - x_gp T j (i - 1) else 0
def x_vs (U : Nat → Int32) (n j : Nat) : Nat → Int32 := fun i => if 1 ≤ i ∧ i < x_sz n j then U (8 * j + i) - U (8 * j + (i - 1)) else 0
def x_bb (T : Nat → Nat) (U : Nat → Int32) (j : Nat) : Nat → Nat
  | 0 => 64
  | i + 1 => x_bb T U j i + (z_tb (x_gp T j (i + 1) - x_gp T j i) + z_vb (U (8 * j + (i + 1)) - U (8 * j + i)))
def x_av (A : Cd → Nat) (k : Nat) : Xa → Value
  | none => .null
  | some _ => .ref (A (cd (k + 1) 13 0))
def x_ac : Xa → Option va_E
  | none => none
  | some (li, wa, on, si) => some (eO 0 [.int li, .int wa, .int on, .long si])
def x_bo (A : Cd → Nat) (k : Nat) (T : Nat → Nat) (U : Nat → Int32) (n j : Nat) : va_E := eO 1 [.long (lN (T (8 * j))), .int (U (8 * j)), .ref (A (cd (k + 1) 15 j)), .ref (A (cd (k + 1) 16 j)), .int (nI (x_sz n j)), .int (nI (x_bb T U j (x_sz n j - 1))), .long (lN (T (8 * j + (x_sz n j - 1)))), .long (x_gp T j (x_sz n j - 1)), .int (U (8 * j + (x_sz n j - 1)))]
def srC (G : mG) (A : Cd → Nat) (k : Nat) (X : Xs) (y : Nat × Nat) : Option va_E :=
  if y = (0, 0) then some (eO 2 [.int X.1, .int X.2.1, .ref (A (cd (k + 1) 1 0)), .ref (A (cd (k + 1) 2 0)), .ref (A (cd (k + 1) 3 0)), .ref (A (cd (k + 1) 4 0)), .ref (A (cd (k + 1) 5 0)), .int (nI X.2.2.1), x_av A k X.2.2.2.2.2.2])
  else if y = (1, 0) then some (eL G 120 (fun i => lN (X.2.2.2.1 i)))
  else if y = (2, 0) then some (eI G 120 X.2.2.2.2.1)
  else if y = (3, 0) then some (eI G 120 (x_so X.2.2.2.2.1 X.2.2.1))
  else if y = (4, 0) then some (eB G 15 (chL A k (x_nb X.2.2.1)))
  else if y = (5, 0) then some (eO 3 [.ref (A (cd (k + 1) 6 0)), .ref (A (cd (k + 1) 8 0)), .ref (A (cd (k + 1) 9 0)), .int (nI X.2.2.2.2.2.1.2.2.2)])
  else if y = (6, 0) then some (eA G 5 (skL A k))
  else if y = (8, 0) then some (eI G 5 (fun i => nI (X.2.2.2.2.2.1.2.1 i)))
  else if y = (9, 0) then some (eI G 5 (fun i => nI (X.2.2.2.2.2.1.2.2.1 i)))
  else if y = (13, 0) then x_ac X.2.2.2.2.2.2
  else if y.1 = 7 ∧ y.2 < 5 then some (eI G 8 (X.2.2.2.2.2.1.1 y.2))
  else if y.1 = 14 ∧ y.2 < x_nb X.2.2.1 then some (x_bo A k X.2.2.2.1 X.2.2.2.2.1 X.2.2.1 y.2)
  else if y.1 = 15 ∧ y.2 < x_nb X.2.2.1 then some (eL G 8 (x_ts X.2.2.2.1 X.2.2.1 y.2))
  else if y.1 = 16 ∧ y.2 < x_nb X.2.2.1 then some (eI G 8 (x_vs X.2.2.2.2.1 X.2.2.1 y.2))
  else none
def srS (G : mG) (A : Cd → Nat) (sg : Cd → Option va_E) (k : Nat) (X : Xs) : Cd → Option va_E := fun x => if x.1 = k + 1 then srC G A k X x.2 else sg x
section
variable {G : mG} {A : Cd → Nat} {sg : Cd → Option va_E} {k : Nat} {X : Xs}
theorem srS_ne {x : Cd} (h : x.1 ≠ k + 1) : srS G A sg k X x = sg x := if_neg h
theorem srS_0 : srS G A sg k X (cd (k + 1) 0 0) = some (eO 2 [.int X.1, .int X.2.1, .ref (A (cd (k + 1) 1 0)), .ref (A (cd (k + 1) 2 0)), .ref (A (cd (k + 1) 3 0)), .ref (A (cd (k + 1) 4 0)), .ref (A (cd (k + 1) 5 0)), .int (nI X.2.2.1), x_av A k X.2.2.2.2.2.2]) := by simp [srS, srC, cd]
theorem srS_1 : srS G A sg k X (cd (k + 1) 1 0) = some (eL G 120 (fun i => lN (X.2.2.2.1 i))) := by simp [srS, srC, cd]
theorem srS_2 : srS G A sg k X (cd (k + 1) 2 0) = some (eI G 120 X.2.2.2.2.1) := by simp [srS, srC, cd]
theorem srS_3 : srS G A sg k X (cd (k + 1) 3 0) = some (eI G 120 (x_so X.2.2.2.2.1 X.2.2.1)) := by simp [srS, srC, cd]
theorem srS_4 : srS G A sg k X (cd (k + 1) 4 0) = some (eB G 15 (chL A k (x_nb X.2.2.1))) := by simp [srS, srC, cd]
theorem srS_5 : srS G A sg k X (cd (k + 1) 5 0) = some (eO 3 [.ref (A (cd (k + 1) 6 0)), .ref (A (cd (k + 1) 8 0)), .ref (A (cd (k + 1) 9 0)), .int (nI X.2.2.2.2.2.1.2.2.2)]) := by simp [srS, srC, cd]
theorem srS_6 : srS G A sg k X (cd (k + 1) 6 0) = some (eA G 5 (skL A k)) := by simp [srS, srC, cd]
theorem srS_8 : srS G A sg k X (cd (k + 1) 8 0) = some (eI G 5 (fun i => nI (X.2.2.2.2.2.1.2.1 i))) := by simp [srS, srC, cd]
theorem srS_9 : srS G A sg k X (cd (k + 1) 9 0) = some (eI G 5 (fun i => nI (X.2.2.2.2.2.1.2.2.1 i))) := by simp [srS, srC, cd]
theorem srS_13 : srS G A sg k X (cd (k + 1) 13 0) = x_ac X.2.2.2.2.2.2 := by simp [srS, srC, cd]
theorem srS_7 {i : Nat} (h : i < 5) : srS G A sg k X (cd (k + 1) 7 i) = some (eI G 8 (X.2.2.2.2.2.1.1 i)) := by simp [srS, srC, cd, h]
theorem srS_14 {i : Nat} (h : i < x_nb X.2.2.1) : srS G A sg k X (cd (k + 1) 14 i) = some (x_bo A k X.2.2.2.1 X.2.2.2.2.1 X.2.2.1 i) := by simp [srS, srC, cd, h]
theorem srS_15 {i : Nat} (h : i < x_nb X.2.2.1) : srS G A sg k X (cd (k + 1) 15 i) = some (eL G 8 (x_ts X.2.2.2.1 X.2.2.1 i)) := by simp [srS, srC, cd, h]
theorem srS_16 {i : Nat} (h : i < x_nb X.2.2.1) : srS G A sg k X (cd (k + 1) 16 i) = some (eI G 8 (x_vs X.2.2.2.2.1 X.2.2.1 i)) := by simp [srS, srC, cd, h]
end
