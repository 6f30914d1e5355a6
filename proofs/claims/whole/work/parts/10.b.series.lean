theorem srS_all {G : mG} {A : Cd → Nat} {sg : Cd → Option va_E} {k : Nat} {X : Xs} {P : Cd → va_E → Prop} (h0 : P (cd (k + 1) 0 0) (eO 2 [.int X.1, .int X.2.1, .ref (A (cd (k + 1) 1 0)), .ref (A (cd (k + 1) 2 0)), .ref (A (cd (k + 1) 3 0)), .ref (A (cd (k + 1) 4 0)), .ref (A (cd (k + 1) 5 0)), .int (nI X.2.2.1), x_av A k X.2.2.2.2.2.2])) (h1 : P (cd (k + 1) 1 0) (eL G 120 (fun i => lN (X.2.2.2.1 i)))) (h2 : P (cd (k + 1) 2 0) (eI G 120 X.2.2.2.2.1)) (h3 : P (cd (k + 1) 3 0) (eI G 120 (x_so X.2.2.2.2.1 X.2.2.1))) (h4 : P (cd (k + 1) 4 0) (eB G 15 (chL A k (x_nb X.2.2.1)))) (h5 : P (cd (k + 1) 5 0) (eO 3 [.ref (A (cd (k + 1) 6 0)), .ref (A (cd (k + 1) 8 0)), .ref (A (cd (k + 1) 9 0)), .int (nI X.2.2.2.2.2.1.2.2.2)])) (h6 : P (cd (k + 1) 6 0) (eA G 5 (skL A k))) (h8 : P (cd (k + 1) 8 0) (eI G 5 (fun i => nI (X.2.2.2.2.2.1.2.1 i)))) (h9 : P (cd (k + 1) 9 0) (eI G 5 (fun i => nI (X.2.2.2.2.2.1.2.2.1 i)))) (h13 : ∀ e, x_ac X.2.2.2.2.2.2 = some e → P (cd (k + 1) 13 0) e) (h7 : ∀ i : Nat, i < 5 → P (cd (k + 1) 7 i) (eI G 8 (X.2.2.2.2.2.1.1 i))) (h14 : ∀ i : Nat, i < x_nb X.2.2.1 → P (cd (k + 1) 14 i) (x_bo A k X.2.2.2.1 X.2.2.2.2.1 X.2.2.1 i)) (h15 : ∀ i : Nat, i < x_nb X.2.2.1 → P (cd (k + 1) 15 i) (eL G 8 (x_ts X.2.2.2.1 X.2.2.1 i))) (h16 : ∀ i : Nat, i < x_nb X.2.2.1 → P (cd (k + 1) 16 i) (eI G 8 (x_vs X.2.2.2.2.1 X.2.2.1 i))) (hs : ∀ x e, x.1 ≠ k + 1 → sg x = some e → P x e) : ∀ x e, srS G A sg k X x = some e → P x e := by
  intro x e hx
  unfold srS at hx
  by_cases q1 : x.1 = k + 1
  · rw [if_pos q1] at hx
    obtain ⟨a, y⟩ := x
    replace q1 : a = k + 1 := q1
    subst q1
    replace hx : srC G A k X y = some e := hx
    unfold srC at hx
    by_cases r0 : y = (0, 0)
    · rw [if_pos r0] at hx; cases hx; subst r0; exact h0
    rw [if_neg r0] at hx
    by_cases r1 : y = (1, 0)
    · rw [if_pos r1] at hx; cases hx; subst r1; exact h1
    rw [if_neg r1] at hx
    by_cases r2 : y = (2, 0)
    · rw [if_pos r2] at hx; cases hx; subst r2; exact h2
    rw [if_neg r2] at hx
    by_cases r3 : y = (3, 0)
    · rw [if_pos r3] at hx; cases hx; subst r3; exact h3
    rw [if_neg r3] at hx
    by_cases r4 : y = (4, 0)
    · rw [if_pos r4] at hx; cases hx; subst r4; exact h4
    rw [if_neg r4] at hx
    by_cases r5 : y = (5, 0)
    · rw [if_pos r5] at hx; cases hx; subst r5; exact h5
    rw [if_neg r5] at hx
    by_cases r6 : y = (6, 0)
    · rw [if_pos r6] at hx; cases hx; subst r6; exact h6
    rw [if_neg r6] at hx
    by_cases r8 : y = (8, 0)
    · rw [if_pos r8] at hx; cases hx; subst r8; exact h8
    rw [if_neg r8] at hx
    by_cases r9 : y = (9, 0)
    · rw [if_pos r9] at hx; cases hx; subst r9; exact h9
    rw [if_neg r9] at hx
    by_cases r13 : y = (13, 0)
    · rw [if_pos r13] at hx; subst r13; exact h13 e hx
    rw [if_neg r13] at hx
    by_cases r7 : y.1 = 7 ∧ y.2 < 5
    · rw [if_pos r7] at hx; cases hx; obtain ⟨y1, y2⟩ := y; obtain ⟨z1, z2⟩ := r7; replace z1 : y1 = 7 := z1; subst z1; exact h7 y2 z2
    rw [if_neg r7] at hx
    by_cases r14 : y.1 = 14 ∧ y.2 < x_nb X.2.2.1
    · rw [if_pos r14] at hx; cases hx; obtain ⟨y1, y2⟩ := y; obtain ⟨z1, z2⟩ := r14; replace z1 : y1 = 14 := z1; subst z1; exact h14 y2 z2
    rw [if_neg r14] at hx
    by_cases r15 : y.1 = 15 ∧ y.2 < x_nb X.2.2.1
    · rw [if_pos r15] at hx; cases hx; obtain ⟨y1, y2⟩ := y; obtain ⟨z1, z2⟩ := r15; replace z1 : y1 = 15 := z1; subst z1; exact h15 y2 z2
    rw [if_neg r15] at hx
    by_cases r16 : y.1 = 16 ∧ y.2 < x_nb X.2.2.1
    · rw [if_pos r16] at hx; cases hx; obtain ⟨y1, y2⟩ := y; obtain ⟨z1, z2⟩ := r16; replace z1 : y1 = 16 := z1; subst z1; exact h16 y2 z2
    rw [if_neg r16] at hx
    cases hx
  · rw [if_neg q1] at hx
    exact hs x e q1 hx
