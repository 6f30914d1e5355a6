/-! a sample more: the reference's sketch and the class's go together -/
theorem ins_b (b : Nat) (v : Int32) (k : Nat) (hk : k < 8) : ∀ (f g : Nat → Int32), (∀ i, i < 8 → g i = f (b + i)) → (∀ i, i < 8 → z_ins 0 v k g i = z_ins b v k f (b + i)) ∧ ∀ j, (j < b ∨ b + 8 ≤ j) → z_ins b v k f j = f j := by
  induction k with
  | zero =>
    intro f g h
    rw [z_ins, z_ins]
    refine ⟨fun i hi => ?_, fun j hj => va_up_ne _ _ (by omega)⟩
    by_cases q : i = 0
    · rw [q, va_up_self, va_up_self]
    · rw [va_up_ne _ _ (by omega), va_up_ne _ _ (by omega)]
      exact h i hi
  | succ k ih =>
    intro f g h
    rw [z_ins, z_ins]
    have e0 : g (0 + k) = f (b + k) := by rw [Nat.zero_add]; exact h k (by omega)
    by_cases q : v < f (b + k)
    · rw [if_pos (by rw [e0]; exact q), if_pos q, e0]
      have h2 : ∀ i, i < 8 → va_up g (0 + (k + 1)) (f (b + k)) i = va_up f (b + (k + 1)) (f (b + k)) (b + i) := fun i hi => by
        by_cases r : i = k + 1
        · rw [show i = 0 + (k + 1) by omega, va_up_self, show b + (0 + (k + 1)) = b + (k + 1) by omega, va_up_self]
        · rw [va_up_ne _ _ (by omega), va_up_ne _ _ (by omega)]
          exact h i hi
      obtain ⟨g1, g2⟩ := ih (by omega) _ _ h2
      exact ⟨g1, fun j hj => by rw [g2 j hj]; exact va_up_ne _ _ (by omega)⟩
    · rw [if_neg (by rw [e0]; exact q), if_neg q]
      refine ⟨fun i hi => ?_, fun j hj => va_up_ne _ _ (by omega)⟩
      by_cases r : i = k + 1
      · rw [show i = 0 + (k + 1) by omega, va_up_self, show b + (0 + (k + 1)) = b + (k + 1) by omega, va_up_self]
      · rw [va_up_ne _ _ (by omega), va_up_ne _ _ (by omega)]
        exact h i hi
theorem so_b (b : Nat) (f g : Nat → Int32) (h : ∀ i, i < 8 → g i = f (b + i)) (m : Nat) (hm : m < 8) : (∀ i, i < 8 → z_so g 0 m i = z_so f b m (b + i)) ∧ ∀ j, (j < b ∨ b + 8 ≤ j) → z_so f b m j = f j := by
  induction m with
  | zero => exact ⟨h, fun _ _ => rfl⟩
  | succ m ih =>
    obtain ⟨g1, g2⟩ := ih (by omega)
    rw [z_so, z_so]
    have e : z_so g 0 m (0 + (m + 1)) = z_so f b m (b + (m + 1)) := by rw [Nat.zero_add]; exact g1 (m + 1) hm
    rw [e]
    obtain ⟨k1, k2⟩ := ins_b b (z_so f b m (b + (m + 1))) (m + 1) hm _ _ g1
    exact ⟨k1, fun j hj => (k2 j hj).trans (g2 j hj)⟩
/-- the sketch of series k in the reference's state -/
def Kr (st : Ms) (k : Nat) (u : Ks) : Prop := (∀ y : Nat, y < 6 → st_sz st (6 * k + y) = u.2.1 y) ∧ (∀ y : Nat, y < 5 → ∀ i : Nat, i < u.2.1 y → u.1 y i = st_sk st (8 * (6 * k + y) + i)) ∧ (∀ y : Nat, y < 6 → st_hv st (6 * k + y) = u.2.2.1 y) ∧ st_bd st k = u.2.2.2
/-- what a sample of series k leaves alone of the sketches -/
def Fo (k : Nat) (st s2 : Ms) : Prop := (∀ j : Nat, ¬ (6 * k ≤ j ∧ j < 6 * k + 6) → st_sz s2 j = st_sz st j ∧ st_hv s2 j = st_hv st j) ∧ (∀ j : Nat, ¬ (48 * k ≤ j ∧ j < 48 * k + 48) → st_sk s2 j = st_sk st j) ∧ ∀ j : Nat, j ≠ k → st_bd s2 j = st_bd st j
theorem Fo.rf {k : Nat} {st : Ms} : Fo k st st := ⟨fun _ _ => ⟨rfl, rfl⟩, fun _ _ => rfl, fun _ _ => rfl⟩
theorem Fo.tr {k : Nat} {a b c : Ms} (h : Fo k a b) (g : Fo k b c) : Fo k a c := ⟨fun j hj => ⟨(g.1 j hj).1.trans (h.1 j hj).1, (g.1 j hj).2.trans (h.1 j hj).2⟩, fun j hj => (g.2.1 j hj).trans (h.2.1 j hj), fun j hj => (g.2.2 j hj).trans (h.2.2 j hj)⟩
section
variable {st : Ms} {k : Nat} {u : Ks}
theorem kr_ho (h : Kr st k u) {y : Nat} (hy : y < 5) (h8 : ∀ j : Nat, j < 5 → u.2.1 j ≤ 8) (hs : u.2.1 y < 8) (x : Int32) : Kr (s_ho st k y x) k (k_put u y x) ∧ Fo k st (s_ho st k y x) := by
  obtain ⟨h1, h2, h3, h4⟩ := h
  have e := h1 y (by omega)
  refine ⟨⟨fun j hj => ?_, fun j hj i hi => ?_, h3, h4⟩, fun j hj => ⟨?_, rfl⟩, fun j hj => ?_, fun _ _ => rfl⟩
  · rw [s_ho_sz, e]
    show _ = va_up u.2.1 y (u.2.1 y + 1) j
    by_cases q : j = y
    · rw [q, va_up_self, va_up_self]
    · rw [va_up_ne _ _ q, va_up_ne _ _ (by omega)]
      exact h1 j hj
  · rw [s_ho_sk, e]
    replace hi : i < va_up u.2.1 y (u.2.1 y + 1) j := hi
    show va_up u.1 y (va_up (u.1 y) (u.2.1 y) x) j i = _
    by_cases q : j = y
    · subst q
      rw [va_up_self] at hi
      rw [va_up_self]
      by_cases r : i = u.2.1 j
      · rw [r, va_up_self, va_up_self]
      · rw [va_up_ne _ _ r, va_up_ne _ _ (by omega)]
        exact h2 j hj i (by omega)
    · rw [va_up_ne _ _ q] at hi
      have := h8 j hj
      rw [va_up_ne _ _ q, va_up_ne _ _ (by omega)]
      exact h2 j hj i hi
  · rw [s_ho_sz]
    exact va_up_ne _ _ (by omega)
  · rw [s_ho_sk, e]
    exact va_up_ne _ _ (by omega)
theorem spk_row (st : Ms) (k y e t : Nat) : ∀ j, j < 8 * (6 * k + (y + 1)) → st_sk (s_pk st k y e t) j = st_sk st j := by
  induction t with
  | zero => intro _ _; rfl
  | succ t ih =>
    intro j hj
    rw [s_pk, s_ho_sk, va_up_ne _ _ (by omega)]
    exact ih j hj
theorem kr_pk (h : Kr st k u) {y : Nat} (hy : y < 4) (h8 : ∀ j : Nat, j < 5 → u.2.1 j ≤ 8) (hs : u.2.1 (y + 1) ≤ 4) (e : Nat) (he : e < 2) (g : Nat → Int32) (hg : ∀ i, i < 8 → g i = st_sk st (8 * (6 * k + y) + i)) (t : Nat) (ht : t ≤ 4) : Kr (s_pk st k y e t) k (k_pk u y e g t) ∧ Fo k st (s_pk st k y e t) := by
  induction t with
  | zero => exact ⟨h, Fo.rf⟩
  | succ t ih =>
    obtain ⟨g1, g2⟩ := ih (by omega)
    have ez := (k_pk_keeps u y e g t).2
    have h9 : ∀ j : Nat, j < 5 → (k_pk u y e g t).2.1 j ≤ 8 := fun j hj => by
      rw [ez]
      by_cases q : j = y + 1
      · rw [q, va_up_self]; omega
      · rw [va_up_ne _ _ q]; exact h8 j hj
    have h10 : (k_pk u y e g t).2.1 (y + 1) < 8 := by rw [ez, va_up_self]; omega
    rw [s_pk, k_pk, spk_row st k y e t _ (by omega), ← hg (e + 2 * t) (by omega)]
    obtain ⟨k1, k2⟩ := kr_ho g1 (by omega) h9 h10 (g (e + 2 * t))
    exact ⟨k1, g2.tr k2⟩
theorem kr_srt (h : Kr st k u) {y : Nat} (h8 : ∀ j : Nat, j < 5 → u.2.1 j ≤ 8) (w v : Nat → Int32) (hw1 : ∀ i, i < 8 → v i = w (8 * (6 * k + y) + i)) (hw2 : ∀ j, (j < 8 * (6 * k + y) ∨ 8 * (6 * k + y) + 8 ≤ j) → w j = st_sk st j) (hy : y < 5) : Kr (s_sk st w) k (va_up u.1 y v, u.2.1, u.2.2.1, u.2.2.2) ∧ Fo k st (s_sk st w) := by
  obtain ⟨h1, h2, h3, h4⟩ := h
  refine ⟨⟨h1, fun j hj i hi => ?_, h3, h4⟩, ⟨fun _ _ => ⟨rfl, rfl⟩, fun j hj => ?_, fun _ _ => rfl⟩⟩
  · rw [s_sk_sk]
    replace hi : i < u.2.1 j := hi
    show va_up u.1 y v j i = _
    have := h8 j hj
    by_cases q : j = y
    · subst q
      rw [va_up_self]
      exact hw1 i (by omega)
    · rw [va_up_ne _ _ q, hw2 _ (by omega)]
      exact h2 j hj i hi
  · rw [s_sk_sk]
    exact hw2 j (by omega)
theorem kr_h2 (h : Kr st k u) {y : Nat} (hy : y < 5) : Kr (s_h2 st k y) k (k_h2 u y) ∧ Fo k st (s_h2 st k y) := by
  obtain ⟨h1, h2, h3, h4⟩ := h
  refine ⟨⟨fun j hj => ?_, fun j hj i hi => ?_, fun j hj => ?_, ?_⟩, fun j hj => ⟨?_, ?_⟩, fun _ _ => rfl, fun j hj => ?_⟩
  · rw [s_h2_sz]
    show _ = va_up u.2.1 y 0 j
    by_cases q : j = y
    · rw [q, va_up_self, va_up_self]
    · rw [va_up_ne _ _ q, va_up_ne _ _ (by omega)]
      exact h1 j hj
  · rw [s_h2_sk]
    replace hi : i < va_up u.2.1 y 0 j := hi
    show u.1 j i = _
    by_cases q : j = y
    · rw [q, va_up_self] at hi
      exact absurd hi (Nat.not_lt_zero i)
    · rw [va_up_ne _ _ q] at hi
      exact h2 j hj i hi
  · rw [s_h2_hv, h3 y (by omega)]
    show _ = va_up u.2.2.1 y (u.2.2.1 y + 1) j
    by_cases q : j = y
    · rw [q, va_up_self, va_up_self]
    · rw [va_up_ne _ _ q, va_up_ne _ _ (by omega)]
      exact h3 j hj
  · rw [s_h2_bd, va_up_self, h4]
    rfl
  · rw [s_h2_sz]
    exact va_up_ne _ _ (by omega)
  · rw [s_h2_hv]
    exact va_up_ne _ _ (by omega)
  · rw [s_h2_bd]
    exact va_up_ne _ _ hj
theorem kr_hs (h : Kr st k u) {y : Nat} (hy : y < 4) (h8 : ∀ j : Nat, j < 5 → u.2.1 j ≤ 8) (hs : u.2.1 y = 8) (hs1 : u.2.1 (y + 1) ≤ 4) : Kr (s_hs st k y) k (k_hs u y) ∧ Fo k st (s_hs st k y) := by
  have ev := h.2.2.1 y (by omega)
  obtain ⟨w1, w2⟩ := so_b (8 * (6 * k + y)) (st_sk st) (u.1 y) (fun i hi => h.2.1 y (by omega) i (by omega)) 7 (by decide)
  unfold s_hs k_hs k_srt
  generalize z_so (st_sk st) (8 * (6 * k + y)) 7 = w at w1 w2 ⊢
  generalize z_so (u.1 y) 0 7 = v at w1 ⊢
  obtain ⟨g1, g2⟩ := kr_srt h h8 w v w1 w2 (by omega)
  obtain ⟨e, he⟩ : ∃ e, e = (if u.2.2.1 y % 2 = 0 then 1 else 0) := ⟨_, rfl⟩
  have he2 : e < 2 := by rw [he]; split <;> decide
  obtain ⟨k1, k2⟩ := kr_pk g1 hy h8 hs1 e he2 v w1 4 (Nat.le_refl 4)
  obtain ⟨m1, m2⟩ := kr_h2 k1 (y := y) (by omega)
  rw [ev, ← he]
  exact ⟨m1, (g2.tr k2).tr m2⟩
end
/-- the levels up to the fourth, one after the other -/
theorem kr_lv {st : Ms} {k n : Nat} {F : Nat → Nat → Int32} {x : Int32} (hn : n < 120) (h : Kr st k (k_put (F, SZ n, HV n, BD n) 0 x)) (y : Nat) (hy : y ≤ 4) : Kr (s_lv st k y) k (k_lv (k_put (F, SZ n, HV n, BD n) 0 x) y) ∧ Fo k st (s_lv st k y) := by
  induction y with
  | zero => exact ⟨h, Fo.rf⟩
  | succ y ih =>
    obtain ⟨g1, g2⟩ := ih (by omega)
    have e2 : (k_lv (k_put (F, SZ n, HV n, BD n) 0 x) y).2 = ns (nA n) y := lv_ns _ y
    have ez := g1.1 y (by omega)
    have h8 : ∀ j : Nat, j < 5 → (k_lv (k_put (F, SZ n, HV n, BD n) 0 x) y).2.1 j ≤ 8 := fun j hj => by rw [e2]; exact nA_8 n hn y (by omega) j hj
    have ht := lv_Tk (F := F) x hn y (by omega)
    rw [s_lv, k_lv, ez]
    by_cases q : 8 ≤ (k_lv (k_put (F, SZ n, HV n, BD n) 0 x) y).2.1 y
    · have q8 : (k_lv (k_put (F, SZ n, HV n, BD n) 0 x) y).2.1 y = 8 := by omega
      rw [if_pos q8, if_pos q]
      obtain ⟨k1, k2⟩ := kr_hs g1 (by omega) h8 q8 (ht.2.1 q)
      exact ⟨k1, g2.tr k2⟩
    · rw [if_neg (by omega), if_neg q]
      exact ⟨g1, g2⟩
theorem kr_6 {st : Ms} {k n : Nat} {F : Nat → Nat → Int32} {x : Int32} (hn : n < 120) (h : Kr st k (k_put (F, SZ n, HV n, BD n) 0 x)) : s_lv st k 5 = s_lv st k 4 ∧ s_lv st k 6 = s_lv st k 4 := by
  obtain ⟨g1, g2⟩ := kr_lv hn h 4 (Nat.le_refl 4)
  have e := lv_all (F := F) x hn
  have e4 : st_sz (s_lv st k 4) (6 * k + 4) = SZ (n + 1) 4 := by rw [g1.1 4 (by decide), e]
  have e5 : st_sz (s_lv st k 4) (6 * k + 5) = SZ (n + 1) 5 := by rw [g1.1 5 (by decide), e]
  have k1 : s_lv st k 5 = s_lv st k 4 := by
    show (if st_sz (s_lv st k 4) (6 * k + 4) = 8 then s_hs (s_lv st k 4) k 4 else s_lv st k 4) = _
    rw [e4, if_neg (by have := SZ_8 (n + 1) (by omega) 4 (by decide); omega)]
  refine ⟨k1, ?_⟩
  show (if st_sz (s_lv st k 5) (6 * k + 5) = 8 then s_hs (s_lv st k 5) k 5 else s_lv st k 5) = _
  rw [k1, e5, SZ_5 _ 5 (by decide), if_neg (by decide)]
