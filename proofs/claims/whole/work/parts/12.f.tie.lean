/-! joins, alerts, bits over all series -/
theorem js_ct (st : Ms) (a d : Int32) (n : Nat) : z_js st a d (fun u v => if 0 = 0 then lN 1 else (z_la st u).toInt64 * (z_la st v).toInt64) n = lN (z_ct (z_jp st a d) n) := by
  induction n with
  | zero => rfl
  | succ n ih =>
    rw [z_js, ih]
    by_cases q : z_jp st a d n
    · rw [if_pos q, z_ct_t q, if_pos rfl, lN_add]
    · rw [if_neg q, z_ct_f0 q, Nat.add_zero]
theorem js_t {st : Ms} {a d : Int32} {f : Nat → Nat → Int64} {w : Nat} (h : z_jp st a d w) : z_js st a d f (w + 1) = z_js st a d f w + f (z_f st a (nI w)) (z_f st d (nI w)) := by rw [z_js, if_pos h]
theorem js_f {st : Ms} {a d : Int32} {f : Nat → Nat → Int64} {w : Nat} (h : ¬ z_jp st a d w) : z_js st a d f (w + 1) = z_js st a d f w := by rw [z_js, if_neg h]
theorem f_at {st : Ms} {a d : Int32} {k : Nat} (h : k < st_many st) (e : st_nm st k = a ∧ st_ho st k = d) (hno : ∀ j : Nat, j < k → ¬ (st_nm st j = a ∧ st_ho st j = d)) : z_f st a d = k := z_fr_at e hno _ h
theorem f_no {st : Ms} {a d : Int32} (hno : ∀ j : Nat, j < st_many st → ¬ (st_nm st j = a ∧ st_ho st j = d)) : z_f st a d = st_many st := z_fr_none _ hno
theorem fi_some {st : Ms} {k : Nat} {li wa on : Int32} {si : Int64} (ha : Ra st k (some (li, wa, on, si))) (h : z_al st k = 102) : z_fi st k := ⟨ha.1, h⟩
theorem fi_no {st : Ms} {k : Nat} (ha : Ra st k none) : ¬ z_fi st k := fun q => by
  have h1 : st_ha st k = nI 0 := ha
  rw [q.1] at h1
  exact absurd h1 (by decide)
theorem ha_some {st : Ms} {k : Nat} {a : Int32 × Int32 × Int32 × Int64} (ha : Ra st k (some a)) : ¬ st_ha st k = nI 0 := fun q => by
  obtain ⟨li, wa, on, si⟩ := a
  rw [ha.1] at q
  exact absurd q (by decide)
theorem mn_s {y N : Nat} (h : y < N) : min (y + 1) N = min y N + 1 ∧ min y N = y := by omega
theorem mn_g {y N : Nat} (h : ¬ y < N) : min (y + 1) N = min y N := by omega
