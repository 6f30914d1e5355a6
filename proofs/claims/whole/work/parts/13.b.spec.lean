/-! WHAT EACH CALL ANSWERS AND DOES, as a function of the reference's state (written by wip/whole/gen/spec.py) -/
noncomputable def cif {α : Type} (p : Prop) (a b : α) : α := @ite α p (Classical.propDecidable p) a b
theorem cif_t {α : Type} {p : Prop} {a b : α} (h : p) : cif p a b = a := @if_pos p (Classical.propDecidable p) h α a b
theorem cif_f {α : Type} {p : Prop} {a b : α} (h : ¬ p) : cif p a b = b := @if_neg p (Classical.propDecidable p) h α a b
def sx (x : Int32) : Nat := x.toNatClampNeg
theorem sx_k {k : Nat} (h : k < 2147483648) : sx (nI k) = k := nI_clamp h
noncomputable def T_open (st : Ms) (a : Int32) (d : Int32) : Ms × Int64 := cif ((nI 0 ≤ a ∧ a ≤ nI 9) ∧ (nI 0 ≤ d ∧ d ≤ nI 9)) (cif ((∃ j : Nat, j < st_many st ∧ (st_nm st j = a ∧ st_ho st j = d)) ∨ st_many st = 10) ((s_thr st (nI 2), 0)) ((s_open st a d, (nI (st_many st)).toInt64))) ((s_thr st (nI 1), 0))
noncomputable def T_pass (st : Ms) (x : Int32) : Ms × Int64 := cif (∃ d : Nat, (1 ≤ d ∧ d ≤ 600) ∧ x = nI d) ((s_pass st (sx x), lN (st_now st + (sx x)))) ((s_thr st (nI 1), 0))
noncomputable def T_add (st : Ms) (x : Int32) (w : Int32) : Ms × Int64 := cif (∃ k : Nat, k < st_many st ∧ x = nI k) (cif ((-10000) ≤ w ∧ w ≤ nI 10000) (cif (st_n st (sx x) = 120 ∨ (0 < st_n st (sx x) ∧ st_T st (120 * (sx x) + (st_n st (sx x) - 1)) = st_now st)) ((s_thr st (nI 3), 0)) ((s_add st (sx x) w, (nI (st_n st (sx x) + 1)).toInt64))) ((s_thr st (nI 2), 0))) ((s_thr st (nI 1), 0))
noncomputable def T_find (st : Ms) (a : Int32) (d : Int32) : Ms × Int64 := cif (∃ j : Nat, j < st_many st ∧ (st_nm st j = a ∧ st_ho st j = d)) ((s_thr st (nI 0), (nI (z_f st a d)).toInt64)) ((s_thr st (nI 1), 0))
noncomputable def T_nameOf (st : Ms) (x : Int32) : Ms × Int64 := cif (∃ k : Nat, k < st_many st ∧ x = nI k) ((s_thr st (nI 0), (st_nm st (sx x)).toInt64)) ((s_thr st (nI 1), 0))
noncomputable def T_hostOf (st : Ms) (x : Int32) : Ms × Int64 := cif (∃ k : Nat, k < st_many st ∧ x = nI k) ((s_thr st (nI 0), (st_ho st (sx x)).toInt64)) ((s_thr st (nI 1), 0))
noncomputable def T_samples (st : Ms) (x : Int32) : Ms × Int64 := cif (∃ k : Nat, k < st_many st ∧ x = nI k) ((s_thr st (nI 0), (nI (st_n st (sx x))).toInt64)) ((s_thr st (nI 1), 0))
noncomputable def T_latest (st : Ms) (x : Int32) : Ms × Int64 := cif (∃ k : Nat, k < st_many st ∧ x = nI k) (cif (st_n st (sx x) = 0) ((s_thr st (nI 2), 0)) ((s_thr st (nI 0), (z_la st (sx x)).toInt64))) ((s_thr st (nI 1), 0))
noncomputable def T_blocks (st : Ms) (x : Int32) : Ms × Int64 := cif (∃ k : Nat, k < st_many st ∧ x = nI k) ((s_thr st (nI 0), (nI (z_nb st (sx x))).toInt64)) ((s_thr st (nI 1), 0))
noncomputable def T_bitsOf (st : Ms) (x : Int32) (y : Int32) : Ms × Int64 := cif (∃ k : Nat, k < st_many st ∧ x = nI k) (cif (∃ j : Nat, j < z_nb st (sx x) ∧ y = nI j) ((s_thr st (nI 0), (nI (z_bits st (sx x) (sx y))).toInt64)) ((s_thr st (nI 2), 0))) ((s_thr st (nI 1), 0))
noncomputable def T_timeAt (st : Ms) (x : Int32) (y : Int32) : Ms × Int64 := cif (∃ k : Nat, k < st_many st ∧ x = nI k) (cif (∃ j : Nat, j < st_n st (sx x) ∧ y = nI j) ((s_thr st (nI 0), lN (st_T st (120 * (sx x) + (sx y))))) ((s_thr st (nI 2), 0))) ((s_thr st (nI 1), 0))
noncomputable def T_valueAt (st : Ms) (x : Int32) (y : Int32) : Ms × Int64 := cif (∃ k : Nat, k < st_many st ∧ x = nI k) (cif (∃ j : Nat, j < st_n st (sx x) ∧ y = nI j) ((s_thr st (nI 0), (z_v st (sx x) (sx y)).toInt64)) ((s_thr st (nI 2), 0))) ((s_thr st (nI 1), 0))
noncomputable def T_count (st : Ms) (x : Int32) (a : Int64) (d : Int64) : Ms × Int64 := cif (∃ k : Nat, k < st_many st ∧ x = nI k) (cif (z_bad a d) ((s_thr st (nI 2), 0)) ((s_thr st (nI 0), (nI (z_ct (z_in st (sx x) a d) (st_n st (sx x)))).toInt64))) ((s_thr st (nI 1), 0))
noncomputable def T_sum (st : Ms) (x : Int32) (a : Int64) (d : Int64) : Ms × Int64 := cif (∃ k : Nat, k < st_many st ∧ x = nI k) (cif (z_bad a d) ((s_thr st (nI 2), 0)) ((s_thr st (nI 0), z_sm (z_in st (sx x) a d) (fun i => (z_v st (sx x) i).toInt64) (st_n st (sx x))))) ((s_thr st (nI 1), 0))
noncomputable def T_sumByReading (st : Ms) (x : Int32) (a : Int64) (d : Int64) : Ms × Int64 := cif (∃ k : Nat, k < st_many st ∧ x = nI k) (cif (z_bad a d) ((s_thr st (nI 2), 0)) ((s_thr st (nI 0), z_sm (z_in st (sx x) a d) (fun i => (z_v st (sx x) i).toInt64) (st_n st (sx x))))) ((s_thr st (nI 1), 0))
noncomputable def T_maximum (st : Ms) (x : Int32) (a : Int64) (d : Int64) : Ms × Int64 := cif (∃ k : Nat, k < st_many st ∧ x = nI k) (cif (z_bad a d) ((s_thr st (nI 2), 0)) (cif (z_mx (z_in st (sx x) a d) (z_v st (sx x)) (-20000) (st_n st (sx x)) = -20000) ((s_thr st (nI 3), 0)) ((s_thr st (nI 0), (z_mx (z_in st (sx x) a d) (z_v st (sx x)) (-20000) (st_n st (sx x))).toInt64)))) ((s_thr st (nI 1), 0))
noncomputable def T_mean (st : Ms) (x : Int32) (a : Int64) (d : Int64) : Ms × UInt64 := cif (∃ k : Nat, k < st_many st ∧ x = nI k) (cif (z_bad a d) ((s_thr st (nI 2), 0)) (cif (z_ct (z_in st (sx x) a d) (st_n st (sx x)) = 0) ((s_thr st (nI 3), 0)) ((s_thr st (nI 0), FP.ddiv (FP.l2d (z_sm (z_in st (sx x) a d) (fun i => (z_v st (sx x) i).toInt64) (st_n st (sx x)))) (FP.i2d (nI (z_ct (z_in st (sx x) a d) (st_n st (sx x))))))))) ((s_thr st (nI 1), 0))
noncomputable def T_rollupCount (st : Ms) (x : Int32) (y : Int32) : Ms × Int64 := cif (∃ k : Nat, k < st_many st ∧ x = nI k) (cif (y < 0) ((s_thr st (nI 2), 0)) ((s_thr st (nI 0), (nI (z_ct (z_ro st (sx x) y) (st_n st (sx x)))).toInt64))) ((s_thr st (nI 1), 0))
noncomputable def T_countLow (st : Ms) (x : Int32) (a : Int64) (d : Int64) : Ms × Int64 := cif (∃ k : Nat, k < st_many st ∧ x = nI k) (cif (z_bad a d) ((s_thr st (nI 2), 0)) ((s_thr st (nI 0), (nI (z_ct (z_lo st (sx x) a d) (st_n st (sx x)))).toInt64))) ((s_thr st (nI 1), 0))
noncomputable def T_countHigh (st : Ms) (x : Int32) (a : Int64) (d : Int64) : Ms × Int64 := cif (∃ k : Nat, k < st_many st ∧ x = nI k) (cif (z_bad a d) ((s_thr st (nI 2), 0)) ((s_thr st (nI 0), (nI (z_ct (z_hi st (sx x) a d) (st_n st (sx x)))).toInt64))) ((s_thr st (nI 1), 0))
noncomputable def T_maximumHigh (st : Ms) (x : Int32) (a : Int64) (d : Int64) : Ms × Int64 := cif (∃ k : Nat, k < st_many st ∧ x = nI k) (cif (z_bad a d) ((s_thr st (nI 2), 0)) (cif (z_mx (z_hi st (sx x) a d) (z_v st (sx x)) (-20000) (st_n st (sx x)) = -20000) ((s_thr st (nI 3), 0)) ((s_thr st (nI 0), (z_mx (z_hi st (sx x) a d) (z_v st (sx x)) (-20000) (st_n st (sx x))).toInt64)))) ((s_thr st (nI 1), 0))
noncomputable def T_quantile (st : Ms) (x : Int32) (y : Int32) : Ms × Int64 := cif (∃ k : Nat, k < st_many st ∧ x = nI k) (cif (∃ d : Nat, (1 ≤ d ∧ d ≤ 100) ∧ y = nI d) (cif (st_n st (sx x) = 0) ((s_thr st (nI 3), 0)) ((s_thr st (nI 0), (z_sq st (sx x) (sx y)).toInt64))) ((s_thr st (nI 2), 0))) ((s_thr st (nI 1), 0))
noncomputable def T_exactQuantile (st : Ms) (x : Int32) (y : Int32) : Ms × Int64 := cif (∃ k : Nat, k < st_many st ∧ x = nI k) (cif (∃ d : Nat, (1 ≤ d ∧ d ≤ 100) ∧ y = nI d) (cif (st_n st (sx x) = 0) ((s_thr st (nI 3), 0)) ((s_thr st (nI 0), (z_eq st (sx x) (z_tg st (sx x) (sx y)) (st_n st (sx x))).toInt64))) ((s_thr st (nI 2), 0))) ((s_thr st (nI 1), 0))
noncomputable def T_bound (st : Ms) (x : Int32) : Ms × Int64 := cif (∃ k : Nat, k < st_many st ∧ x = nI k) ((s_thr st (nI 0), (nI (st_bd st (sx x))).toInt64)) ((s_thr st (nI 1), 0))
noncomputable def T_held (st : Ms) (x : Int32) : Ms × Int64 := cif (∃ k : Nat, k < st_many st ∧ x = nI k) ((s_thr st (nI 0), (nI (z_held st (sx x))).toInt64)) ((s_thr st (nI 1), 0))
noncomputable def T_isWithin (st : Ms) (x : Int32) (y : Int32) : Ms × Int64 := cif (∃ k : Nat, k < st_many st ∧ x = nI k) (cif (∃ d : Nat, (1 ≤ d ∧ d ≤ 100) ∧ y = nI d) (cif (st_n st (sx x) = 0) ((s_thr st (nI 3), 0)) ((s_thr st (nI 0), (b2 (z_wi st (sx x) (sx y))).toInt64))) ((s_thr st (nI 2), 0))) ((s_thr st (nI 1), 0))
noncomputable def T_setAlert (st : Ms) (x : Int32) (a : Int32) (d : Int32) : Ms × Int64 := cif (∃ k : Nat, k < st_many st ∧ x = nI k) (cif (((-10000) ≤ a ∧ a ≤ nI 10000) ∧ (nI 0 ≤ d ∧ d ≤ nI 600)) ((s_al st (sx x) a d, (nI (z_al (s_al st (sx x) a d) (sx x))).toInt64)) ((s_thr st (nI 2), 0))) ((s_thr st (nI 1), 0))
noncomputable def T_removeAlert (st : Ms) (x : Int32) : Ms × Int64 := cif (∃ k : Nat, k < st_many st ∧ x = nI k) (cif (st_ha st (sx x) = nI 0) ((s_thr st (nI 2), 0)) ((s_ra st (sx x), (nI (z_al st (sx x))).toInt64))) ((s_thr st (nI 1), 0))
noncomputable def T_alertOf (st : Ms) (x : Int32) : Ms × Int64 := cif (∃ k : Nat, k < st_many st ∧ x = nI k) (cif (st_ha st (sx x) = nI 0) ((s_thr st (nI 2), 0)) ((s_thr st (nI 0), (nI (z_al st (sx x))).toInt64))) ((s_thr st (nI 1), 0))
noncomputable def T_joinCount (st : Ms) (a : Int32) (d : Int32) : Ms × Int64 := cif ((nI 0 ≤ a ∧ a ≤ nI 9) ∧ (nI 0 ≤ d ∧ d ≤ nI 9)) ((s_thr st (nI 0), (nI (z_ct (z_jp st a d) 10)).toInt64)) ((s_thr st (nI 1), 0))
noncomputable def T_joinSum (st : Ms) (a : Int32) (d : Int32) : Ms × Int64 := cif ((nI 0 ≤ a ∧ a ≤ nI 9) ∧ (nI 0 ≤ d ∧ d ≤ nI 9)) ((s_thr st (nI 0), z_js st a d (fun u v => if 1 = 0 then lN 1 else (z_la st u).toInt64 * (z_la st v).toInt64) 10)) ((s_thr st (nI 1), 0))
noncomputable def T_firingShare (st : Ms) : Ms × UInt32 := cif (st_many st = 0) ((s_thr st (nI 1), 0)) ((s_thr st (nI 0), FP.fdiv (FP.i2f (nI (z_ct (z_fi st) (st_many st)))) (FP.i2f (nI (st_many st)))))
theorem RA_open_2 {st : Ms} (hm : st_many st ≤ 10) {a : Int32} {d : Int32} (g1 : nI 0 ≤ a ∧ a ≤ nI 9) (g2 : nI 0 ≤ d ∧ d ≤ nI 9) (g3 : (∃ j : Nat, j < st_many st ∧ (st_nm st j = a ∧ st_ho st j = d)) ∨ st_many st = 10) : T_open st a d = (s_thr st (nI 2), 0) := by
  unfold T_open
  rw [cif_t ⟨g1, g2⟩]
  rw [cif_t g3]
theorem RA_open_0 {st : Ms} (hm : st_many st ≤ 10) {a : Int32} {d : Int32} (g1 : nI 0 ≤ a ∧ a ≤ nI 9) (g2 : nI 0 ≤ d ∧ d ≤ nI 9) (g3 : ∀ j : Nat, j < st_many st → ¬ (st_nm st j = a ∧ st_ho st j = d)) (g4 : st_many st < 10) : T_open st a d = (s_open st a d, (nI (st_many st)).toInt64) := by
  unfold T_open
  rw [cif_t ⟨g1, g2⟩]
  rw [cif_f (fun z => z.elim (fun ⟨j, u, v⟩ => g3 j u v) (fun z => absurd z (by omega)))]
theorem RA_open_1 {st : Ms} (hm : st_many st ≤ 10) {a : Int32} {d : Int32} (g1 : ¬ ((nI 0 ≤ a ∧ a ≤ nI 9) ∧ (nI 0 ≤ d ∧ d ≤ nI 9))) : T_open st a d = (s_thr st (nI 1), 0) := by
  unfold T_open
  rw [cif_f g1]
theorem RA_pass_0 {st : Ms} (hm : st_many st ≤ 10) {x : Int32} {d : Nat} (g1 : 1 ≤ d ∧ d ≤ 600) (g2 : x = nI d) : T_pass st x = (s_pass st d, lN (st_now st + d)) := by
  subst g2
  have sd : sx (nI d) = d := sx_k (by omega)
  unfold T_pass
  rw [cif_t ⟨d, g1, rfl⟩]
  rw [sd]
theorem RA_pass_1 {st : Ms} (hm : st_many st ≤ 10) {x : Int32} (g1 : ∀ d : Nat, 1 ≤ d → d ≤ 600 → x ≠ nI d) : T_pass st x = (s_thr st (nI 1), 0) := by
  unfold T_pass
  rw [cif_f (fun ⟨d, u, v⟩ => g1 d u.1 u.2 v)]
theorem RA_add_3 {st : Ms} (hm : st_many st ≤ 10) {x : Int32} {w : Int32} {k : Nat} (h1 : k < st_many st) (h2 : x = nI k) (e2 : (-10000) ≤ w ∧ w ≤ nI 10000) (e3 : st_n st k = 120 ∨ (0 < st_n st k ∧ st_T st (120 * k + (st_n st k - 1)) = st_now st)) : T_add st x w = (s_thr st (nI 3), 0) := by
  subst h2
  have sk : sx (nI k) = k := sx_k (by omega)
  unfold T_add
  rw [cif_t ⟨k, h1, rfl⟩]
  rw [sk]
  rw [cif_t e2]
  rw [cif_t e3]
theorem RA_add_0 {st : Ms} (hm : st_many st ≤ 10) {x : Int32} {w : Int32} {k : Nat} (h1 : k < st_many st) (h2 : x = nI k) (e2 : (-10000) ≤ w ∧ w ≤ nI 10000) (e3 : ¬ (st_n st k = 120 ∨ (0 < st_n st k ∧ st_T st (120 * k + (st_n st k - 1)) = st_now st))) : T_add st x w = (s_add st k w, (nI (st_n st k + 1)).toInt64) := by
  subst h2
  have sk : sx (nI k) = k := sx_k (by omega)
  unfold T_add
  rw [cif_t ⟨k, h1, rfl⟩]
  rw [sk]
  rw [cif_t e2]
  rw [cif_f e3]
theorem RA_add_2 {st : Ms} (hm : st_many st ≤ 10) {x : Int32} {w : Int32} {k : Nat} (h1 : k < st_many st) (h2 : x = nI k) (e2 : ¬ ((-10000) ≤ w ∧ w ≤ nI 10000)) : T_add st x w = (s_thr st (nI 2), 0) := by
  subst h2
  have sk : sx (nI k) = k := sx_k (by omega)
  unfold T_add
  rw [cif_t ⟨k, h1, rfl⟩]
  rw [sk]
  rw [cif_f e2]
theorem RA_add_1 {st : Ms} (hm : st_many st ≤ 10) {x : Int32} {w : Int32} (h1 : ∀ k : Nat, k < st_many st → x ≠ nI k) : T_add st x w = (s_thr st (nI 1), 0) := by
  unfold T_add
  rw [cif_f (fun ⟨k, u, v⟩ => h1 k u v)]
theorem RA_find_0 {st : Ms} (hm : st_many st ≤ 10) {a : Int32} {d : Int32} {k : Nat} (h1 : k < st_many st) (h2 : st_nm st k = a ∧ st_ho st k = d) (h3 : ∀ j : Nat, j < k → ¬ (st_nm st j = a ∧ st_ho st j = d)) : T_find st a d = (s_thr st (nI 0), (nI (k)).toInt64) := by
  unfold T_find
  rw [cif_t ⟨k, h1, h2⟩, f_at h1 h2 h3]
theorem RA_find_1 {st : Ms} (hm : st_many st ≤ 10) {a : Int32} {d : Int32} (h1 : ∀ j : Nat, j < st_many st → ¬ (st_nm st j = a ∧ st_ho st j = d)) : T_find st a d = (s_thr st (nI 1), 0) := by
  unfold T_find
  rw [cif_f (fun ⟨j, u, v⟩ => h1 j u v)]
theorem RA_nameOf_0 {st : Ms} (hm : st_many st ≤ 10) {x : Int32} {k : Nat} (h1 : k < st_many st) (h2 : x = nI k) : T_nameOf st x = (s_thr st (nI 0), (st_nm st k).toInt64) := by
  subst h2
  have sk : sx (nI k) = k := sx_k (by omega)
  unfold T_nameOf
  rw [cif_t ⟨k, h1, rfl⟩]
  rw [sk]
theorem RA_nameOf_1 {st : Ms} (hm : st_many st ≤ 10) {x : Int32} (h1 : ∀ k : Nat, k < st_many st → x ≠ nI k) : T_nameOf st x = (s_thr st (nI 1), 0) := by
  unfold T_nameOf
  rw [cif_f (fun ⟨k, u, v⟩ => h1 k u v)]
theorem RA_hostOf_0 {st : Ms} (hm : st_many st ≤ 10) {x : Int32} {k : Nat} (h1 : k < st_many st) (h2 : x = nI k) : T_hostOf st x = (s_thr st (nI 0), (st_ho st k).toInt64) := by
  subst h2
  have sk : sx (nI k) = k := sx_k (by omega)
  unfold T_hostOf
  rw [cif_t ⟨k, h1, rfl⟩]
  rw [sk]
theorem RA_hostOf_1 {st : Ms} (hm : st_many st ≤ 10) {x : Int32} (h1 : ∀ k : Nat, k < st_many st → x ≠ nI k) : T_hostOf st x = (s_thr st (nI 1), 0) := by
  unfold T_hostOf
  rw [cif_f (fun ⟨k, u, v⟩ => h1 k u v)]
theorem RA_samples_0 {st : Ms} (hm : st_many st ≤ 10) {x : Int32} {k : Nat} (h1 : k < st_many st) (h2 : x = nI k) : T_samples st x = (s_thr st (nI 0), (nI (st_n st k)).toInt64) := by
  subst h2
  have sk : sx (nI k) = k := sx_k (by omega)
  unfold T_samples
  rw [cif_t ⟨k, h1, rfl⟩]
  rw [sk]
theorem RA_samples_1 {st : Ms} (hm : st_many st ≤ 10) {x : Int32} (h1 : ∀ k : Nat, k < st_many st → x ≠ nI k) : T_samples st x = (s_thr st (nI 1), 0) := by
  unfold T_samples
  rw [cif_f (fun ⟨k, u, v⟩ => h1 k u v)]
theorem RA_latest_2 {st : Ms} (hm : st_many st ≤ 10) {x : Int32} {k : Nat} (h1 : k < st_many st) (h2 : x = nI k) (e1 : st_n st k = 0) : T_latest st x = (s_thr st (nI 2), 0) := by
  subst h2
  have sk : sx (nI k) = k := sx_k (by omega)
  unfold T_latest
  rw [cif_t ⟨k, h1, rfl⟩]
  rw [sk]
  rw [cif_t e1]
theorem RA_latest_0 {st : Ms} (hm : st_many st ≤ 10) {x : Int32} {k : Nat} (h1 : k < st_many st) (h2 : x = nI k) (e1 : 0 < st_n st k) : T_latest st x = (s_thr st (nI 0), (z_la st k).toInt64) := by
  subst h2
  have sk : sx (nI k) = k := sx_k (by omega)
  unfold T_latest
  rw [cif_t ⟨k, h1, rfl⟩]
  rw [sk]
  rw [cif_f (by omega)]
theorem RA_latest_1 {st : Ms} (hm : st_many st ≤ 10) {x : Int32} (h1 : ∀ k : Nat, k < st_many st → x ≠ nI k) : T_latest st x = (s_thr st (nI 1), 0) := by
  unfold T_latest
  rw [cif_f (fun ⟨k, u, v⟩ => h1 k u v)]
theorem RA_blocks_0 {st : Ms} (hm : st_many st ≤ 10) {x : Int32} {k : Nat} (h1 : k < st_many st) (h2 : x = nI k) : T_blocks st x = (s_thr st (nI 0), (nI (z_nb st k)).toInt64) := by
  subst h2
  have sk : sx (nI k) = k := sx_k (by omega)
  unfold T_blocks
  rw [cif_t ⟨k, h1, rfl⟩]
  rw [sk]
theorem RA_blocks_1 {st : Ms} (hm : st_many st ≤ 10) {x : Int32} (h1 : ∀ k : Nat, k < st_many st → x ≠ nI k) : T_blocks st x = (s_thr st (nI 1), 0) := by
  unfold T_blocks
  rw [cif_f (fun ⟨k, u, v⟩ => h1 k u v)]
theorem RA_bitsOf_0 {st : Ms} (hm : st_many st ≤ 10) {x : Int32} {y : Int32} {k : Nat} {j : Nat} (h1 : k < st_many st) (h2 : x = nI k) (hn : st_n st k ≤ 120) (g1 : j < z_nb st k) (g2 : y = nI j) : T_bitsOf st x y = (s_thr st (nI 0), (nI (z_bits st k j)).toInt64) := by
  subst h2
  subst g2
  have sk : sx (nI k) = k := sx_k (by omega)
  have sj : sx (nI j) = j := sx_k (by unfold z_nb at g1; omega)
  unfold T_bitsOf
  rw [cif_t ⟨k, h1, rfl⟩]
  rw [sk]
  rw [cif_t ⟨j, g1, rfl⟩]
  rw [sj]
theorem RA_bitsOf_2 {st : Ms} (hm : st_many st ≤ 10) {x : Int32} {y : Int32} {k : Nat} (h1 : k < st_many st) (h2 : x = nI k) (g1 : ∀ j : Nat, j < z_nb st k → y ≠ nI j) : T_bitsOf st x y = (s_thr st (nI 2), 0) := by
  subst h2
  have sk : sx (nI k) = k := sx_k (by omega)
  unfold T_bitsOf
  rw [cif_t ⟨k, h1, rfl⟩]
  rw [sk]
  rw [cif_f (fun ⟨j, u, v⟩ => g1 j u v)]
theorem RA_bitsOf_1 {st : Ms} (hm : st_many st ≤ 10) {x : Int32} {y : Int32} (h1 : ∀ k : Nat, k < st_many st → x ≠ nI k) : T_bitsOf st x y = (s_thr st (nI 1), 0) := by
  unfold T_bitsOf
  rw [cif_f (fun ⟨k, u, v⟩ => h1 k u v)]
theorem RA_timeAt_0 {st : Ms} (hm : st_many st ≤ 10) {x : Int32} {y : Int32} {k : Nat} {j : Nat} (h1 : k < st_many st) (h2 : x = nI k) (hn : st_n st k ≤ 120) (g1 : j < st_n st k) (g2 : y = nI j) : T_timeAt st x y = (s_thr st (nI 0), lN (st_T st (120 * k + j))) := by
  subst h2
  subst g2
  have sk : sx (nI k) = k := sx_k (by omega)
  have sj : sx (nI j) = j := sx_k (by omega)
  unfold T_timeAt
  rw [cif_t ⟨k, h1, rfl⟩]
  rw [sk]
  rw [cif_t ⟨j, g1, rfl⟩]
  rw [sj]
theorem RA_timeAt_2 {st : Ms} (hm : st_many st ≤ 10) {x : Int32} {y : Int32} {k : Nat} (h1 : k < st_many st) (h2 : x = nI k) (g1 : ∀ j : Nat, j < st_n st k → y ≠ nI j) : T_timeAt st x y = (s_thr st (nI 2), 0) := by
  subst h2
  have sk : sx (nI k) = k := sx_k (by omega)
  unfold T_timeAt
  rw [cif_t ⟨k, h1, rfl⟩]
  rw [sk]
  rw [cif_f (fun ⟨j, u, v⟩ => g1 j u v)]
theorem RA_timeAt_1 {st : Ms} (hm : st_many st ≤ 10) {x : Int32} {y : Int32} (h1 : ∀ k : Nat, k < st_many st → x ≠ nI k) : T_timeAt st x y = (s_thr st (nI 1), 0) := by
  unfold T_timeAt
  rw [cif_f (fun ⟨k, u, v⟩ => h1 k u v)]
theorem RA_valueAt_0 {st : Ms} (hm : st_many st ≤ 10) {x : Int32} {y : Int32} {k : Nat} {j : Nat} (h1 : k < st_many st) (h2 : x = nI k) (hn : st_n st k ≤ 120) (g1 : j < st_n st k) (g2 : y = nI j) : T_valueAt st x y = (s_thr st (nI 0), (z_v st k j).toInt64) := by
  subst h2
  subst g2
  have sk : sx (nI k) = k := sx_k (by omega)
  have sj : sx (nI j) = j := sx_k (by omega)
  unfold T_valueAt
  rw [cif_t ⟨k, h1, rfl⟩]
  rw [sk]
  rw [cif_t ⟨j, g1, rfl⟩]
  rw [sj]
theorem RA_valueAt_2 {st : Ms} (hm : st_many st ≤ 10) {x : Int32} {y : Int32} {k : Nat} (h1 : k < st_many st) (h2 : x = nI k) (g1 : ∀ j : Nat, j < st_n st k → y ≠ nI j) : T_valueAt st x y = (s_thr st (nI 2), 0) := by
  subst h2
  have sk : sx (nI k) = k := sx_k (by omega)
  unfold T_valueAt
  rw [cif_t ⟨k, h1, rfl⟩]
  rw [sk]
  rw [cif_f (fun ⟨j, u, v⟩ => g1 j u v)]
theorem RA_valueAt_1 {st : Ms} (hm : st_many st ≤ 10) {x : Int32} {y : Int32} (h1 : ∀ k : Nat, k < st_many st → x ≠ nI k) : T_valueAt st x y = (s_thr st (nI 1), 0) := by
  unfold T_valueAt
  rw [cif_f (fun ⟨k, u, v⟩ => h1 k u v)]
theorem RA_count_2 {st : Ms} (hm : st_many st ≤ 10) {x : Int32} {a : Int64} {d : Int64} {k : Nat} (h1 : k < st_many st) (h2 : x = nI k) (e2 : z_bad a d) : T_count st x a d = (s_thr st (nI 2), 0) := by
  subst h2
  have sk : sx (nI k) = k := sx_k (by omega)
  unfold T_count
  rw [cif_t ⟨k, h1, rfl⟩]
  rw [sk]
  rw [cif_t e2]
theorem RA_count_0 {st : Ms} (hm : st_many st ≤ 10) {x : Int32} {a : Int64} {d : Int64} {k : Nat} (h1 : k < st_many st) (h2 : x = nI k) (e2 : ¬ z_bad a d) : T_count st x a d = (s_thr st (nI 0), (nI (z_ct (z_in st k a d) (st_n st k))).toInt64) := by
  subst h2
  have sk : sx (nI k) = k := sx_k (by omega)
  unfold T_count
  rw [cif_t ⟨k, h1, rfl⟩]
  rw [sk]
  rw [cif_f e2]
theorem RA_count_1 {st : Ms} (hm : st_many st ≤ 10) {x : Int32} {a : Int64} {d : Int64} (h1 : ∀ k : Nat, k < st_many st → x ≠ nI k) : T_count st x a d = (s_thr st (nI 1), 0) := by
  unfold T_count
  rw [cif_f (fun ⟨k, u, v⟩ => h1 k u v)]
theorem RA_sum_2 {st : Ms} (hm : st_many st ≤ 10) {x : Int32} {a : Int64} {d : Int64} {k : Nat} (h1 : k < st_many st) (h2 : x = nI k) (e2 : z_bad a d) : T_sum st x a d = (s_thr st (nI 2), 0) := by
  subst h2
  have sk : sx (nI k) = k := sx_k (by omega)
  unfold T_sum
  rw [cif_t ⟨k, h1, rfl⟩]
  rw [sk]
  rw [cif_t e2]
theorem RA_sum_0 {st : Ms} (hm : st_many st ≤ 10) {x : Int32} {a : Int64} {d : Int64} {k : Nat} (h1 : k < st_many st) (h2 : x = nI k) (e2 : ¬ z_bad a d) : T_sum st x a d = (s_thr st (nI 0), z_sm (z_in st k a d) (fun i => (z_v st k i).toInt64) (st_n st k)) := by
  subst h2
  have sk : sx (nI k) = k := sx_k (by omega)
  unfold T_sum
  rw [cif_t ⟨k, h1, rfl⟩]
  rw [sk]
  rw [cif_f e2]
theorem RA_sum_1 {st : Ms} (hm : st_many st ≤ 10) {x : Int32} {a : Int64} {d : Int64} (h1 : ∀ k : Nat, k < st_many st → x ≠ nI k) : T_sum st x a d = (s_thr st (nI 1), 0) := by
  unfold T_sum
  rw [cif_f (fun ⟨k, u, v⟩ => h1 k u v)]
theorem RA_sumByReading_2 {st : Ms} (hm : st_many st ≤ 10) {x : Int32} {a : Int64} {d : Int64} {k : Nat} (h1 : k < st_many st) (h2 : x = nI k) (e2 : z_bad a d) : T_sumByReading st x a d = (s_thr st (nI 2), 0) := by
  subst h2
  have sk : sx (nI k) = k := sx_k (by omega)
  unfold T_sumByReading
  rw [cif_t ⟨k, h1, rfl⟩]
  rw [sk]
  rw [cif_t e2]
theorem RA_sumByReading_0 {st : Ms} (hm : st_many st ≤ 10) {x : Int32} {a : Int64} {d : Int64} {k : Nat} (h1 : k < st_many st) (h2 : x = nI k) (e2 : ¬ z_bad a d) : T_sumByReading st x a d = (s_thr st (nI 0), z_sm (z_in st k a d) (fun i => (z_v st k i).toInt64) (st_n st k)) := by
  subst h2
  have sk : sx (nI k) = k := sx_k (by omega)
  unfold T_sumByReading
  rw [cif_t ⟨k, h1, rfl⟩]
  rw [sk]
  rw [cif_f e2]
theorem RA_sumByReading_1 {st : Ms} (hm : st_many st ≤ 10) {x : Int32} {a : Int64} {d : Int64} (h1 : ∀ k : Nat, k < st_many st → x ≠ nI k) : T_sumByReading st x a d = (s_thr st (nI 1), 0) := by
  unfold T_sumByReading
  rw [cif_f (fun ⟨k, u, v⟩ => h1 k u v)]
theorem RA_maximum_2 {st : Ms} (hm : st_many st ≤ 10) {x : Int32} {a : Int64} {d : Int64} {k : Nat} (h1 : k < st_many st) (h2 : x = nI k) (e2 : z_bad a d) : T_maximum st x a d = (s_thr st (nI 2), 0) := by
  subst h2
  have sk : sx (nI k) = k := sx_k (by omega)
  unfold T_maximum
  rw [cif_t ⟨k, h1, rfl⟩]
  rw [sk]
  rw [cif_t e2]
theorem RA_maximum_3 {st : Ms} (hm : st_many st ≤ 10) {x : Int32} {a : Int64} {d : Int64} {k : Nat} (h1 : k < st_many st) (h2 : x = nI k) (e2 : ¬ z_bad a d) (e3 : z_mx (z_in st k a d) (z_v st k) (-20000) (st_n st k) = -20000) : T_maximum st x a d = (s_thr st (nI 3), 0) := by
  subst h2
  have sk : sx (nI k) = k := sx_k (by omega)
  unfold T_maximum
  rw [cif_t ⟨k, h1, rfl⟩]
  rw [sk]
  rw [cif_f e2]
  rw [cif_t e3]
theorem RA_maximum_0 {st : Ms} (hm : st_many st ≤ 10) {x : Int32} {a : Int64} {d : Int64} {k : Nat} (h1 : k < st_many st) (h2 : x = nI k) (e2 : ¬ z_bad a d) (e3 : ¬ z_mx (z_in st k a d) (z_v st k) (-20000) (st_n st k) = -20000) : T_maximum st x a d = (s_thr st (nI 0), (z_mx (z_in st k a d) (z_v st k) (-20000) (st_n st k)).toInt64) := by
  subst h2
  have sk : sx (nI k) = k := sx_k (by omega)
  unfold T_maximum
  rw [cif_t ⟨k, h1, rfl⟩]
  rw [sk]
  rw [cif_f e2]
  rw [cif_f e3]
theorem RA_maximum_1 {st : Ms} (hm : st_many st ≤ 10) {x : Int32} {a : Int64} {d : Int64} (h1 : ∀ k : Nat, k < st_many st → x ≠ nI k) : T_maximum st x a d = (s_thr st (nI 1), 0) := by
  unfold T_maximum
  rw [cif_f (fun ⟨k, u, v⟩ => h1 k u v)]
theorem RA_mean_2 {st : Ms} (hm : st_many st ≤ 10) {x : Int32} {a : Int64} {d : Int64} {k : Nat} (h1 : k < st_many st) (h2 : x = nI k) (e2 : z_bad a d) : T_mean st x a d = (s_thr st (nI 2), 0) := by
  subst h2
  have sk : sx (nI k) = k := sx_k (by omega)
  unfold T_mean
  rw [cif_t ⟨k, h1, rfl⟩]
  rw [sk]
  rw [cif_t e2]
theorem RA_mean_3 {st : Ms} (hm : st_many st ≤ 10) {x : Int32} {a : Int64} {d : Int64} {k : Nat} (h1 : k < st_many st) (h2 : x = nI k) (e2 : ¬ z_bad a d) (e3 : z_ct (z_in st k a d) (st_n st k) = 0) : T_mean st x a d = (s_thr st (nI 3), 0) := by
  subst h2
  have sk : sx (nI k) = k := sx_k (by omega)
  unfold T_mean
  rw [cif_t ⟨k, h1, rfl⟩]
  rw [sk]
  rw [cif_f e2]
  rw [cif_t e3]
theorem RA_mean_0 {st : Ms} (hm : st_many st ≤ 10) {x : Int32} {a : Int64} {d : Int64} {k : Nat} (h1 : k < st_many st) (h2 : x = nI k) (e2 : ¬ z_bad a d) (e3 : ¬ z_ct (z_in st k a d) (st_n st k) = 0) : T_mean st x a d = (s_thr st (nI 0), FP.ddiv (FP.l2d (z_sm (z_in st k a d) (fun i => (z_v st k i).toInt64) (st_n st k))) (FP.i2d (nI (z_ct (z_in st k a d) (st_n st k))))) := by
  subst h2
  have sk : sx (nI k) = k := sx_k (by omega)
  unfold T_mean
  rw [cif_t ⟨k, h1, rfl⟩]
  rw [sk]
  rw [cif_f e2]
  rw [cif_f e3]
theorem RA_mean_1 {st : Ms} (hm : st_many st ≤ 10) {x : Int32} {a : Int64} {d : Int64} (h1 : ∀ k : Nat, k < st_many st → x ≠ nI k) : T_mean st x a d = (s_thr st (nI 1), 0) := by
  unfold T_mean
  rw [cif_f (fun ⟨k, u, v⟩ => h1 k u v)]
theorem RA_rollupCount_2 {st : Ms} (hm : st_many st ≤ 10) {x : Int32} {y : Int32} {k : Nat} (h1 : k < st_many st) (h2 : x = nI k) (e2 : y < 0) : T_rollupCount st x y = (s_thr st (nI 2), 0) := by
  subst h2
  have sk : sx (nI k) = k := sx_k (by omega)
  unfold T_rollupCount
  rw [cif_t ⟨k, h1, rfl⟩]
  rw [sk]
  rw [cif_t e2]
theorem RA_rollupCount_0 {st : Ms} (hm : st_many st ≤ 10) {x : Int32} {y : Int32} {k : Nat} (h1 : k < st_many st) (h2 : x = nI k) (e2 : ¬ y < 0) : T_rollupCount st x y = (s_thr st (nI 0), (nI (z_ct (z_ro st k y) (st_n st k))).toInt64) := by
  subst h2
  have sk : sx (nI k) = k := sx_k (by omega)
  unfold T_rollupCount
  rw [cif_t ⟨k, h1, rfl⟩]
  rw [sk]
  rw [cif_f e2]
theorem RA_rollupCount_1 {st : Ms} (hm : st_many st ≤ 10) {x : Int32} {y : Int32} (h1 : ∀ k : Nat, k < st_many st → x ≠ nI k) : T_rollupCount st x y = (s_thr st (nI 1), 0) := by
  unfold T_rollupCount
  rw [cif_f (fun ⟨k, u, v⟩ => h1 k u v)]
theorem RA_countLow_2 {st : Ms} (hm : st_many st ≤ 10) {x : Int32} {a : Int64} {d : Int64} {k : Nat} (h1 : k < st_many st) (h2 : x = nI k) (e2 : z_bad a d) : T_countLow st x a d = (s_thr st (nI 2), 0) := by
  subst h2
  have sk : sx (nI k) = k := sx_k (by omega)
  unfold T_countLow
  rw [cif_t ⟨k, h1, rfl⟩]
  rw [sk]
  rw [cif_t e2]
theorem RA_countLow_0 {st : Ms} (hm : st_many st ≤ 10) {x : Int32} {a : Int64} {d : Int64} {k : Nat} (h1 : k < st_many st) (h2 : x = nI k) (e2 : ¬ z_bad a d) : T_countLow st x a d = (s_thr st (nI 0), (nI (z_ct (z_lo st k a d) (st_n st k))).toInt64) := by
  subst h2
  have sk : sx (nI k) = k := sx_k (by omega)
  unfold T_countLow
  rw [cif_t ⟨k, h1, rfl⟩]
  rw [sk]
  rw [cif_f e2]
theorem RA_countLow_1 {st : Ms} (hm : st_many st ≤ 10) {x : Int32} {a : Int64} {d : Int64} (h1 : ∀ k : Nat, k < st_many st → x ≠ nI k) : T_countLow st x a d = (s_thr st (nI 1), 0) := by
  unfold T_countLow
  rw [cif_f (fun ⟨k, u, v⟩ => h1 k u v)]
theorem RA_countHigh_2 {st : Ms} (hm : st_many st ≤ 10) {x : Int32} {a : Int64} {d : Int64} {k : Nat} (h1 : k < st_many st) (h2 : x = nI k) (e2 : z_bad a d) : T_countHigh st x a d = (s_thr st (nI 2), 0) := by
  subst h2
  have sk : sx (nI k) = k := sx_k (by omega)
  unfold T_countHigh
  rw [cif_t ⟨k, h1, rfl⟩]
  rw [sk]
  rw [cif_t e2]
theorem RA_countHigh_0 {st : Ms} (hm : st_many st ≤ 10) {x : Int32} {a : Int64} {d : Int64} {k : Nat} (h1 : k < st_many st) (h2 : x = nI k) (e2 : ¬ z_bad a d) : T_countHigh st x a d = (s_thr st (nI 0), (nI (z_ct (z_hi st k a d) (st_n st k))).toInt64) := by
  subst h2
  have sk : sx (nI k) = k := sx_k (by omega)
  unfold T_countHigh
  rw [cif_t ⟨k, h1, rfl⟩]
  rw [sk]
  rw [cif_f e2]
theorem RA_countHigh_1 {st : Ms} (hm : st_many st ≤ 10) {x : Int32} {a : Int64} {d : Int64} (h1 : ∀ k : Nat, k < st_many st → x ≠ nI k) : T_countHigh st x a d = (s_thr st (nI 1), 0) := by
  unfold T_countHigh
  rw [cif_f (fun ⟨k, u, v⟩ => h1 k u v)]
theorem RA_maximumHigh_2 {st : Ms} (hm : st_many st ≤ 10) {x : Int32} {a : Int64} {d : Int64} {k : Nat} (h1 : k < st_many st) (h2 : x = nI k) (e2 : z_bad a d) : T_maximumHigh st x a d = (s_thr st (nI 2), 0) := by
  subst h2
  have sk : sx (nI k) = k := sx_k (by omega)
  unfold T_maximumHigh
  rw [cif_t ⟨k, h1, rfl⟩]
  rw [sk]
  rw [cif_t e2]
theorem RA_maximumHigh_3 {st : Ms} (hm : st_many st ≤ 10) {x : Int32} {a : Int64} {d : Int64} {k : Nat} (h1 : k < st_many st) (h2 : x = nI k) (e2 : ¬ z_bad a d) (e3 : z_mx (z_hi st k a d) (z_v st k) (-20000) (st_n st k) = -20000) : T_maximumHigh st x a d = (s_thr st (nI 3), 0) := by
  subst h2
  have sk : sx (nI k) = k := sx_k (by omega)
  unfold T_maximumHigh
  rw [cif_t ⟨k, h1, rfl⟩]
  rw [sk]
  rw [cif_f e2]
  rw [cif_t e3]
theorem RA_maximumHigh_0 {st : Ms} (hm : st_many st ≤ 10) {x : Int32} {a : Int64} {d : Int64} {k : Nat} (h1 : k < st_many st) (h2 : x = nI k) (e2 : ¬ z_bad a d) (e3 : ¬ z_mx (z_hi st k a d) (z_v st k) (-20000) (st_n st k) = -20000) : T_maximumHigh st x a d = (s_thr st (nI 0), (z_mx (z_hi st k a d) (z_v st k) (-20000) (st_n st k)).toInt64) := by
  subst h2
  have sk : sx (nI k) = k := sx_k (by omega)
  unfold T_maximumHigh
  rw [cif_t ⟨k, h1, rfl⟩]
  rw [sk]
  rw [cif_f e2]
  rw [cif_f e3]
theorem RA_maximumHigh_1 {st : Ms} (hm : st_many st ≤ 10) {x : Int32} {a : Int64} {d : Int64} (h1 : ∀ k : Nat, k < st_many st → x ≠ nI k) : T_maximumHigh st x a d = (s_thr st (nI 1), 0) := by
  unfold T_maximumHigh
  rw [cif_f (fun ⟨k, u, v⟩ => h1 k u v)]
theorem RA_quantile_3 {st : Ms} (hm : st_many st ≤ 10) {x : Int32} {y : Int32} {k : Nat} (h1 : k < st_many st) (h2 : x = nI k) (g1 : ∃ d : Nat, (1 ≤ d ∧ d ≤ 100) ∧ y = nI d) (e1 : st_n st k = 0) : T_quantile st x y = (s_thr st (nI 3), 0) := by
  subst h2
  have sk : sx (nI k) = k := sx_k (by omega)
  unfold T_quantile
  rw [cif_t ⟨k, h1, rfl⟩]
  rw [sk]
  rw [cif_t g1]
  rw [cif_t e1]
theorem RA_quantile_0 {st : Ms} (hm : st_many st ≤ 10) {x : Int32} {y : Int32} {k : Nat} {d : Nat} (h1 : k < st_many st) (h2 : x = nI k) (g1 : 1 ≤ d ∧ d ≤ 100) (g2 : y = nI d) (e1 : 0 < st_n st k) : T_quantile st x y = (s_thr st (nI 0), (z_sq st k d).toInt64) := by
  subst h2
  subst g2
  have sk : sx (nI k) = k := sx_k (by omega)
  have sd : sx (nI d) = d := sx_k (by omega)
  unfold T_quantile
  rw [cif_t ⟨k, h1, rfl⟩]
  rw [sk]
  rw [cif_t ⟨d, g1, rfl⟩]
  rw [sd]
  rw [cif_f (by omega)]
theorem RA_quantile_2 {st : Ms} (hm : st_many st ≤ 10) {x : Int32} {y : Int32} {k : Nat} (h1 : k < st_many st) (h2 : x = nI k) (g1 : ∀ d : Nat, 1 ≤ d → d ≤ 100 → y ≠ nI d) : T_quantile st x y = (s_thr st (nI 2), 0) := by
  subst h2
  have sk : sx (nI k) = k := sx_k (by omega)
  unfold T_quantile
  rw [cif_t ⟨k, h1, rfl⟩]
  rw [sk]
  rw [cif_f (fun ⟨d, u, v⟩ => g1 d u.1 u.2 v)]
theorem RA_quantile_1 {st : Ms} (hm : st_many st ≤ 10) {x : Int32} {y : Int32} (h1 : ∀ k : Nat, k < st_many st → x ≠ nI k) : T_quantile st x y = (s_thr st (nI 1), 0) := by
  unfold T_quantile
  rw [cif_f (fun ⟨k, u, v⟩ => h1 k u v)]
theorem RA_exactQuantile_3 {st : Ms} (hm : st_many st ≤ 10) {x : Int32} {y : Int32} {k : Nat} (h1 : k < st_many st) (h2 : x = nI k) (g1 : ∃ d : Nat, (1 ≤ d ∧ d ≤ 100) ∧ y = nI d) (e1 : st_n st k = 0) : T_exactQuantile st x y = (s_thr st (nI 3), 0) := by
  subst h2
  have sk : sx (nI k) = k := sx_k (by omega)
  unfold T_exactQuantile
  rw [cif_t ⟨k, h1, rfl⟩]
  rw [sk]
  rw [cif_t g1]
  rw [cif_t e1]
theorem RA_exactQuantile_0 {st : Ms} (hm : st_many st ≤ 10) {x : Int32} {y : Int32} {k : Nat} {d : Nat} (h1 : k < st_many st) (h2 : x = nI k) (g1 : 1 ≤ d ∧ d ≤ 100) (g2 : y = nI d) (e1 : 0 < st_n st k) : T_exactQuantile st x y = (s_thr st (nI 0), (z_eq st k (z_tg st k d) (st_n st k)).toInt64) := by
  subst h2
  subst g2
  have sk : sx (nI k) = k := sx_k (by omega)
  have sd : sx (nI d) = d := sx_k (by omega)
  unfold T_exactQuantile
  rw [cif_t ⟨k, h1, rfl⟩]
  rw [sk]
  rw [cif_t ⟨d, g1, rfl⟩]
  rw [sd]
  rw [cif_f (by omega)]
theorem RA_exactQuantile_2 {st : Ms} (hm : st_many st ≤ 10) {x : Int32} {y : Int32} {k : Nat} (h1 : k < st_many st) (h2 : x = nI k) (g1 : ∀ d : Nat, 1 ≤ d → d ≤ 100 → y ≠ nI d) : T_exactQuantile st x y = (s_thr st (nI 2), 0) := by
  subst h2
  have sk : sx (nI k) = k := sx_k (by omega)
  unfold T_exactQuantile
  rw [cif_t ⟨k, h1, rfl⟩]
  rw [sk]
  rw [cif_f (fun ⟨d, u, v⟩ => g1 d u.1 u.2 v)]
theorem RA_exactQuantile_1 {st : Ms} (hm : st_many st ≤ 10) {x : Int32} {y : Int32} (h1 : ∀ k : Nat, k < st_many st → x ≠ nI k) : T_exactQuantile st x y = (s_thr st (nI 1), 0) := by
  unfold T_exactQuantile
  rw [cif_f (fun ⟨k, u, v⟩ => h1 k u v)]
theorem RA_bound_0 {st : Ms} (hm : st_many st ≤ 10) {x : Int32} {k : Nat} (h1 : k < st_many st) (h2 : x = nI k) : T_bound st x = (s_thr st (nI 0), (nI (st_bd st k)).toInt64) := by
  subst h2
  have sk : sx (nI k) = k := sx_k (by omega)
  unfold T_bound
  rw [cif_t ⟨k, h1, rfl⟩]
  rw [sk]
theorem RA_bound_1 {st : Ms} (hm : st_many st ≤ 10) {x : Int32} (h1 : ∀ k : Nat, k < st_many st → x ≠ nI k) : T_bound st x = (s_thr st (nI 1), 0) := by
  unfold T_bound
  rw [cif_f (fun ⟨k, u, v⟩ => h1 k u v)]
theorem RA_held_0 {st : Ms} (hm : st_many st ≤ 10) {x : Int32} {k : Nat} (h1 : k < st_many st) (h2 : x = nI k) : T_held st x = (s_thr st (nI 0), (nI (z_held st k)).toInt64) := by
  subst h2
  have sk : sx (nI k) = k := sx_k (by omega)
  unfold T_held
  rw [cif_t ⟨k, h1, rfl⟩]
  rw [sk]
theorem RA_held_1 {st : Ms} (hm : st_many st ≤ 10) {x : Int32} (h1 : ∀ k : Nat, k < st_many st → x ≠ nI k) : T_held st x = (s_thr st (nI 1), 0) := by
  unfold T_held
  rw [cif_f (fun ⟨k, u, v⟩ => h1 k u v)]
theorem RA_isWithin_3 {st : Ms} (hm : st_many st ≤ 10) {x : Int32} {y : Int32} {k : Nat} (h1 : k < st_many st) (h2 : x = nI k) (g1 : ∃ d : Nat, (1 ≤ d ∧ d ≤ 100) ∧ y = nI d) (e1 : st_n st k = 0) : T_isWithin st x y = (s_thr st (nI 3), 0) := by
  subst h2
  have sk : sx (nI k) = k := sx_k (by omega)
  unfold T_isWithin
  rw [cif_t ⟨k, h1, rfl⟩]
  rw [sk]
  rw [cif_t g1]
  rw [cif_t e1]
theorem RA_isWithin_0 {st : Ms} (hm : st_many st ≤ 10) {x : Int32} {y : Int32} {k : Nat} {d : Nat} (h1 : k < st_many st) (h2 : x = nI k) (g1 : 1 ≤ d ∧ d ≤ 100) (g2 : y = nI d) (e1 : 0 < st_n st k) : T_isWithin st x y = (s_thr st (nI 0), (b2 (z_wi st k d)).toInt64) := by
  subst h2
  subst g2
  have sk : sx (nI k) = k := sx_k (by omega)
  have sd : sx (nI d) = d := sx_k (by omega)
  unfold T_isWithin
  rw [cif_t ⟨k, h1, rfl⟩]
  rw [sk]
  rw [cif_t ⟨d, g1, rfl⟩]
  rw [sd]
  rw [cif_f (by omega)]
theorem RA_isWithin_2 {st : Ms} (hm : st_many st ≤ 10) {x : Int32} {y : Int32} {k : Nat} (h1 : k < st_many st) (h2 : x = nI k) (g1 : ∀ d : Nat, 1 ≤ d → d ≤ 100 → y ≠ nI d) : T_isWithin st x y = (s_thr st (nI 2), 0) := by
  subst h2
  have sk : sx (nI k) = k := sx_k (by omega)
  unfold T_isWithin
  rw [cif_t ⟨k, h1, rfl⟩]
  rw [sk]
  rw [cif_f (fun ⟨d, u, v⟩ => g1 d u.1 u.2 v)]
theorem RA_isWithin_1 {st : Ms} (hm : st_many st ≤ 10) {x : Int32} {y : Int32} (h1 : ∀ k : Nat, k < st_many st → x ≠ nI k) : T_isWithin st x y = (s_thr st (nI 1), 0) := by
  unfold T_isWithin
  rw [cif_f (fun ⟨k, u, v⟩ => h1 k u v)]
theorem RA_setAlert_0 {st : Ms} (hm : st_many st ≤ 10) {x : Int32} {a : Int32} {d : Int32} {k : Nat} (h1 : k < st_many st) (h2 : x = nI k) (g1 : (-10000) ≤ a ∧ a ≤ nI 10000) (g2 : nI 0 ≤ d ∧ d ≤ nI 600) : T_setAlert st x a d = (s_al st k a d, (nI (z_al (s_al st k a d) k)).toInt64) := by
  subst h2
  have sk : sx (nI k) = k := sx_k (by omega)
  unfold T_setAlert
  rw [cif_t ⟨k, h1, rfl⟩]
  rw [sk]
  rw [cif_t ⟨g1, g2⟩]
theorem RA_setAlert_2 {st : Ms} (hm : st_many st ≤ 10) {x : Int32} {a : Int32} {d : Int32} {k : Nat} (h1 : k < st_many st) (h2 : x = nI k) (g1 : ¬ (((-10000) ≤ a ∧ a ≤ nI 10000) ∧ (nI 0 ≤ d ∧ d ≤ nI 600))) : T_setAlert st x a d = (s_thr st (nI 2), 0) := by
  subst h2
  have sk : sx (nI k) = k := sx_k (by omega)
  unfold T_setAlert
  rw [cif_t ⟨k, h1, rfl⟩]
  rw [sk]
  rw [cif_f g1]
theorem RA_setAlert_1 {st : Ms} (hm : st_many st ≤ 10) {x : Int32} {a : Int32} {d : Int32} (h1 : ∀ k : Nat, k < st_many st → x ≠ nI k) : T_setAlert st x a d = (s_thr st (nI 1), 0) := by
  unfold T_setAlert
  rw [cif_f (fun ⟨k, u, v⟩ => h1 k u v)]
theorem RA_removeAlert_2 {st : Ms} (hm : st_many st ≤ 10) {x : Int32} {k : Nat} (h1 : k < st_many st) (h2 : x = nI k) (e2 : st_ha st k = nI 0) : T_removeAlert st x = (s_thr st (nI 2), 0) := by
  subst h2
  have sk : sx (nI k) = k := sx_k (by omega)
  unfold T_removeAlert
  rw [cif_t ⟨k, h1, rfl⟩]
  rw [sk]
  rw [cif_t e2]
theorem RA_removeAlert_0 {st : Ms} (hm : st_many st ≤ 10) {x : Int32} {k : Nat} (h1 : k < st_many st) (h2 : x = nI k) (e2 : ¬ st_ha st k = nI 0) : T_removeAlert st x = (s_ra st k, (nI (z_al st k)).toInt64) := by
  subst h2
  have sk : sx (nI k) = k := sx_k (by omega)
  unfold T_removeAlert
  rw [cif_t ⟨k, h1, rfl⟩]
  rw [sk]
  rw [cif_f e2]
theorem RA_removeAlert_1 {st : Ms} (hm : st_many st ≤ 10) {x : Int32} (h1 : ∀ k : Nat, k < st_many st → x ≠ nI k) : T_removeAlert st x = (s_thr st (nI 1), 0) := by
  unfold T_removeAlert
  rw [cif_f (fun ⟨k, u, v⟩ => h1 k u v)]
theorem RA_alertOf_2 {st : Ms} (hm : st_many st ≤ 10) {x : Int32} {k : Nat} (h1 : k < st_many st) (h2 : x = nI k) (e2 : st_ha st k = nI 0) : T_alertOf st x = (s_thr st (nI 2), 0) := by
  subst h2
  have sk : sx (nI k) = k := sx_k (by omega)
  unfold T_alertOf
  rw [cif_t ⟨k, h1, rfl⟩]
  rw [sk]
  rw [cif_t e2]
theorem RA_alertOf_0 {st : Ms} (hm : st_many st ≤ 10) {x : Int32} {k : Nat} (h1 : k < st_many st) (h2 : x = nI k) (e2 : ¬ st_ha st k = nI 0) : T_alertOf st x = (s_thr st (nI 0), (nI (z_al st k)).toInt64) := by
  subst h2
  have sk : sx (nI k) = k := sx_k (by omega)
  unfold T_alertOf
  rw [cif_t ⟨k, h1, rfl⟩]
  rw [sk]
  rw [cif_f e2]
theorem RA_alertOf_1 {st : Ms} (hm : st_many st ≤ 10) {x : Int32} (h1 : ∀ k : Nat, k < st_many st → x ≠ nI k) : T_alertOf st x = (s_thr st (nI 1), 0) := by
  unfold T_alertOf
  rw [cif_f (fun ⟨k, u, v⟩ => h1 k u v)]
theorem RA_joinCount_0 {st : Ms} (hm : st_many st ≤ 10) {a : Int32} {d : Int32} (g1 : nI 0 ≤ a ∧ a ≤ nI 9) (g2 : nI 0 ≤ d ∧ d ≤ nI 9) : T_joinCount st a d = (s_thr st (nI 0), (nI (z_ct (z_jp st a d) 10)).toInt64) := by
  unfold T_joinCount
  rw [cif_t ⟨g1, g2⟩]
theorem RA_joinCount_1 {st : Ms} (hm : st_many st ≤ 10) {a : Int32} {d : Int32} (g1 : ¬ ((nI 0 ≤ a ∧ a ≤ nI 9) ∧ (nI 0 ≤ d ∧ d ≤ nI 9))) : T_joinCount st a d = (s_thr st (nI 1), 0) := by
  unfold T_joinCount
  rw [cif_f g1]
theorem RA_joinSum_0 {st : Ms} (hm : st_many st ≤ 10) {a : Int32} {d : Int32} (g1 : nI 0 ≤ a ∧ a ≤ nI 9) (g2 : nI 0 ≤ d ∧ d ≤ nI 9) : T_joinSum st a d = (s_thr st (nI 0), z_js st a d (fun u v => if 1 = 0 then lN 1 else (z_la st u).toInt64 * (z_la st v).toInt64) 10) := by
  unfold T_joinSum
  rw [cif_t ⟨g1, g2⟩]
theorem RA_joinSum_1 {st : Ms} (hm : st_many st ≤ 10) {a : Int32} {d : Int32} (g1 : ¬ ((nI 0 ≤ a ∧ a ≤ nI 9) ∧ (nI 0 ≤ d ∧ d ≤ nI 9))) : T_joinSum st a d = (s_thr st (nI 1), 0) := by
  unfold T_joinSum
  rw [cif_f g1]
theorem RA_firingShare_1 {st : Ms} (hm : st_many st ≤ 10) (e0 : st_many st = 0) : T_firingShare st  = (s_thr st (nI 1), 0) := by
  unfold T_firingShare
  rw [cif_t e0]
theorem RA_firingShare_0 {st : Ms} (hm : st_many st ≤ 10) (e0 : ¬ st_many st = 0) : T_firingShare st  = (s_thr st (nI 0), FP.fdiv (FP.i2f (nI (z_ct (z_fi st) (st_many st)))) (FP.i2f (nI (st_many st)))) := by
  unfold T_firingShare
  rw [cif_f e0]
