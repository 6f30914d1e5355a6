theorem cif_c {α : Type} {p : Prop} {P : α → Prop} {a b : α} (h1 : p → P a) (h2 : ¬ p → P b) : P (cif p a b) := by
  by_cases q : p
  · rw [cif_t q]; exact h1 q
  · rw [cif_f q]; exact h2 q
theorem add_ok0 {st : Ms} {k : Nat} (hk : Iv st) (h : k < st_many st) (hn : st_n st k < 120) (w : Int32) : AddOK st k w := add_ok (F := fun y i => st_sk st (8 * (6 * k + y) + i)) hk h (fun _ _ _ _ => rfl) hn w
theorem Iv_add0 {st : Ms} {k : Nat} (hk : Iv st) (h : k < st_many st) (hn : st_n st k < 120) (w : Int32) : Iv (s_add st k w) := Iv_add (F := fun y i => st_sk st (8 * (6 * k + y) + i)) hk h (fun _ _ _ _ => rfl) hn w
theorem IvT_open {st : Ms} (hk : Iv st) (hn : st_now st + 600 < 1073741824) (a9 : Int32) (d9 : Int32) : Iv (T_open st a9 d9).1 := by
  unfold T_open
  exact cif_c (P := fun z : Ms × Int64 => Iv z.1) (fun u0 => cif_c (P := fun z : Ms × Int64 => Iv z.1) (fun u1 => Iv_thr hk _) (fun u1 => Iv_open hk (by have := hk.m10; omega) _ _)) (fun u0 => Iv_thr hk _)
theorem nwT_open {st : Ms} (a9 : Int32) (d9 : Int32) : st_now (T_open st a9 d9).1 ≤ st_now st + 600 := by
  unfold T_open
  exact cif_c (P := fun z : Ms × Int64 => st_now z.1 ≤ st_now st + 600) (fun u0 => cif_c (P := fun z : Ms × Int64 => st_now z.1 ≤ st_now st + 600) (fun u1 => Nat.le_add_right _ _) (fun u1 => Nat.le_add_right _ _)) (fun u0 => Nat.le_add_right _ _)
theorem IvT_pass {st : Ms} (hk : Iv st) (hn : st_now st + 600 < 1073741824) (x9 : Int32) : Iv (T_pass st x9).1 := by
  unfold T_pass
  exact cif_c (P := fun z : Ms × Int64 => Iv z.1) (fun u0 => Iv_pass hk _ (by obtain ⟨d, hd, rfl⟩ := u0; rw [sx_k (by omega)]; omega)) (fun u0 => Iv_thr hk _)
theorem nwT_pass {st : Ms} (x9 : Int32) : st_now (T_pass st x9).1 ≤ st_now st + 600 := by
  unfold T_pass
  exact cif_c (P := fun z : Ms × Int64 => st_now z.1 ≤ st_now st + 600) (fun u0 => (by show st_now st + sx x9 ≤ st_now st + 600; obtain ⟨d, hd, rfl⟩ := u0; rw [sx_k (by omega)]; omega)) (fun u0 => Nat.le_add_right _ _)
theorem IvT_add {st : Ms} (hk : Iv st) (hn : st_now st + 600 < 1073741824) (x9 : Int32) (w9 : Int32) : Iv (T_add st x9 w9).1 := by
  unfold T_add
  exact cif_c (P := fun z : Ms × Int64 => Iv z.1) (fun u0 => cif_c (P := fun z : Ms × Int64 => Iv z.1) (fun u1 => cif_c (P := fun z : Ms × Int64 => Iv z.1) (fun u2 => Iv_thr hk _) (fun u2 => Iv_add0 (k := sx x9) hk (by obtain ⟨k, hk9, rfl⟩ := u0; rw [sx_k (by have := hk.m10; omega)]; exact hk9) (by have hn9 := hk.n (k := sx x9) (by obtain ⟨k, hk9, rfl⟩ := u0; rw [sx_k (by have := hk.m10; omega)]; exact hk9); omega) _)) (fun u1 => Iv_thr hk _)) (fun u0 => Iv_thr hk _)
theorem nwT_add {st : Ms} (x9 : Int32) (w9 : Int32) : st_now (T_add st x9 w9).1 ≤ st_now st + 600 := by
  unfold T_add
  exact cif_c (P := fun z : Ms × Int64 => st_now z.1 ≤ st_now st + 600) (fun u0 => cif_c (P := fun z : Ms × Int64 => st_now z.1 ≤ st_now st + 600) (fun u1 => cif_c (P := fun z : Ms × Int64 => st_now z.1 ≤ st_now st + 600) (fun u2 => Nat.le_add_right _ _) (fun u2 => (by show st_now (s_add st (sx x9) w9) ≤ _; rw [ad_now]; omega))) (fun u1 => Nat.le_add_right _ _)) (fun u0 => Nat.le_add_right _ _)
theorem IvT_find {st : Ms} (hk : Iv st) (hn : st_now st + 600 < 1073741824) (a9 : Int32) (d9 : Int32) : Iv (T_find st a9 d9).1 := by
  unfold T_find
  exact cif_c (P := fun z : Ms × Int64 => Iv z.1) (fun u0 => Iv_thr hk _) (fun u0 => Iv_thr hk _)
theorem nwT_find {st : Ms} (a9 : Int32) (d9 : Int32) : st_now (T_find st a9 d9).1 ≤ st_now st + 600 := by
  unfold T_find
  exact cif_c (P := fun z : Ms × Int64 => st_now z.1 ≤ st_now st + 600) (fun u0 => Nat.le_add_right _ _) (fun u0 => Nat.le_add_right _ _)
theorem IvT_nameOf {st : Ms} (hk : Iv st) (hn : st_now st + 600 < 1073741824) (x9 : Int32) : Iv (T_nameOf st x9).1 := by
  unfold T_nameOf
  exact cif_c (P := fun z : Ms × Int64 => Iv z.1) (fun u0 => Iv_thr hk _) (fun u0 => Iv_thr hk _)
theorem nwT_nameOf {st : Ms} (x9 : Int32) : st_now (T_nameOf st x9).1 ≤ st_now st + 600 := by
  unfold T_nameOf
  exact cif_c (P := fun z : Ms × Int64 => st_now z.1 ≤ st_now st + 600) (fun u0 => Nat.le_add_right _ _) (fun u0 => Nat.le_add_right _ _)
theorem IvT_hostOf {st : Ms} (hk : Iv st) (hn : st_now st + 600 < 1073741824) (x9 : Int32) : Iv (T_hostOf st x9).1 := by
  unfold T_hostOf
  exact cif_c (P := fun z : Ms × Int64 => Iv z.1) (fun u0 => Iv_thr hk _) (fun u0 => Iv_thr hk _)
theorem nwT_hostOf {st : Ms} (x9 : Int32) : st_now (T_hostOf st x9).1 ≤ st_now st + 600 := by
  unfold T_hostOf
  exact cif_c (P := fun z : Ms × Int64 => st_now z.1 ≤ st_now st + 600) (fun u0 => Nat.le_add_right _ _) (fun u0 => Nat.le_add_right _ _)
theorem IvT_samples {st : Ms} (hk : Iv st) (hn : st_now st + 600 < 1073741824) (x9 : Int32) : Iv (T_samples st x9).1 := by
  unfold T_samples
  exact cif_c (P := fun z : Ms × Int64 => Iv z.1) (fun u0 => Iv_thr hk _) (fun u0 => Iv_thr hk _)
theorem nwT_samples {st : Ms} (x9 : Int32) : st_now (T_samples st x9).1 ≤ st_now st + 600 := by
  unfold T_samples
  exact cif_c (P := fun z : Ms × Int64 => st_now z.1 ≤ st_now st + 600) (fun u0 => Nat.le_add_right _ _) (fun u0 => Nat.le_add_right _ _)
theorem IvT_latest {st : Ms} (hk : Iv st) (hn : st_now st + 600 < 1073741824) (x9 : Int32) : Iv (T_latest st x9).1 := by
  unfold T_latest
  exact cif_c (P := fun z : Ms × Int64 => Iv z.1) (fun u0 => cif_c (P := fun z : Ms × Int64 => Iv z.1) (fun u1 => Iv_thr hk _) (fun u1 => Iv_thr hk _)) (fun u0 => Iv_thr hk _)
theorem nwT_latest {st : Ms} (x9 : Int32) : st_now (T_latest st x9).1 ≤ st_now st + 600 := by
  unfold T_latest
  exact cif_c (P := fun z : Ms × Int64 => st_now z.1 ≤ st_now st + 600) (fun u0 => cif_c (P := fun z : Ms × Int64 => st_now z.1 ≤ st_now st + 600) (fun u1 => Nat.le_add_right _ _) (fun u1 => Nat.le_add_right _ _)) (fun u0 => Nat.le_add_right _ _)
theorem IvT_blocks {st : Ms} (hk : Iv st) (hn : st_now st + 600 < 1073741824) (x9 : Int32) : Iv (T_blocks st x9).1 := by
  unfold T_blocks
  exact cif_c (P := fun z : Ms × Int64 => Iv z.1) (fun u0 => Iv_thr hk _) (fun u0 => Iv_thr hk _)
theorem nwT_blocks {st : Ms} (x9 : Int32) : st_now (T_blocks st x9).1 ≤ st_now st + 600 := by
  unfold T_blocks
  exact cif_c (P := fun z : Ms × Int64 => st_now z.1 ≤ st_now st + 600) (fun u0 => Nat.le_add_right _ _) (fun u0 => Nat.le_add_right _ _)
theorem IvT_bitsOf {st : Ms} (hk : Iv st) (hn : st_now st + 600 < 1073741824) (x9 : Int32) (y9 : Int32) : Iv (T_bitsOf st x9 y9).1 := by
  unfold T_bitsOf
  exact cif_c (P := fun z : Ms × Int64 => Iv z.1) (fun u0 => cif_c (P := fun z : Ms × Int64 => Iv z.1) (fun u1 => Iv_thr hk _) (fun u1 => Iv_thr hk _)) (fun u0 => Iv_thr hk _)
theorem nwT_bitsOf {st : Ms} (x9 : Int32) (y9 : Int32) : st_now (T_bitsOf st x9 y9).1 ≤ st_now st + 600 := by
  unfold T_bitsOf
  exact cif_c (P := fun z : Ms × Int64 => st_now z.1 ≤ st_now st + 600) (fun u0 => cif_c (P := fun z : Ms × Int64 => st_now z.1 ≤ st_now st + 600) (fun u1 => Nat.le_add_right _ _) (fun u1 => Nat.le_add_right _ _)) (fun u0 => Nat.le_add_right _ _)
theorem IvT_timeAt {st : Ms} (hk : Iv st) (hn : st_now st + 600 < 1073741824) (x9 : Int32) (y9 : Int32) : Iv (T_timeAt st x9 y9).1 := by
  unfold T_timeAt
  exact cif_c (P := fun z : Ms × Int64 => Iv z.1) (fun u0 => cif_c (P := fun z : Ms × Int64 => Iv z.1) (fun u1 => Iv_thr hk _) (fun u1 => Iv_thr hk _)) (fun u0 => Iv_thr hk _)
theorem nwT_timeAt {st : Ms} (x9 : Int32) (y9 : Int32) : st_now (T_timeAt st x9 y9).1 ≤ st_now st + 600 := by
  unfold T_timeAt
  exact cif_c (P := fun z : Ms × Int64 => st_now z.1 ≤ st_now st + 600) (fun u0 => cif_c (P := fun z : Ms × Int64 => st_now z.1 ≤ st_now st + 600) (fun u1 => Nat.le_add_right _ _) (fun u1 => Nat.le_add_right _ _)) (fun u0 => Nat.le_add_right _ _)
theorem IvT_valueAt {st : Ms} (hk : Iv st) (hn : st_now st + 600 < 1073741824) (x9 : Int32) (y9 : Int32) : Iv (T_valueAt st x9 y9).1 := by
  unfold T_valueAt
  exact cif_c (P := fun z : Ms × Int64 => Iv z.1) (fun u0 => cif_c (P := fun z : Ms × Int64 => Iv z.1) (fun u1 => Iv_thr hk _) (fun u1 => Iv_thr hk _)) (fun u0 => Iv_thr hk _)
theorem nwT_valueAt {st : Ms} (x9 : Int32) (y9 : Int32) : st_now (T_valueAt st x9 y9).1 ≤ st_now st + 600 := by
  unfold T_valueAt
  exact cif_c (P := fun z : Ms × Int64 => st_now z.1 ≤ st_now st + 600) (fun u0 => cif_c (P := fun z : Ms × Int64 => st_now z.1 ≤ st_now st + 600) (fun u1 => Nat.le_add_right _ _) (fun u1 => Nat.le_add_right _ _)) (fun u0 => Nat.le_add_right _ _)
theorem IvT_count {st : Ms} (hk : Iv st) (hn : st_now st + 600 < 1073741824) (x9 : Int32) (a9 : Int64) (d9 : Int64) : Iv (T_count st x9 a9 d9).1 := by
  unfold T_count
  exact cif_c (P := fun z : Ms × Int64 => Iv z.1) (fun u0 => cif_c (P := fun z : Ms × Int64 => Iv z.1) (fun u1 => Iv_thr hk _) (fun u1 => Iv_thr hk _)) (fun u0 => Iv_thr hk _)
theorem nwT_count {st : Ms} (x9 : Int32) (a9 : Int64) (d9 : Int64) : st_now (T_count st x9 a9 d9).1 ≤ st_now st + 600 := by
  unfold T_count
  exact cif_c (P := fun z : Ms × Int64 => st_now z.1 ≤ st_now st + 600) (fun u0 => cif_c (P := fun z : Ms × Int64 => st_now z.1 ≤ st_now st + 600) (fun u1 => Nat.le_add_right _ _) (fun u1 => Nat.le_add_right _ _)) (fun u0 => Nat.le_add_right _ _)
theorem IvT_sum {st : Ms} (hk : Iv st) (hn : st_now st + 600 < 1073741824) (x9 : Int32) (a9 : Int64) (d9 : Int64) : Iv (T_sum st x9 a9 d9).1 := by
  unfold T_sum
  exact cif_c (P := fun z : Ms × Int64 => Iv z.1) (fun u0 => cif_c (P := fun z : Ms × Int64 => Iv z.1) (fun u1 => Iv_thr hk _) (fun u1 => Iv_thr hk _)) (fun u0 => Iv_thr hk _)
theorem nwT_sum {st : Ms} (x9 : Int32) (a9 : Int64) (d9 : Int64) : st_now (T_sum st x9 a9 d9).1 ≤ st_now st + 600 := by
  unfold T_sum
  exact cif_c (P := fun z : Ms × Int64 => st_now z.1 ≤ st_now st + 600) (fun u0 => cif_c (P := fun z : Ms × Int64 => st_now z.1 ≤ st_now st + 600) (fun u1 => Nat.le_add_right _ _) (fun u1 => Nat.le_add_right _ _)) (fun u0 => Nat.le_add_right _ _)
theorem IvT_sumByReading {st : Ms} (hk : Iv st) (hn : st_now st + 600 < 1073741824) (x9 : Int32) (a9 : Int64) (d9 : Int64) : Iv (T_sumByReading st x9 a9 d9).1 := by
  unfold T_sumByReading
  exact cif_c (P := fun z : Ms × Int64 => Iv z.1) (fun u0 => cif_c (P := fun z : Ms × Int64 => Iv z.1) (fun u1 => Iv_thr hk _) (fun u1 => Iv_thr hk _)) (fun u0 => Iv_thr hk _)
theorem nwT_sumByReading {st : Ms} (x9 : Int32) (a9 : Int64) (d9 : Int64) : st_now (T_sumByReading st x9 a9 d9).1 ≤ st_now st + 600 := by
  unfold T_sumByReading
  exact cif_c (P := fun z : Ms × Int64 => st_now z.1 ≤ st_now st + 600) (fun u0 => cif_c (P := fun z : Ms × Int64 => st_now z.1 ≤ st_now st + 600) (fun u1 => Nat.le_add_right _ _) (fun u1 => Nat.le_add_right _ _)) (fun u0 => Nat.le_add_right _ _)
theorem IvT_maximum {st : Ms} (hk : Iv st) (hn : st_now st + 600 < 1073741824) (x9 : Int32) (a9 : Int64) (d9 : Int64) : Iv (T_maximum st x9 a9 d9).1 := by
  unfold T_maximum
  exact cif_c (P := fun z : Ms × Int64 => Iv z.1) (fun u0 => cif_c (P := fun z : Ms × Int64 => Iv z.1) (fun u1 => Iv_thr hk _) (fun u1 => cif_c (P := fun z : Ms × Int64 => Iv z.1) (fun u2 => Iv_thr hk _) (fun u2 => Iv_thr hk _))) (fun u0 => Iv_thr hk _)
theorem nwT_maximum {st : Ms} (x9 : Int32) (a9 : Int64) (d9 : Int64) : st_now (T_maximum st x9 a9 d9).1 ≤ st_now st + 600 := by
  unfold T_maximum
  exact cif_c (P := fun z : Ms × Int64 => st_now z.1 ≤ st_now st + 600) (fun u0 => cif_c (P := fun z : Ms × Int64 => st_now z.1 ≤ st_now st + 600) (fun u1 => Nat.le_add_right _ _) (fun u1 => cif_c (P := fun z : Ms × Int64 => st_now z.1 ≤ st_now st + 600) (fun u2 => Nat.le_add_right _ _) (fun u2 => Nat.le_add_right _ _))) (fun u0 => Nat.le_add_right _ _)
theorem IvT_mean {st : Ms} (hk : Iv st) (hn : st_now st + 600 < 1073741824) (x9 : Int32) (a9 : Int64) (d9 : Int64) : Iv (T_mean st x9 a9 d9).1 := by
  unfold T_mean
  exact cif_c (P := fun z : Ms × UInt64 => Iv z.1) (fun u0 => cif_c (P := fun z : Ms × UInt64 => Iv z.1) (fun u1 => Iv_thr hk _) (fun u1 => cif_c (P := fun z : Ms × UInt64 => Iv z.1) (fun u2 => Iv_thr hk _) (fun u2 => Iv_thr hk _))) (fun u0 => Iv_thr hk _)
theorem nwT_mean {st : Ms} (x9 : Int32) (a9 : Int64) (d9 : Int64) : st_now (T_mean st x9 a9 d9).1 ≤ st_now st + 600 := by
  unfold T_mean
  exact cif_c (P := fun z : Ms × UInt64 => st_now z.1 ≤ st_now st + 600) (fun u0 => cif_c (P := fun z : Ms × UInt64 => st_now z.1 ≤ st_now st + 600) (fun u1 => Nat.le_add_right _ _) (fun u1 => cif_c (P := fun z : Ms × UInt64 => st_now z.1 ≤ st_now st + 600) (fun u2 => Nat.le_add_right _ _) (fun u2 => Nat.le_add_right _ _))) (fun u0 => Nat.le_add_right _ _)
theorem IvT_rollupCount {st : Ms} (hk : Iv st) (hn : st_now st + 600 < 1073741824) (x9 : Int32) (y9 : Int32) : Iv (T_rollupCount st x9 y9).1 := by
  unfold T_rollupCount
  exact cif_c (P := fun z : Ms × Int64 => Iv z.1) (fun u0 => cif_c (P := fun z : Ms × Int64 => Iv z.1) (fun u1 => Iv_thr hk _) (fun u1 => Iv_thr hk _)) (fun u0 => Iv_thr hk _)
theorem nwT_rollupCount {st : Ms} (x9 : Int32) (y9 : Int32) : st_now (T_rollupCount st x9 y9).1 ≤ st_now st + 600 := by
  unfold T_rollupCount
  exact cif_c (P := fun z : Ms × Int64 => st_now z.1 ≤ st_now st + 600) (fun u0 => cif_c (P := fun z : Ms × Int64 => st_now z.1 ≤ st_now st + 600) (fun u1 => Nat.le_add_right _ _) (fun u1 => Nat.le_add_right _ _)) (fun u0 => Nat.le_add_right _ _)
theorem IvT_countLow {st : Ms} (hk : Iv st) (hn : st_now st + 600 < 1073741824) (x9 : Int32) (a9 : Int64) (d9 : Int64) : Iv (T_countLow st x9 a9 d9).1 := by
  unfold T_countLow
  exact cif_c (P := fun z : Ms × Int64 => Iv z.1) (fun u0 => cif_c (P := fun z : Ms × Int64 => Iv z.1) (fun u1 => Iv_thr hk _) (fun u1 => Iv_thr hk _)) (fun u0 => Iv_thr hk _)
theorem nwT_countLow {st : Ms} (x9 : Int32) (a9 : Int64) (d9 : Int64) : st_now (T_countLow st x9 a9 d9).1 ≤ st_now st + 600 := by
  unfold T_countLow
  exact cif_c (P := fun z : Ms × Int64 => st_now z.1 ≤ st_now st + 600) (fun u0 => cif_c (P := fun z : Ms × Int64 => st_now z.1 ≤ st_now st + 600) (fun u1 => Nat.le_add_right _ _) (fun u1 => Nat.le_add_right _ _)) (fun u0 => Nat.le_add_right _ _)
theorem IvT_countHigh {st : Ms} (hk : Iv st) (hn : st_now st + 600 < 1073741824) (x9 : Int32) (a9 : Int64) (d9 : Int64) : Iv (T_countHigh st x9 a9 d9).1 := by
  unfold T_countHigh
  exact cif_c (P := fun z : Ms × Int64 => Iv z.1) (fun u0 => cif_c (P := fun z : Ms × Int64 => Iv z.1) (fun u1 => Iv_thr hk _) (fun u1 => Iv_thr hk _)) (fun u0 => Iv_thr hk _)
theorem nwT_countHigh {st : Ms} (x9 : Int32) (a9 : Int64) (d9 : Int64) : st_now (T_countHigh st x9 a9 d9).1 ≤ st_now st + 600 := by
  unfold T_countHigh
  exact cif_c (P := fun z : Ms × Int64 => st_now z.1 ≤ st_now st + 600) (fun u0 => cif_c (P := fun z : Ms × Int64 => st_now z.1 ≤ st_now st + 600) (fun u1 => Nat.le_add_right _ _) (fun u1 => Nat.le_add_right _ _)) (fun u0 => Nat.le_add_right _ _)
theorem IvT_maximumHigh {st : Ms} (hk : Iv st) (hn : st_now st + 600 < 1073741824) (x9 : Int32) (a9 : Int64) (d9 : Int64) : Iv (T_maximumHigh st x9 a9 d9).1 := by
  unfold T_maximumHigh
  exact cif_c (P := fun z : Ms × Int64 => Iv z.1) (fun u0 => cif_c (P := fun z : Ms × Int64 => Iv z.1) (fun u1 => Iv_thr hk _) (fun u1 => cif_c (P := fun z : Ms × Int64 => Iv z.1) (fun u2 => Iv_thr hk _) (fun u2 => Iv_thr hk _))) (fun u0 => Iv_thr hk _)
theorem nwT_maximumHigh {st : Ms} (x9 : Int32) (a9 : Int64) (d9 : Int64) : st_now (T_maximumHigh st x9 a9 d9).1 ≤ st_now st + 600 := by
  unfold T_maximumHigh
  exact cif_c (P := fun z : Ms × Int64 => st_now z.1 ≤ st_now st + 600) (fun u0 => cif_c (P := fun z : Ms × Int64 => st_now z.1 ≤ st_now st + 600) (fun u1 => Nat.le_add_right _ _) (fun u1 => cif_c (P := fun z : Ms × Int64 => st_now z.1 ≤ st_now st + 600) (fun u2 => Nat.le_add_right _ _) (fun u2 => Nat.le_add_right _ _))) (fun u0 => Nat.le_add_right _ _)
theorem IvT_quantile {st : Ms} (hk : Iv st) (hn : st_now st + 600 < 1073741824) (x9 : Int32) (y9 : Int32) : Iv (T_quantile st x9 y9).1 := by
  unfold T_quantile
  exact cif_c (P := fun z : Ms × Int64 => Iv z.1) (fun u0 => cif_c (P := fun z : Ms × Int64 => Iv z.1) (fun u1 => cif_c (P := fun z : Ms × Int64 => Iv z.1) (fun u2 => Iv_thr hk _) (fun u2 => Iv_thr hk _)) (fun u1 => Iv_thr hk _)) (fun u0 => Iv_thr hk _)
theorem nwT_quantile {st : Ms} (x9 : Int32) (y9 : Int32) : st_now (T_quantile st x9 y9).1 ≤ st_now st + 600 := by
  unfold T_quantile
  exact cif_c (P := fun z : Ms × Int64 => st_now z.1 ≤ st_now st + 600) (fun u0 => cif_c (P := fun z : Ms × Int64 => st_now z.1 ≤ st_now st + 600) (fun u1 => cif_c (P := fun z : Ms × Int64 => st_now z.1 ≤ st_now st + 600) (fun u2 => Nat.le_add_right _ _) (fun u2 => Nat.le_add_right _ _)) (fun u1 => Nat.le_add_right _ _)) (fun u0 => Nat.le_add_right _ _)
theorem IvT_exactQuantile {st : Ms} (hk : Iv st) (hn : st_now st + 600 < 1073741824) (x9 : Int32) (y9 : Int32) : Iv (T_exactQuantile st x9 y9).1 := by
  unfold T_exactQuantile
  exact cif_c (P := fun z : Ms × Int64 => Iv z.1) (fun u0 => cif_c (P := fun z : Ms × Int64 => Iv z.1) (fun u1 => cif_c (P := fun z : Ms × Int64 => Iv z.1) (fun u2 => Iv_thr hk _) (fun u2 => Iv_thr hk _)) (fun u1 => Iv_thr hk _)) (fun u0 => Iv_thr hk _)
theorem nwT_exactQuantile {st : Ms} (x9 : Int32) (y9 : Int32) : st_now (T_exactQuantile st x9 y9).1 ≤ st_now st + 600 := by
  unfold T_exactQuantile
  exact cif_c (P := fun z : Ms × Int64 => st_now z.1 ≤ st_now st + 600) (fun u0 => cif_c (P := fun z : Ms × Int64 => st_now z.1 ≤ st_now st + 600) (fun u1 => cif_c (P := fun z : Ms × Int64 => st_now z.1 ≤ st_now st + 600) (fun u2 => Nat.le_add_right _ _) (fun u2 => Nat.le_add_right _ _)) (fun u1 => Nat.le_add_right _ _)) (fun u0 => Nat.le_add_right _ _)
theorem IvT_bound {st : Ms} (hk : Iv st) (hn : st_now st + 600 < 1073741824) (x9 : Int32) : Iv (T_bound st x9).1 := by
  unfold T_bound
  exact cif_c (P := fun z : Ms × Int64 => Iv z.1) (fun u0 => Iv_thr hk _) (fun u0 => Iv_thr hk _)
theorem nwT_bound {st : Ms} (x9 : Int32) : st_now (T_bound st x9).1 ≤ st_now st + 600 := by
  unfold T_bound
  exact cif_c (P := fun z : Ms × Int64 => st_now z.1 ≤ st_now st + 600) (fun u0 => Nat.le_add_right _ _) (fun u0 => Nat.le_add_right _ _)
theorem IvT_held {st : Ms} (hk : Iv st) (hn : st_now st + 600 < 1073741824) (x9 : Int32) : Iv (T_held st x9).1 := by
  unfold T_held
  exact cif_c (P := fun z : Ms × Int64 => Iv z.1) (fun u0 => Iv_thr hk _) (fun u0 => Iv_thr hk _)
theorem nwT_held {st : Ms} (x9 : Int32) : st_now (T_held st x9).1 ≤ st_now st + 600 := by
  unfold T_held
  exact cif_c (P := fun z : Ms × Int64 => st_now z.1 ≤ st_now st + 600) (fun u0 => Nat.le_add_right _ _) (fun u0 => Nat.le_add_right _ _)
theorem IvT_isWithin {st : Ms} (hk : Iv st) (hn : st_now st + 600 < 1073741824) (x9 : Int32) (y9 : Int32) : Iv (T_isWithin st x9 y9).1 := by
  unfold T_isWithin
  exact cif_c (P := fun z : Ms × Int64 => Iv z.1) (fun u0 => cif_c (P := fun z : Ms × Int64 => Iv z.1) (fun u1 => cif_c (P := fun z : Ms × Int64 => Iv z.1) (fun u2 => Iv_thr hk _) (fun u2 => Iv_thr hk _)) (fun u1 => Iv_thr hk _)) (fun u0 => Iv_thr hk _)
theorem nwT_isWithin {st : Ms} (x9 : Int32) (y9 : Int32) : st_now (T_isWithin st x9 y9).1 ≤ st_now st + 600 := by
  unfold T_isWithin
  exact cif_c (P := fun z : Ms × Int64 => st_now z.1 ≤ st_now st + 600) (fun u0 => cif_c (P := fun z : Ms × Int64 => st_now z.1 ≤ st_now st + 600) (fun u1 => cif_c (P := fun z : Ms × Int64 => st_now z.1 ≤ st_now st + 600) (fun u2 => Nat.le_add_right _ _) (fun u2 => Nat.le_add_right _ _)) (fun u1 => Nat.le_add_right _ _)) (fun u0 => Nat.le_add_right _ _)
theorem IvT_setAlert {st : Ms} (hk : Iv st) (hn : st_now st + 600 < 1073741824) (x9 : Int32) (a9 : Int32) (d9 : Int32) : Iv (T_setAlert st x9 a9 d9).1 := by
  unfold T_setAlert
  exact cif_c (P := fun z : Ms × Int64 => Iv z.1) (fun u0 => cif_c (P := fun z : Ms × Int64 => Iv z.1) (fun u1 => Iv_al hk (by obtain ⟨k, hk9, rfl⟩ := u0; rw [sx_k (by have := hk.m10; omega)]; exact hk9) _ _) (fun u1 => Iv_thr hk _)) (fun u0 => Iv_thr hk _)
theorem nwT_setAlert {st : Ms} (x9 : Int32) (a9 : Int32) (d9 : Int32) : st_now (T_setAlert st x9 a9 d9).1 ≤ st_now st + 600 := by
  unfold T_setAlert
  exact cif_c (P := fun z : Ms × Int64 => st_now z.1 ≤ st_now st + 600) (fun u0 => cif_c (P := fun z : Ms × Int64 => st_now z.1 ≤ st_now st + 600) (fun u1 => Nat.le_add_right _ _) (fun u1 => Nat.le_add_right _ _)) (fun u0 => Nat.le_add_right _ _)
theorem IvT_removeAlert {st : Ms} (hk : Iv st) (hn : st_now st + 600 < 1073741824) (x9 : Int32) : Iv (T_removeAlert st x9).1 := by
  unfold T_removeAlert
  exact cif_c (P := fun z : Ms × Int64 => Iv z.1) (fun u0 => cif_c (P := fun z : Ms × Int64 => Iv z.1) (fun u1 => Iv_thr hk _) (fun u1 => Iv_ra hk (by obtain ⟨k, hk9, rfl⟩ := u0; rw [sx_k (by have := hk.m10; omega)]; exact hk9))) (fun u0 => Iv_thr hk _)
theorem nwT_removeAlert {st : Ms} (x9 : Int32) : st_now (T_removeAlert st x9).1 ≤ st_now st + 600 := by
  unfold T_removeAlert
  exact cif_c (P := fun z : Ms × Int64 => st_now z.1 ≤ st_now st + 600) (fun u0 => cif_c (P := fun z : Ms × Int64 => st_now z.1 ≤ st_now st + 600) (fun u1 => Nat.le_add_right _ _) (fun u1 => Nat.le_add_right _ _)) (fun u0 => Nat.le_add_right _ _)
theorem IvT_alertOf {st : Ms} (hk : Iv st) (hn : st_now st + 600 < 1073741824) (x9 : Int32) : Iv (T_alertOf st x9).1 := by
  unfold T_alertOf
  exact cif_c (P := fun z : Ms × Int64 => Iv z.1) (fun u0 => cif_c (P := fun z : Ms × Int64 => Iv z.1) (fun u1 => Iv_thr hk _) (fun u1 => Iv_thr hk _)) (fun u0 => Iv_thr hk _)
theorem nwT_alertOf {st : Ms} (x9 : Int32) : st_now (T_alertOf st x9).1 ≤ st_now st + 600 := by
  unfold T_alertOf
  exact cif_c (P := fun z : Ms × Int64 => st_now z.1 ≤ st_now st + 600) (fun u0 => cif_c (P := fun z : Ms × Int64 => st_now z.1 ≤ st_now st + 600) (fun u1 => Nat.le_add_right _ _) (fun u1 => Nat.le_add_right _ _)) (fun u0 => Nat.le_add_right _ _)
theorem IvT_joinCount {st : Ms} (hk : Iv st) (hn : st_now st + 600 < 1073741824) (a9 : Int32) (d9 : Int32) : Iv (T_joinCount st a9 d9).1 := by
  unfold T_joinCount
  exact cif_c (P := fun z : Ms × Int64 => Iv z.1) (fun u0 => Iv_thr hk _) (fun u0 => Iv_thr hk _)
theorem nwT_joinCount {st : Ms} (a9 : Int32) (d9 : Int32) : st_now (T_joinCount st a9 d9).1 ≤ st_now st + 600 := by
  unfold T_joinCount
  exact cif_c (P := fun z : Ms × Int64 => st_now z.1 ≤ st_now st + 600) (fun u0 => Nat.le_add_right _ _) (fun u0 => Nat.le_add_right _ _)
theorem IvT_joinSum {st : Ms} (hk : Iv st) (hn : st_now st + 600 < 1073741824) (a9 : Int32) (d9 : Int32) : Iv (T_joinSum st a9 d9).1 := by
  unfold T_joinSum
  exact cif_c (P := fun z : Ms × Int64 => Iv z.1) (fun u0 => Iv_thr hk _) (fun u0 => Iv_thr hk _)
theorem nwT_joinSum {st : Ms} (a9 : Int32) (d9 : Int32) : st_now (T_joinSum st a9 d9).1 ≤ st_now st + 600 := by
  unfold T_joinSum
  exact cif_c (P := fun z : Ms × Int64 => st_now z.1 ≤ st_now st + 600) (fun u0 => Nat.le_add_right _ _) (fun u0 => Nat.le_add_right _ _)
theorem IvT_firingShare {st : Ms} (hk : Iv st) (hn : st_now st + 600 < 1073741824)  : Iv (T_firingShare st).1 := by
  unfold T_firingShare
  exact cif_c (P := fun z : Ms × UInt32 => Iv z.1) (fun u0 => Iv_thr hk _) (fun u0 => Iv_thr hk _)
theorem nwT_firingShare {st : Ms}  : st_now (T_firingShare st).1 ≤ st_now st + 600 := by
  unfold T_firingShare
  exact cif_c (P := fun z : Ms × UInt32 => st_now z.1 ≤ st_now st + 600) (fun u0 => Nat.le_add_right _ _) (fun u0 => Nat.le_add_right _ _)
theorem d_X6_open {l : Launch} {G : mG} {a0 : Array Value} {s0 : State} (Z : mZ l G a0 s0) (h0 : Hp) (x m : Nat) (q : Nat → Nat) (o o2 : Nat) (f : Nat → Int64) (g : Nat → UInt64) (S st : Ms) (hJ : LJ G h0 x m q o o2 f g S st) (hk : Iv st) (a9 : Int32) (d9 : Int32) : mM l G s0 yX6_open cX6_open 3 (some .int) 1 23 0 0 h0 [.ref m, .int a9, .int d9] (fun v9 h9 => ∃ w : Int32, v9 = some (.int w) ∧ LJ G h9 x m q o o2 f g S (T_open st a9 d9).1 ∧ (st_thr (T_open st a9 d9).1 = nI 0 → w.toInt64 = (T_open st a9 d9).2)) := by
  refine mM.mono (c_X6_open Z h0 m q st hJ.mdl a9 d9 hk.mok) (fun v9 h9 hv => ?_)
  rcases hv with ⟨c0, c1, c2, c3, hv, hW, hF⟩ | ⟨c0, hv, hW, hF⟩ | ⟨c0, c1, c2, hv, hW, hF⟩
  · have e9 := RA_open_0 (st := st) (a := a9) (d := d9) hk.m10 c0 c1 c2 c3
    rw [e9]
    exact ⟨_, hv, hJ.ref hW hF, fun _ => rfl⟩
  · have e9 := RA_open_1 (st := st) (a := a9) (d := d9) hk.m10 c0
    rw [e9]
    exact ⟨_, hv, hJ.ref hW hF, fun z => absurd (show nI 1 = nI 0 from z) (by decide)⟩
  · have e9 := RA_open_2 (st := st) (a := a9) (d := d9) hk.m10 c0 c1 c2
    rw [e9]
    exact ⟨_, hv, hJ.ref hW hF, fun z => absurd (show nI 2 = nI 0 from z) (by decide)⟩
theorem d_X6_pass {l : Launch} {G : mG} {a0 : Array Value} {s0 : State} (Z : mZ l G a0 s0) (h0 : Hp) (x m : Nat) (q : Nat → Nat) (o o2 : Nat) (f : Nat → Int64) (g : Nat → UInt64) (S st : Ms) (hJ : LJ G h0 x m q o o2 f g S st) (hk : Iv st) (x9 : Int32) : mM l G s0 yX6_pass cX6_pass 2 (some .long) 1 22 0 0 h0 [.ref m, .int x9] (fun v9 h9 => ∃ w : Int64, v9 = some (.long w) ∧ LJ G h9 x m q o o2 f g S (T_pass st x9).1 ∧ (st_thr (T_pass st x9).1 = nI 0 → w = (T_pass st x9).2)) := by
  refine mM.mono (c_X6_pass Z h0 m q st hJ.mdl x9 hk.mok) (fun v9 h9 hv => ?_)
  rcases hv with ⟨d, c0, c1, hv, hW, hF⟩ | ⟨c0, hv, hW, hF⟩
  · have e9 := RA_pass_0 (st := st) (x := x9) hk.m10 c0 c1
    rw [e9]
    exact ⟨_, hv, hJ.ref hW hF, fun _ => rfl⟩
  · have e9 := RA_pass_1 (st := st) (x := x9) hk.m10 c0
    rw [e9]
    exact ⟨_, hv, hJ.ref hW hF, fun z => absurd (show nI 1 = nI 0 from z) (by decide)⟩
theorem d_X6_add {l : Launch} {G : mG} {a0 : Array Value} {s0 : State} (Z : mZ l G a0 s0) (h0 : Hp) (x m : Nat) (q : Nat → Nat) (o o2 : Nat) (f : Nat → Int64) (g : Nat → UInt64) (S st : Ms) (hJ : LJ G h0 x m q o o2 f g S st) (hk : Iv st) (x9 : Int32) (w9 : Int32) : mM l G s0 yX6_add cX6_add 4 (some .int) 2 50 0 0 h0 [.ref m, .int x9, .int w9] (fun v9 h9 => ∃ w : Int32, v9 = some (.int w) ∧ LJ G h9 x m q o o2 f g S (T_add st x9 w9).1 ∧ (st_thr (T_add st x9 w9).1 = nI 0 → w.toInt64 = (T_add st x9 w9).2)) := by
  refine mM.mono (c_X6_add Z h0 m q st hJ.mdl x9 w9 hk.mok (fun k9 hk9 hn9 => add_ok0 hk hk9 hn9 w9)) (fun v9 h9 hv => ?_)
  rcases hv with ⟨k, c0, c1, c2, c3, hv, hW, hF⟩ | ⟨k, c0, c1, c2, hv, hW, hF⟩ | ⟨k, c0, c1, c2, c3, hv, hW, hF⟩ | ⟨c0, hv, hW, hF⟩
  · have e9 := RA_add_0 (st := st) (x := x9) (w := w9) hk.m10 c0 c1 c2 c3
    rw [e9]
    exact ⟨_, hv, hJ.ref hW hF, fun _ => rfl⟩
  · have e9 := RA_add_2 (st := st) (x := x9) (w := w9) hk.m10 c0 c1 c2
    rw [e9]
    exact ⟨_, hv, hJ.ref hW hF, fun z => absurd (show nI 2 = nI 0 from z) (by decide)⟩
  · have e9 := RA_add_3 (st := st) (x := x9) (w := w9) hk.m10 c0 c1 c2 c3
    rw [e9]
    exact ⟨_, hv, hJ.ref hW hF, fun z => absurd (show nI 3 = nI 0 from z) (by decide)⟩
  · have e9 := RA_add_1 (st := st) (x := x9) (w := w9) hk.m10 c0
    rw [e9]
    exact ⟨_, hv, hJ.ref hW hF, fun z => absurd (show nI 1 = nI 0 from z) (by decide)⟩
theorem d_X6_find {l : Launch} {G : mG} {a0 : Array Value} {s0 : State} (Z : mZ l G a0 s0) (h0 : Hp) (x m : Nat) (q : Nat → Nat) (o o2 : Nat) (f : Nat → Int64) (g : Nat → UInt64) (S st : Ms) (hJ : LJ G h0 x m q o o2 f g S st) (hk : Iv st) (a9 : Int32) (d9 : Int32) : mM l G s0 yX6_find cX6_find 4 (some .int) 1 23 0 0 h0 [.ref m, .int a9, .int d9] (fun v9 h9 => ∃ w : Int32, v9 = some (.int w) ∧ LJ G h9 x m q o o2 f g S (T_find st a9 d9).1 ∧ (st_thr (T_find st a9 d9).1 = nI 0 → w.toInt64 = (T_find st a9 d9).2)) := by
  refine mM.mono (c_X6_find Z h0 m q st hJ.mdl a9 d9 hk.mok) (fun v9 h9 hv => ?_)
  rcases hv with ⟨k, c0, c1, c2, hv, hW, hF⟩ | ⟨c0, hv, hW, hF⟩
  · have e9 := RA_find_0 (st := st) (a := a9) (d := d9) hk.m10 c0 c1 c2
    rw [e9]
    exact ⟨_, hv, hJ.ref hW hF, fun _ => rfl⟩
  · have e9 := RA_find_1 (st := st) (a := a9) (d := d9) hk.m10 c0
    rw [e9]
    exact ⟨_, hv, hJ.ref hW hF, fun z => absurd (show nI 1 = nI 0 from z) (by decide)⟩
theorem d_X6_nameOf {l : Launch} {G : mG} {a0 : Array Value} {s0 : State} (Z : mZ l G a0 s0) (h0 : Hp) (x m : Nat) (q : Nat → Nat) (o o2 : Nat) (f : Nat → Int64) (g : Nat → UInt64) (S st : Ms) (hJ : LJ G h0 x m q o o2 f g S st) (hk : Iv st) (x9 : Int32) : mM l G s0 yX6_nameOf cX6_nameOf 2 (some .int) 2 43 0 0 h0 [.ref m, .int x9] (fun v9 h9 => ∃ w : Int32, v9 = some (.int w) ∧ LJ G h9 x m q o o2 f g S (T_nameOf st x9).1 ∧ (st_thr (T_nameOf st x9).1 = nI 0 → w.toInt64 = (T_nameOf st x9).2)) := by
  refine mM.mono (c_X6_nameOf Z h0 m q st hJ.mdl x9 hk.mok) (fun v9 h9 hv => ?_)
  rcases hv with ⟨k, c0, c1, hv, hW, hF⟩ | ⟨c0, hv, hW, hF⟩
  · have e9 := RA_nameOf_0 (st := st) (x := x9) hk.m10 c0 c1
    rw [e9]
    exact ⟨_, hv, hJ.ref hW hF, fun _ => rfl⟩
  · have e9 := RA_nameOf_1 (st := st) (x := x9) hk.m10 c0
    rw [e9]
    exact ⟨_, hv, hJ.ref hW hF, fun z => absurd (show nI 1 = nI 0 from z) (by decide)⟩
theorem d_X6_hostOf {l : Launch} {G : mG} {a0 : Array Value} {s0 : State} (Z : mZ l G a0 s0) (h0 : Hp) (x m : Nat) (q : Nat → Nat) (o o2 : Nat) (f : Nat → Int64) (g : Nat → UInt64) (S st : Ms) (hJ : LJ G h0 x m q o o2 f g S st) (hk : Iv st) (x9 : Int32) : mM l G s0 yX6_hostOf cX6_hostOf 2 (some .int) 2 43 0 0 h0 [.ref m, .int x9] (fun v9 h9 => ∃ w : Int32, v9 = some (.int w) ∧ LJ G h9 x m q o o2 f g S (T_hostOf st x9).1 ∧ (st_thr (T_hostOf st x9).1 = nI 0 → w.toInt64 = (T_hostOf st x9).2)) := by
  refine mM.mono (c_X6_hostOf Z h0 m q st hJ.mdl x9 hk.mok) (fun v9 h9 hv => ?_)
  rcases hv with ⟨k, c0, c1, hv, hW, hF⟩ | ⟨c0, hv, hW, hF⟩
  · have e9 := RA_hostOf_0 (st := st) (x := x9) hk.m10 c0 c1
    rw [e9]
    exact ⟨_, hv, hJ.ref hW hF, fun _ => rfl⟩
  · have e9 := RA_hostOf_1 (st := st) (x := x9) hk.m10 c0
    rw [e9]
    exact ⟨_, hv, hJ.ref hW hF, fun z => absurd (show nI 1 = nI 0 from z) (by decide)⟩
theorem d_X6_samples {l : Launch} {G : mG} {a0 : Array Value} {s0 : State} (Z : mZ l G a0 s0) (h0 : Hp) (x m : Nat) (q : Nat → Nat) (o o2 : Nat) (f : Nat → Int64) (g : Nat → UInt64) (S st : Ms) (hJ : LJ G h0 x m q o o2 f g S st) (hk : Iv st) (x9 : Int32) : mM l G s0 yX6_samples cX6_samples 2 (some .int) 2 43 0 0 h0 [.ref m, .int x9] (fun v9 h9 => ∃ w : Int32, v9 = some (.int w) ∧ LJ G h9 x m q o o2 f g S (T_samples st x9).1 ∧ (st_thr (T_samples st x9).1 = nI 0 → w.toInt64 = (T_samples st x9).2)) := by
  refine mM.mono (c_X6_samples Z h0 m q st hJ.mdl x9 hk.mok) (fun v9 h9 hv => ?_)
  rcases hv with ⟨k, c0, c1, hv, hW, hF⟩ | ⟨c0, hv, hW, hF⟩
  · have e9 := RA_samples_0 (st := st) (x := x9) hk.m10 c0 c1
    rw [e9]
    exact ⟨_, hv, hJ.ref hW hF, fun _ => rfl⟩
  · have e9 := RA_samples_1 (st := st) (x := x9) hk.m10 c0
    rw [e9]
    exact ⟨_, hv, hJ.ref hW hF, fun z => absurd (show nI 1 = nI 0 from z) (by decide)⟩
theorem d_X6_latest {l : Launch} {G : mG} {a0 : Array Value} {s0 : State} (Z : mZ l G a0 s0) (h0 : Hp) (x m : Nat) (q : Nat → Nat) (o o2 : Nat) (f : Nat → Int64) (g : Nat → UInt64) (S st : Ms) (hJ : LJ G h0 x m q o o2 f g S st) (hk : Iv st) (x9 : Int32) : mM l G s0 yX6_latest cX6_latest 2 (some .int) 2 43 0 0 h0 [.ref m, .int x9] (fun v9 h9 => ∃ w : Int32, v9 = some (.int w) ∧ LJ G h9 x m q o o2 f g S (T_latest st x9).1 ∧ (st_thr (T_latest st x9).1 = nI 0 → w.toInt64 = (T_latest st x9).2)) := by
  refine mM.mono (c_X6_latest Z h0 m q st hJ.mdl x9 hk.mok) (fun v9 h9 hv => ?_)
  rcases hv with ⟨k, c0, c1, c2, hv, hW, hF⟩ | ⟨k, c0, c1, c2, hv, hW, hF⟩ | ⟨c0, hv, hW, hF⟩
  · have e9 := RA_latest_0 (st := st) (x := x9) hk.m10 c0 c1 c2
    rw [e9]
    exact ⟨_, hv, hJ.ref hW hF, fun _ => rfl⟩
  · have e9 := RA_latest_2 (st := st) (x := x9) hk.m10 c0 c1 c2
    rw [e9]
    exact ⟨_, hv, hJ.ref hW hF, fun z => absurd (show nI 2 = nI 0 from z) (by decide)⟩
  · have e9 := RA_latest_1 (st := st) (x := x9) hk.m10 c0
    rw [e9]
    exact ⟨_, hv, hJ.ref hW hF, fun z => absurd (show nI 1 = nI 0 from z) (by decide)⟩
theorem d_X6_blocks {l : Launch} {G : mG} {a0 : Array Value} {s0 : State} (Z : mZ l G a0 s0) (h0 : Hp) (x m : Nat) (q : Nat → Nat) (o o2 : Nat) (f : Nat → Int64) (g : Nat → UInt64) (S st : Ms) (hJ : LJ G h0 x m q o o2 f g S st) (hk : Iv st) (x9 : Int32) : mM l G s0 yX6_blocks cX6_blocks 2 (some .int) 2 43 0 0 h0 [.ref m, .int x9] (fun v9 h9 => ∃ w : Int32, v9 = some (.int w) ∧ LJ G h9 x m q o o2 f g S (T_blocks st x9).1 ∧ (st_thr (T_blocks st x9).1 = nI 0 → w.toInt64 = (T_blocks st x9).2)) := by
  refine mM.mono (c_X6_blocks Z h0 m q st hJ.mdl x9 hk.mok) (fun v9 h9 hv => ?_)
  rcases hv with ⟨k, c0, c1, hv, hW, hF⟩ | ⟨c0, hv, hW, hF⟩
  · have e9 := RA_blocks_0 (st := st) (x := x9) hk.m10 c0 c1
    rw [e9]
    exact ⟨_, hv, hJ.ref hW hF, fun _ => rfl⟩
  · have e9 := RA_blocks_1 (st := st) (x := x9) hk.m10 c0
    rw [e9]
    exact ⟨_, hv, hJ.ref hW hF, fun z => absurd (show nI 1 = nI 0 from z) (by decide)⟩
theorem d_X6_bitsOf {l : Launch} {G : mG} {a0 : Array Value} {s0 : State} (Z : mZ l G a0 s0) (h0 : Hp) (x m : Nat) (q : Nat → Nat) (o o2 : Nat) (f : Nat → Int64) (g : Nat → UInt64) (S st : Ms) (hJ : LJ G h0 x m q o o2 f g S st) (hk : Iv st) (x9 : Int32) (y9 : Int32) : mM l G s0 yX6_bitsOf cX6_bitsOf 3 (some .int) 2 49 0 0 h0 [.ref m, .int x9, .int y9] (fun v9 h9 => ∃ w : Int32, v9 = some (.int w) ∧ LJ G h9 x m q o o2 f g S (T_bitsOf st x9 y9).1 ∧ (st_thr (T_bitsOf st x9 y9).1 = nI 0 → w.toInt64 = (T_bitsOf st x9 y9).2)) := by
  refine mM.mono (c_X6_bitsOf Z h0 m q st hJ.mdl x9 y9 hk.mok) (fun v9 h9 hv => ?_)
  rcases hv with ⟨k, j, c0, c1, c2, c3, hv, hW, hF⟩ | ⟨k, c0, c1, c2, hv, hW, hF⟩ | ⟨c0, hv, hW, hF⟩
  · have e9 := RA_bitsOf_0 (st := st) (x := x9) (y := y9) hk.m10 c0 c1 (hk.n c0) c2 c3
    rw [e9]
    exact ⟨_, hv, hJ.ref hW hF, fun _ => rfl⟩
  · have e9 := RA_bitsOf_2 (st := st) (x := x9) (y := y9) hk.m10 c0 c1 c2
    rw [e9]
    exact ⟨_, hv, hJ.ref hW hF, fun z => absurd (show nI 2 = nI 0 from z) (by decide)⟩
  · have e9 := RA_bitsOf_1 (st := st) (x := x9) (y := y9) hk.m10 c0
    rw [e9]
    exact ⟨_, hv, hJ.ref hW hF, fun z => absurd (show nI 1 = nI 0 from z) (by decide)⟩
theorem d_X6_timeAt {l : Launch} {G : mG} {a0 : Array Value} {s0 : State} (Z : mZ l G a0 s0) (h0 : Hp) (x m : Nat) (q : Nat → Nat) (o o2 : Nat) (f : Nat → Int64) (g : Nat → UInt64) (S st : Ms) (hJ : LJ G h0 x m q o o2 f g S st) (hk : Iv st) (x9 : Int32) (y9 : Int32) : mM l G s0 yX6_timeAt cX6_timeAt 3 (some .long) 3 65 0 0 h0 [.ref m, .int x9, .int y9] (fun v9 h9 => ∃ w : Int64, v9 = some (.long w) ∧ LJ G h9 x m q o o2 f g S (T_timeAt st x9 y9).1 ∧ (st_thr (T_timeAt st x9 y9).1 = nI 0 → w = (T_timeAt st x9 y9).2)) := by
  refine mM.mono (c_X6_timeAt Z h0 m q st hJ.mdl x9 y9 hk.mok) (fun v9 h9 hv => ?_)
  rcases hv with ⟨k, j, c0, c1, c2, c3, hv, hW, hF⟩ | ⟨k, c0, c1, c2, hv, hW, hF⟩ | ⟨c0, hv, hW, hF⟩
  · have e9 := RA_timeAt_0 (st := st) (x := x9) (y := y9) hk.m10 c0 c1 (hk.n c0) c2 c3
    rw [e9]
    exact ⟨_, hv, hJ.ref hW hF, fun _ => rfl⟩
  · have e9 := RA_timeAt_2 (st := st) (x := x9) (y := y9) hk.m10 c0 c1 c2
    rw [e9]
    exact ⟨_, hv, hJ.ref hW hF, fun z => absurd (show nI 2 = nI 0 from z) (by decide)⟩
  · have e9 := RA_timeAt_1 (st := st) (x := x9) (y := y9) hk.m10 c0
    rw [e9]
    exact ⟨_, hv, hJ.ref hW hF, fun z => absurd (show nI 1 = nI 0 from z) (by decide)⟩
theorem d_X6_valueAt {l : Launch} {G : mG} {a0 : Array Value} {s0 : State} (Z : mZ l G a0 s0) (h0 : Hp) (x m : Nat) (q : Nat → Nat) (o o2 : Nat) (f : Nat → Int64) (g : Nat → UInt64) (S st : Ms) (hJ : LJ G h0 x m q o o2 f g S st) (hk : Iv st) (x9 : Int32) (y9 : Int32) : mM l G s0 yX6_valueAt cX6_valueAt 3 (some .int) 3 65 0 0 h0 [.ref m, .int x9, .int y9] (fun v9 h9 => ∃ w : Int32, v9 = some (.int w) ∧ LJ G h9 x m q o o2 f g S (T_valueAt st x9 y9).1 ∧ (st_thr (T_valueAt st x9 y9).1 = nI 0 → w.toInt64 = (T_valueAt st x9 y9).2)) := by
  refine mM.mono (c_X6_valueAt Z h0 m q st hJ.mdl x9 y9 hk.mok) (fun v9 h9 hv => ?_)
  rcases hv with ⟨k, j, c0, c1, c2, c3, hv, hW, hF⟩ | ⟨k, c0, c1, c2, hv, hW, hF⟩ | ⟨c0, hv, hW, hF⟩
  · have e9 := RA_valueAt_0 (st := st) (x := x9) (y := y9) hk.m10 c0 c1 (hk.n c0) c2 c3
    rw [e9]
    exact ⟨_, hv, hJ.ref hW hF, fun _ => rfl⟩
  · have e9 := RA_valueAt_2 (st := st) (x := x9) (y := y9) hk.m10 c0 c1 c2
    rw [e9]
    exact ⟨_, hv, hJ.ref hW hF, fun z => absurd (show nI 2 = nI 0 from z) (by decide)⟩
  · have e9 := RA_valueAt_1 (st := st) (x := x9) (y := y9) hk.m10 c0
    rw [e9]
    exact ⟨_, hv, hJ.ref hW hF, fun z => absurd (show nI 1 = nI 0 from z) (by decide)⟩
theorem d_X6_count {l : Launch} {G : mG} {a0 : Array Value} {s0 : State} (Z : mZ l G a0 s0) (h0 : Hp) (x m : Nat) (q : Nat → Nat) (o o2 : Nat) (f : Nat → Int64) (g : Nat → UInt64) (S st : Ms) (hJ : LJ G h0 x m q o o2 f g S st) (hk : Iv st) (x9 : Int32) (a9 : Int64) (d9 : Int64) : mM l G s0 yX6_count cX6_count 6 (some .int) 3 75 0 0 h0 [.ref m, .int x9, .long a9, .long d9] (fun v9 h9 => ∃ w : Int32, v9 = some (.int w) ∧ LJ G h9 x m q o o2 f g S (T_count st x9 a9 d9).1 ∧ (st_thr (T_count st x9 a9 d9).1 = nI 0 → w.toInt64 = (T_count st x9 a9 d9).2)) := by
  refine mM.mono (c_X6_count Z h0 m q st hJ.mdl x9 a9 d9 hk.mok) (fun v9 h9 hv => ?_)
  rcases hv with ⟨k, c0, c1, c2, hv, hW, hF⟩ | ⟨k, c0, c1, c2, hv, hW, hF⟩ | ⟨c0, hv, hW, hF⟩
  · have e9 := RA_count_0 (st := st) (x := x9) (a := a9) (d := d9) hk.m10 c0 c1 c2
    rw [e9]
    exact ⟨_, hv, hJ.ref hW hF, fun _ => rfl⟩
  · have e9 := RA_count_2 (st := st) (x := x9) (a := a9) (d := d9) hk.m10 c0 c1 c2
    rw [e9]
    exact ⟨_, hv, hJ.ref hW hF, fun z => absurd (show nI 2 = nI 0 from z) (by decide)⟩
  · have e9 := RA_count_1 (st := st) (x := x9) (a := a9) (d := d9) hk.m10 c0
    rw [e9]
    exact ⟨_, hv, hJ.ref hW hF, fun z => absurd (show nI 1 = nI 0 from z) (by decide)⟩
theorem d_X6_sum {l : Launch} {G : mG} {a0 : Array Value} {s0 : State} (Z : mZ l G a0 s0) (h0 : Hp) (x m : Nat) (q : Nat → Nat) (o o2 : Nat) (f : Nat → Int64) (g : Nat → UInt64) (S st : Ms) (hJ : LJ G h0 x m q o o2 f g S st) (hk : Iv st) (x9 : Int32) (a9 : Int64) (d9 : Int64) : mM l G s0 yX6_sum cX6_sum 6 (some .long) 3 76 0 0 h0 [.ref m, .int x9, .long a9, .long d9] (fun v9 h9 => ∃ w : Int64, v9 = some (.long w) ∧ LJ G h9 x m q o o2 f g S (T_sum st x9 a9 d9).1 ∧ (st_thr (T_sum st x9 a9 d9).1 = nI 0 → w = (T_sum st x9 a9 d9).2)) := by
  refine mM.mono (c_X6_sum Z h0 m q st hJ.mdl x9 a9 d9 hk.mok) (fun v9 h9 hv => ?_)
  rcases hv with ⟨k, c0, c1, c2, hv, hW, hF⟩ | ⟨k, c0, c1, c2, hv, hW, hF⟩ | ⟨c0, hv, hW, hF⟩
  · have e9 := RA_sum_0 (st := st) (x := x9) (a := a9) (d := d9) hk.m10 c0 c1 c2
    rw [e9]
    exact ⟨_, hv, hJ.ref hW hF, fun _ => rfl⟩
  · have e9 := RA_sum_2 (st := st) (x := x9) (a := a9) (d := d9) hk.m10 c0 c1 c2
    rw [e9]
    exact ⟨_, hv, hJ.ref hW hF, fun z => absurd (show nI 2 = nI 0 from z) (by decide)⟩
  · have e9 := RA_sum_1 (st := st) (x := x9) (a := a9) (d := d9) hk.m10 c0
    rw [e9]
    exact ⟨_, hv, hJ.ref hW hF, fun z => absurd (show nI 1 = nI 0 from z) (by decide)⟩
theorem d_X6_sumByReading {l : Launch} {G : mG} {a0 : Array Value} {s0 : State} (Z : mZ l G a0 s0) (h0 : Hp) (x m : Nat) (q : Nat → Nat) (o o2 : Nat) (f : Nat → Int64) (g : Nat → UInt64) (S st : Ms) (hJ : LJ G h0 x m q o o2 f g S st) (hk : Iv st) (x9 : Int32) (a9 : Int64) (d9 : Int64) : mM l G s0 yX6_sumByReading cX6_sumByReading 6 (some .long) 4 101 0 0 h0 [.ref m, .int x9, .long a9, .long d9] (fun v9 h9 => ∃ w : Int64, v9 = some (.long w) ∧ LJ G h9 x m q o o2 f g S (T_sumByReading st x9 a9 d9).1 ∧ (st_thr (T_sumByReading st x9 a9 d9).1 = nI 0 → w = (T_sumByReading st x9 a9 d9).2)) := by
  refine mM.mono (c_X6_sumByReading Z h0 m q st hJ.mdl x9 a9 d9 hk.mok) (fun v9 h9 hv => ?_)
  rcases hv with ⟨k, c0, c1, c2, hv, hW, hF⟩ | ⟨k, c0, c1, c2, hv, hW, hF⟩ | ⟨c0, hv, hW, hF⟩
  · have e9 := RA_sumByReading_0 (st := st) (x := x9) (a := a9) (d := d9) hk.m10 c0 c1 c2
    rw [e9]
    exact ⟨_, hv, hJ.ref hW hF, fun _ => rfl⟩
  · have e9 := RA_sumByReading_2 (st := st) (x := x9) (a := a9) (d := d9) hk.m10 c0 c1 c2
    rw [e9]
    exact ⟨_, hv, hJ.ref hW hF, fun z => absurd (show nI 2 = nI 0 from z) (by decide)⟩
  · have e9 := RA_sumByReading_1 (st := st) (x := x9) (a := a9) (d := d9) hk.m10 c0
    rw [e9]
    exact ⟨_, hv, hJ.ref hW hF, fun z => absurd (show nI 1 = nI 0 from z) (by decide)⟩
theorem d_X6_maximum {l : Launch} {G : mG} {a0 : Array Value} {s0 : State} (Z : mZ l G a0 s0) (h0 : Hp) (x m : Nat) (q : Nat → Nat) (o o2 : Nat) (f : Nat → Int64) (g : Nat → UInt64) (S st : Ms) (hJ : LJ G h0 x m q o o2 f g S st) (hk : Iv st) (x9 : Int32) (a9 : Int64) (d9 : Int64) : mM l G s0 yX6_maximum cX6_maximum 8 (some .int) 3 68 0 0 h0 [.ref m, .int x9, .long a9, .long d9] (fun v9 h9 => ∃ w : Int32, v9 = some (.int w) ∧ LJ G h9 x m q o o2 f g S (T_maximum st x9 a9 d9).1 ∧ (st_thr (T_maximum st x9 a9 d9).1 = nI 0 → w.toInt64 = (T_maximum st x9 a9 d9).2)) := by
  refine mM.mono (c_X6_maximum Z h0 m q st hJ.mdl x9 a9 d9 hk.mok) (fun v9 h9 hv => ?_)
  rcases hv with ⟨k, c0, c1, c2, c3, hv, hW, hF⟩ | ⟨k, c0, c1, c2, c3, hv, hW, hF⟩ | ⟨k, c0, c1, c2, hv, hW, hF⟩ | ⟨c0, hv, hW, hF⟩
  · have e9 := RA_maximum_0 (st := st) (x := x9) (a := a9) (d := d9) hk.m10 c0 c1 c2 c3
    rw [e9]
    exact ⟨_, hv, hJ.ref hW hF, fun _ => rfl⟩
  · have e9 := RA_maximum_3 (st := st) (x := x9) (a := a9) (d := d9) hk.m10 c0 c1 c2 c3
    rw [e9]
    exact ⟨_, hv, hJ.ref hW hF, fun z => absurd (show nI 3 = nI 0 from z) (by decide)⟩
  · have e9 := RA_maximum_2 (st := st) (x := x9) (a := a9) (d := d9) hk.m10 c0 c1 c2
    rw [e9]
    exact ⟨_, hv, hJ.ref hW hF, fun z => absurd (show nI 2 = nI 0 from z) (by decide)⟩
  · have e9 := RA_maximum_1 (st := st) (x := x9) (a := a9) (d := d9) hk.m10 c0
    rw [e9]
    exact ⟨_, hv, hJ.ref hW hF, fun z => absurd (show nI 1 = nI 0 from z) (by decide)⟩
theorem d_X6_mean {l : Launch} {G : mG} {a0 : Array Value} {s0 : State} (Z : mZ l G a0 s0) (h0 : Hp) (x m : Nat) (q : Nat → Nat) (o o2 : Nat) (f : Nat → Int64) (g : Nat → UInt64) (S st : Ms) (hJ : LJ G h0 x m q o o2 f g S st) (hk : Iv st) (x9 : Int32) (a9 : Int64) (d9 : Int64) : mM l G s0 yX6_mean cX6_mean 7 (some .double) 3 76 0 0 h0 [.ref m, .int x9, .long a9, .long d9] (fun v9 h9 => ∃ w : UInt64, v9 = some (.double w) ∧ LJ G h9 x m q o o2 f g S (T_mean st x9 a9 d9).1 ∧ (st_thr (T_mean st x9 a9 d9).1 = nI 0 → w = (T_mean st x9 a9 d9).2)) := by
  refine mM.mono (c_X6_mean Z h0 m q st hJ.mdl x9 a9 d9 hk.mok) (fun v9 h9 hv => ?_)
  rcases hv with ⟨k, c0, c1, c2, c3, hv, hW, hF⟩ | ⟨k, c0, c1, c2, c3, hv, hW, hF⟩ | ⟨k, c0, c1, c2, hv, hW, hF⟩ | ⟨c0, hv, hW, hF⟩
  · have e9 := RA_mean_0 (st := st) (x := x9) (a := a9) (d := d9) hk.m10 c0 c1 c2 c3
    rw [e9]
    exact ⟨_, hv, hJ.ref hW hF, fun _ => rfl⟩
  · have e9 := RA_mean_3 (st := st) (x := x9) (a := a9) (d := d9) hk.m10 c0 c1 c2 c3
    rw [e9]
    exact ⟨_, hv, hJ.ref hW hF, fun z => absurd (show nI 3 = nI 0 from z) (by decide)⟩
  · have e9 := RA_mean_2 (st := st) (x := x9) (a := a9) (d := d9) hk.m10 c0 c1 c2
    rw [e9]
    exact ⟨_, hv, hJ.ref hW hF, fun z => absurd (show nI 2 = nI 0 from z) (by decide)⟩
  · have e9 := RA_mean_1 (st := st) (x := x9) (a := a9) (d := d9) hk.m10 c0
    rw [e9]
    exact ⟨_, hv, hJ.ref hW hF, fun z => absurd (show nI 1 = nI 0 from z) (by decide)⟩
theorem d_X6_rollupCount {l : Launch} {G : mG} {a0 : Array Value} {s0 : State} (Z : mZ l G a0 s0) (h0 : Hp) (x m : Nat) (q : Nat → Nat) (o o2 : Nat) (f : Nat → Int64) (g : Nat → UInt64) (S st : Ms) (hJ : LJ G h0 x m q o o2 f g S st) (hk : Iv st) (x9 : Int32) (y9 : Int32) : mM l G s0 yX6_rollupCount cX6_rollupCount 5 (some .int) 2 44 0 0 h0 [.ref m, .int x9, .int y9] (fun v9 h9 => ∃ w : Int32, v9 = some (.int w) ∧ LJ G h9 x m q o o2 f g S (T_rollupCount st x9 y9).1 ∧ (st_thr (T_rollupCount st x9 y9).1 = nI 0 → w.toInt64 = (T_rollupCount st x9 y9).2)) := by
  refine mM.mono (c_X6_rollupCount Z h0 m q st hJ.mdl x9 y9 hk.mok) (fun v9 h9 hv => ?_)
  rcases hv with ⟨k, c0, c1, c2, hv, hW, hF⟩ | ⟨k, c0, c1, c2, hv, hW, hF⟩ | ⟨c0, hv, hW, hF⟩
  · have e9 := RA_rollupCount_0 (st := st) (x := x9) (y := y9) hk.m10 c0 c1 c2
    rw [e9]
    exact ⟨_, hv, hJ.ref hW hF, fun _ => rfl⟩
  · have e9 := RA_rollupCount_2 (st := st) (x := x9) (y := y9) hk.m10 c0 c1 c2
    rw [e9]
    exact ⟨_, hv, hJ.ref hW hF, fun z => absurd (show nI 2 = nI 0 from z) (by decide)⟩
  · have e9 := RA_rollupCount_1 (st := st) (x := x9) (y := y9) hk.m10 c0
    rw [e9]
    exact ⟨_, hv, hJ.ref hW hF, fun z => absurd (show nI 1 = nI 0 from z) (by decide)⟩
theorem d_X6_countLow {l : Launch} {G : mG} {a0 : Array Value} {s0 : State} (Z : mZ l G a0 s0) (h0 : Hp) (x m : Nat) (q : Nat → Nat) (o o2 : Nat) (f : Nat → Int64) (g : Nat → UInt64) (S st : Ms) (hJ : LJ G h0 x m q o o2 f g S st) (hk : Iv st) (x9 : Int32) (a9 : Int64) (d9 : Int64) : mM l G s0 yX6_countLow cX6_countLow 8 (some .int) 3 68 0 0 h0 [.ref m, .int x9, .long a9, .long d9] (fun v9 h9 => ∃ w : Int32, v9 = some (.int w) ∧ LJ G h9 x m q o o2 f g S (T_countLow st x9 a9 d9).1 ∧ (st_thr (T_countLow st x9 a9 d9).1 = nI 0 → w.toInt64 = (T_countLow st x9 a9 d9).2)) := by
  refine mM.mono (c_X6_countLow Z h0 m q st hJ.mdl x9 a9 d9 hk.mok) (fun v9 h9 hv => ?_)
  rcases hv with ⟨k, c0, c1, c2, hv, hW, hF⟩ | ⟨k, c0, c1, c2, hv, hW, hF⟩ | ⟨c0, hv, hW, hF⟩
  · have e9 := RA_countLow_0 (st := st) (x := x9) (a := a9) (d := d9) hk.m10 c0 c1 c2
    rw [e9]
    exact ⟨_, hv, hJ.ref hW hF, fun _ => rfl⟩
  · have e9 := RA_countLow_2 (st := st) (x := x9) (a := a9) (d := d9) hk.m10 c0 c1 c2
    rw [e9]
    exact ⟨_, hv, hJ.ref hW hF, fun z => absurd (show nI 2 = nI 0 from z) (by decide)⟩
  · have e9 := RA_countLow_1 (st := st) (x := x9) (a := a9) (d := d9) hk.m10 c0
    rw [e9]
    exact ⟨_, hv, hJ.ref hW hF, fun z => absurd (show nI 1 = nI 0 from z) (by decide)⟩
theorem d_X6_countHigh {l : Launch} {G : mG} {a0 : Array Value} {s0 : State} (Z : mZ l G a0 s0) (h0 : Hp) (x m : Nat) (q : Nat → Nat) (o o2 : Nat) (f : Nat → Int64) (g : Nat → UInt64) (S st : Ms) (hJ : LJ G h0 x m q o o2 f g S st) (hk : Iv st) (x9 : Int32) (a9 : Int64) (d9 : Int64) : mM l G s0 yX6_countHigh cX6_countHigh 8 (some .int) 3 70 0 0 h0 [.ref m, .int x9, .long a9, .long d9] (fun v9 h9 => ∃ w : Int32, v9 = some (.int w) ∧ LJ G h9 x m q o o2 f g S (T_countHigh st x9 a9 d9).1 ∧ (st_thr (T_countHigh st x9 a9 d9).1 = nI 0 → w.toInt64 = (T_countHigh st x9 a9 d9).2)) := by
  refine mM.mono (c_X6_countHigh Z h0 m q st hJ.mdl x9 a9 d9 hk.mok) (fun v9 h9 hv => ?_)
  rcases hv with ⟨k, c0, c1, c2, hv, hW, hF⟩ | ⟨k, c0, c1, c2, hv, hW, hF⟩ | ⟨c0, hv, hW, hF⟩
  · have e9 := RA_countHigh_0 (st := st) (x := x9) (a := a9) (d := d9) hk.m10 c0 c1 c2
    rw [e9]
    exact ⟨_, hv, hJ.ref hW hF, fun _ => rfl⟩
  · have e9 := RA_countHigh_2 (st := st) (x := x9) (a := a9) (d := d9) hk.m10 c0 c1 c2
    rw [e9]
    exact ⟨_, hv, hJ.ref hW hF, fun z => absurd (show nI 2 = nI 0 from z) (by decide)⟩
  · have e9 := RA_countHigh_1 (st := st) (x := x9) (a := a9) (d := d9) hk.m10 c0
    rw [e9]
    exact ⟨_, hv, hJ.ref hW hF, fun z => absurd (show nI 1 = nI 0 from z) (by decide)⟩
theorem d_X6_maximumHigh {l : Launch} {G : mG} {a0 : Array Value} {s0 : State} (Z : mZ l G a0 s0) (h0 : Hp) (x m : Nat) (q : Nat → Nat) (o o2 : Nat) (f : Nat → Int64) (g : Nat → UInt64) (S st : Ms) (hJ : LJ G h0 x m q o o2 f g S st) (hk : Iv st) (x9 : Int32) (a9 : Int64) (d9 : Int64) : mM l G s0 yX6_maximumHigh cX6_maximumHigh 8 (some .int) 3 70 0 0 h0 [.ref m, .int x9, .long a9, .long d9] (fun v9 h9 => ∃ w : Int32, v9 = some (.int w) ∧ LJ G h9 x m q o o2 f g S (T_maximumHigh st x9 a9 d9).1 ∧ (st_thr (T_maximumHigh st x9 a9 d9).1 = nI 0 → w.toInt64 = (T_maximumHigh st x9 a9 d9).2)) := by
  refine mM.mono (c_X6_maximumHigh Z h0 m q st hJ.mdl x9 a9 d9 hk.mok) (fun v9 h9 hv => ?_)
  rcases hv with ⟨k, c0, c1, c2, c3, hv, hW, hF⟩ | ⟨k, c0, c1, c2, c3, hv, hW, hF⟩ | ⟨k, c0, c1, c2, hv, hW, hF⟩ | ⟨c0, hv, hW, hF⟩
  · have e9 := RA_maximumHigh_0 (st := st) (x := x9) (a := a9) (d := d9) hk.m10 c0 c1 c2 c3
    rw [e9]
    exact ⟨_, hv, hJ.ref hW hF, fun _ => rfl⟩
  · have e9 := RA_maximumHigh_3 (st := st) (x := x9) (a := a9) (d := d9) hk.m10 c0 c1 c2 c3
    rw [e9]
    exact ⟨_, hv, hJ.ref hW hF, fun z => absurd (show nI 3 = nI 0 from z) (by decide)⟩
  · have e9 := RA_maximumHigh_2 (st := st) (x := x9) (a := a9) (d := d9) hk.m10 c0 c1 c2
    rw [e9]
    exact ⟨_, hv, hJ.ref hW hF, fun z => absurd (show nI 2 = nI 0 from z) (by decide)⟩
  · have e9 := RA_maximumHigh_1 (st := st) (x := x9) (a := a9) (d := d9) hk.m10 c0
    rw [e9]
    exact ⟨_, hv, hJ.ref hW hF, fun z => absurd (show nI 1 = nI 0 from z) (by decide)⟩
theorem d_X6_quantile {l : Launch} {G : mG} {a0 : Array Value} {s0 : State} (Z : mZ l G a0 s0) (h0 : Hp) (x m : Nat) (q : Nat → Nat) (o o2 : Nat) (f : Nat → Int64) (g : Nat → UInt64) (S st : Ms) (hJ : LJ G h0 x m q o o2 f g S st) (hk : Iv st) (x9 : Int32) (y9 : Int32) : mM l G s0 yX6_quantile cX6_quantile 3 (some .int) 3 65 0 0 h0 [.ref m, .int x9, .int y9] (fun v9 h9 => ∃ w : Int32, v9 = some (.int w) ∧ LJ G h9 x m q o o2 f g S (T_quantile st x9 y9).1 ∧ (st_thr (T_quantile st x9 y9).1 = nI 0 → w.toInt64 = (T_quantile st x9 y9).2)) := by
  refine mM.mono (c_X6_quantile Z h0 m q st hJ.mdl x9 y9 hk.mok) (fun v9 h9 hv => ?_)
  rcases hv with ⟨k, d, c0, c1, c2, c3, c4, hv, hW, hF⟩ | ⟨k, c0, c1, c2, hv, hW, hF⟩ | ⟨k, c0, c1, c2, c3, hv, hW, hF⟩ | ⟨c0, hv, hW, hF⟩
  · have e9 := RA_quantile_0 (st := st) (x := x9) (y := y9) hk.m10 c0 c1 c2 c3 c4
    rw [e9]
    exact ⟨_, hv, hJ.ref hW hF, fun _ => rfl⟩
  · have e9 := RA_quantile_2 (st := st) (x := x9) (y := y9) hk.m10 c0 c1 c2
    rw [e9]
    exact ⟨_, hv, hJ.ref hW hF, fun z => absurd (show nI 2 = nI 0 from z) (by decide)⟩
  · have e9 := RA_quantile_3 (st := st) (x := x9) (y := y9) hk.m10 c0 c1 c2 c3
    rw [e9]
    exact ⟨_, hv, hJ.ref hW hF, fun z => absurd (show nI 3 = nI 0 from z) (by decide)⟩
  · have e9 := RA_quantile_1 (st := st) (x := x9) (y := y9) hk.m10 c0
    rw [e9]
    exact ⟨_, hv, hJ.ref hW hF, fun z => absurd (show nI 1 = nI 0 from z) (by decide)⟩
theorem d_X6_exactQuantile {l : Launch} {G : mG} {a0 : Array Value} {s0 : State} (Z : mZ l G a0 s0) (h0 : Hp) (x m : Nat) (q : Nat → Nat) (o o2 : Nat) (f : Nat → Int64) (g : Nat → UInt64) (S st : Ms) (hJ : LJ G h0 x m q o o2 f g S st) (hk : Iv st) (x9 : Int32) (y9 : Int32) : mM l G s0 yX6_exactQuantile cX6_exactQuantile 6 (some .int) 3 65 0 0 h0 [.ref m, .int x9, .int y9] (fun v9 h9 => ∃ w : Int32, v9 = some (.int w) ∧ LJ G h9 x m q o o2 f g S (T_exactQuantile st x9 y9).1 ∧ (st_thr (T_exactQuantile st x9 y9).1 = nI 0 → w.toInt64 = (T_exactQuantile st x9 y9).2)) := by
  refine mM.mono (c_X6_exactQuantile Z h0 m q st hJ.mdl x9 y9 hk.mok) (fun v9 h9 hv => ?_)
  rcases hv with ⟨k, d, c0, c1, c2, c3, c4, hv, hW, hF⟩ | ⟨k, c0, c1, c2, hv, hW, hF⟩ | ⟨k, c0, c1, c2, c3, hv, hW, hF⟩ | ⟨c0, hv, hW, hF⟩
  · have e9 := RA_exactQuantile_0 (st := st) (x := x9) (y := y9) hk.m10 c0 c1 c2 c3 c4
    rw [e9]
    exact ⟨_, hv, hJ.ref hW hF, fun _ => rfl⟩
  · have e9 := RA_exactQuantile_2 (st := st) (x := x9) (y := y9) hk.m10 c0 c1 c2
    rw [e9]
    exact ⟨_, hv, hJ.ref hW hF, fun z => absurd (show nI 2 = nI 0 from z) (by decide)⟩
  · have e9 := RA_exactQuantile_3 (st := st) (x := x9) (y := y9) hk.m10 c0 c1 c2 c3
    rw [e9]
    exact ⟨_, hv, hJ.ref hW hF, fun z => absurd (show nI 3 = nI 0 from z) (by decide)⟩
  · have e9 := RA_exactQuantile_1 (st := st) (x := x9) (y := y9) hk.m10 c0
    rw [e9]
    exact ⟨_, hv, hJ.ref hW hF, fun z => absurd (show nI 1 = nI 0 from z) (by decide)⟩
theorem d_X6_bound {l : Launch} {G : mG} {a0 : Array Value} {s0 : State} (Z : mZ l G a0 s0) (h0 : Hp) (x m : Nat) (q : Nat → Nat) (o o2 : Nat) (f : Nat → Int64) (g : Nat → UInt64) (S st : Ms) (hJ : LJ G h0 x m q o o2 f g S st) (hk : Iv st) (x9 : Int32) : mM l G s0 yX6_bound cX6_bound 2 (some .int) 2 43 0 0 h0 [.ref m, .int x9] (fun v9 h9 => ∃ w : Int32, v9 = some (.int w) ∧ LJ G h9 x m q o o2 f g S (T_bound st x9).1 ∧ (st_thr (T_bound st x9).1 = nI 0 → w.toInt64 = (T_bound st x9).2)) := by
  refine mM.mono (c_X6_bound Z h0 m q st hJ.mdl x9 hk.mok) (fun v9 h9 hv => ?_)
  rcases hv with ⟨k, c0, c1, hv, hW, hF⟩ | ⟨c0, hv, hW, hF⟩
  · have e9 := RA_bound_0 (st := st) (x := x9) hk.m10 c0 c1
    rw [e9]
    exact ⟨_, hv, hJ.ref hW hF, fun _ => rfl⟩
  · have e9 := RA_bound_1 (st := st) (x := x9) hk.m10 c0
    rw [e9]
    exact ⟨_, hv, hJ.ref hW hF, fun z => absurd (show nI 1 = nI 0 from z) (by decide)⟩
theorem d_X6_held {l : Launch} {G : mG} {a0 : Array Value} {s0 : State} (Z : mZ l G a0 s0) (h0 : Hp) (x m : Nat) (q : Nat → Nat) (o o2 : Nat) (f : Nat → Int64) (g : Nat → UInt64) (S st : Ms) (hJ : LJ G h0 x m q o o2 f g S st) (hk : Iv st) (x9 : Int32) : mM l G s0 yX6_held cX6_held 4 (some .int) 2 43 0 0 h0 [.ref m, .int x9] (fun v9 h9 => ∃ w : Int32, v9 = some (.int w) ∧ LJ G h9 x m q o o2 f g S (T_held st x9).1 ∧ (st_thr (T_held st x9).1 = nI 0 → w.toInt64 = (T_held st x9).2)) := by
  refine mM.mono (c_X6_held Z h0 m q st hJ.mdl x9 hk.mok) (fun v9 h9 hv => ?_)
  rcases hv with ⟨k, c0, c1, hv, hW, hF⟩ | ⟨c0, hv, hW, hF⟩
  · have e9 := RA_held_0 (st := st) (x := x9) hk.m10 c0 c1
    rw [e9]
    exact ⟨_, hv, hJ.ref hW hF, fun _ => rfl⟩
  · have e9 := RA_held_1 (st := st) (x := x9) hk.m10 c0
    rw [e9]
    exact ⟨_, hv, hJ.ref hW hF, fun z => absurd (show nI 1 = nI 0 from z) (by decide)⟩
theorem d_X6_isWithin {l : Launch} {G : mG} {a0 : Array Value} {s0 : State} (Z : mZ l G a0 s0) (h0 : Hp) (x m : Nat) (q : Nat → Nat) (o o2 : Nat) (f : Nat → Int64) (g : Nat → UInt64) (S st : Ms) (hJ : LJ G h0 x m q o o2 f g S st) (hk : Iv st) (x9 : Int32) (y9 : Int32) : mM l G s0 yX6_isWithin cX6_isWithin 5 (some .boolean) 3 65 0 0 h0 [.ref m, .int x9, .int y9] (fun v9 h9 => ∃ w : Int32, v9 = some (.int w) ∧ LJ G h9 x m q o o2 f g S (T_isWithin st x9 y9).1 ∧ (st_thr (T_isWithin st x9 y9).1 = nI 0 → w.toInt64 = (T_isWithin st x9 y9).2) ∧ (w = nI 0 ∨ w = nI 1)) := by
  refine mM.mono (c_X6_isWithin Z h0 m q st hJ.mdl x9 y9 hk.mok) (fun v9 h9 hv => ?_)
  rcases hv with ⟨k, d, c0, c1, c2, c3, c4, hv, hW, hF⟩ | ⟨k, c0, c1, c2, hv, hW, hF⟩ | ⟨k, c0, c1, c2, c3, hv, hW, hF⟩ | ⟨c0, hv, hW, hF⟩
  · have e9 := RA_isWithin_0 (st := st) (x := x9) (y := y9) hk.m10 c0 c1 c2 c3 c4
    rw [e9]
    exact ⟨_, hv, hJ.ref hW hF, fun _ => rfl, (by unfold b2; split <;> simp)⟩
  · have e9 := RA_isWithin_2 (st := st) (x := x9) (y := y9) hk.m10 c0 c1 c2
    rw [e9]
    exact ⟨_, hv, hJ.ref hW hF, fun z => absurd (show nI 2 = nI 0 from z) (by decide), Or.inl rfl⟩
  · have e9 := RA_isWithin_3 (st := st) (x := x9) (y := y9) hk.m10 c0 c1 c2 c3
    rw [e9]
    exact ⟨_, hv, hJ.ref hW hF, fun z => absurd (show nI 3 = nI 0 from z) (by decide), Or.inl rfl⟩
  · have e9 := RA_isWithin_1 (st := st) (x := x9) (y := y9) hk.m10 c0
    rw [e9]
    exact ⟨_, hv, hJ.ref hW hF, fun z => absurd (show nI 1 = nI 0 from z) (by decide), Or.inl rfl⟩
theorem d_X6_setAlert {l : Launch} {G : mG} {a0 : Array Value} {s0 : State} (Z : mZ l G a0 s0) (h0 : Hp) (x m : Nat) (q : Nat → Nat) (o o2 : Nat) (f : Nat → Int64) (g : Nat → UInt64) (S st : Ms) (hJ : LJ G h0 x m q o o2 f g S st) (hk : Iv st) (x9 : Int32) (a9 : Int32) (d9 : Int32) : mM l G s0 yX6_setAlert cX6_setAlert 4 (some .char) 2 43 0 0 h0 [.ref m, .int x9, .int a9, .int d9] (fun v9 h9 => ∃ w : Int32, v9 = some (.int w) ∧ LJ G h9 x m q o o2 f g S (T_setAlert st x9 a9 d9).1 ∧ (st_thr (T_setAlert st x9 a9 d9).1 = nI 0 → w.toInt64 = (T_setAlert st x9 a9 d9).2)) := by
  refine mM.mono (c_X6_setAlert Z h0 m q st hJ.mdl x9 a9 d9 hk.mok) (fun v9 h9 hv => ?_)
  rcases hv with ⟨k, c0, c1, c2, c3, hv, hW, hF⟩ | ⟨k, c0, c1, c2, hv, hW, hF⟩ | ⟨c0, hv, hW, hF⟩
  · have e9 := RA_setAlert_0 (st := st) (x := x9) (a := a9) (d := d9) hk.m10 c0 c1 c2 c3
    rw [e9]
    exact ⟨_, hv, hJ.ref hW hF, fun _ => rfl⟩
  · have e9 := RA_setAlert_2 (st := st) (x := x9) (a := a9) (d := d9) hk.m10 c0 c1 c2
    rw [e9]
    exact ⟨_, hv, hJ.ref hW hF, fun z => absurd (show nI 2 = nI 0 from z) (by decide)⟩
  · have e9 := RA_setAlert_1 (st := st) (x := x9) (a := a9) (d := d9) hk.m10 c0
    rw [e9]
    exact ⟨_, hv, hJ.ref hW hF, fun z => absurd (show nI 1 = nI 0 from z) (by decide)⟩
theorem d_X6_removeAlert {l : Launch} {G : mG} {a0 : Array Value} {s0 : State} (Z : mZ l G a0 s0) (h0 : Hp) (x m : Nat) (q : Nat → Nat) (o o2 : Nat) (f : Nat → Int64) (g : Nat → UInt64) (S st : Ms) (hJ : LJ G h0 x m q o o2 f g S st) (hk : Iv st) (x9 : Int32) : mM l G s0 yX6_removeAlert cX6_removeAlert 3 (some .char) 3 64 0 0 h0 [.ref m, .int x9] (fun v9 h9 => ∃ w : Int32, v9 = some (.int w) ∧ LJ G h9 x m q o o2 f g S (T_removeAlert st x9).1 ∧ (st_thr (T_removeAlert st x9).1 = nI 0 → w.toInt64 = (T_removeAlert st x9).2)) := by
  refine mM.mono (c_X6_removeAlert Z h0 m q st hJ.mdl x9 hk.mok) (fun v9 h9 hv => ?_)
  rcases hv with ⟨k, c0, c1, c2, hv, hW, hF⟩ | ⟨k, c0, c1, c2, hv, hW, hF⟩ | ⟨c0, hv, hW, hF⟩
  · have e9 := RA_removeAlert_0 (st := st) (x := x9) hk.m10 c0 c1 c2
    rw [e9]
    exact ⟨_, hv, hJ.ref hW hF, fun _ => rfl⟩
  · have e9 := RA_removeAlert_2 (st := st) (x := x9) hk.m10 c0 c1 c2
    rw [e9]
    exact ⟨_, hv, hJ.ref hW hF, fun z => absurd (show nI 2 = nI 0 from z) (by decide)⟩
  · have e9 := RA_removeAlert_1 (st := st) (x := x9) hk.m10 c0
    rw [e9]
    exact ⟨_, hv, hJ.ref hW hF, fun z => absurd (show nI 1 = nI 0 from z) (by decide)⟩
theorem d_X6_alertOf {l : Launch} {G : mG} {a0 : Array Value} {s0 : State} (Z : mZ l G a0 s0) (h0 : Hp) (x m : Nat) (q : Nat → Nat) (o o2 : Nat) (f : Nat → Int64) (g : Nat → UInt64) (S st : Ms) (hJ : LJ G h0 x m q o o2 f g S st) (hk : Iv st) (x9 : Int32) : mM l G s0 yX6_alertOf cX6_alertOf 2 (some .char) 3 64 0 0 h0 [.ref m, .int x9] (fun v9 h9 => ∃ w : Int32, v9 = some (.int w) ∧ LJ G h9 x m q o o2 f g S (T_alertOf st x9).1 ∧ (st_thr (T_alertOf st x9).1 = nI 0 → w.toInt64 = (T_alertOf st x9).2)) := by
  refine mM.mono (c_X6_alertOf Z h0 m q st hJ.mdl x9 hk.mok) (fun v9 h9 hv => ?_)
  rcases hv with ⟨k, c0, c1, c2, hv, hW, hF⟩ | ⟨k, c0, c1, c2, hv, hW, hF⟩ | ⟨c0, hv, hW, hF⟩
  · have e9 := RA_alertOf_0 (st := st) (x := x9) hk.m10 c0 c1 c2
    rw [e9]
    exact ⟨_, hv, hJ.ref hW hF, fun _ => rfl⟩
  · have e9 := RA_alertOf_2 (st := st) (x := x9) hk.m10 c0 c1 c2
    rw [e9]
    exact ⟨_, hv, hJ.ref hW hF, fun z => absurd (show nI 2 = nI 0 from z) (by decide)⟩
  · have e9 := RA_alertOf_1 (st := st) (x := x9) hk.m10 c0
    rw [e9]
    exact ⟨_, hv, hJ.ref hW hF, fun z => absurd (show nI 1 = nI 0 from z) (by decide)⟩
theorem d_X6_joinCount {l : Launch} {G : mG} {a0 : Array Value} {s0 : State} (Z : mZ l G a0 s0) (h0 : Hp) (x m : Nat) (q : Nat → Nat) (o o2 : Nat) (f : Nat → Int64) (g : Nat → UInt64) (S st : Ms) (hJ : LJ G h0 x m q o o2 f g S st) (hk : Iv st) (a9 : Int32) (d9 : Int32) : mM l G s0 yX6_joinCount cX6_joinCount 3 (some .int) 3 71 0 0 h0 [.ref m, .int a9, .int d9] (fun v9 h9 => ∃ w : Int32, v9 = some (.int w) ∧ LJ G h9 x m q o o2 f g S (T_joinCount st a9 d9).1 ∧ (st_thr (T_joinCount st a9 d9).1 = nI 0 → w.toInt64 = (T_joinCount st a9 d9).2)) := by
  refine mM.mono (c_X6_joinCount Z h0 m q st hJ.mdl a9 d9 hk.mok) (fun v9 h9 hv => ?_)
  rcases hv with ⟨c0, c1, hv, hW, hF⟩ | ⟨c0, hv, hW, hF⟩
  · have e9 := RA_joinCount_0 (st := st) (a := a9) (d := d9) hk.m10 c0 c1
    rw [e9]
    exact ⟨_, hv, hJ.ref hW hF, fun _ => by rw [js_ct, lN_i]⟩
  · have e9 := RA_joinCount_1 (st := st) (a := a9) (d := d9) hk.m10 c0
    rw [e9]
    exact ⟨_, hv, hJ.ref hW hF, fun z => absurd (show nI 1 = nI 0 from z) (by decide)⟩
theorem d_X6_joinSum {l : Launch} {G : mG} {a0 : Array Value} {s0 : State} (Z : mZ l G a0 s0) (h0 : Hp) (x m : Nat) (q : Nat → Nat) (o o2 : Nat) (f : Nat → Int64) (g : Nat → UInt64) (S st : Ms) (hJ : LJ G h0 x m q o o2 f g S st) (hk : Iv st) (a9 : Int32) (d9 : Int32) : mM l G s0 yX6_joinSum cX6_joinSum 3 (some .long) 3 71 0 0 h0 [.ref m, .int a9, .int d9] (fun v9 h9 => ∃ w : Int64, v9 = some (.long w) ∧ LJ G h9 x m q o o2 f g S (T_joinSum st a9 d9).1 ∧ (st_thr (T_joinSum st a9 d9).1 = nI 0 → w = (T_joinSum st a9 d9).2)) := by
  refine mM.mono (c_X6_joinSum Z h0 m q st hJ.mdl a9 d9 hk.mok) (fun v9 h9 hv => ?_)
  rcases hv with ⟨c0, c1, hv, hW, hF⟩ | ⟨c0, hv, hW, hF⟩
  · have e9 := RA_joinSum_0 (st := st) (a := a9) (d := d9) hk.m10 c0 c1
    rw [e9]
    exact ⟨_, hv, hJ.ref hW hF, fun _ => rfl⟩
  · have e9 := RA_joinSum_1 (st := st) (a := a9) (d := d9) hk.m10 c0
    rw [e9]
    exact ⟨_, hv, hJ.ref hW hF, fun z => absurd (show nI 1 = nI 0 from z) (by decide)⟩
theorem d_X6_firingShare {l : Launch} {G : mG} {a0 : Array Value} {s0 : State} (Z : mZ l G a0 s0) (h0 : Hp) (x m : Nat) (q : Nat → Nat) (o o2 : Nat) (f : Nat → Int64) (g : Nat → UInt64) (S st : Ms) (hJ : LJ G h0 x m q o o2 f g S st) (hk : Iv st) : mM l G s0 yX6_firingShare cX6_firingShare 2 (some .float) 2 43 0 0 h0 [.ref m] (fun v9 h9 => ∃ w : UInt32, v9 = some (.float w) ∧ LJ G h9 x m q o o2 f g S (T_firingShare st).1 ∧ (st_thr (T_firingShare st).1 = nI 0 → w = (T_firingShare st).2)) := by
  refine mM.mono (c_X6_firingShare Z h0 m q st hJ.mdl  hk.mok) (fun v9 h9 hv => ?_)
  rcases hv with ⟨c0, hv, hW, hF⟩ | ⟨c0, hv, hW, hF⟩
  · have e9 := RA_firingShare_0 (st := st)  hk.m10 c0
    rw [e9]
    exact ⟨_, hv, hJ.ref hW hF, fun _ => rfl⟩
  · have e9 := RA_firingShare_1 (st := st)  hk.m10 c0
    rw [e9]
    exact ⟨_, hv, hJ.ref hW hF, fun z => absurd (show nI 1 = nI 0 from z) (by decide)⟩
