/-! blocks tell what came; ranges; bits -/
theorem l_as (a b : Int64) : a + (b - a) = b := by rw [Int64.add_comm, Int64.sub_add_cancel]
theorem i_as (a b : Int32) : a + (b - a) = b := by rw [Int32.add_comm, Int32.sub_add_cancel]
theorem l_0 (a : Int64) : a + lN 0 = a := Int64.add_zero a
theorem l_00 (a : Int64) : a + 0 = a := Int64.add_zero a
theorem i_00 (a : Int32) : a + 0 = a := Int32.add_zero a
theorem l_s0 (a : Int64) : a - lN 0 = a := Int64.sub_zero a
theorem x_ts_at {T : Nat → Nat} {n j i : Nat} (h1 : 1 ≤ i) (h2 : i < x_sz n j) : x_ts T n j i = x_gp T j i - x_gp T j (i - 1) := if_pos ⟨h1, h2⟩
theorem x_ts_z {T : Nat → Nat} {n j : Nat} : x_ts T n j 0 = 0 := if_neg (by omega)
theorem x_vs_at {U : Nat → Int32} {n j i : Nat} (h1 : 1 ≤ i) (h2 : i < x_sz n j) : x_vs U n j i = U (8 * j + i) - U (8 * j + (i - 1)) := if_pos ⟨h1, h2⟩
theorem x_vs_z {U : Nat → Int32} {n j : Nat} : x_vs U n j 0 = 0 := if_neg (by omega)
theorem x_gp_z (T : Nat → Nat) (j : Nat) : x_gp T j 0 = lN 0 := rfl
theorem x_gp_s (T : Nat → Nat) (j i : Nat) : x_gp T j (i + 1) = lN (T (8 * j + (i + 1))) - lN (T (8 * j + i)) := if_neg (Nat.succ_ne_zero i)
theorem x_gpz (T : Nat → Nat) (n j i : Nat) (h : i < x_sz n j) : z_gp (x_ts T n j) (i + 1) = x_gp T j i := by
  induction i with
  | zero => rw [z_gp, z_gp, x_ts_z, x_gp_z, l_00]
  | succ i ih => rw [z_gp, ih (by omega), x_ts_at (by omega) h, Nat.add_sub_cancel, l_as]
theorem x_tmz (T : Nat → Nat) (n j i : Nat) (h : i < x_sz n j) : z_tm (x_ts T n j) (lN (T (8 * j))) (i + 1) = lN (T (8 * j + i)) := by
  induction i with
  | zero => rw [z_tm, z_tm, x_gpz T n j 0 h, x_gp_z, l_0, Nat.add_zero]
  | succ i ih => rw [z_tm, ih (by omega), x_gpz T n j (i + 1) h, x_gp_s, l_as]
theorem x_vlz (U : Nat → Int32) (n j i : Nat) (h : i < x_sz n j) : z_vl (x_vs U n j) (U (8 * j)) (i + 1) = U (8 * j + i) := by
  induction i with
  | zero => rw [z_vl, z_vl, x_vs_z, i_00, Nat.add_zero]
  | succ i ih => rw [z_vl, ih (by omega), x_vs_at (by omega) h, Nat.add_sub_cancel, i_as]
theorem x_tell (T : Nat → Nat) (U : Nat → Int32) (n : Nat) : ∀ r : Nat, r < n → r / 8 < x_nb n ∧ z_tm (x_ts T n (r / 8)) (lN (T (8 * (r / 8)))) (r % 8 + 1) = lN (T r) ∧ z_vl (x_vs U n (r / 8)) (U (8 * (r / 8))) (r % 8 + 1) = U r := by
  intro r hr
  have hs : r % 8 < x_sz n (r / 8) := by unfold x_sz; omega
  have e : 8 * (r / 8) + r % 8 = r := by omega
  refine ⟨by unfold x_nb; omega, ?_, ?_⟩
  · rw [x_tmz T n _ _ hs, e]
  · rw [x_vlz U n _ _ hs, e]
/-- one block, then all -/
theorem x_rb1 (T : Nat → Nat) (U : Nat → Int32) (n : Nat) (a d : Int64) (j : Nat) (x0 : Nat × Int64 × Int32) (m : Nat) (h : m ≤ x_sz n j) : z_rs (z_bp (x_ts T n j) (lN (T (8 * j))) a d) (fun r => z_vl (x_vs U n j) (U (8 * j)) (r + 1)) (z_rs (z_s1 T a d) U x0 (8 * j)) m = z_rs (z_s1 T a d) U x0 (8 * j + m) := by
  induction m with
  | zero => rw [z_rs, Nat.add_zero]
  | succ m ih =>
    have h1 := x_tmz T n j m (by omega)
    have h2 := x_vlz U n j m (by omega)
    rw [← Nat.add_assoc]
    by_cases q : z_s1 T a d (8 * j + m)
    · rw [z_rs_t q, z_rs_t (p := z_bp (x_ts T n j) (lN (T (8 * j))) a d) (by show a ≤ z_tm _ _ (m + 1) ∧ z_tm _ _ (m + 1) ≤ d; rw [h1]; exact q), ih (by omega), h2]
    · rw [z_rs_f q, z_rs_f (p := z_bp (x_ts T n j) (lN (T (8 * j))) a d) (by show ¬ (a ≤ z_tm _ _ (m + 1) ∧ z_tm _ _ (m + 1) ≤ d); rw [h1]; exact q), ih (by omega)]
theorem x_rb0 (T : Nat → Nat) (U : Nat → Int32) (n : Nat) (a d : Int64) (J : Nat) (h : J ≤ x_nb n) : k_rb (x_ts T n) (x_vs U n) (fun j => lN (T (8 * j))) (fun j => U (8 * j)) (x_sz n) a d J = z_rs (z_s1 T a d) U (0, lN 0, -10000) (min (8 * J) n) := by
  induction J with
  | zero => rw [Nat.mul_zero, Nat.zero_min]; rfl
  | succ J ih =>
    have hJ : 8 * J < n := by unfold x_nb at h; omega
    have e1 : min (8 * J) n = 8 * J := by omega
    have e2 : min (8 * (J + 1)) n = 8 * J + x_sz n J := by unfold x_sz; omega
    rw [k_rb, ih (by omega), e1, e2, x_rb1 T U n a d J _ _ (Nat.le_refl _)]
theorem x_rb (T : Nat → Nat) (U : Nat → Int32) (n : Nat) (a d : Int64) : k_rb (x_ts T n) (x_vs U n) (fun j => lN (T (8 * j))) (fun j => U (8 * j)) (x_sz n) a d (x_nb n) = z_rs (z_s1 T a d) U (0, lN 0, -10000) n := by
  rw [x_rb0 T U n a d _ (Nat.le_refl _), show min (8 * x_nb n) n = n by unfold x_nb; omega]
/-- what was found, in the reference's words -/
theorem rs_1 {p q : Nat → Prop} [DecidablePred p] [DecidablePred q] {v : Nat → Int32} {t : Int64} {g : Int32} (n : Nat) (h : ∀ i, i < n → (p i ↔ q i)) : (z_rs p v (0, t, g) n).1 = z_ct q n := by
  induction n with
  | zero => rfl
  | succ n ih =>
    have h1 := ih (fun i hi => h i (by omega))
    have h2 := h n (Nat.lt_succ_self n)
    by_cases r : p n
    · rw [z_rs_t r, z_ct_t (h2.mp r), ← h1]
    · rw [z_rs_f r, z_ct_f0 (fun z => r (h2.mpr z)), ← h1, Nat.add_zero]
theorem rs_2 {p q : Nat → Prop} [DecidablePred p] [DecidablePred q] {v w : Nat → Int32} {g : Int32} {m : Nat} (n : Nat) (h : ∀ i, i < n → (p i ↔ q i)) (hv : ∀ i, i < n → v i = w i) : (z_rs p v (m, lN 0, g) n).2.1 = z_sm q (fun i => (w i).toInt64) n := by
  induction n with
  | zero => rfl
  | succ n ih =>
    have h1 := ih (fun i hi => h i (by omega)) (fun i hi => hv i (by omega))
    have h2 := h n (Nat.lt_succ_self n)
    by_cases r : p n
    · rw [z_rs_t r, z_sm_t (h2.mp r), ← h1, hv n (Nat.lt_succ_self n)]
    · rw [z_rs_f r, z_sm_f (fun z => r (h2.mpr z)), ← h1, l_0]
def Vr (x : Int32) : Prop := (-10000) ≤ x ∧ x ≤ nI 10000
theorem Vr_m {x : Int32} (h : Vr x) : (-20000 : Int32) < x := i_lt_le' (show (-20000 : Int32) < -10000 by decide) h.1
theorem rs_3 {p q : Nat → Prop} [DecidablePred p] [DecidablePred q] {v w : Nat → Int32} {t : Int64} {m : Nat} (n : Nat) (h : ∀ i, i < n → (p i ↔ q i)) (hv : ∀ i, i < n → v i = w i) (hr : ∀ i, i < n → Vr (w i)) : (z_ct q n = 0 → (z_rs p v (m, t, -10000) n).2.2 = -10000 ∧ z_mx q w (-20000) n = -20000) ∧ (¬ z_ct q n = 0 → (z_rs p v (m, t, -10000) n).2.2 = z_mx q w (-20000) n ∧ (-10000) ≤ z_mx q w (-20000) n) := by
  induction n with
  | zero => exact ⟨fun _ => ⟨rfl, rfl⟩, fun z => absurd rfl z⟩
  | succ n ih =>
    obtain ⟨h1, h1'⟩ := ih (fun i hi => h i (by omega)) (fun i hi => hv i (by omega)) (fun i hi => hr i (by omega))
    have h2 := h n (Nat.lt_succ_self n)
    have h3 := hv n (Nat.lt_succ_self n)
    have h4 := hr n (Nat.lt_succ_self n)
    by_cases r : p n
    · have hq := h2.mp r
      rw [z_rs_t r, z_ct_t hq]
      refine ⟨fun z => absurd z (Nat.succ_ne_zero _), fun _ => ?_⟩
      show (if (z_rs p v (m, t, -10000) n).2.2 < v n then v n else (z_rs p v (m, t, -10000) n).2.2) = _ ∧ _
      by_cases c : z_ct q n = 0
      · obtain ⟨e1, e2⟩ := h1 c
        rw [e1, h3, z_mx_t hq (by rw [e2]; exact Vr_m h4)]
        refine ⟨?_, h4.1⟩
        by_cases b : (-10000 : Int32) < w n
        · rw [if_pos b]
        · rw [if_neg b]
          exact i_eq h4.1 (i_nlt b)
      · obtain ⟨e1, e2⟩ := h1' c
        rw [e1, h3]
        by_cases b : z_mx q w (-20000) n < w n
        · rw [if_pos b, z_mx_t hq b]
          exact ⟨rfl, i_tr e2 (i_lt_le b)⟩
        · rw [if_neg b, z_mx_f (fun z => b z.2)]
          exact ⟨rfl, e2⟩
    · have hq : ¬ q n := fun z => r (h2.mpr z)
      rw [z_rs_f r, z_ct_f0 hq, z_mx_f (fun z => hq z.1), Nat.add_zero]
      exact ⟨h1, h1'⟩
theorem mx_iff {q : Nat → Prop} [DecidablePred q] {w : Nat → Int32} (n : Nat) (hr : ∀ i, i < n → Vr (w i)) : z_mx q w (-20000) n = -20000 ↔ z_ct q n = 0 := by
  obtain ⟨h1, h2⟩ := rs_3 (p := q) (q := q) (v := w) (w := w) (t := 0) (m := 0) n (fun _ _ => Iff.rfl) (fun _ _ => rfl) hr
  constructor
  · intro e
    by_cases c : z_ct q n = 0
    · exact c
    · have := (h2 c).2
      rw [e] at this
      exact absurd this (by decide)
  · intro c
    exact (h1 c).2
theorem ct_c {p q : Nat → Prop} [DecidablePred p] [DecidablePred q] (n : Nat) (h : ∀ i, i < n → (p i ↔ q i)) : z_ct p n = z_ct q n := by
  induction n with
  | zero => rfl
  | succ n ih =>
    have h1 := ih (fun i hi => h i (by omega))
    have h2 := h n (Nat.lt_succ_self n)
    by_cases r : p n
    · rw [z_ct_t r, z_ct_t (h2.mp r), h1]
    · rw [z_ct_f r, z_ct_f (fun z => r (h2.mpr z)), h1]
theorem su_c {f g : Nat → Nat} (n : Nat) (h : ∀ i, i < n → f i = g i) : z_su f n = z_su g n := by
  induction n with
  | zero => rfl
  | succ n ih => rw [z_su, z_su, ih (fun i hi => h i (by omega)), h n (Nat.lt_succ_self n)]
section
variable {st : Ms} {k : Nat} {T : Nat → Nat} {U : Nat → Int32}
theorem in_c (hT : ∀ i : Nat, i < st_n st k → T i = st_T st (120 * k + i)) (a d : Int64) : ∀ i, i < st_n st k → (z_s1 T a d i ↔ z_in st k a d i) := fun i hi => by
  show (a ≤ lN (T i) ∧ lN (T i) ≤ d) ↔ (a ≤ lN (st_T st (120 * k + i)) ∧ lN (st_T st (120 * k + i)) ≤ d)
  rw [hT i hi]
theorem lo_c (hT : ∀ i : Nat, i < st_n st k → T i = st_T st (120 * k + i)) (a d : Int64) : ∀ i, i < st_n st k → (z_s2 T a d i ↔ z_lo st k a d i) := fun i hi => by
  show (a ≤ lN (T i - T i % 10) ∧ lN (T i - T i % 10 + 10 - 1) ≤ d) ↔ (a ≤ lN (st_T st (120 * k + i) / 10 * 10) ∧ lN (st_T st (120 * k + i) / 10 * 10 + 9) ≤ d)
  rw [hT i hi, show st_T st (120 * k + i) - st_T st (120 * k + i) % 10 + 10 - 1 = st_T st (120 * k + i) / 10 * 10 + 9 by omega, show st_T st (120 * k + i) - st_T st (120 * k + i) % 10 = st_T st (120 * k + i) / 10 * 10 by omega]
theorem hi_c (hT : ∀ i : Nat, i < st_n st k → T i = st_T st (120 * k + i)) (a d : Int64) : ∀ i, i < st_n st k → (z_s3 T a d i ↔ z_hi st k a d i) := fun i hi => by
  show (a ≤ lN (T i - T i % 10 + 10 - 1) ∧ lN (T i - T i % 10) ≤ d) ↔ (lN (st_T st (120 * k + i) / 10 * 10) ≤ d ∧ a ≤ lN (st_T st (120 * k + i) / 10 * 10 + 9))
  rw [hT i hi, show st_T st (120 * k + i) - st_T st (120 * k + i) % 10 + 10 - 1 = st_T st (120 * k + i) / 10 * 10 + 9 by omega, show st_T st (120 * k + i) - st_T st (120 * k + i) % 10 = st_T st (120 * k + i) / 10 * 10 by omega]
  exact And.comm
/-- a rollup by its index -/
theorem ro_c (hT : ∀ i : Nat, i < st_n st k → T i = st_T st (120 * k + i)) (hTb : ∀ i : Nat, i < st_n st k → T i < 1073741824) (j : Nat) (hj : j < 2147483648) : ∀ i, i < st_n st k → (z_s1 T (lN (j * 10)) (lN (j * 10 + 10 - 1)) i ↔ z_ro st k (nI j) i) := fun i hi => by
  have hb := hTb i hi
  show (lN (j * 10) ≤ lN (T i) ∧ lN (T i) ≤ lN (j * 10 + 10 - 1)) ↔ lN (st_T st (120 * k + i) / 10 * 10) = lN 10 * (nI j).toInt64
  rw [← hT i hi, nI_l (by omega), lN_mul, pk_lLE (by omega) (by omega), pk_lLE (by omega) (by omega), pk_lEQ (by omega) (by omega)]
  omega
theorem ro_neg {y : Int32} (h : y < 0) : True := trivial
-- bits
theorem x_bbz (hT : ∀ i : Nat, i < st_n st k → T i = st_T st (120 * k + i)) (hU : ∀ i : Nat, i < st_n st k → U i = st_V st (120 * k + i)) (j i : Nat) (h : 8 * j + i < st_n st k) : x_bb T U j i = z_bt st k j i := by
  induction i with
  | zero => rfl
  | succ i ih =>
    have e1 : z_ap st k j (8 * j + 1 + i) = x_gp T j (i + 1) - x_gp T j i := by
      unfold z_ap
      rw [x_gp_s, hT _ h, hT _ (by omega)]
      cases i with
      | zero =>
        rw [if_neg (by omega), x_gp_z, l_s0]
        rfl
      | succ i =>
        rw [if_pos (by omega), x_gp_s, hT _ (by omega), hT _ (by omega)]
        show lN (st_T st (120 * k + (8 * j + 1 + (i + 1)))) - lN (st_T st (120 * k + (8 * j + 1 + (i + 1) - 1))) - (lN (st_T st (120 * k + (8 * j + 1 + (i + 1) - 1))) - lN (st_T st (120 * k + (8 * j + 1 + (i + 1) - 2)))) = _
        rw [show 8 * j + 1 + (i + 1) = 8 * j + (i + 1 + 1) by omega, show 8 * j + (i + 1 + 1) - 1 = 8 * j + (i + 1) by omega, show 8 * j + (i + 1 + 1) - 2 = 8 * j + i by omega]
    rw [x_bb, z_bt, ih (by omega), e1, hU _ h, hU _ (by omega)]
    show _ = z_bt st k j i + z_tb _ + z_vb (st_V st (120 * k + (8 * j + 1 + i)) - st_V st (120 * k + (8 * j + 1 + i - 1)))
    rw [show 8 * j + 1 + i = 8 * j + (i + 1) by omega, show 8 * j + (i + 1) - 1 = 8 * j + i by omega, Nat.add_assoc]
theorem x_bits (hT : ∀ i : Nat, i < st_n st k → T i = st_T st (120 * k + i)) (hU : ∀ i : Nat, i < st_n st k → U i = st_V st (120 * k + i)) {j : Nat} (h : j < x_nb (st_n st k)) : x_bb T U j (x_sz (st_n st k) j - 1) = z_bits st k j := by
  have h9 : 8 * j < st_n st k := by unfold x_nb at h; omega
  unfold z_bits
  rw [x_bbz hT hU j _ (by unfold x_sz; omega), show x_sz (st_n st k) j - 1 = min (st_n st k - (8 * j + 1)) 7 by unfold x_sz; omega]
end
