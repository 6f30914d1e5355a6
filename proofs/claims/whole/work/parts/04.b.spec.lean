/-! WHAT THE STORE ANSWERS, as functions of the state (in the reference's words) -/
def z_ct (p : Nat → Prop) [DecidablePred p] : Nat → Nat
  | 0 => 0
  | n + 1 => z_ct p n + if p n then 1 else 0
def z_sm (p : Nat → Prop) [DecidablePred p] (f : Nat → Int64) : Nat → Int64
  | 0 => 0
  | n + 1 => z_sm p f n + if p n then f n else 0
def z_mx (p : Nat → Prop) [DecidablePred p] (f : Nat → Int32) (z : Int32) : Nat → Int32
  | 0 => z
  | n + 1 => if p n ∧ z_mx p f z n < f n then f n else z_mx p f z n
def z_su (f : Nat → Nat) : Nat → Nat
  | 0 => 0
  | n + 1 => z_su f n + f n
theorem z_ct_t {p : Nat → Prop} [DecidablePred p] {n : Nat} (h : p n) : z_ct p (n + 1) = z_ct p n + 1 := by rw [z_ct, if_pos h]
theorem z_ct_f {p : Nat → Prop} [DecidablePred p] {n : Nat} (h : ¬ p n) : z_ct p (n + 1) = z_ct p n := by rw [z_ct, if_neg h]; rfl
theorem z_ct_le (p : Nat → Prop) [DecidablePred p] : ∀ n, z_ct p n ≤ n
  | 0 => Nat.le_refl 0
  | n + 1 => by
    have h := z_ct_le p n
    by_cases q : p n
    · rw [z_ct_t q]; omega
    · rw [z_ct_f q]; omega
theorem z_sm_t {p : Nat → Prop} [DecidablePred p] {f : Nat → Int64} {n : Nat} (h : p n) : z_sm p f (n + 1) = z_sm p f n + f n := by rw [z_sm, if_pos h]
theorem z_sm_f {p : Nat → Prop} [DecidablePred p] {f : Nat → Int64} {n : Nat} (h : ¬ p n) : z_sm p f (n + 1) = z_sm p f n + lN 0 := by rw [z_sm, if_neg h]; rfl
theorem z_mx_t {p : Nat → Prop} [DecidablePred p] {f : Nat → Int32} {z : Int32} {n : Nat} (h : p n) (h2 : z_mx p f z n < f n) : z_mx p f z (n + 1) = f n := by rw [z_mx, if_pos ⟨h, h2⟩]
theorem z_mx_f {p : Nat → Prop} [DecidablePred p] {f : Nat → Int32} {z : Int32} {n : Nat} (h : ¬ (p n ∧ z_mx p f z n < f n)) : z_mx p f z (n + 1) = z_mx p f z n := by rw [z_mx, if_neg h]
theorem z_su_le {f : Nat → Nat} {c : Nat} : ∀ n, (∀ k, k < n → f k ≤ c) → z_su f n ≤ c * n
  | 0, _ => Nat.zero_le _
  | n + 1, h => by
    have h1 := z_su_le n (fun k hk => h k (by omega))
    have h2 := h n (by omega)
    rw [z_su, Nat.mul_succ]
    omega
/-- a sample in a range -/
abbrev z_in (st : Ms) (z : Nat) (a d : Int64) (i : Nat) : Prop := a ≤ lN (st_T st (120 * z + i)) ∧ lN (st_T st (120 * z + i)) ≤ d
abbrev z_bg (st : Ms) (z i : Nat) : Nat := st_T st (120 * z + i) / 10 * 10
abbrev z_ro (st : Ms) (z : Nat) (x : Int32) (i : Nat) : Prop := lN (z_bg st z i) = lN 10 * x.toInt64
abbrev z_lo (st : Ms) (z : Nat) (a d : Int64) (i : Nat) : Prop := a ≤ lN (z_bg st z i) ∧ lN (z_bg st z i + 9) ≤ d
abbrev z_hi (st : Ms) (z : Nat) (a d : Int64) (i : Nat) : Prop := lN (z_bg st z i) ≤ d ∧ a ≤ lN (z_bg st z i + 9)
abbrev z_v (st : Ms) (z i : Nat) : Int32 := st_V st (120 * z + i)
abbrev z_bad (a d : Int64) : Prop := a < lN 0 ∨ d < a
/-- bits -/
def z_tb (x : Int64) : Nat := if x = lN 0 then 1 else if -7 ≤ x ∧ x ≤ lN 8 then 6 else 15
def z_vb (x : Int32) : Nat := if x = nI 0 then 1 else if -31 ≤ x ∧ x ≤ nI 32 then 8 else 18
abbrev z_t (st : Ms) (z i : Nat) : Int64 := lN (st_T st (120 * z + i))
def z_ap (st : Ms) (z d i : Nat) : Int64 := if 8 * d + 1 < i then (z_t st z i - z_t st z (i - 1)) - (z_t st z (i - 1) - z_t st z (i - 2)) else z_t st z i - z_t st z (i - 1)
def z_bt (st : Ms) (z d : Nat) : Nat → Nat
  | 0 => 64
  | j + 1 => z_bt st z d j + z_tb (z_ap st z d (8 * d + 1 + j)) + z_vb (z_v st z (8 * d + 1 + j) - z_v st z (8 * d + 1 + j - 1))
def z_nb (st : Ms) (z : Nat) : Nat := (st_n st z + 8 - 1) / 8
def z_bits (st : Ms) (z d : Nat) : Nat := z_bt st z d (min (st_n st z - (8 * d + 1)) 7)
def z_all (st : Ms) (k : Nat) : Nat := z_su (fun z => z_su (z_bits st z) (z_nb st z)) k
theorem z_tb_le (x : Int64) : z_tb x ≤ 15 := by unfold z_tb; split; omega; split <;> omega
theorem z_vb_le (x : Int32) : z_vb x ≤ 18 := by unfold z_vb; split; omega; split <;> omega
theorem z_bt_le (st : Ms) (z d : Nat) : ∀ j, z_bt st z d j ≤ 64 + 33 * j
  | 0 => Nat.le_refl _
  | j + 1 => by
    have h := z_bt_le st z d j
    have h1 := z_tb_le (z_ap st z d (8 * d + 1 + j))
    have h2 := z_vb_le (z_v st z (8 * d + 1 + j) - z_v st z (8 * d + 1 + j - 1))
    rw [z_bt]
    omega
theorem z_bits_le (st : Ms) (z d : Nat) : z_bits st z d ≤ 295 := by
  have h := z_bt_le st z d (min (st_n st z - (8 * d + 1)) 7)
  unfold z_bits
  omega
theorem z_nb_le {st : Ms} {z : Nat} (h : st_n st z ≤ 120) : z_nb st z ≤ 15 := by unfold z_nb; omega
theorem z_bl_le {st : Ms} {z : Nat} (h : st_n st z ≤ 120) {j : Nat} (hj : j ≤ z_nb st z) : z_su (z_bits st z) j ≤ 4425 := by
  have h1 := z_su_le (f := z_bits st z) (c := 295) j (fun k _ => z_bits_le st z k)
  have h2 := z_nb_le h
  have h3 : 295 * j ≤ 295 * 15 := Nat.mul_le_mul_left _ (by omega)
  omega
/-- the sketch -/
abbrev z_k (st : Ms) (z l k : Nat) : Int32 := st_sk st (8 * (6 * z + l) + k)
abbrev z_z (st : Ms) (z l : Nat) : Nat := st_sz st (6 * z + l)
def z_sd (st : Ms) (z : Nat) (x : Int32) (l : Nat) : Nat := z_su (fun k => if z_k st z l k ≤ x then 2 ^ l else 0) (z_z st z l)
def z_std (st : Ms) (z : Nat) (x : Int32) : Nat := z_su (z_sd st z x) 6
def z_tg (st : Ms) (z d : Nat) : Nat := (st_n st z * d + 99) / 100
def z_qi (st : Ms) (z t l : Nat) (x : Int32) : Nat → Int32
  | 0 => x
  | k + 1 => if z_k st z l k < z_qi st z t l x k ∧ t ≤ z_std st z (z_k st z l k) then z_k st z l k else z_qi st z t l x k
def z_qo (st : Ms) (z t : Nat) (x : Int32) : Nat → Int32
  | 0 => x
  | l + 1 => z_qi st z t l (z_qo st z t x l) (z_z st z l)
def z_sq (st : Ms) (z d : Nat) : Int32 := z_qo st z (z_tg st z d) (nI 20000) 6
def z_up (st : Ms) (z : Nat) (x : Int32) : Nat := z_ct (fun i => z_v st z i ≤ x) (st_n st z)
def z_eq (st : Ms) (z t : Nat) : Nat → Int32
  | 0 => nI 20000
  | i + 1 => if z_v st z i < z_eq st z t i ∧ t ≤ z_up st z (z_v st z i) then z_v st z i else z_eq st z t i
def z_held (st : Ms) (z : Nat) : Nat := z_su (fun l => z_z st z l) 6
abbrev z_wi (st : Ms) (z d : Nat) : Prop := nI (z_tg st z d) - nI (st_bd st z) ≤ nI (z_up st z (z_sq st z d)) ∧ nI (z_up st z (z_sq st z d - nI 1)) < nI (z_tg st z d + st_bd st z)
/-- alerts and joins -/
def z_al (st : Ms) (z : Nat) : Nat := if st_on st z = nI 0 then 111 else if (st_wa st z).toInt64 ≤ lN (st_now st) - lN (st_si st z) then 102 else 112
abbrev z_fi (st : Ms) (z : Nat) : Prop := st_ha st z = nI 1 ∧ z_al st z = 102
abbrev z_is (st : Ms) (a d : Int32) (k : Nat) : Prop := st_nm st k = a ∧ st_ho st k = d
def z_fr (p : Nat → Prop) [DecidablePred p] : Nat → Nat
  | 0 => 0
  | n + 1 => if z_fr p n < n then z_fr p n else if p n then n else n + 1
def z_f (st : Ms) (a d : Int32) : Nat := z_fr (z_is st a d) (st_many st)
abbrev z_jp (st : Ms) (a d : Int32) (w : Nat) : Prop := z_f st a (nI w) < st_many st ∧ z_f st d (nI w) < st_many st ∧ 0 < st_n st (z_f st a (nI w)) ∧ 0 < st_n st (z_f st d (nI w))
abbrev z_la (st : Ms) (z : Nat) : Int32 := st_V st (120 * z + (st_n st z - 1))
def z_js (st : Ms) (a d : Int32) (f : Nat → Nat → Int64) : Nat → Int64
  | 0 => lN 0
  | w + 1 => if z_jp st a d w then z_js st a d f w + f (z_f st a (nI w)) (z_f st d (nI w)) else z_js st a d f w
theorem z_fr_le (p : Nat → Prop) [DecidablePred p] : ∀ n, z_fr p n ≤ n
  | 0 => Nat.le_refl 0
  | n + 1 => by
    have h := z_fr_le p n
    rw [z_fr]
    split
    · omega
    · split <;> omega
theorem z_fr_no {p : Nat → Prop} [DecidablePred p] {k : Nat} (hno : ∀ j, j < k → ¬ p j) : ∀ n, n ≤ k → ¬ z_fr p n < n
  | 0, _ => Nat.not_lt_zero _
  | n + 1, h => by
    rw [z_fr, if_neg (z_fr_no hno n (by omega)), if_neg (hno n (by omega))]
    omega
theorem z_fr_at {p : Nat → Prop} [DecidablePred p] {k : Nat} (hk : p k) (hno : ∀ j, j < k → ¬ p j) : ∀ n, k < n → z_fr p n = k
  | 0, h => absurd h (Nat.not_lt_zero _)
  | n + 1, h => by
    rw [z_fr]
    rcases Nat.lt_or_ge k n with q | q
    · rw [z_fr_at hk hno n q, if_pos q]
    · have e : k = n := by omega
      subst e
      rw [if_neg (z_fr_no hno k (Nat.le_refl k)), if_pos hk]
theorem z_fr_none {p : Nat → Prop} [DecidablePred p] (n : Nat) (hno : ∀ j, j < n → ¬ p j) : z_fr p n = n := by
  have h1 := z_fr_no hno n (Nat.le_refl n)
  have h2 := z_fr_le p n
  omega
