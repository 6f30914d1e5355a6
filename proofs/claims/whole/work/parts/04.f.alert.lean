/-- a state by its parts -/
def sM (xthr : Int32) (xmany : Nat) (xnow : Nat) (xnm : Nat → Int32) (xho : Nat → Int32) (xn : Nat → Nat) (xV : Nat → Int32) (xbd : Nat → Nat) (xT : Nat → Nat) (xsk : Nat → Int32) (xsz : Nat → Nat) (xhv : Nat → Nat) (xha : Nat → Int32) (xli : Nat → Int32) (xwa : Nat → Int32) (xon : Nat → Int32) (xsi : Nat → Nat) : Ms := (xthr, xmany, xnow, xnm, xho, xn, xV, xbd, xT, xsk, xsz, xhv, xha, xli, xwa, xon, xsi)
theorem sM_eta (st : Ms) : sM (st_thr st) (st_many st) (st_now st) (st_nm st) (st_ho st) (st_n st) (st_V st) (st_bd st) (st_T st) (st_sk st) (st_sz st) (st_hv st) (st_ha st) (st_li st) (st_wa st) (st_on st) (st_si st) = st := rfl
/-- the insertion of a value behind the first k values of a sorted row at b -/
def z_ins (b : Nat) (v : Int32) : Nat → (Nat → Int32) → (Nat → Int32)
  | 0, f => va_up f (b + 0) v
  | k + 1, f => if v < f (b + k) then z_ins b v k (va_up f (b + (k + 1)) (f (b + k))) else va_up f (b + (k + 1)) v
/-- the first j + 1 values of a row at b sorted -/
def z_so (f : Nat → Int32) (b : Nat) : Nat → (Nat → Int32)
  | 0 => f
  | j + 1 => z_ins b (z_so f b j (b + (j + 1))) (j + 1) (z_so f b j)
/-- a value put into a level -/
def s_ho (st : Ms) (z l : Nat) (v : Int32) : Ms := sM (st_thr st) (st_many st) (st_now st) (st_nm st) (st_ho st) (st_n st) (st_V st) (st_bd st) (st_T st) (va_up (st_sk st) (8 * (6 * z + l) + st_sz st (6 * z + l)) v) (va_up (st_sz st) (6 * z + l) (st_sz st (6 * z + l) + 1)) (st_hv st) (st_ha st) (st_li st) (st_wa st) (st_on st) (st_si st)
/-- every second value of level l put into the next one -/
def s_pk (st : Ms) (z l i : Nat) : Nat → Ms
  | 0 => st
  | t + 1 => s_ho (s_pk st z l i t) z (l + 1) (st_sk (s_pk st z l i t) (8 * (6 * z + l) + (i + 2 * t)))
def s_sk (st : Ms) (x : Nat → Int32) : Ms := sM (st_thr st) (st_many st) (st_now st) (st_nm st) (st_ho st) (st_n st) (st_V st) (st_bd st) (st_T st) x (st_sz st) (st_hv st) (st_ha st) (st_li st) (st_wa st) (st_on st) (st_si st)
def s_h2 (st : Ms) (z l : Nat) : Ms := sM (st_thr st) (st_many st) (st_now st) (st_nm st) (st_ho st) (st_n st) (st_V st) (va_up (st_bd st) z (st_bd st z + 2 ^ l)) (st_T st) (st_sk st) (va_up (st_sz st) (6 * z + l) 0) (va_up (st_hv st) (6 * z + l) (st_hv st (6 * z + l) + 1)) (st_ha st) (st_li st) (st_wa st) (st_on st) (st_si st)
/-- a level halved -/
def s_hs (st : Ms) (z l : Nat) : Ms := s_h2 (s_pk (s_sk st (z_so (st_sk st) (8 * (6 * z + l)) 7)) z l (if st_hv st (6 * z + l) % 2 = 0 then 1 else 0) 4) z l
/-- the levels below y halved where they are full -/
def s_lv (st : Ms) (z : Nat) : Nat → Ms
  | 0 => st
  | y + 1 => if st_sz (s_lv st z y) (6 * z + y) = 8 then s_hs (s_lv st z y) z y else s_lv st z y
/-- a sample written down -/
def s_tv (st : Ms) (z : Nat) (v : Int32) : Ms := sM (nI 0) (st_many st) (st_now st) (st_nm st) (st_ho st) (va_up (st_n st) z (st_n st z + 1)) (va_up (st_V st) (120 * z + st_n st z) v) (st_bd st) (va_up (st_T st) (120 * z + st_n st z) (st_now st)) (st_sk st) (st_sz st) (st_hv st) (st_ha st) (st_li st) (st_wa st) (st_on st) (st_si st)
abbrev z_hg (st : Ms) (z : Nat) (v : Int32) : Prop := st_ha st z = nI 1 ∧ st_li st z < v
/-- the alert sees a value -/
def s_se (st : Ms) (z : Nat) (v : Int32) : Ms := sM (st_thr st) (st_many st) (st_now st) (st_nm st) (st_ho st) (st_n st) (st_V st) (st_bd st) (st_T st) (st_sk st) (st_sz st) (st_hv st) (st_ha st) (st_li st) (st_wa st) (va_up (st_on st) z (if z_hg st z v then nI 1 else nI 0)) (if z_hg st z v ∧ st_on st z = nI 0 then va_up (st_si st) z (st_now st) else st_si st)
def s_add (st : Ms) (z : Nat) (v : Int32) : Ms := s_se (s_lv (s_ho (s_tv st z v) z 0 v) z 6) z v
def s_al (st : Ms) (z : Nat) (a w : Int32) : Ms := sM (nI 0) (st_many st) (st_now st) (st_nm st) (st_ho st) (st_n st) (st_V st) (st_bd st) (st_T st) (st_sk st) (st_sz st) (st_hv st) (va_up (st_ha st) z (nI 1)) (va_up (st_li st) z a) (va_up (st_wa st) z w) (va_up (st_on st) z (if 0 < st_n st z ∧ a < z_la st z then nI 1 else nI 0)) (va_up (st_si st) z (st_now st))
def s_ra (st : Ms) (z : Nat) : Ms := sM (nI 0) (st_many st) (st_now st) (st_nm st) (st_ho st) (st_n st) (st_V st) (st_bd st) (st_T st) (st_sk st) (st_sz st) (st_hv st) (va_up (st_ha st) z (nI 0)) (st_li st) (st_wa st) (va_up (st_on st) z (nI 0)) (st_si st)
theorem s_ho_thr (st : Ms) (z l : Nat) (v : Int32) : st_thr (s_ho st z l v) = st_thr st := rfl
theorem s_ho_many (st : Ms) (z l : Nat) (v : Int32) : st_many (s_ho st z l v) = st_many st := rfl
theorem s_ho_now (st : Ms) (z l : Nat) (v : Int32) : st_now (s_ho st z l v) = st_now st := rfl
theorem s_ho_nm (st : Ms) (z l : Nat) (v : Int32) : st_nm (s_ho st z l v) = st_nm st := rfl
theorem s_ho_ho (st : Ms) (z l : Nat) (v : Int32) : st_ho (s_ho st z l v) = st_ho st := rfl
theorem s_ho_n (st : Ms) (z l : Nat) (v : Int32) : st_n (s_ho st z l v) = st_n st := rfl
theorem s_ho_V (st : Ms) (z l : Nat) (v : Int32) : st_V (s_ho st z l v) = st_V st := rfl
theorem s_ho_bd (st : Ms) (z l : Nat) (v : Int32) : st_bd (s_ho st z l v) = st_bd st := rfl
theorem s_ho_T (st : Ms) (z l : Nat) (v : Int32) : st_T (s_ho st z l v) = st_T st := rfl
theorem s_ho_sk (st : Ms) (z l : Nat) (v : Int32) : st_sk (s_ho st z l v) = va_up (st_sk st) (8 * (6 * z + l) + st_sz st (6 * z + l)) v := rfl
theorem s_ho_sz (st : Ms) (z l : Nat) (v : Int32) : st_sz (s_ho st z l v) = va_up (st_sz st) (6 * z + l) (st_sz st (6 * z + l) + 1) := rfl
theorem s_ho_hv (st : Ms) (z l : Nat) (v : Int32) : st_hv (s_ho st z l v) = st_hv st := rfl
theorem s_ho_ha (st : Ms) (z l : Nat) (v : Int32) : st_ha (s_ho st z l v) = st_ha st := rfl
theorem s_ho_li (st : Ms) (z l : Nat) (v : Int32) : st_li (s_ho st z l v) = st_li st := rfl
theorem s_ho_wa (st : Ms) (z l : Nat) (v : Int32) : st_wa (s_ho st z l v) = st_wa st := rfl
theorem s_ho_on (st : Ms) (z l : Nat) (v : Int32) : st_on (s_ho st z l v) = st_on st := rfl
theorem s_ho_si (st : Ms) (z l : Nat) (v : Int32) : st_si (s_ho st z l v) = st_si st := rfl
theorem s_sk_thr (st : Ms) (x : Nat → Int32) : st_thr (s_sk st x) = st_thr st := rfl
theorem s_sk_many (st : Ms) (x : Nat → Int32) : st_many (s_sk st x) = st_many st := rfl
theorem s_sk_now (st : Ms) (x : Nat → Int32) : st_now (s_sk st x) = st_now st := rfl
theorem s_sk_nm (st : Ms) (x : Nat → Int32) : st_nm (s_sk st x) = st_nm st := rfl
theorem s_sk_ho (st : Ms) (x : Nat → Int32) : st_ho (s_sk st x) = st_ho st := rfl
theorem s_sk_n (st : Ms) (x : Nat → Int32) : st_n (s_sk st x) = st_n st := rfl
theorem s_sk_V (st : Ms) (x : Nat → Int32) : st_V (s_sk st x) = st_V st := rfl
theorem s_sk_bd (st : Ms) (x : Nat → Int32) : st_bd (s_sk st x) = st_bd st := rfl
theorem s_sk_T (st : Ms) (x : Nat → Int32) : st_T (s_sk st x) = st_T st := rfl
theorem s_sk_sk (st : Ms) (x : Nat → Int32) : st_sk (s_sk st x) = x := rfl
theorem s_sk_sz (st : Ms) (x : Nat → Int32) : st_sz (s_sk st x) = st_sz st := rfl
theorem s_sk_hv (st : Ms) (x : Nat → Int32) : st_hv (s_sk st x) = st_hv st := rfl
theorem s_sk_ha (st : Ms) (x : Nat → Int32) : st_ha (s_sk st x) = st_ha st := rfl
theorem s_sk_li (st : Ms) (x : Nat → Int32) : st_li (s_sk st x) = st_li st := rfl
theorem s_sk_wa (st : Ms) (x : Nat → Int32) : st_wa (s_sk st x) = st_wa st := rfl
theorem s_sk_on (st : Ms) (x : Nat → Int32) : st_on (s_sk st x) = st_on st := rfl
theorem s_sk_si (st : Ms) (x : Nat → Int32) : st_si (s_sk st x) = st_si st := rfl
theorem s_h2_thr (st : Ms) (z l : Nat) : st_thr (s_h2 st z l) = st_thr st := rfl
theorem s_h2_many (st : Ms) (z l : Nat) : st_many (s_h2 st z l) = st_many st := rfl
theorem s_h2_now (st : Ms) (z l : Nat) : st_now (s_h2 st z l) = st_now st := rfl
theorem s_h2_nm (st : Ms) (z l : Nat) : st_nm (s_h2 st z l) = st_nm st := rfl
theorem s_h2_ho (st : Ms) (z l : Nat) : st_ho (s_h2 st z l) = st_ho st := rfl
theorem s_h2_n (st : Ms) (z l : Nat) : st_n (s_h2 st z l) = st_n st := rfl
theorem s_h2_V (st : Ms) (z l : Nat) : st_V (s_h2 st z l) = st_V st := rfl
theorem s_h2_bd (st : Ms) (z l : Nat) : st_bd (s_h2 st z l) = va_up (st_bd st) z (st_bd st z + 2 ^ l) := rfl
theorem s_h2_T (st : Ms) (z l : Nat) : st_T (s_h2 st z l) = st_T st := rfl
theorem s_h2_sk (st : Ms) (z l : Nat) : st_sk (s_h2 st z l) = st_sk st := rfl
theorem s_h2_sz (st : Ms) (z l : Nat) : st_sz (s_h2 st z l) = va_up (st_sz st) (6 * z + l) 0 := rfl
theorem s_h2_hv (st : Ms) (z l : Nat) : st_hv (s_h2 st z l) = va_up (st_hv st) (6 * z + l) (st_hv st (6 * z + l) + 1) := rfl
theorem s_h2_ha (st : Ms) (z l : Nat) : st_ha (s_h2 st z l) = st_ha st := rfl
theorem s_h2_li (st : Ms) (z l : Nat) : st_li (s_h2 st z l) = st_li st := rfl
theorem s_h2_wa (st : Ms) (z l : Nat) : st_wa (s_h2 st z l) = st_wa st := rfl
theorem s_h2_on (st : Ms) (z l : Nat) : st_on (s_h2 st z l) = st_on st := rfl
theorem s_h2_si (st : Ms) (z l : Nat) : st_si (s_h2 st z l) = st_si st := rfl
theorem s_tv_thr (st : Ms) (z : Nat) (v : Int32) : st_thr (s_tv st z v) = nI 0 := rfl
theorem s_tv_many (st : Ms) (z : Nat) (v : Int32) : st_many (s_tv st z v) = st_many st := rfl
theorem s_tv_now (st : Ms) (z : Nat) (v : Int32) : st_now (s_tv st z v) = st_now st := rfl
theorem s_tv_nm (st : Ms) (z : Nat) (v : Int32) : st_nm (s_tv st z v) = st_nm st := rfl
theorem s_tv_ho (st : Ms) (z : Nat) (v : Int32) : st_ho (s_tv st z v) = st_ho st := rfl
theorem s_tv_n (st : Ms) (z : Nat) (v : Int32) : st_n (s_tv st z v) = va_up (st_n st) z (st_n st z + 1) := rfl
theorem s_tv_V (st : Ms) (z : Nat) (v : Int32) : st_V (s_tv st z v) = va_up (st_V st) (120 * z + st_n st z) v := rfl
theorem s_tv_bd (st : Ms) (z : Nat) (v : Int32) : st_bd (s_tv st z v) = st_bd st := rfl
theorem s_tv_T (st : Ms) (z : Nat) (v : Int32) : st_T (s_tv st z v) = va_up (st_T st) (120 * z + st_n st z) (st_now st) := rfl
theorem s_tv_sk (st : Ms) (z : Nat) (v : Int32) : st_sk (s_tv st z v) = st_sk st := rfl
theorem s_tv_sz (st : Ms) (z : Nat) (v : Int32) : st_sz (s_tv st z v) = st_sz st := rfl
theorem s_tv_hv (st : Ms) (z : Nat) (v : Int32) : st_hv (s_tv st z v) = st_hv st := rfl
theorem s_tv_ha (st : Ms) (z : Nat) (v : Int32) : st_ha (s_tv st z v) = st_ha st := rfl
theorem s_tv_li (st : Ms) (z : Nat) (v : Int32) : st_li (s_tv st z v) = st_li st := rfl
theorem s_tv_wa (st : Ms) (z : Nat) (v : Int32) : st_wa (s_tv st z v) = st_wa st := rfl
theorem s_tv_on (st : Ms) (z : Nat) (v : Int32) : st_on (s_tv st z v) = st_on st := rfl
theorem s_tv_si (st : Ms) (z : Nat) (v : Int32) : st_si (s_tv st z v) = st_si st := rfl
theorem s_se_thr (st : Ms) (z : Nat) (v : Int32) : st_thr (s_se st z v) = st_thr st := rfl
theorem s_se_many (st : Ms) (z : Nat) (v : Int32) : st_many (s_se st z v) = st_many st := rfl
theorem s_se_now (st : Ms) (z : Nat) (v : Int32) : st_now (s_se st z v) = st_now st := rfl
theorem s_se_nm (st : Ms) (z : Nat) (v : Int32) : st_nm (s_se st z v) = st_nm st := rfl
theorem s_se_ho (st : Ms) (z : Nat) (v : Int32) : st_ho (s_se st z v) = st_ho st := rfl
theorem s_se_n (st : Ms) (z : Nat) (v : Int32) : st_n (s_se st z v) = st_n st := rfl
theorem s_se_V (st : Ms) (z : Nat) (v : Int32) : st_V (s_se st z v) = st_V st := rfl
theorem s_se_bd (st : Ms) (z : Nat) (v : Int32) : st_bd (s_se st z v) = st_bd st := rfl
theorem s_se_T (st : Ms) (z : Nat) (v : Int32) : st_T (s_se st z v) = st_T st := rfl
theorem s_se_sk (st : Ms) (z : Nat) (v : Int32) : st_sk (s_se st z v) = st_sk st := rfl
theorem s_se_sz (st : Ms) (z : Nat) (v : Int32) : st_sz (s_se st z v) = st_sz st := rfl
theorem s_se_hv (st : Ms) (z : Nat) (v : Int32) : st_hv (s_se st z v) = st_hv st := rfl
theorem s_se_ha (st : Ms) (z : Nat) (v : Int32) : st_ha (s_se st z v) = st_ha st := rfl
theorem s_se_li (st : Ms) (z : Nat) (v : Int32) : st_li (s_se st z v) = st_li st := rfl
theorem s_se_wa (st : Ms) (z : Nat) (v : Int32) : st_wa (s_se st z v) = st_wa st := rfl
theorem s_se_on (st : Ms) (z : Nat) (v : Int32) : st_on (s_se st z v) = va_up (st_on st) z (if z_hg st z v then nI 1 else nI 0) := rfl
theorem s_se_si (st : Ms) (z : Nat) (v : Int32) : st_si (s_se st z v) = if z_hg st z v ∧ st_on st z = nI 0 then va_up (st_si st) z (st_now st) else st_si st := rfl
theorem s_al_thr (st : Ms) (z : Nat) (a w : Int32) : st_thr (s_al st z a w) = nI 0 := rfl
theorem s_al_many (st : Ms) (z : Nat) (a w : Int32) : st_many (s_al st z a w) = st_many st := rfl
theorem s_al_now (st : Ms) (z : Nat) (a w : Int32) : st_now (s_al st z a w) = st_now st := rfl
theorem s_al_nm (st : Ms) (z : Nat) (a w : Int32) : st_nm (s_al st z a w) = st_nm st := rfl
theorem s_al_ho (st : Ms) (z : Nat) (a w : Int32) : st_ho (s_al st z a w) = st_ho st := rfl
theorem s_al_n (st : Ms) (z : Nat) (a w : Int32) : st_n (s_al st z a w) = st_n st := rfl
theorem s_al_V (st : Ms) (z : Nat) (a w : Int32) : st_V (s_al st z a w) = st_V st := rfl
theorem s_al_bd (st : Ms) (z : Nat) (a w : Int32) : st_bd (s_al st z a w) = st_bd st := rfl
theorem s_al_T (st : Ms) (z : Nat) (a w : Int32) : st_T (s_al st z a w) = st_T st := rfl
theorem s_al_sk (st : Ms) (z : Nat) (a w : Int32) : st_sk (s_al st z a w) = st_sk st := rfl
theorem s_al_sz (st : Ms) (z : Nat) (a w : Int32) : st_sz (s_al st z a w) = st_sz st := rfl
theorem s_al_hv (st : Ms) (z : Nat) (a w : Int32) : st_hv (s_al st z a w) = st_hv st := rfl
theorem s_al_ha (st : Ms) (z : Nat) (a w : Int32) : st_ha (s_al st z a w) = va_up (st_ha st) z (nI 1) := rfl
theorem s_al_li (st : Ms) (z : Nat) (a w : Int32) : st_li (s_al st z a w) = va_up (st_li st) z a := rfl
theorem s_al_wa (st : Ms) (z : Nat) (a w : Int32) : st_wa (s_al st z a w) = va_up (st_wa st) z w := rfl
theorem s_al_on (st : Ms) (z : Nat) (a w : Int32) : st_on (s_al st z a w) = va_up (st_on st) z (if 0 < st_n st z ∧ a < z_la st z then nI 1 else nI 0) := rfl
theorem s_al_si (st : Ms) (z : Nat) (a w : Int32) : st_si (s_al st z a w) = va_up (st_si st) z (st_now st) := rfl
theorem s_ra_thr (st : Ms) (z : Nat) : st_thr (s_ra st z) = nI 0 := rfl
theorem s_ra_many (st : Ms) (z : Nat) : st_many (s_ra st z) = st_many st := rfl
theorem s_ra_now (st : Ms) (z : Nat) : st_now (s_ra st z) = st_now st := rfl
theorem s_ra_nm (st : Ms) (z : Nat) : st_nm (s_ra st z) = st_nm st := rfl
theorem s_ra_ho (st : Ms) (z : Nat) : st_ho (s_ra st z) = st_ho st := rfl
theorem s_ra_n (st : Ms) (z : Nat) : st_n (s_ra st z) = st_n st := rfl
theorem s_ra_V (st : Ms) (z : Nat) : st_V (s_ra st z) = st_V st := rfl
theorem s_ra_bd (st : Ms) (z : Nat) : st_bd (s_ra st z) = st_bd st := rfl
theorem s_ra_T (st : Ms) (z : Nat) : st_T (s_ra st z) = st_T st := rfl
theorem s_ra_sk (st : Ms) (z : Nat) : st_sk (s_ra st z) = st_sk st := rfl
theorem s_ra_sz (st : Ms) (z : Nat) : st_sz (s_ra st z) = st_sz st := rfl
theorem s_ra_hv (st : Ms) (z : Nat) : st_hv (s_ra st z) = st_hv st := rfl
theorem s_ra_ha (st : Ms) (z : Nat) : st_ha (s_ra st z) = va_up (st_ha st) z (nI 0) := rfl
theorem s_ra_li (st : Ms) (z : Nat) : st_li (s_ra st z) = st_li st := rfl
theorem s_ra_wa (st : Ms) (z : Nat) : st_wa (s_ra st z) = st_wa st := rfl
theorem s_ra_on (st : Ms) (z : Nat) : st_on (s_ra st z) = va_up (st_on st) z (nI 0) := rfl
theorem s_ra_si (st : Ms) (z : Nat) : st_si (s_ra st z) = st_si st := rfl
theorem s_pk_thr (st : Ms) (z l i : Nat) : ∀ t, st_thr (s_pk st z l i t) = st_thr st
  | 0 => rfl
  | t + 1 => (s_ho_thr _ _ _ _).trans (s_pk_thr st z l i t)
theorem s_pk_many (st : Ms) (z l i : Nat) : ∀ t, st_many (s_pk st z l i t) = st_many st
  | 0 => rfl
  | t + 1 => (s_ho_many _ _ _ _).trans (s_pk_many st z l i t)
theorem s_pk_now (st : Ms) (z l i : Nat) : ∀ t, st_now (s_pk st z l i t) = st_now st
  | 0 => rfl
  | t + 1 => (s_ho_now _ _ _ _).trans (s_pk_now st z l i t)
theorem s_pk_nm (st : Ms) (z l i : Nat) : ∀ t, st_nm (s_pk st z l i t) = st_nm st
  | 0 => rfl
  | t + 1 => (s_ho_nm _ _ _ _).trans (s_pk_nm st z l i t)
theorem s_pk_ho (st : Ms) (z l i : Nat) : ∀ t, st_ho (s_pk st z l i t) = st_ho st
  | 0 => rfl
  | t + 1 => (s_ho_ho _ _ _ _).trans (s_pk_ho st z l i t)
theorem s_pk_n (st : Ms) (z l i : Nat) : ∀ t, st_n (s_pk st z l i t) = st_n st
  | 0 => rfl
  | t + 1 => (s_ho_n _ _ _ _).trans (s_pk_n st z l i t)
theorem s_pk_V (st : Ms) (z l i : Nat) : ∀ t, st_V (s_pk st z l i t) = st_V st
  | 0 => rfl
  | t + 1 => (s_ho_V _ _ _ _).trans (s_pk_V st z l i t)
theorem s_pk_bd (st : Ms) (z l i : Nat) : ∀ t, st_bd (s_pk st z l i t) = st_bd st
  | 0 => rfl
  | t + 1 => (s_ho_bd _ _ _ _).trans (s_pk_bd st z l i t)
theorem s_pk_T (st : Ms) (z l i : Nat) : ∀ t, st_T (s_pk st z l i t) = st_T st
  | 0 => rfl
  | t + 1 => (s_ho_T _ _ _ _).trans (s_pk_T st z l i t)
theorem s_pk_hv (st : Ms) (z l i : Nat) : ∀ t, st_hv (s_pk st z l i t) = st_hv st
  | 0 => rfl
  | t + 1 => (s_ho_hv _ _ _ _).trans (s_pk_hv st z l i t)
theorem s_pk_ha (st : Ms) (z l i : Nat) : ∀ t, st_ha (s_pk st z l i t) = st_ha st
  | 0 => rfl
  | t + 1 => (s_ho_ha _ _ _ _).trans (s_pk_ha st z l i t)
theorem s_pk_li (st : Ms) (z l i : Nat) : ∀ t, st_li (s_pk st z l i t) = st_li st
  | 0 => rfl
  | t + 1 => (s_ho_li _ _ _ _).trans (s_pk_li st z l i t)
theorem s_pk_wa (st : Ms) (z l i : Nat) : ∀ t, st_wa (s_pk st z l i t) = st_wa st
  | 0 => rfl
  | t + 1 => (s_ho_wa _ _ _ _).trans (s_pk_wa st z l i t)
theorem s_pk_on (st : Ms) (z l i : Nat) : ∀ t, st_on (s_pk st z l i t) = st_on st
  | 0 => rfl
  | t + 1 => (s_ho_on _ _ _ _).trans (s_pk_on st z l i t)
theorem s_pk_si (st : Ms) (z l i : Nat) : ∀ t, st_si (s_pk st z l i t) = st_si st
  | 0 => rfl
  | t + 1 => (s_ho_si _ _ _ _).trans (s_pk_si st z l i t)
theorem s_pk_sz (st : Ms) (z l i : Nat) : ∀ t, st_sz (s_pk st z l i t) = va_up (st_sz st) (6 * z + (l + 1)) (st_sz st (6 * z + (l + 1)) + t)
  | 0 => by funext j; by_cases e : j = 6 * z + (l + 1); (· subst e; exact (va_up_self _ _ _).symm); (· exact (va_up_ne _ _ e).symm)
  | t + 1 => by
    rw [s_pk, s_ho_sz, s_pk_sz st z l i t]
    funext j
    by_cases e : j = 6 * z + (l + 1)
    · subst e; rw [va_up_self, va_up_self, va_up_self]; omega
    · rw [va_up_ne _ _ e, va_up_ne _ _ e, va_up_ne _ _ e]
theorem s_hs_thr (st : Ms) (z l : Nat) : st_thr (s_hs st z l) = st_thr st := by unfold s_hs; rw [s_h2_thr, s_pk_thr, s_sk_thr]
theorem s_hs_many (st : Ms) (z l : Nat) : st_many (s_hs st z l) = st_many st := by unfold s_hs; rw [s_h2_many, s_pk_many, s_sk_many]
theorem s_hs_now (st : Ms) (z l : Nat) : st_now (s_hs st z l) = st_now st := by unfold s_hs; rw [s_h2_now, s_pk_now, s_sk_now]
theorem s_hs_nm (st : Ms) (z l : Nat) : st_nm (s_hs st z l) = st_nm st := by unfold s_hs; rw [s_h2_nm, s_pk_nm, s_sk_nm]
theorem s_hs_ho (st : Ms) (z l : Nat) : st_ho (s_hs st z l) = st_ho st := by unfold s_hs; rw [s_h2_ho, s_pk_ho, s_sk_ho]
theorem s_hs_n (st : Ms) (z l : Nat) : st_n (s_hs st z l) = st_n st := by unfold s_hs; rw [s_h2_n, s_pk_n, s_sk_n]
theorem s_hs_V (st : Ms) (z l : Nat) : st_V (s_hs st z l) = st_V st := by unfold s_hs; rw [s_h2_V, s_pk_V, s_sk_V]
theorem s_hs_T (st : Ms) (z l : Nat) : st_T (s_hs st z l) = st_T st := by unfold s_hs; rw [s_h2_T, s_pk_T, s_sk_T]
theorem s_hs_ha (st : Ms) (z l : Nat) : st_ha (s_hs st z l) = st_ha st := by unfold s_hs; rw [s_h2_ha, s_pk_ha, s_sk_ha]
theorem s_hs_li (st : Ms) (z l : Nat) : st_li (s_hs st z l) = st_li st := by unfold s_hs; rw [s_h2_li, s_pk_li, s_sk_li]
theorem s_hs_wa (st : Ms) (z l : Nat) : st_wa (s_hs st z l) = st_wa st := by unfold s_hs; rw [s_h2_wa, s_pk_wa, s_sk_wa]
theorem s_hs_on (st : Ms) (z l : Nat) : st_on (s_hs st z l) = st_on st := by unfold s_hs; rw [s_h2_on, s_pk_on, s_sk_on]
theorem s_hs_si (st : Ms) (z l : Nat) : st_si (s_hs st z l) = st_si st := by unfold s_hs; rw [s_h2_si, s_pk_si, s_sk_si]
theorem s_hs_sz (st : Ms) (z l : Nat) : st_sz (s_hs st z l) = va_up (va_up (st_sz st) (6 * z + (l + 1)) (st_sz st (6 * z + (l + 1)) + 4)) (6 * z + l) 0 := by unfold s_hs; rw [s_h2_sz, s_pk_sz, s_sk_sz]
theorem s_hs_hv (st : Ms) (z l : Nat) : st_hv (s_hs st z l) = va_up (st_hv st) (6 * z + l) (st_hv st (6 * z + l) + 1) := by unfold s_hs; rw [s_h2_hv, s_pk_hv, s_sk_hv]
theorem s_hs_bd (st : Ms) (z l : Nat) : st_bd (s_hs st z l) = va_up (st_bd st) z (st_bd st z + 2 ^ l) := by unfold s_hs; rw [s_h2_bd, s_pk_bd, s_sk_bd]
theorem s_lv_thr (st : Ms) (z : Nat) : ∀ y, st_thr (s_lv st z y) = st_thr st
  | 0 => rfl
  | y + 1 => by rw [s_lv]; split; (· rw [s_hs_thr, s_lv_thr st z y]); (· exact s_lv_thr st z y)
theorem s_lv_many (st : Ms) (z : Nat) : ∀ y, st_many (s_lv st z y) = st_many st
  | 0 => rfl
  | y + 1 => by rw [s_lv]; split; (· rw [s_hs_many, s_lv_many st z y]); (· exact s_lv_many st z y)
theorem s_lv_now (st : Ms) (z : Nat) : ∀ y, st_now (s_lv st z y) = st_now st
  | 0 => rfl
  | y + 1 => by rw [s_lv]; split; (· rw [s_hs_now, s_lv_now st z y]); (· exact s_lv_now st z y)
theorem s_lv_nm (st : Ms) (z : Nat) : ∀ y, st_nm (s_lv st z y) = st_nm st
  | 0 => rfl
  | y + 1 => by rw [s_lv]; split; (· rw [s_hs_nm, s_lv_nm st z y]); (· exact s_lv_nm st z y)
theorem s_lv_ho (st : Ms) (z : Nat) : ∀ y, st_ho (s_lv st z y) = st_ho st
  | 0 => rfl
  | y + 1 => by rw [s_lv]; split; (· rw [s_hs_ho, s_lv_ho st z y]); (· exact s_lv_ho st z y)
theorem s_lv_n (st : Ms) (z : Nat) : ∀ y, st_n (s_lv st z y) = st_n st
  | 0 => rfl
  | y + 1 => by rw [s_lv]; split; (· rw [s_hs_n, s_lv_n st z y]); (· exact s_lv_n st z y)
theorem s_lv_V (st : Ms) (z : Nat) : ∀ y, st_V (s_lv st z y) = st_V st
  | 0 => rfl
  | y + 1 => by rw [s_lv]; split; (· rw [s_hs_V, s_lv_V st z y]); (· exact s_lv_V st z y)
theorem s_lv_T (st : Ms) (z : Nat) : ∀ y, st_T (s_lv st z y) = st_T st
  | 0 => rfl
  | y + 1 => by rw [s_lv]; split; (· rw [s_hs_T, s_lv_T st z y]); (· exact s_lv_T st z y)
theorem s_lv_ha (st : Ms) (z : Nat) : ∀ y, st_ha (s_lv st z y) = st_ha st
  | 0 => rfl
  | y + 1 => by rw [s_lv]; split; (· rw [s_hs_ha, s_lv_ha st z y]); (· exact s_lv_ha st z y)
theorem s_lv_li (st : Ms) (z : Nat) : ∀ y, st_li (s_lv st z y) = st_li st
  | 0 => rfl
  | y + 1 => by rw [s_lv]; split; (· rw [s_hs_li, s_lv_li st z y]); (· exact s_lv_li st z y)
theorem s_lv_wa (st : Ms) (z : Nat) : ∀ y, st_wa (s_lv st z y) = st_wa st
  | 0 => rfl
  | y + 1 => by rw [s_lv]; split; (· rw [s_hs_wa, s_lv_wa st z y]); (· exact s_lv_wa st z y)
theorem s_lv_on (st : Ms) (z : Nat) : ∀ y, st_on (s_lv st z y) = st_on st
  | 0 => rfl
  | y + 1 => by rw [s_lv]; split; (· rw [s_hs_on, s_lv_on st z y]); (· exact s_lv_on st z y)
theorem s_lv_si (st : Ms) (z : Nat) : ∀ y, st_si (s_lv st z y) = st_si st
  | 0 => rfl
  | y + 1 => by rw [s_lv]; split; (· rw [s_hs_si, s_lv_si st z y]); (· exact s_lv_si st z y)
theorem Mok_al {st : Ms} (hk : Mok st) (z : Nat) (a d : Int32) : Mok (s_al st z a d) := by
  unfold Mok z_z
  rw [s_al_many, s_al_now, s_al_n, s_al_T, s_al_sz, s_al_si, s_al_bd, s_al_hv]
  refine ⟨hk.1, hk.2.1, fun y hy => ?_⟩
  obtain ⟨h1, h2, h3, h4, h5, h6⟩ := hk.2.2 y hy
  refine ⟨h1, h2, h3, ?_, h5, h6⟩
  by_cases e : y = z
  · rw [e, va_up_self]; exact Nat.le_refl _
  · rw [va_up_ne _ _ e]; exact h4
