/-! the tie and the bounds, kept by what changes the state -/
theorem Iv_mk {st : Ms} (h1 : st_many st ≤ 10) (h2 : st_now st < 1073741824) (hT : ∀ z : Nat, z < st_many st → ∀ i : Nat, i < st_n st z → st_T st (120 * z + i) ≤ st_now st) (hs : ∀ z : Nat, z < st_many st → st_si st z ≤ st_now st) (h3 : ∀ k : Nat, k < 10 → st_n st k ≤ 120 ∧ st_bd st k = BD (st_n st k) ∧ (∀ y : Nat, y < 6 → st_sz st (6 * k + y) = SZ (st_n st k) y ∧ st_hv st (6 * k + y) = HV (st_n st k) y) ∧ (st_many st ≤ k → st_n st k = 0 ∧ st_ha st k = nI 0 ∧ st_si st k = 0)) : Iv st := by
  refine ⟨⟨h1, h2, fun z hz => ?_⟩, h3⟩
  obtain ⟨g1, g2, g3, -⟩ := h3 z (by omega)
  refine ⟨g1, hT z hz, fun y hy => ?_, hs z hz, ?_, fun y hy => ?_⟩
  · show st_sz st (6 * z + y) ≤ 8
    rw [(g3 y hy).1]
    rcases Nat.lt_or_ge y 5 with q | q
    · exact Nat.le_of_lt (SZ_8 _ g1 y q)
    · rw [SZ_5 _ _ q]
      exact Nat.zero_le _
  · rw [g2]
    have := BD_le _ g1
    omega
  · rw [(g3 y hy).2]
    have := HV_le (st_n st z) y g1
    omega
theorem Iv.Tn {st : Ms} (hk : Iv st) {z : Nat} (h : z < st_many st) : ∀ i : Nat, i < st_n st z → st_T st (120 * z + i) ≤ st_now st := (hk.1.2.2 z h).2.1
theorem Iv.si {st : Ms} (hk : Iv st) {z : Nat} (h : z < st_many st) : st_si st z ≤ st_now st := (hk.1.2.2 z h).2.2.2.1
theorem Rx_keep {st s2 : Ms} {j : Nat} {X : Xs} (hn : st_n st j ≤ 120) (e1 : st_nm s2 j = st_nm st j) (e2 : st_ho s2 j = st_ho st j) (e3 : st_n s2 j = st_n st j) (eT : ∀ i : Nat, i < 120 → st_T s2 (120 * j + i) = st_T st (120 * j + i)) (eV : ∀ i : Nat, i < 120 → st_V s2 (120 * j + i) = st_V st (120 * j + i)) (eS : ∀ y : Nat, y < 5 → ∀ i : Nat, i < 8 → st_sk s2 (8 * (6 * j + y) + i) = st_sk st (8 * (6 * j + y) + i)) (ea : st_ha s2 j = st_ha st j) (el : st_li s2 j = st_li st j) (ew : st_wa s2 j = st_wa st j) (eo : st_on s2 j = st_on st j) (es : st_si s2 j = st_si st j) (h : Rx st j X) : Rx s2 j X := by
  obtain ⟨T, U, F, al, e, h1, h2, h3, h4, h5, h6, h7⟩ := h
  refine ⟨T, U, F, al, by rw [e1, e2, e3]; exact e, ?_⟩
  unfold Ri
  rw [e3]
  refine ⟨fun i hi => by rw [eT i (by omega)]; exact h1 i hi, fun i hi => by rw [eV i (by omega)]; exact h2 i hi, h3, h4, h5, fun y hy i hi => ?_, ?_⟩
  · rw [eS y hy i (Nat.lt_trans hi (SZ_8 _ hn y hy))]
    exact h6 y hy i hi
  · cases al with
    | none =>
      show st_ha s2 j = nI 0
      rw [ea]
      exact h7
    | some a =>
      obtain ⟨li, wa, on, si⟩ := a
      show st_ha s2 j = nI 1 ∧ li = st_li s2 j ∧ wa = st_wa s2 j ∧ on = st_on s2 j ∧ (¬ on = nI 0 → si = lN (st_si s2 j)) ∧ _
      rw [ea, el, ew, eo, es]
      exact h7
-- a sample's state, field by field
section
variable (st : Ms) (k : Nat) (w : Int32)
theorem ad_many : st_many (s_add st k w) = st_many st := by unfold s_add; rw [s_se_many, s_lv_many, s_ho_many, s_tv_many]
theorem ad_now : st_now (s_add st k w) = st_now st := by unfold s_add; rw [s_se_now, s_lv_now, s_ho_now, s_tv_now]
theorem ad_nm : st_nm (s_add st k w) = st_nm st := by unfold s_add; rw [s_se_nm, s_lv_nm, s_ho_nm, s_tv_nm]
theorem ad_ho : st_ho (s_add st k w) = st_ho st := by unfold s_add; rw [s_se_ho, s_lv_ho, s_ho_ho, s_tv_ho]
theorem ad_n : st_n (s_add st k w) = va_up (st_n st) k (st_n st k + 1) := by unfold s_add; rw [s_se_n, s_lv_n, s_ho_n, s_tv_n]
theorem ad_V : st_V (s_add st k w) = va_up (st_V st) (120 * k + st_n st k) w := by unfold s_add; rw [s_se_V, s_lv_V, s_ho_V, s_tv_V]
theorem ad_T : st_T (s_add st k w) = va_up (st_T st) (120 * k + st_n st k) (st_now st) := by unfold s_add; rw [s_se_T, s_lv_T, s_ho_T, s_tv_T]
theorem ad_ha : st_ha (s_add st k w) = st_ha st := by unfold s_add; rw [s_se_ha, s_lv_ha, s_ho_ha, s_tv_ha]
theorem ad_li : st_li (s_add st k w) = st_li st := by unfold s_add; rw [s_se_li, s_lv_li, s_ho_li, s_tv_li]
theorem ad_wa : st_wa (s_add st k w) = st_wa st := by unfold s_add; rw [s_se_wa, s_lv_wa, s_ho_wa, s_tv_wa]
theorem ad_hg : z_hg (s_lv (s_ho (s_tv st k w) k 0 w) k 6) k w ↔ z_hg st k w := by
  show (st_ha _ k = nI 1 ∧ st_li _ k < w) ↔ _
  rw [s_lv_ha, s_lv_li, s_ho_ha, s_ho_li, s_tv_ha, s_tv_li]
theorem ad_on : st_on (s_add st k w) = va_up (st_on st) k (if z_hg st k w then nI 1 else nI 0) := by
  unfold s_add
  rw [s_se_on, s_lv_on, s_ho_on, s_tv_on]
  by_cases q : z_hg st k w
  · rw [if_pos q, if_pos ((ad_hg st k w).mpr q)]
  · rw [if_neg q, if_neg (fun z => q ((ad_hg st k w).mp z))]
theorem ad_si : st_si (s_add st k w) = if z_hg st k w ∧ st_on st k = nI 0 then va_up (st_si st) k (st_now st) else st_si st := by
  unfold s_add
  rw [s_se_si, s_lv_on, s_ho_on, s_tv_on, s_lv_si, s_ho_si, s_tv_si, s_lv_now, s_ho_now, s_tv_now]
  by_cases q : z_hg st k w ∧ st_on st k = nI 0
  · rw [if_pos q, if_pos ⟨(ad_hg st k w).mpr q.1, q.2⟩]
  · rw [if_neg q, if_neg (fun z => q ⟨(ad_hg st k w).mp z.1, z.2⟩)]
end
section
variable {st : Ms} {k : Nat} {T : Nat → Nat} {U : Nat → Int32} {F : Nat → Nat → Int32} {al : Xa}
theorem add_kr (hk : Iv st) (h : k < st_many st) (hF : ∀ y : Nat, y < 5 → ∀ i : Nat, i < SZ (st_n st k) y → F y i = st_sk st (8 * (6 * k + y) + i)) (hn : st_n st k < 120) (w : Int32) : Kr (s_ho (s_tv st k w) k 0 w) k (k_put (F, SZ (st_n st k), HV (st_n st k), BD (st_n st k)) 0 w) ∧ Fo k st (s_ho (s_tv st k w) k 0 w) := by
  have h3 := hk.2 k (by have := hk.1.1; omega)
  have h0 : Kr (s_tv st k w) k (F, SZ (st_n st k), HV (st_n st k), BD (st_n st k)) := ⟨fun y hy => (h3.2.2.1 y hy).1, fun y hy i hi9 => hF y hy i hi9, fun y hy => (h3.2.2.1 y hy).2, h3.2.1⟩
  obtain ⟨g1, g2⟩ := kr_ho h0 (y := 0) (by decide) (fun j hj => Nat.le_of_lt (SZ_8 _ (by omega) j hj)) (SZ_8 _ (by omega) 0 (by decide)) w
  exact ⟨g1, (show Fo k st (s_tv st k w) from ⟨fun _ _ => ⟨rfl, rfl⟩, fun _ _ => rfl, fun _ _ => rfl⟩).tr g2⟩
theorem kr_se {s2 : Ms} {u : Ks} (h : Kr s2 k u) (w : Int32) : Kr (s_se s2 k w) k u := h
theorem fo_se {s1 s2 : Ms} (h : Fo k s1 s2) (w : Int32) : Fo k s1 (s_se s2 k w) := h
theorem add_all (hk : Iv st) (h : k < st_many st) (hF : ∀ y : Nat, y < 5 → ∀ i : Nat, i < SZ (st_n st k) y → F y i = st_sk st (8 * (6 * k + y) + i)) (hn : st_n st k < 120) (w : Int32) : Kr (s_add st k w) k (k_lv (k_put (F, SZ (st_n st k), HV (st_n st k), BD (st_n st k)) 0 w) 4) ∧ Fo k st (s_add st k w) := by
  obtain ⟨g1, g2⟩ := add_kr hk h hF hn w
  obtain ⟨k1, k2⟩ := kr_lv hn g1 4 (Nat.le_refl 4)
  rw [← (kr_6 hn g1).2] at k1 k2
  unfold s_add
  exact ⟨kr_se k1 w, g2.tr (fo_se k2 w)⟩
theorem add_ok (hk : Iv st) (h : k < st_many st) (hF : ∀ y : Nat, y < 5 → ∀ i : Nat, i < SZ (st_n st k) y → F y i = st_sk st (8 * (6 * k + y) + i)) (hn : st_n st k < 120) (w : Int32) : AddOK st k w := by
  obtain ⟨g1, g2⟩ := add_kr hk h hF hn w
  have e := lv_all (F := F) w hn
  refine ⟨by rw [hk.z h (by decide)]; exact SZ_8 _ (by omega) 0 (by decide), fun y hy => ?_⟩
  rcases Nat.lt_or_ge y 4 with q | q
  · obtain ⟨k1, k2⟩ := kr_lv hn g1 y (by omega)
    have ht := lv_Tk (F := F) w hn y q
    have e2 : (k_lv (k_put (F, SZ (st_n st k), HV (st_n st k), BD (st_n st k)) 0 w) y).2 = ns (nA (st_n st k)) y := lv_ns _ y
    have hb := nA_b (st_n st k) hn y (by omega)
    rw [k1.1 y (by omega), k1.1 (y + 1) (by omega), k1.2.2.1 y (by omega), k1.2.2.2]
    refine ⟨ht.1, fun q8 => ⟨by omega, ht.2.1 (by omega), ht.2.2, ?_⟩⟩
    rw [e2]
    omega
  · obtain ⟨k1, k2⟩ := kr_lv hn g1 4 (Nat.le_refl 4)
    have e4 : st_sz (s_lv (s_ho (s_tv st k w) k 0 w) k 4) (6 * k + 4) = SZ (st_n st k + 1) 4 := by rw [k1.1 4 (by decide), e]
    have e5 : st_sz (s_lv (s_ho (s_tv st k w) k 0 w) k 4) (6 * k + 5) = SZ (st_n st k + 1) 5 := by rw [k1.1 5 (by decide), e]
    rcases (show y = 4 ∨ y = 5 by omega) with rfl | rfl
    · rw [e4]
      have := SZ_8 (st_n st k + 1) (by omega) 4 (by decide)
      exact ⟨by omega, fun z => by omega⟩
    · rw [(kr_6 hn g1).1, e5, SZ_5 _ 5 (by decide)]
      exact ⟨by decide, fun z => absurd z (by decide)⟩
theorem Ra_add (hal : Ra st k al) (w : Int32) : Ra (s_add st k w) k (x_see al (st_now st) w) := by
  cases al with
  | none =>
    show st_ha (s_add st k w) k = nI 0
    rw [ad_ha]
    exact hal
  | some a =>
    obtain ⟨li, wa, on, si⟩ := a
    obtain ⟨h1, h2, h3, h4, h5, h6⟩ := hal
    have e1 : st_ha (s_add st k w) k = nI 1 := by rw [ad_ha]; exact h1
    have e2 : li = st_li (s_add st k w) k := by rw [ad_li]; exact h2
    have e3 : wa = st_wa (s_add st k w) k := by rw [ad_wa]; exact h3
    have e4 : st_on (s_add st k w) k = if z_hg st k w then nI 1 else nI 0 := by rw [ad_on, va_up_self]
    by_cases q : w ≤ li
    · rw [x_see_a q]
      have hg : ¬ z_hg st k w := fun z => i_len q (by rw [h2]; exact z.2)
      rw [if_neg hg] at e4
      exact ⟨e1, e2, e3, e4.symm, fun z => absurd rfl z, Or.inl rfl⟩
    · have hg : z_hg st k w := ⟨h1, by rw [← h2]; exact i_nle q⟩
      rw [if_pos hg] at e4
      by_cases r : on = 0
      · rw [x_see_b q r]
        refine ⟨e1, e2, e3, e4.symm, fun _ => ?_, Or.inr rfl⟩
        rw [ad_si, if_pos ⟨hg, h4.symm.trans r⟩, va_up_self]
      · rw [x_see_c q r]
        have e6 : on = nI 1 := h6.resolve_left r
        refine ⟨e1, e2, e3, e6.trans e4.symm, fun z => ?_, h6⟩
        rw [ad_si, if_neg (fun z9 => r (h4.trans z9.2))]
        exact h5 z
theorem Rx_add {X : Nat → Xs} (hk : Iv st) (hR : ∀ j : Nat, j < st_many st → Rx st j (X j)) (h : k < st_many st) (hi : Ri st k T U F al) (hn : st_n st k < 120) (w : Int32) (hw : Vr w) : ∀ j : Nat, j < st_many (s_add st k w) → Rx (s_add st k w) j (va_up X k (st_nm st k, st_ho st k, st_n st k + 1, va_up T (st_n st k) (st_now st), va_up U (st_n st k) w, k_lv (k_put (F, SZ (st_n st k), HV (st_n st k), BD (st_n st k)) 0 w) 4, x_see al (st_now st) w) j) := by
  intro j hj
  rw [ad_many] at hj
  obtain ⟨g1, g2⟩ := add_all hk h hi.2.2.2.2.2.1 hn w
  by_cases q : j = k
  · subst q
    rw [va_up_self]
    have e := lv_all (F := F) w hn
    have en : st_n (s_add st j w) j = st_n st j + 1 := by rw [ad_n, va_up_self]
    obtain ⟨h1, h2, h3, h4, h5, h6, h7⟩ := hi
    obtain ⟨m1, m2⟩ := lv_inv w hn h5 h4 hw 4 (Nat.le_refl 4)
    have ek : k_lv (k_put (F, SZ (st_n st j), HV (st_n st j), BD (st_n st j)) 0 w) 4 = ((k_lv (k_put (F, SZ (st_n st j), HV (st_n st j), BD (st_n st j)) 0 w) 4).1, SZ (st_n st j + 1), HV (st_n st j + 1), BD (st_n st j + 1)) := Prod.ext rfl e
    refine ⟨va_up T (st_n st j) (st_now st), va_up U (st_n st j) w, (k_lv (k_put (F, SZ (st_n st j), HV (st_n st j), BD (st_n st j)) 0 w) 4).1, x_see al (st_now st) w, ?_, ?_⟩
    · rw [en, ad_nm, ad_ho, ← ek]
    · unfold Ri
      rw [en, ← ek]
      refine ⟨fun i hi9 => ?_, fun i hi9 => ?_, fun i hi9 => ?_, m2, fun x => ?_, fun y hy i hi9 => ?_, Ra_add h7 w⟩
      · rw [ad_T]
        by_cases r : i = st_n st j
        · rw [r, va_up_self, va_up_self]
        · rw [va_up_ne _ _ r, va_up_ne _ _ (by omega)]
          exact h1 i (by omega)
      · rw [ad_V]
        by_cases r : i = st_n st j
        · rw [r, va_up_self, va_up_self]
        · rw [va_up_ne _ _ r, va_up_ne _ _ (by omega)]
          exact h2 i (by omega)
      · by_cases r : i = st_n st j
        · rw [r, va_up_self]
          exact hw
        · rw [va_up_ne _ _ r]
          exact h3 i (by omega)
      · show _ ≤ ctl (va_up U (st_n st j) w) x (st_n st j + 1) + _ ∧ ctl (va_up U (st_n st j) w) x (st_n st j + 1) ≤ _
        rw [up_ctl]
        exact m1 x
      · have ez : SZ (st_n st j + 1) y = (k_lv (k_put (F, SZ (st_n st j), HV (st_n st j), BD (st_n st j)) 0 w) 4).2.1 y := by rw [e]
        rw [ez] at hi9
        exact g1.2.1 y hy i hi9
  · rw [va_up_ne _ _ q]
    have hn9 := hk.n hj
    refine Rx_keep hn9 (by rw [ad_nm]) (by rw [ad_ho]) (by rw [ad_n, va_up_ne _ _ q]) (fun i hi9 => by rw [ad_T, va_up_ne _ _ (by omega)]) (fun i hi9 => by rw [ad_V, va_up_ne _ _ (by omega)]) (fun y hy i hi9 => g2.2.1 _ (by omega)) (by rw [ad_ha]) (by rw [ad_li]) (by rw [ad_wa]) (by rw [ad_on, va_up_ne _ _ q]) ?_ (hR j hj)
    rw [ad_si]
    split
    · rw [va_up_ne _ _ q]
    · rfl
theorem Iv_add (hk : Iv st) (h : k < st_many st) (hF : ∀ y : Nat, y < 5 → ∀ i : Nat, i < SZ (st_n st k) y → F y i = st_sk st (8 * (6 * k + y) + i)) (hn : st_n st k < 120) (w : Int32) : Iv (s_add st k w) := by
  obtain ⟨g1, g2⟩ := add_all hk h hF hn w
  have e := lv_all (F := F) w hn
  have hm := hk.1.1
  refine Iv_mk (by rw [ad_many]; exact hm) (by rw [ad_now]; exact hk.now) (fun z hz i hi9 => ?_) (fun z hz => ?_) (fun z hz => ?_)
  · rw [ad_many] at hz
    rw [ad_T, ad_now]
    rw [ad_n] at hi9
    by_cases q : 120 * z + i = 120 * k + st_n st k
    · rw [q, va_up_self]
      exact Nat.le_refl _
    · rw [va_up_ne _ _ q]
      by_cases r : z = k
      · subst r
        rw [va_up_self] at hi9
        exact hk.Tn hz i (by omega)
      · rw [va_up_ne _ _ r] at hi9
        exact hk.Tn hz i hi9
  · rw [ad_many] at hz
    rw [ad_si, ad_now]
    split
    · by_cases q : z = k
      · rw [q, va_up_self]
        exact Nat.le_refl _
      · rw [va_up_ne _ _ q]
        exact hk.si hz
    · exact hk.si hz
  · obtain ⟨h1, h2, h3, h4⟩ := hk.2 z hz
    rw [ad_n, ad_many, ad_ha]
    by_cases q : z = k
    · subst q
      rw [va_up_self]
      refine ⟨by omega, by rw [g1.2.2.2, e], fun y hy => ⟨by rw [g1.1 y hy, e], by rw [g1.2.2.1 y hy, e]⟩, fun z9 => by omega⟩
    · rw [va_up_ne _ _ q]
      have es : st_si (s_add st k w) z = st_si st z := by
        rw [ad_si]
        split
        · rw [va_up_ne _ _ q]
        · rfl
      rw [es]
      refine ⟨h1, by rw [g2.2.2 z q]; exact h2, fun y hy => ?_, h4⟩
      obtain ⟨p1, p2⟩ := g2.1 (6 * z + y) (by omega)
      rw [p1, p2]
      exact h3 y hy
end
