/-! the class's numbers in the reference's words -/
theorem tg_in {n d : Nat} (hn : 0 < n) (h1 : 1 ≤ d) (h2 : d ≤ 100) : 1 ≤ (d * n + 99) / 100 ∧ (d * n + 99) / 100 ≤ n := by
  have k1 : d * n ≤ 100 * n := Nat.mul_le_mul_right n h2
  have k2 : 0 < d * n := Nat.mul_pos (by omega) hn
  omega
section
variable {st : Ms} {k : Nat} {T : Nat → Nat} {U : Nat → Int32} {F : Nat → Nat → Int32} {al : Xa}
theorem Iv.z (hk : Iv st) (h : k < st_many st) {y : Nat} (hy : y < 6) : st_sz st (6 * k + y) = SZ (st_n st k) y := ((hk.2 k (by have := hk.1.1; omega)).2.2.1 y hy).1
theorem Iv.b (hk : Iv st) (h : k < st_many st) : st_bd st k = BD (st_n st k) := (hk.2 k (by have := hk.1.1; omega)).2.1
theorem std_s (st : Ms) (z : Nat) (x : Int32) (l : Nat) : z_sd st z x l = 2 ^ l * ctl (z_k st z l) x (z_z st z l) := by
  unfold z_sd
  exact k_row (z_k st z l) x (2 ^ l) (z_z st z l)
theorem std_su (st : Ms) (z : Nat) (x : Int32) (m : Nat) : z_su (z_sd st z x) m = k_wt (z_k st z) (z_z st z) x m := by
  induction m with
  | zero => rw [z_su, k_wt]
  | succ m ih => rw [z_su, k_wt_s, ih, std_s]
theorem std_wt (hk : Iv st) (h : k < st_many st) (hF : ∀ y : Nat, y < 5 → ∀ i : Nat, i < SZ (st_n st k) y → F y i = st_sk st (8 * (6 * k + y) + i)) (x : Int32) : k_wt F (SZ (st_n st k)) x 5 = z_std st k x := by
  have e5 : z_z st k 5 = 0 := (hk.z h (by decide)).trans (SZ_5 _ 5 (by decide))
  have e6 : k_wt (z_k st k) (z_z st k) x (5 + 1) = k_wt (z_k st k) (z_z st k) x 5 := by rw [k_wt_s (z_k st k) (z_z st k) x 5, e5, ctl_0, Nat.mul_zero, Nat.add_zero]
  show _ = z_su (z_sd st k x) (5 + 1)
  rw [std_su, e6]
  have ez : ∀ y, y < 5 → z_z st k y = SZ (st_n st k) y := fun y hy => hk.z h (by omega)
  have g : ∀ m, m ≤ 5 → k_wt F (SZ (st_n st k)) x m = k_wt (z_k st k) (z_z st k) x m := by
    intro m
    induction m with
    | zero => intro _; rw [k_wt, k_wt]
    | succ m ih =>
      intro hm
      rw [k_wt_s, k_wt_s, ih (by omega), ez m (by omega), ctl_c x _ (fun i hi => hF m (by omega) i hi)]
  exact g 5 (Nat.le_refl 5)
theorem lo_sq (hk : Iv st) (h : k < st_many st) (hi : Ri st k T U F al) {d : Nat} (hn : 0 < st_n st k) (h1 : 1 ≤ d) (h2 : d ≤ 100) : k_lo F (SZ (st_n st k)) ((d * st_n st k + 99) / 100) 5 = z_sq st k d := by
  obtain ⟨hT, hU, hUr, hRw, hEr, hFs, hal⟩ := hi
  obtain ⟨t1, t2⟩ := tg_in hn h1 h2
  have hn9 := hk.n h
  have et : z_tg st k d = (d * st_n st k + 99) / 100 := by unfold z_tg; rw [Nat.mul_comm]
  obtain ⟨t, ht⟩ : ∃ t, t = (d * st_n st k + 99) / 100 := ⟨_, rfl⟩
  rw [← ht] at t1 t2 et ⊢
  have e5 : z_z st k 5 = 0 := (hk.z h (by decide)).trans (SZ_5 _ 5 (by decide))
  have ez : ∀ y, y < 5 → SZ (st_n st k) y = z_z st k y := fun y hy => (hk.z h (by omega)).symm
  have e : z_sq st k d = gqo (fun v => k_wt F (SZ (st_n st k)) v 5) F (SZ (st_n st k)) t (nI 20000) 5 := by
    unfold z_sq
    rw [et, qo_g, show 6 = 5 + 1 from rfl, gqo, e5, gqi]
    exact (gqo_c 5 (fun x => std_wt hk h hFs x) ez (fun y hy i hi => hFs y hy i hi)).symm
  rw [e]
  obtain ⟨v1, v2, y, hy, i, hi, a, b⟩ := lo_ok hn9 hRw t1 t2
  obtain ⟨g1, g2, g3⟩ := gqo_ok (fun v => k_wt F (SZ (st_n st k)) v 5) F (SZ (st_n st k)) t (nI 20000) 5
  have l1 := g2 y hy i hi b
  rw [← a] at l1
  refine i_eq ?_ l1
  rcases g3 with g3 | ⟨y2, p, i2, q, c, e9⟩
  · exfalso
    have l2 := i_tr l1 v1.2
    rw [g3] at l2
    exact absurd ((nI_leI (by decide) (by decide)).mp l2) (by decide)
  · rw [c]
    exact v2 y2 p i2 q e9
theorem up_c (hi : Ri st k T U F al) (x : Int32) : ctl U x (st_n st k) = z_up st k x := ctl_c x _ (fun i hi9 => hi.2.1 i hi9)
theorem eq_so (hi : Ri st k T U F al) {d : Nat} (hn : 0 < st_n st k) (h1 : 1 ≤ d) (h2 : d ≤ 100) : x_so U (st_n st k) ((d * st_n st k + 99) / 100 - 1) = z_eq st k (z_tg st k d) (st_n st k) := by
  obtain ⟨t1, t2⟩ := tg_in hn h1 h2
  rw [so_eq hi.2.2.1 t1 t2, eq_g]
  unfold z_tg
  rw [Nat.mul_comm d]
  exact gqi_c _ (fun x => up_c hi x) (fun i hi9 => hi.2.1 i hi9)
/-- within: the class's words and the reference's -/
theorem wi_c (hk : Iv st) (h : k < st_many st) (hi : Ri st k T U F al) {d : Nat} (hn : 0 < st_n st k) (h1 : 1 ≤ d) (h2 : d ≤ 100) : (nI ((d * st_n st k + 99) / 100) - nI (BD (st_n st k)) ≤ nI (z_fr (fun i => ¬ x_so U (st_n st k) i ≤ k_lo F (SZ (st_n st k)) ((d * st_n st k + 99) / 100) 5) (st_n st k)) ∧ z_fr (fun i => ¬ x_so U (st_n st k) i ≤ k_lo F (SZ (st_n st k)) ((d * st_n st k + 99) / 100) 5 - nI 1) (st_n st k) < (d * st_n st k + 99) / 100 + BD (st_n st k)) ↔ z_wi st k d := by
  have hn9 := hk.n h
  have hb := BD_le _ hn9
  obtain ⟨t1, t2⟩ := tg_in hn h1 h2
  have et : z_tg st k d = (d * st_n st k + 99) / 100 := by unfold z_tg; rw [Nat.mul_comm]
  rw [x_so_fr, x_so_fr, lo_sq hk h hi hn h1 h2, up_c hi, up_c hi]
  show _ ↔ (nI (z_tg st k d) - nI (st_bd st k) ≤ nI (z_up st k (z_sq st k d)) ∧ nI (z_up st k (z_sq st k d - nI 1)) < nI (z_tg st k d + st_bd st k))
  have hu : z_up st k (z_sq st k d - nI 1) ≤ st_n st k := z_ct_le _ _
  rw [et, hk.b h, nI_ltI (by omega) (by omega)]
theorem wi_all (hk : Iv st) (h : k < st_many st) (hi : Ri st k T U F al) {d : Nat} (hn : 0 < st_n st k) (h1 : 1 ≤ d) (h2 : d ≤ 100) : nI ((d * st_n st k + 99) / 100) - nI (BD (st_n st k)) ≤ nI (z_fr (fun i => ¬ x_so U (st_n st k) i ≤ k_lo F (SZ (st_n st k)) ((d * st_n st k + 99) / 100) 5) (st_n st k)) ∧ z_fr (fun i => ¬ x_so U (st_n st k) i ≤ k_lo F (SZ (st_n st k)) ((d * st_n st k + 99) / 100) 5 - nI 1) (st_n st k) < (d * st_n st k + 99) / 100 + BD (st_n st k) := by
  obtain ⟨t1, t2⟩ := tg_in hn h1 h2
  rw [x_so_fr, x_so_fr]
  exact lo_wi (hk.n h) hi.2.2.2.1 hi.2.2.2.2.1 t1 t2
theorem held_c (hk : Iv st) (h : k < st_many st) : z_su (SZ (st_n st k)) 5 = z_held st k := by
  unfold z_held
  have e5 : z_z st k 5 = 0 := (hk.z h (by decide)).trans (SZ_5 _ 5 (by decide))
  have e6 : z_su (fun l => z_z st k l) (5 + 1) = z_su (fun l => z_z st k l) 5 := by show z_su _ 5 + z_z st k 5 = _; rw [e5, Nat.add_zero]
  refine Eq.trans ?_ e6.symm
  exact su_c 5 (fun y hy => (hk.z h (by omega)).symm)
theorem al_c {li wa on : Int32} {si : Int64} (ha : Ra st k (some (li, wa, on, si))) : (if on = 0 then 111 else if wa.toInt64 ≤ lN (st_now st) - si then 102 else 112 : Nat) = z_al st k := by
  obtain ⟨h1, h2, h3, h4, h5, h6⟩ := ha
  subst h3 h4
  unfold z_al
  show (if st_on st k = nI 0 then 111 else if (st_wa st k).toInt64 ≤ lN (st_now st) - si then 102 else 112 : Nat) = _
  by_cases q : st_on st k = nI 0
  · rw [if_pos q, if_pos q]
  · rw [if_neg q, if_neg q, h5 q]
theorem ro_l (x : Int32) : True := trivial
theorem sum_c (hi : Ri st k T U F al) (a d : Int64) : (z_rs (z_s1 T a d) U (0, lN 0, -10000) (st_n st k)).1 = z_ct (z_in st k a d) (st_n st k) ∧ (z_rs (z_s1 T a d) U (0, lN 0, -10000) (st_n st k)).2.1 = z_sm (z_in st k a d) (fun i => (z_v st k i).toInt64) (st_n st k) ∧ (¬ z_ct (z_in st k a d) (st_n st k) = 0 → (z_rs (z_s1 T a d) U (0, lN 0, -10000) (st_n st k)).2.2 = z_mx (z_in st k a d) (z_v st k) (-20000) (st_n st k)) :=
  ⟨rs_1 _ (in_c hi.1 a d), rs_2 _ (in_c hi.1 a d) hi.2.1, fun q => ((rs_3 _ (in_c hi.1 a d) hi.2.1 (fun i hi9 => by rw [← hi.2.1 i hi9]; exact hi.2.2.1 i hi9)).2 q).1⟩
theorem sum_hi (hi : Ri st k T U F al) (a d : Int64) : (z_rs (z_s3 T a d) U (0, lN 0, -10000) (st_n st k)).1 = z_ct (z_hi st k a d) (st_n st k) ∧ (¬ z_ct (z_hi st k a d) (st_n st k) = 0 → (z_rs (z_s3 T a d) U (0, lN 0, -10000) (st_n st k)).2.2 = z_mx (z_hi st k a d) (z_v st k) (-20000) (st_n st k)) :=
  ⟨rs_1 _ (hi_c hi.1 a d), fun q => ((rs_3 _ (hi_c hi.1 a d) hi.2.1 (fun i hi9 => by rw [← hi.2.1 i hi9]; exact hi.2.2.1 i hi9)).2 q).1⟩
theorem sum_lo (hi : Ri st k T U F al) (a d : Int64) : (z_rs (z_s2 T a d) U (0, lN 0, -10000) (st_n st k)).1 = z_ct (z_lo st k a d) (st_n st k) := rs_1 _ (lo_c hi.1 a d)
theorem mx_ct (hi : Ri st k T U F al) (q : Nat → Prop) [DecidablePred q] : z_mx q (z_v st k) (-20000) (st_n st k) = -20000 ↔ z_ct q (st_n st k) = 0 := mx_iff _ (fun i hi9 => by show Vr (st_V st (120 * k + i)); rw [← hi.2.1 i hi9]; exact hi.2.2.1 i hi9)
end
