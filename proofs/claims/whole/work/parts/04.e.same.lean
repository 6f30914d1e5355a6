/-! what does not look at a field does not change with it -/
theorem z_bt_w {sw st : Ms} (hT : st_T sw = st_T st) (hV : st_V sw = st_V st) (z d : Nat) : ∀ j, z_bt sw z d j = z_bt st z d j
  | 0 => rfl
  | j + 1 => by
    have e1 : z_ap sw z d (8 * d + 1 + j) = z_ap st z d (8 * d + 1 + j) := by unfold z_ap z_t; rw [hT]
    have e2 : ∀ i, z_v sw z i = z_v st z i := fun i => by show st_V sw _ = st_V st _; rw [hV]
    rw [z_bt, z_bt, z_bt_w hT hV z d j, e1, e2, e2]
theorem z_bits_w {sw st : Ms} (hn : st_n sw = st_n st) (hT : st_T sw = st_T st) (hV : st_V sw = st_V st) : z_bits sw = z_bits st := by
  funext z d
  unfold z_bits
  rw [z_bt_w hT hV, hn]
theorem z_std_w {sw st : Ms} (hk : st_sk sw = st_sk st) (hz : st_sz sw = st_sz st) : z_std sw = z_std st := by
  have e : z_sd sw = z_sd st := by funext z x y; unfold z_sd z_k z_z; rw [hk, hz]
  funext z x
  unfold z_std
  rw [e]
theorem z_qi_w {sw st : Ms} (hk : st_sk sw = st_sk st) (hz : st_sz sw = st_sz st) (z t y : Nat) (x : Int32) : ∀ k, z_qi sw z t y x k = z_qi st z t y x k
  | 0 => rfl
  | k + 1 => by
    have e2 : ∀ i, z_k sw z y i = z_k st z y i := fun i => by show st_sk sw _ = st_sk st _; rw [hk]
    rw [z_qi, z_qi, z_qi_w hk hz z t y x k, z_std_w hk hz, e2]
theorem z_qo_w {sw st : Ms} (hk : st_sk sw = st_sk st) (hz : st_sz sw = st_sz st) (z t : Nat) (x : Int32) : ∀ k, z_qo sw z t x k = z_qo st z t x k
  | 0 => rfl
  | k + 1 => by
    rw [z_qo, z_qo, z_qo_w hk hz z t x k, z_qi_w hk hz, show z_z sw z k = z_z st z k from by show st_sz sw _ = st_sz st _; rw [hz]]
theorem z_sq_w {sw st : Ms} (hn : st_n sw = st_n st) (hk : st_sk sw = st_sk st) (hz : st_sz sw = st_sz st) : z_sq sw = z_sq st := by
  funext z d
  unfold z_sq z_tg
  rw [z_qo_w hk hz, hn]
theorem z_f_w {sw st : Ms} (hm : st_many sw = st_many st) (hn : st_nm sw = st_nm st) (hh : st_ho sw = st_ho st) : z_f sw = z_f st := by
  have e : ∀ a d, z_is sw a d = z_is st a d := fun a d => by funext k; show (st_nm sw k = a ∧ st_ho sw k = d) = _; rw [hn, hh]
  have g : ∀ (p p' : Nat → Prop) [i : DecidablePred p] [j : DecidablePred p'], p = p' → z_fr p = z_fr p' := by
    intro p p' i j h
    subst h
    have e : i = j := Subsingleton.elim i j
    subst e
    rfl
  funext a d
  unfold z_f
  rw [hm, g _ _ (e a d)]
theorem z_js_w {sw st : Ms} (hm : st_many sw = st_many st) (hn : st_nm sw = st_nm st) (hh : st_ho sw = st_ho st) (hc : st_n sw = st_n st) {a d : Int32} {f : Nat → Nat → Int64} : ∀ w, z_js sw a d f w = z_js st a d f w
  | 0 => rfl
  | w + 1 => by
    have e := z_f_w hm hn hh
    have e2 : z_jp sw a d w = z_jp st a d w := by unfold z_jp; rw [e, hm, hc]
    rw [z_js, z_js]
    by_cases q : z_jp sw a d w
    · rw [if_pos q, if_pos (e2 ▸ q), z_js_w hm hn hh hc w, e]
    · rw [if_neg q, if_neg (e2 ▸ q), z_js_w hm hn hh hc w]
theorem z_al_lt (st : Ms) (z : Nat) : z_al st z < 2147483648 := by
  unfold z_al
  split
  · decide
  · split <;> decide
theorem z_al_nar (st : Ms) (z : Nat) : narrow .char (.int (nI (z_al st z))) = .int (nI (z_al st z)) := by
  unfold z_al
  split
  · rfl
  · split <;> rfl
