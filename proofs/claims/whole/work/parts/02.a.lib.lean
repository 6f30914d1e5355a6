/-! THE WORLD AS A MAP: a list of addresses and what stands at each. All cells that the run makes lie from the law's start on: that set is the frame of every contract. -/
abbrev Hp : Type := List Nat × (Nat → va_E)
def hat (h : Hp) (a : Nat) (e : va_E) : Prop := a ∈ h.1 ∧ h.2 a = e
def hput (h : Hp) (a : Nat) (e : va_E) : Hp := (h.1, va_up h.2 a e)
def hnew (h : Hp) (a : Nat) (e : va_E) : Hp := (h.1 ++ [a], va_up h.2 a e)
theorem hat_put {h : Hp} {a : Nat} {e e0 : va_E} (w : hat h a e0) : hat (hput h a e) a e := ⟨w.1, va_up_self _ _ _⟩
theorem hat_put_ne {h : Hp} {a b : Nat} {e eb : va_E} (w : hat h b eb) (n : b ≠ a) : hat (hput h a e) b eb := ⟨w.1, (va_up_ne _ _ n).trans w.2⟩
theorem hat_new {h : Hp} {a : Nat} {e : va_E} : hat (hnew h a e) a e := ⟨by simp [hnew], va_up_self _ _ _⟩
theorem hat_new_ne {h : Hp} {a b : Nat} {e eb : va_E} (w : hat h b eb) (n : a ∉ h.1) : hat (hnew h a e) b eb := ⟨List.mem_append_left _ w.1, (va_up_ne _ _ (fun q => n (by rw [← q]; exact w.1))).trans w.2⟩
theorem hput_hput (h : Hp) (a : Nat) (e1 e2 : va_E) : hput (hput h a e1) a e2 = hput h a e2 := by
  unfold hput
  refine congrArg (fun f => (h.1, f)) (funext fun j => ?_)
  by_cases q : j = a <;> simp [va_up, q]
theorem hput_hnew (h : Hp) (a : Nat) (e1 e2 : va_E) : hput (hnew h a e1) a e2 = hnew h a e2 := by
  unfold hput hnew
  refine congrArg (fun f => (h.1 ++ [a], f)) (funext fun j => ?_)
  by_cases q : j = a <;> simp [va_up, q]
theorem hput_same {h : Hp} {a : Nat} {e : va_E} (w : hat h a e) : hput h a e = h := by
  unfold hput
  refine congrArg (fun f => (h.1, f)) (funext fun j => ?_)
  unfold va_up
  split
  · next q => rw [q, w.2]
  · rfl
theorem hput_comm (h : Hp) {a b : Nat} (n : a ≠ b) (e1 e2 : va_E) : hput (hput h a e1) b e2 = hput (hput h b e2) a e1 := by
  unfold hput
  refine congrArg (fun f => (h.1, f)) (funext fun j => ?_)
  unfold va_up
  by_cases q1 : j = b
  · subst q1
    simp [Ne.symm n]
  · by_cases q2 : j = a
    · subst q2
      simp [n]
    · simp [q1, q2]
theorem hat_uni {h : Hp} {a : Nat} {e1 e2 : va_E} (w1 : hat h a e1) (w2 : hat h a e2) : e1 = e2 := w1.2.symm.trans w2.2
/-- what kind of thing it is -/
def mkd (e : va_E) : Nat := match e with
  | .inr o => 10 + o.1
  | .inl a => match a.2.2 with
    | .inl _ => 0
    | .inr (.inl _) => 1
    | .inr (.inr (.inl _)) => 2
    | .inr (.inr (.inr (.inl _))) => 3
    | .inr (.inr (.inr (.inr _))) => 4
theorem hat_ne {h : Hp} {a b : Nat} {e1 e2 : va_E} (wa : hat h a e1) (wb : hat h b e2) (k : (mkd e1 == mkd e2) = false) : a ≠ b := fun q => by
  have h1 : e1 = e2 := by rw [← wa.2, ← wb.2, q]
  rw [h1] at k
  simp at k
/-- the classes; the arrays' classes: int[], long[], Block[], Series[], int[][], double[] -/
abbrev mCl : List vw_C := [(RX0, TX0, 4), (RX1, TX1, 9), (RX2, TX2, 9), (RX3, TX3, 4), (RX4, TX4, 3), (RX5, TX5, 4), (RX6, TX6, 17)]
abbrev mG : Type := va_G × (Nat → ClassId)
abbrev mTy (c : Nat → ClassId) : List (ClassId × FieldType) := [(c 0, .int), (c 1, .long), (c 2, .object "GaugeHall$Block"), (c 3, .object "GaugeHall$Series"), (c 4, .array .int), (c 5, .double)]
abbrev eI (G : mG) (n : Nat) (f : Nat → Int32) : va_E := .inl (G.2 0, n, .inl f)
abbrev eL (G : mG) (n : Nat) (f : Nat → Int64) : va_E := .inl (G.2 1, n, .inr (.inl f))
abbrev eB (G : mG) (n : Nat) (f : Nat → Option Nat) : va_E := .inl (G.2 2, n, .inr (.inr (.inr (.inr f))))
abbrev eS (G : mG) (n : Nat) (f : Nat → Option Nat) : va_E := .inl (G.2 3, n, .inr (.inr (.inr (.inr f))))
abbrev eA (G : mG) (n : Nat) (f : Nat → Option Nat) : va_E := .inl (G.2 4, n, .inr (.inr (.inr (.inr f))))
abbrev eD (G : mG) (n : Nat) (f : Nat → UInt64) : va_E := .inl (G.2 5, n, .inr (.inr (.inr (.inl f))))
abbrev eO (ci : Nat) (fs : List Value) : va_E := .inr (ci, fs)
def MW (G : mG) (B : Nat) (h : Hp) (H : Heap) : Prop := va_P G.1 mCl (va_pl h.1 h.2) H ∧ va_D (fun q => B ≤ q) (va_pl h.1 h.2)
theorem va_pl_get0 {h : Hp} {a : Nat} {e : va_E} (w : hat h a e) : ∃ k : Nat, (va_pl h.1 h.2)[k]? = some (a, e) := by
  obtain ⟨k, hk⟩ := va_pl_get (X := []) (f := h.2) w.1
  exact ⟨k, by rw [← w.2]; exact hk⟩
theorem va_pl_set0 {A : Nat → Prop} {h : Hp} {a k : Nat} {e e0 : va_E} (hD : va_D A (va_pl h.1 h.2)) (w : hat h a e0) (hk : (va_pl h.1 h.2)[k]? = some (a, e0)) : (va_pl h.1 h.2).set k (a, e) = va_pl (hput h a e).1 (hput h a e).2 := by
  have h1 := va_pl_set (X := []) (e := e) hD w.1 (by rw [w.2]; exact hk)
  exact h1
theorem va_pl_push0 {h : Hp} {a : Nat} {e : va_E} (n : a ∉ h.1) : va_pl h.1 h.2 ++ [(a, e)] = va_pl (hnew h a e).1 (hnew h a e).2 := va_pl_push n
theorem MW.fresh {G : mG} {B : Nat} {h : Hp} {H : Heap} (w : MW G B h H) {a : Nat} (q : H.size ≤ a) : a ∉ h.1 := va_pl_fresh (X := []) w.1 q
theorem MW.eq {G : mG} {B : Nat} {h h2 : Hp} {H : Heap} (w : MW G B h H) (q : h = h2) : MW G B h2 H := q ▸ w
theorem MW.recv {G : mG} {B : Nat} {h : Hp} {H : Heap} {s : State} {tys : List (ClassId × FieldType)} (w : MW G B h H) (hK : va_K G.1 mCl tys s) {a ci : Nat} {fs : List Value} (wa : hat h a (.inr (ci, fs))) {q : vw_C} (hc : mCl[ci]? = some q) : ∃ cell : Cell, H[a]? = some cell ∧ cell.vm.isStatics = false ∧ s.vm.findClass q.1 = some cell.cls := by
  obtain ⟨k, hk⟩ := va_pl_get0 wa
  exact va_recv hK w.1 hc hk
/-! WHAT HOLDS AT THE LAW'S START, and what a state behind it keeps -/
def mIn (w : Cond) : Prop := w ∈ lw_tbl ∧ goodWord w = true
theorem mIn_of {w : Cond} (i : Nat) (h : lw_tbl[i]? = some w ∧ goodWord w = true) : mIn w := ⟨List.mem_of_getElem? h.1, h.2⟩
def mk2 : Cond → Bool
  | .declares _ => true
  | .castable _ _ => true
  | w => goodWord w
/-- the words that a nest mate's access, or an array over a class, asks -/
def mIn' (w : Cond) : Prop := w ∈ lw_tbl
theorem mIn'_of {w : Cond} (i : Nat) (h : lw_tbl[i]? = some w) : mIn' w := List.mem_of_getElem? h
def mThr (B : Nat) (s0 : State) : Prop := vx_Zq Bundle.tN "UNASSIGNED_STACK" Bundle.steD (fun q => B ≤ q) s0 s0.heap ∧ vx_Zq Bundle.tN "SUPPRESSED_SENTINEL" Bundle.listD (fun q => B ≤ q) s0 s0.heap
def mZ (l : Launch) (G : mG) (a0 : Array Value) (s0 : State) : Prop := (∀ w ∈ lw_tbl, w.before a0 s0 = true) ∧ va_K G.1 mCl (mTy G.2) s0 ∧ l.stackTraces = false ∧ mThr s0.heap.size s0 ∧ (∀ (o : String) (k : Nat) (t : String), mIn' (.stringRef o k t) → ∃ a, vk_R o k t a s0) ∧ (∀ (a b : String), (Cond.not (.castable a b)).before a0 s0 = true → va_Nc a b s0)
def mE (s0 U : State) : Prop := s0.WarmedH U.vm ∧ s0.heap.size ≤ U.heap.size ∧ ∀ q : Nat, q < s0.heap.size → U.heap[q]? = s0.heap[q]?
section
variable {l : Launch} {G : mG} {a0 : Array Value} {s0 s : State}
theorem mE.good (E : mE s0 s) (Z : mZ l G a0 s0) {w : Cond} (h : mIn w) (a : Array Value) : w.before a s = true := word_at E.1 (good_of_word h.2) (Z.1 w h.1)
theorem mE.K (E : mE s0 s) (Z : mZ l G a0 s0) : va_K G.1 mCl (mTy G.2) s := va_K.moved E.1.alike Z.2.1
theorem mE.two (E : mE s0 s) (Z : mZ l G a0 s0) {w : Cond} (h : w ∈ lw_tbl) (h2 : mk2 w = true) (a : Array Value) : w.before a s = true := by
  have h0 := Z.1 w h
  cases w with
  | declares x => exact va_Nw.use rfl (va_Nw.warmD E.1 (va_Nw.of rfl h0))
  | castable x y => exact va_Nw.use rfl (va_Nw.warmC E.1 (va_Nw.of rfl h0))
  | _ => exact E.good Z ⟨h, h2⟩ a
theorem mE.nF (E : mE s0 s) (Z : mZ l G a0 s0) {a : String} {i : Nat} {b n d h : String} (w : mIn' (.fieldLinkNest a i b n d h)) (as : Array Value) : (Cond.fieldLinkNest a i b n d h).before as s = true := va_Nw.use rfl (va_Nw.warmF E.1 (va_Nw.of rfl (Z.1 _ w)))
theorem mE.nM (E : mE s0 s) (Z : mZ l G a0 s0) {a : String} {i : Nat} {x : MethodName} {h : String} (w : mIn' (.methodLinkNest a i x h)) : va_Nw (.methodLinkNest a i x h) s := va_Nw.warmM E.1 (va_Nw.of rfl (Z.1 _ w))
theorem mE.thr (E : mE s0 s) (Z : mZ l G a0 s0) : vx_Zq Bundle.tN "UNASSIGNED_STACK" Bundle.steD (fun q => s0.heap.size ≤ q) s s.heap ∧ vx_Zq Bundle.tN "SUPPRESSED_SENTINEL" Bundle.listD (fun q => s0.heap.size ≤ q) s s.heap := by
  have k : ∀ a : Nat, a < s0.heap.size → ¬ (s0.heap.size ≤ a) → s.heap[a]? = s0.heap[a]? := fun a h _ => E.2.2 a h
  exact ⟨vx_Zq.moved E.1.alike (vx_Zq.kept Z.2.2.2.1.1 k), vx_Zq.moved E.1.alike (vx_Zq.kept Z.2.2.2.1.2 k)⟩
theorem mE.str (E : mE s0 s) (Z : mZ l G a0 s0) {o : String} {k : Nat} {t : String} (w : mIn' (.stringRef o k t)) : ∃ a, vk_R o k t a s := by
  obtain ⟨a, h⟩ := Z.2.2.2.2.1 o k t w
  exact ⟨a, vk_R.warm E.1 h⟩
theorem mE.at {U : State} {H : Heap} {locs : List Loc} (E : mE s0 s) (hS : va_S (fun q => s0.heap.size ≤ q) s.heap H locs) (hU : U.heap = H) (hW : s.WarmedH U.vm) : mE s0 U := by
  refine ⟨State.WarmedH.trans E.1 hW, by rw [hU]; exact Nat.le_trans E.2.1 hS.1, fun q h => ?_⟩
  rw [hU, hS.2.1 q (Nat.lt_of_lt_of_le h E.2.1) (Nat.not_le.mpr h)]
  exact E.2.2 q h
end
