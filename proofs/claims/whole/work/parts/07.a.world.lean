/-! THE CLASS'S CELLS BY NAME: a code (series + 1, role, index) names a cell; A says where it lies, tg what an address is for (tag (0, 0, 0): none of the class's own), sg what it holds -/
abbrev Cd : Type := Nat × Nat × Nat
def cd (k r j : Nat) : Cd := (k, r, j)
def up3 {α : Type} (f : Cd → α) (x : Cd) (v : α) : Cd → α := fun y => if y = x then v else f y
theorem up3_self {α : Type} (f : Cd → α) (x : Cd) (v : α) : up3 f x v x = v := if_pos rfl
theorem up3_ne {α : Type} (f : Cd → α) {x y : Cd} (v : α) (n : y ≠ x) : up3 f x v y = f y := if_neg n
theorem cd_k {k r j k2 r2 j2 : Nat} (n : k ≠ k2) : cd k r j ≠ cd k2 r2 j2 := fun q => n (congrArg Prod.fst q)
theorem cd_r {k r j k2 r2 j2 : Nat} (n : r ≠ r2) : cd k r j ≠ cd k2 r2 j2 := fun q => n (congrArg (fun x : Cd => x.2.1) q)
theorem cd_j {k r j k2 r2 j2 : Nat} (n : j ≠ j2) : cd k r j ≠ cd k2 r2 j2 := fun q => n (congrArg (fun x : Cd => x.2.2) q)
def CW (h : Hp) (A : Cd → Nat) (tg : Nat → Cd) (sg : Cd → Option va_E) : Prop := ∀ (x : Cd) (e : va_E), sg x = some e → hat h (A x) e ∧ tg (A x) = x
/-- what a call of the class leaves alone: cells that no code names -/
def cFr (h : Hp) (tg : Nat → Cd) (h2 : Hp) (tg2 : Nat → Cd) : Prop := ∀ b : Nat, b ∈ h.1 → b ∈ h2.1 ∧ tg2 b = tg b ∧ (tg b = cd 0 0 0 → h2.2 b = h.2 b)
section
variable {h h2 h3 : Hp} {A : Cd → Nat} {tg tg2 tg3 : Nat → Cd} {sg sg2 : Cd → Option va_E} {x y : Cd} {e e2 : va_E} {b : Nat}
theorem CW.at (w : CW h A tg sg) (hx : sg x = some e) : hat h (A x) e := (w x e hx).1
theorem CW.tag (w : CW h A tg sg) (hx : sg x = some e) : tg (A x) = x := (w x e hx).2
theorem CW.ne (w : CW h A tg sg) (hx : sg x = some e) (hy : sg y = some e2) (n : x ≠ y) : A x ≠ A y := fun q => n (by rw [← w.tag hx, ← w.tag hy, q])
theorem CW.put (w : CW h A tg sg) {e0 : va_E} (hx : sg x = some e0) (e : va_E) : CW (hput h (A x) e) A tg (up3 sg x (some e)) := by
  intro y e2 hy
  by_cases q : y = x
  · subst q
    rw [up3_self] at hy
    cases hy
    exact ⟨hat_put (w.at hx), w.tag hx⟩
  · rw [up3_ne _ _ q] at hy
    exact ⟨hat_put_ne (w.at hy) (w.ne hy hx q), w.tag hy⟩
theorem CW.new (w : CW h A tg sg) (hb : b ∉ h.1) (x : Cd) (e : va_E) : CW (hnew h b e) (up3 A x b) (va_up tg b x) (up3 sg x (some e)) := by
  intro y e2 hy
  by_cases q : y = x
  · subst q
    rw [up3_self] at hy
    cases hy
    rw [up3_self]
    exact ⟨hat_new, va_up_self _ _ _⟩
  · rw [up3_ne _ _ q] at hy
    rw [up3_ne _ _ q]
    have n : A y ≠ b := fun z => hb (by rw [← z]; exact (w.at hy).1)
    exact ⟨hat_new_ne (w.at hy) hb, (va_up_ne _ _ n).trans (w.tag hy)⟩
theorem CW.less (w : CW h A tg sg) (i : ∀ x e, sg2 x = some e → sg x = some e) : CW h A tg sg2 := fun x e hx => w x e (i x e hx)
theorem cFr.rf : cFr h tg h tg := fun _ hb => ⟨hb, rfl, fun _ => rfl⟩
theorem cFr.trans (a : cFr h tg h2 tg2) (d : cFr h2 tg2 h3 tg3) : cFr h tg h3 tg3 := fun b hb => by
  obtain ⟨a1, a2, a3⟩ := a b hb
  obtain ⟨d1, d2, d3⟩ := d b a1
  exact ⟨d1, d2.trans a2, fun z => (d3 (a2.trans z)).trans (a3 z)⟩
theorem cFr.put (a : cFr h tg h2 tg2) {A : Cd → Nat} {sg : Cd → Option va_E} {x : Cd} {e0 : va_E} (w : CW h2 A tg2 sg) (hx : sg x = some e0) (n : x ≠ cd 0 0 0) (e : va_E) : cFr h tg (hput h2 (A x) e) tg2 := fun b hb => by
  obtain ⟨a1, a2, a3⟩ := a b hb
  refine ⟨a1, a2, fun z => ?_⟩
  have nb : b ≠ A x := fun q => n (by rw [← w.tag hx, ← q, a2, z])
  exact (va_up_ne _ _ nb).trans (a3 z)
theorem cFr.new (a : cFr h tg h2 tg2) {b : Nat} (hb : b ∉ h2.1) (x : Cd) (e : va_E) : cFr h tg (hnew h2 b e) (va_up tg2 b x) := fun d hd => by
  obtain ⟨a1, a2, a3⟩ := a d hd
  have n : d ≠ b := fun q => hb (by rw [← q]; exact a1)
  exact ⟨List.mem_append_left _ a1, (va_up_ne _ _ n).trans a2, fun z => (va_up_ne _ _ n).trans (a3 z)⟩
/-- a cell that no code names stands through a call of the class -/
theorem cFr.hat (a : cFr h tg h2 tg2) (w : hat h b e) (z : tg b = cd 0 0 0) : hat h2 b e := ⟨(a b w.1).1, ((a b w.1).2.2 z).trans w.2⟩
/-- the class's cells stand through a call of the reference -/
theorem CW.fr {m : Nat} {q : Nat → Nat} (w : CW h A tg sg) (f : mFr h h2 m q) (hm : tg m = cd 0 0 0) (hq : ∀ i : Nat, 3 ≤ i → i < 17 → tg (q i) = cd 0 0 0) (hs : sg (cd 0 0 0) = none) : CW h2 A tg sg := by
  intro x e hx
  have hne : x ≠ cd 0 0 0 := fun z => by rw [z, hs] at hx; cases hx
  refine ⟨f.hat (w.at hx) (fun z => hne ?_) (fun i h1 h3 z => hne ?_), w.tag hx⟩
  · rw [← w.tag hx, z, hm]
  · rw [← w.tag hx, z, hq i h1 h3]
end
theorem up3_up3 {α : Type} {f : Cd → α} {x : Cd} {v v2 : α} : up3 (up3 f x v) x v2 = up3 f x v2 := by
  funext y
  by_cases q : y = x <;> simp [up3, q]
theorem up3_comm {α : Type} {x y : Cd} (f : Cd → α) (v v2 : α) (n : x ≠ y) : up3 (up3 f x v) y v2 = up3 (up3 f y v2) x v := by
  funext z
  by_cases q : z = x
  · subst q; rw [up3_ne _ _ n, up3_self, up3_self]
  · by_cases r : z = y
    · subst r; rw [up3_self, up3_ne _ _ q, up3_self]
    · rw [up3_ne _ _ r, up3_ne _ _ q, up3_ne _ _ q, up3_ne _ _ r]
theorem up3_id {α : Type} {f : Cd → α} {x : Cd} {v : α} (e : f x = v) : up3 f x v = f := by
  funext y
  by_cases q : y = x
  · subst q; rw [up3_self, e]
  · exact up3_ne _ _ q
/-! what a block tells: times out of steps of steps, values out of steps -/
def z_gp (f : Nat → Int64) : Nat → Int64
  | 0 => lN 0
  | k + 1 => z_gp f k + f k
def z_tm (f : Nat → Int64) (t : Int64) : Nat → Int64
  | 0 => t
  | k + 1 => z_tm f t k + z_gp f (k + 1)
def z_vl (f : Nat → Int32) (v : Int32) : Nat → Int32
  | 0 => v
  | k + 1 => z_vl f v k + f k
/-- found, total and greatest behind the first samples -/
def z_rs (p : Nat → Prop) [DecidablePred p] (v : Nat → Int32) (x : Nat × Int64 × Int32) : Nat → Nat × Int64 × Int32
  | 0 => x
  | k + 1 => if p k then ((z_rs p v x k).1 + 1, (z_rs p v x k).2.1 + (v k).toInt64, if (z_rs p v x k).2.2 < v k then v k else (z_rs p v x k).2.2) else z_rs p v x k
theorem z_rs_t {p : Nat → Prop} [DecidablePred p] {v : Nat → Int32} {x : Nat × Int64 × Int32} {k : Nat} (h : p k) : z_rs p v x (k + 1) = ((z_rs p v x k).1 + 1, (z_rs p v x k).2.1 + (v k).toInt64, if (z_rs p v x k).2.2 < v k then v k else (z_rs p v x k).2.2) := by rw [z_rs, if_pos h]
theorem z_rs_f {p : Nat → Prop} [DecidablePred p] {v : Nat → Int32} {x : Nat × Int64 × Int32} {k : Nat} (h : ¬ p k) : z_rs p v x (k + 1) = z_rs p v x k := by rw [z_rs, if_neg h]
/-- the sample of a block in a range -/
abbrev z_bp (f : Nat → Int64) (t a d : Int64) (k : Nat) : Prop := a ≤ z_tm f t (k + 1) ∧ z_tm f t (k + 1) ≤ d
