section
variable {p : Program} {l : Launch} {e : Env} {R : Room} {s : State} {m : MethodId} {args : Array Value} {below : List Frame} {meth : Method} {c : Code} {H : Heap} {locs : List Loc} {cells slots : Nat} {Q : State → Prop}
variable {cc : ByteArray} {pc nL : Nat} {ls : Array Slot} {rest : List Value} {G : mG} {s0 : State} {a0 : Array Value} {own nm : String} {ret : Option FieldType} {h : Hp} {a : Nat}
theorem m_newI (Z : mZ l G a0 s0) (C : mC s0 p s m meth c cc nL own ret nm) (hM : MW G s0.heap.size h H) (hS : va_S (fun q => s0.heap.size ≤ q) s.heap H locs) {n : Int32} (N : Nat) (hn : ¬ n < 0) (hN : n.toNatClampNeg = N) (hb : N * 4 ≤ 536870912) (hcells : cells + 1 ≤ R.cells) (hslots : slots + N ≤ R.slots) (hdg : decode cc pc = .ok (.newarray .int, 2))
    (kk : ∀ (q : Nat) (H1 : Heap), q ∉ h.1 → MW G s0.heap.size (hnew h q (eI G N (fun _ => 0))) H1 → va_S (fun q => s0.heap.size ≤ q) s.heap H1 locs → W p l e R s m args below meth c H1 locs (cells + 1) (slots + N) Q (F0 m (pc + 2) ls (.ref q :: rest))) : W p l e R s m args below meth c H locs cells slots Q (F0 m pc ls (.int n :: rest)) :=
  m_newa (atype := .int) (ty := .int) (av := (N, .inl (fun _ => 0))) Z C hM hS rfl wa_int 0 rfl rfl N (fun _ => rfl) hn hN hb hcells hslots hdg kk
theorem m_newL (Z : mZ l G a0 s0) (C : mC s0 p s m meth c cc nL own ret nm) (hM : MW G s0.heap.size h H) (hS : va_S (fun q => s0.heap.size ≤ q) s.heap H locs) {n : Int32} (N : Nat) (hn : ¬ n < 0) (hN : n.toNatClampNeg = N) (hb : N * 8 ≤ 536870912) (hcells : cells + 1 ≤ R.cells) (hslots : slots + N ≤ R.slots) (hdg : decode cc pc = .ok (.newarray .long, 2))
    (kk : ∀ (q : Nat) (H1 : Heap), q ∉ h.1 → MW G s0.heap.size (hnew h q (eL G N (fun _ => 0))) H1 → va_S (fun q => s0.heap.size ≤ q) s.heap H1 locs → W p l e R s m args below meth c H1 locs (cells + 1) (slots + N) Q (F0 m (pc + 2) ls (.ref q :: rest))) : W p l e R s m args below meth c H locs cells slots Q (F0 m pc ls (.int n :: rest)) :=
  m_newa (atype := .long) (ty := .long) (av := (N, .inr (.inl (fun _ => 0)))) Z C hM hS rfl wa_long 1 rfl rfl N (fun _ => rfl) hn hN hb hcells hslots hdg kk
end
/-- what a constructor leaves alone: all cells but its object's -/
def nFr (h0 : Hp) (o : Nat) (h : Hp) : Prop := ∀ (b : Nat) (e : va_E), b ≠ o → hat h0 b e → hat h b e
theorem nFr.rf {h : Hp} {o : Nat} : nFr h o h := fun _ _ _ w => w
theorem nFr.put {h0 h : Hp} {o : Nat} (f : nFr h0 o h) (e : va_E) : nFr h0 o (hput h o e) := fun b e2 n w => hat_put_ne (f b e2 n w) n
theorem nFr.new {h0 h : Hp} {o q : Nat} (f : nFr h0 o h) (n : q ∉ h.1) (e : va_E) : nFr h0 o (hnew h q e) := fun b e2 n2 w => hat_new_ne (f b e2 n2 w) n
theorem nFr.out {h0 h : Hp} {o q : Nat} {e : va_E} (f : nFr h0 o h) (w : hat h o e) (n : q ∉ h.1) : q ∉ h0.1 := fun z => by
  by_cases k : q = o
  · exact n (k ▸ w.1)
  · exact n (f q (h0.2 q) k ⟨z, rfl⟩).1
theorem wo_ii : mIn' (.arrayOver (.array .int)) := mIn'_of 322 (by decide +kernel)
theorem wo_B : mIn' (.arrayOver (.object RX1)) := mIn'_of 315 (by decide +kernel)
theorem wo_S : mIn' (.arrayOver (.object RX2)) := mIn'_of 96 (by decide +kernel)
/-- new cells get names -/
theorem CW.grow {h h9 : Hp} {A : Cd → Nat} {tg : Nat → Cd} {sg : Cd → Option va_E} (w : CW h A tg sg) (hk : ∀ (b : Nat) (e : va_E), hat h b e → hat h9 b e) (sn : Cd → Option va_E) (B : Cd → Nat) (hB : ∀ (x : Cd) (e : va_E), sn x = some e → hat h9 (B x) e ∧ B x ∉ h.1) (hi : ∀ x y : Cd, sn x ≠ none → sn y ≠ none → B x = B y → x = y) :
    ∃ (A9 : Cd → Nat) (tg9 : Nat → Cd), (∀ x, sn x = none → A9 x = A x) ∧ (∀ x, sn x ≠ none → A9 x = B x) ∧ (∀ b, b ∈ h.1 → tg9 b = tg b) ∧ CW h9 A9 tg9 (fun x => if sn x = none then sg x else sn x) := by
  let tg9 : Nat → Cd := fun b => @dite Cd (∃ x, sn x ≠ none ∧ B x = b) (Classical.propDecidable _) (fun q => Classical.choose q) (fun _ => tg b)
  have t1 : ∀ x, sn x ≠ none → tg9 (B x) = x := fun x hx => by
    have q : ∃ y, sn y ≠ none ∧ B y = B x := ⟨x, hx, rfl⟩
    show @dite Cd (∃ y, sn y ≠ none ∧ B y = B x) (Classical.propDecidable _) (fun q => Classical.choose q) (fun _ => tg (B x)) = x
    rw [dif_pos q]
    exact hi _ _ (Classical.choose_spec q).1 hx (Classical.choose_spec q).2
  have t2 : ∀ b, b ∈ h.1 → tg9 b = tg b := fun b hb => by
    show @dite Cd (∃ y, sn y ≠ none ∧ B y = b) (Classical.propDecidable _) (fun q => Classical.choose q) (fun _ => tg b) = tg b
    refine dif_neg ?_
    rintro ⟨y, hy, e⟩
    cases hs : sn y with
    | none => exact hy hs
    | some e2 => exact (hB y e2 hs).2 (e ▸ hb)
  refine ⟨fun x => if sn x = none then A x else B x, tg9, fun x hx => if_pos hx, fun x hx => if_neg hx, t2, fun x e hx => ?_⟩
  by_cases q : sn x = none
  · replace hx : (if sn x = none then sg x else sn x) = some e := hx
    rw [if_pos q] at hx
    show hat h9 (if sn x = none then A x else B x) e ∧ tg9 (if sn x = none then A x else B x) = x
    rw [if_pos q]
    exact ⟨hk _ _ (w.at hx), (t2 _ (w.at hx).1).trans (w.tag hx)⟩
  · replace hx : (if sn x = none then sg x else sn x) = some e := hx
    rw [if_neg q] at hx
    show hat h9 (if sn x = none then A x else B x) e ∧ tg9 (if sn x = none then A x else B x) = x
    rw [if_neg q]
    exact ⟨(hB x e hx).1, t1 x q⟩
theorem CW.keep {h : Hp} {A : Cd → Nat} {tg : Nat → Cd} {sg : Cd → Option va_E} {q : Nat} {e : va_E} (w : CW h A tg sg) (n : q ∉ h.1) : CW (hnew h q e) A tg sg := fun x e2 hx => ⟨hat_new_ne (w.at hx) n, w.tag hx⟩
theorem CW.keepN {h h9 : Hp} {A : Cd → Nat} {tg : Nat → Cd} {sg : Cd → Option va_E} {q : Nat} (w : CW h A tg sg) (f : nFr h q h9) (n : ∀ x e, sg x = some e → A x ≠ q) : CW h9 A tg sg := fun x e2 hx => ⟨f _ _ (n x e2 hx) (w.at hx), w.tag hx⟩
theorem CW.out {h : Hp} {A : Cd → Nat} {tg : Nat → Cd} {sg : Cd → Option va_E} {q : Nat} (w : CW h A tg sg) (n : q ∉ h.1) : ∀ x e, sg x = some e → A x ≠ q := fun _ _ hx z => n (z ▸ (w.at hx).1)
/-- a cell that no code names gets a name -/
theorem CW.name {h : Hp} {A : Cd → Nat} {tg : Nat → Cd} {sg : Cd → Option va_E} {q : Nat} {e : va_E} (w : CW h A tg sg) (hq : hat h q e) (n : ∀ y e2, sg y = some e2 → A y ≠ q) (x : Cd) : CW h (up3 A x q) (va_up tg q x) (up3 sg x (some e)) := by
  intro y e2 hy
  by_cases k : y = x
  · subst k
    rw [up3_self] at hy
    cases hy
    rw [up3_self]
    exact ⟨hq, va_up_self _ _ _⟩
  · rw [up3_ne _ _ k] at hy
    rw [up3_ne _ _ k]
    exact ⟨w.at hy, (va_up_ne _ _ (n y e2 hy)).trans (w.tag hy)⟩
theorem cFr.keep {h h2 : Hp} {tg tg2 : Nat → Cd} {q : Nat} (f : cFr h tg h2 tg2) (n : q ∉ h2.1) (e : va_E) : cFr h tg (hnew h2 q e) tg2 := fun d hd => by
  obtain ⟨a1, a2, a3⟩ := f d hd
  have n2 : d ≠ q := fun z => n (z ▸ a1)
  exact ⟨List.mem_append_left _ a1, a2, fun z => (va_up_ne _ _ n2).trans (a3 z)⟩
theorem cFr.keepN {h h2 h3 : Hp} {tg tg2 : Nat → Cd} {q : Nat} (f : cFr h tg h2 tg2) (g : nFr h2 q h3) (n : q ∉ h.1) : cFr h tg h3 tg2 := fun d hd => by
  obtain ⟨a1, a2, a3⟩ := f d hd
  have n2 : d ≠ q := fun z => n (z ▸ hd)
  have w := g d _ n2 ⟨a1, rfl⟩
  exact ⟨w.1, a2, fun z => w.2.trans (a3 z)⟩
theorem cFr.name {h h2 : Hp} {tg tg2 : Nat → Cd} {q : Nat} (f : cFr h tg h2 tg2) (n : q ∉ h.1) (x : Cd) : cFr h tg h2 (va_up tg2 q x) := fun d hd => by
  obtain ⟨a1, a2, a3⟩ := f d hd
  have n2 : d ≠ q := fun z => n (z ▸ hd)
  exact ⟨a1, (va_up_ne _ _ n2).trans a2, a3⟩
theorem up3_out {A : Cd → Nat} {sg : Cd → Option va_E} {x : Cd} {q q2 : Nat} {v : Option va_E} (n : ∀ y e, sg y = some e → A y ≠ q2) (k : q ≠ q2) : ∀ y e, up3 sg x v y = some e → up3 A x q y ≠ q2 := fun y e hy => by
  by_cases z : y = x
  · subst z; rw [up3_self]; exact k
  · rw [up3_ne _ _ z] at hy ⊢; exact n y e hy
theorem up3_live {A : Cd → Nat} {sg : Cd → Option va_E} {x : Cd} {q : Nat} {v : Option va_E} {e0 : va_E} (hx : sg x = some e0) (n : ∀ y e, sg y = some e → A y ≠ q) : ∀ y e, up3 sg x v y = some e → A y ≠ q := fun y e hy => by
  by_cases z : y = x
  · subst z; exact n _ e0 hx
  · rw [up3_ne _ _ z] at hy; exact n y e hy
