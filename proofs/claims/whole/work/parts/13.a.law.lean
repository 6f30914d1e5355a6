/-! THE LAW'S HELPERS: methods with handlers of their own, that return -/
def noP : List (String × String) := [("java/lang/IllegalArgumentException", "java/util/NoSuchElementException"), ("java/lang/IllegalStateException", "java/util/NoSuchElementException"), ("java/lang/IllegalStateException", "java/lang/IllegalArgumentException"), ("java/lang/IndexOutOfBoundsException", "java/util/NoSuchElementException"), ("java/lang/ArithmeticException", "java/util/NoSuchElementException"), ("java/lang/ArithmeticException", "java/lang/IllegalArgumentException")]
def mNo (s0 : State) : Prop := ∀ q ∈ noP, va_Nc q.1 q.2 s0
def mH (l : Launch) (G : mG) (s0 : State) (y : MethodName) (cc : ByteArray) (maxL : Nat) (ret : Option FieldType) (hh : List (Nat × Nat × Nat × Nat)) (fr lo mc ms : Nat) (h : Hp) (As : List Value) (P : Option Value → Hp → Prop) : Prop :=
  Met l y [Cond.codeWith y cc maxL ret hh] (mRm fr lo mc ms) (mPc G s0 h As) (mQc G s0 P) mc ms (fun q => s0.heap.size ≤ q)
def mYh (y : MethodName) (bytes : ByteArray) (maxL : Nat) (ret : Option FieldType) (hh : List (Nat × Nat × Nat × Nat)) (n : Nat) : Prop := mIn (.static y) ∧ mIn (.initialized y.cls) ∧ mIn (.codeWith y bytes maxL ret hh) ∧ y.cls ≠ "java/lang/invoke/MethodHandle" ∧ y.cls ≠ "java/lang/invoke/VarHandle" ∧ (parseMethodDescriptor y.desc).map (fun d => d.parameters.length) = some n
section
variable {p : Program} {l : Launch} {e : Env} {R : Room} {s : State} {m : MethodId} {args : Array Value} {below : List Frame} {meth : Method} {c : Code} {H : Heap} {locs : List Loc} {cells slots : Nat} {Q : State → Prop}
variable {cc : ByteArray} {pc nL : Nat} {ls : Array Slot} {rest st0 : List Value} {G : mG} {s0 : State} {a0 : Array Value} {own nm : String} {ret : Option FieldType} {h : Hp} {a b : Nat}
theorem mH_in {y : MethodName} {maxL fr lo mc ms : Nat} {hh : List (Nat × Nat × Nat × Nat)} {As : List Value} {P : Option Value → Hp → Prop} (own nm : String) (hcls : y.cls = own) (hname : y.name = nm) (hy : plainName y.cls = true) (hlen : (lg_sl As).length ≤ maxL)
    (body : ∀ p e s m below meth c (H : Heap) (locs : List Loc), mC s0 p s m meth c cc maxL own ret nm → c.exceptionTable.toList = tableOf hh → MW G s0.heap.size h H → va_S (fun q => s0.heap.size ≤ q) s.heap H locs → ∀ ls : Array Slot, lv_has ls maxL (lv_args 0 As) → W p l e (mRm fr lo mc ms) s m As.toArray below meth c H locs 0 0 (MQ below (mQc G s0 P) As.toArray s mc ms (fun q => s0.heap.size ≤ q)) (F0 m 0 ls [])) : mH l G s0 y cc maxL ret hh fr lo mc ms h As P := by
  unfold mH Met
  refine MetFree.of_bodyS (code := cc) (maxLocals := maxL) (ret := ret) hy ?_ ?_
  · intro args s m h hn
    obtain ⟨m9, meth, c, hn9, h1, h2, h3, h4, -, h5, h6, -⟩ := Cond.codeWith_spec (atoms_spec (ws := [Cond.codeWith y cc maxL ret hh]) h _ List.mem_cons_self)
    cases hn.symm.trans hn9
    exact ⟨meth, c, h1, h2, h3, h4, h5, h6⟩
  · intro p e s m args below meth c s₁ B hml hv _
    have hh0 : s₁.heap = s.heap := by rw [B.state]; rfl
    obtain ⟨rfl, hE, hM⟩ := hv
    have ht := vx_table (x := y) B (atoms_spec (ws := [Cond.codeWith y cc maxL ret hh]) B.pre _ List.mem_cons_self)
    have C : mC s0 p s m meth c cc maxL own ret nm := ⟨B.exec, B.bytes, hml, hcls ▸ findClass_of_methodNamed B.named, B.notSynchronized, B.returns, hE, hname ▸ (name_of_methodNamed B.named B.method).1⟩
    have K : W p l e (mRm fr lo mc ms) s m As.toArray below meth c s.heap [] 0 0 (MQ below (mQc G s0 P) As.toArray s mc ms (fun q => s0.heap.size ≤ q)) (entryFrame m As.toArray maxL) := by
      rw [lg_entry_eq]
      exact body p e s m below meth c s.heap [] C ht hM va_S.rf _ (lv_entry As hlen)
    obtain ⟨t, a1, o, b1, b2, b3⟩ := K s₁ hh0 (Stand.of_body B)
    exact ⟨t, o, a1, b1, b2, ⟨b3.1, b3.2⟩⟩
theorem m_callH (Z : mZ l G a0 s0) (C : mC s0 p s m meth c cc nL own ret nm) (hM : MW G s0.heap.size h H) (hS : va_S (fun q => s0.heap.size ≤ q) s.heap H locs) {y : MethodName} {bytes : ByteArray} {maxL fr lo mc ms n : Nat} {hh : List (Nat × Nat × Nat × Nat)} {rt : Option FieldType} {As : List Value} {P : Option Value → Hp → Prop} (hc : mH l G s0 y bytes maxL rt hh fr lo mc ms h As P) (Y : mYh y bytes maxL rt hh n) {index : Nat} (wl : mIn (.methodLink own index y)) (hR : fr + 1 ≤ R.frames ∧ 8 + (maxL + 11) + lo ≤ R.locals) (hrest : (rest.map fun v => v.category).sum ≤ 8) (hlz : ls.size = nL) (hn : As.length = n) (hst : st0 = As.reverse ++ rest) (hdg : decode cc pc = .ok (.invokestatic index, 3)) (hf : cells + mc ≤ R.cells ∧ slots + ms ≤ R.slots)
    (kk : ∀ (v : Option Value) (h' : Hp) (H1 : Heap) (locs1 : List Loc), P v h' → MW G s0.heap.size h' H1 → va_S (fun q => s0.heap.size ≤ q) s.heap H1 locs1 → W p l e R s m args below meth c H1 locs1 (cells + mc) (slots + ms) Q (F0 m (pc + 3) ls (v.toList ++ rest))) : W p l e R s m args below meth c H locs cells slots Q (F0 m pc ls st0) := by
  have hE := C.2.2.2.2.2.2.1
  have h1 : ∀ x ∈ [Cond.codeWith y bytes maxL rt hh], mIn x := fun x hx => by
    rw [List.mem_singleton.mp hx]
    exact Y.2.2.1
  exact m_go hS (vx_runSW (mC.fix Z C) hc ⟨⟨rfl, rfl, hR.1, hR.2, hE.words Z h1, List.mem_singleton.mpr rfl⟩, hE.good Z Y.2.2.1 args, hE.good Z Y.2.1 args, ⟨Y.2.2.2.1, Y.2.2.2.2.1⟩, mlen Y.2.2.2.2.2, hE.good Z wl args, hE.good Z Y.1 args⟩ ⟨mPc_blind, m_pre hE hS hM As⟩ rfl hn hlz hst (lv_room hrest) hdg hf) kk
/-- caught by the row behind pre -/
theorem m_catch (Z : mZ l G a0 s0) (No : mNo s0) (C : mC s0 p s m meth c cc nL own ret nm) {hh : List (Nat × Nat × Nat × Nat)} (ht : c.exceptionTable.toList = tableOf hh) {E : String} {ce : Cell} {q : Addr} (pre : List (Nat × Nat × Nat × Nat)) (x : Nat × Nat × Nat × Nat) (suf : List (Nat × Nat × Nat × Nat)) (hsp : hh = pre ++ x :: suf)
    (hp : ∀ z ∈ pre, z.2.2.2 ≠ 0 ∧ ∃ nm9 : String, mIn (.classLink own z.2.2.2 nm9) ∧ (E, nm9) ∈ noP) (hx : covers ⟨x.1, x.2.1, x.2.2.1, x.2.2.2⟩ pc = true) (h0 : x.2.2.2 ≠ 0) (hl : mIn (.classLink own x.2.2.2 E)) (hc : Cond.castable E E ∈ lw_tbl) (hcell : H[q]? = some ce) (hv : ce.vm = .none) (hcl : s.vm.findClass E = some ce.cls)
    (kk : W p l e R s m args below meth c H locs cells slots Q (F0 m x.2.2.1 ls [.ref q])) : vx_W p l e R s m args below meth c H locs cells slots Q (F0 m pc ls rest) q := by
  have hE := C.2.2.2.2.2.2.1
  have hown := C.2.2.2.1
  refine vx_catch (own := own) (name := E) hown (tableOf pre) ⟨x.1, x.2.1, x.2.2.1, x.2.2.2⟩ (tableOf suf) (by rw [ht, hsp]; simp [tableOf]) (fun z hz => ?_) hx h0 (hE.good Z hl args) (hE.two Z hc rfl args) hcell hv hcl kk
  obtain ⟨w, hw, rfl⟩ := List.mem_map.mp hz
  obtain ⟨g1, nm9, g2, g3⟩ := hp w hw
  exact Or.inr ⟨g1, nm9, hE.good Z g2 args, va_Nc.moved hE.1.alike (No _ g3)⟩
end
/-! THE LAW'S WORLD: the class at the state S, the reference at the state st, the two rows out and outD -/
theorem MdlW.keep {G : mG} {h h2 : Hp} {m : Nat} {q : Nat → Nat} {st : Ms} (w : MdlW G h m q st) (k : ∀ (b : Nat) (e : va_E), (b = m ∨ ∃ i : Nat, 3 ≤ i ∧ i < 17 ∧ b = q i) → hat h b e → hat h2 b e) : MdlW G h2 m q st :=
  ⟨k _ _ (Or.inl rfl) w.o, k _ _ (Or.inr ⟨3, by decide, by decide, rfl⟩) w.a3, k _ _ (Or.inr ⟨4, by decide, by decide, rfl⟩) w.a4, k _ _ (Or.inr ⟨5, by decide, by decide, rfl⟩) w.a5, k _ _ (Or.inr ⟨6, by decide, by decide, rfl⟩) w.a6, k _ _ (Or.inr ⟨7, by decide, by decide, rfl⟩) w.a7, k _ _ (Or.inr ⟨8, by decide, by decide, rfl⟩) w.a8, k _ _ (Or.inr ⟨9, by decide, by decide, rfl⟩) w.a9, k _ _ (Or.inr ⟨10, by decide, by decide, rfl⟩) w.a10, k _ _ (Or.inr ⟨11, by decide, by decide, rfl⟩) w.a11, k _ _ (Or.inr ⟨12, by decide, by decide, rfl⟩) w.a12, k _ _ (Or.inr ⟨13, by decide, by decide, rfl⟩) w.a13, k _ _ (Or.inr ⟨14, by decide, by decide, rfl⟩) w.a14, k _ _ (Or.inr ⟨15, by decide, by decide, rfl⟩) w.a15, k _ _ (Or.inr ⟨16, by decide, by decide, rfl⟩) w.a16, w.inj⟩
theorem CW.puto {h : Hp} {A : Cd → Nat} {tg : Nat → Cd} {sg : Cd → Option va_E} {o : Nat} {e : va_E} (w : CW h A tg sg) (ho : tg o = cd 0 0 0) (hs : sg (cd 0 0 0) = none) : CW (hput h o e) A tg sg := fun x e2 hx => by
  have n : A x ≠ o := fun z => by
    have h1 := w.tag hx
    rw [z, ho] at h1
    rw [← h1, hs] at hx
    cases hx
  exact ⟨hat_put_ne (w.at hx) n, w.tag hx⟩
def LJ (G : mG) (h : Hp) (x m : Nat) (q : Nat → Nat) (o o2 : Nat) (f : Nat → Int64) (g : Nat → UInt64) (S st : Ms) : Prop := ∃ (A : Cd → Nat) (tg : Nat → Cd) (X : Nat → Xs) (fd : Nat) (tt : Int64) (gr : Int32), A (cd 0 1 0) = x ∧ CW h A tg (clS G A (st_many S) (st_now S) X fd tt gr) ∧ (∀ k : Nat, k < st_many S → Rx S k (X k)) ∧ MdlW G h m q st ∧ hat h o (eL G 1 f) ∧ hat h o2 (eD G 1 g) ∧ tg m = cd 0 0 0 ∧ (∀ i : Nat, 3 ≤ i → i < 17 → tg (q i) = cd 0 0 0) ∧ tg o = cd 0 0 0 ∧ tg o2 = cd 0 0 0 ∧ o ≠ m ∧ (∀ i : Nat, 3 ≤ i → i < 17 → o ≠ q i) ∧ o2 ≠ m ∧ (∀ i : Nat, 3 ≤ i → i < 17 → o2 ≠ q i) ∧ o ≠ o2
section
variable {G : mG} {h h2 : Hp} {x m : Nat} {q : Nat → Nat} {o o2 : Nat} {f : Nat → Int64} {g : Nat → UInt64} {S S2 st st2 : Ms}
theorem LJ.mdl (w : LJ G h x m q o o2 f g S st) : MdlW G h m q st := by
  obtain ⟨A, tg, X, fd, tt, gr, h1, h2, h3, h4, h5⟩ := w
  exact h4
theorem LJ.oo (w : LJ G h x m q o o2 f g S st) : hat h o (eL G 1 f) := by
  obtain ⟨A, tg, X, fd, tt, gr, h1, h2, h3, h4, h5, h6⟩ := w
  exact h5
theorem LJ.oo2 (w : LJ G h x m q o o2 f g S st) : hat h o2 (eD G 1 g) := by
  obtain ⟨A, tg, X, fd, tt, gr, h1, h2, h3, h4, h5, h6, h7⟩ := w
  exact h6
/-- the object itself lies there -/
theorem LJ.xx (w : LJ G h x m q o o2 f g S st) : ∃ fs : List Value, hat h x (eO 5 fs) := by
  obtain ⟨A, tg, X, fd, tt, gr, h1, h2, h3⟩ := w
  subst h1
  exact ⟨_, h2.at clS_h⟩
/-- behind a call of the reference -/
theorem LJ.ref (w : LJ G h x m q o o2 f g S st) (hw : MdlW G h2 m q st2) (hf : mFr h h2 m q) : LJ G h2 x m q o o2 f g S st2 := by
  obtain ⟨A, tg, X, fd, tt, gr, h1, c2, h3, h4, h5, h6, t1, t2, t3, t4, n1, n2, n3, n4, n5⟩ := w
  exact ⟨A, tg, X, fd, tt, gr, h1, c2.fr hf t1 t2 clS_0, h3, hw, hf.hat h5 n1 n2, hf.hat h6 n3 n4, t1, t2, t3, t4, n1, n2, n3, n4, n5⟩
/-- behind a call of the class -/
theorem LJ.cls {A : Cd → Nat} {tg : Nat → Cd} {X : Nat → Xs} {fd : Nat} {tt : Int64} {gr : Int32} (h4 : MdlW G h m q st) (h5 : hat h o (eL G 1 f)) (h6 : hat h o2 (eD G 1 g)) (t : tg m = cd 0 0 0 ∧ (∀ i : Nat, 3 ≤ i → i < 17 → tg (q i) = cd 0 0 0) ∧ tg o = cd 0 0 0 ∧ tg o2 = cd 0 0 0) (n : o ≠ m ∧ (∀ i : Nat, 3 ≤ i → i < 17 → o ≠ q i) ∧ o2 ≠ m ∧ (∀ i : Nat, 3 ≤ i → i < 17 → o2 ≠ q i) ∧ o ≠ o2) (w : NW G h h2 A tg S2) : LJ G h2 (A (cd 0 1 0)) m q o o2 f g S2 st := by
  obtain ⟨A9, tg9, X9, fd9, tt9, gr9, g1, g2, g3, g4⟩ := w
  obtain ⟨t1, t2, t3, t4⟩ := t
  obtain ⟨n1, n2, n3, n4, n5⟩ := n
  have kp : ∀ b : Nat, b ∈ h.1 → tg b = cd 0 0 0 → tg9 b = cd 0 0 0 := fun b hb hz => (g3 b hb).2.1.trans hz
  refine ⟨A9, tg9, X9, fd9, tt9, gr9, g1, g2, g4, h4.keep (fun b e hb w9 => g3.hat w9 ?_), g3.hat h5 t3, g3.hat h6 t4, kp _ h4.o.1 t1, fun i i1 i2 => kp _ ?_ (t2 i i1 i2), kp _ h5.1 t3, kp _ h6.1 t4, n1, n2, n3, n4, n5⟩
  · rcases hb with hb | ⟨i, i1, i2, hb⟩
    · rw [hb]; exact t1
    · rw [hb]; exact t2 i i1 i2
  · obtain ⟨p0, p3, p4, p5, p6, p7, p8, p9, p10, p11, p12, p13, p14, p15, p16, -⟩ := h4
    rcases (show i = 3 ∨ i = 4 ∨ i = 5 ∨ i = 6 ∨ i = 7 ∨ i = 8 ∨ i = 9 ∨ i = 10 ∨ i = 11 ∨ i = 12 ∨ i = 13 ∨ i = 14 ∨ i = 15 ∨ i = 16 by omega) with e | e | e | e | e | e | e | e | e | e | e | e | e | e
    · rw [e]; exact p3.1
    · rw [e]; exact p4.1
    · rw [e]; exact p5.1
    · rw [e]; exact p6.1
    · rw [e]; exact p7.1
    · rw [e]; exact p8.1
    · rw [e]; exact p9.1
    · rw [e]; exact p10.1
    · rw [e]; exact p11.1
    · rw [e]; exact p12.1
    · rw [e]; exact p13.1
    · rw [e]; exact p14.1
    · rw [e]; exact p15.1
    · rw [e]; exact p16.1
/-- a number put into out -/
theorem LJ.put (w : LJ G h x m q o o2 f g S st) (f2 : Nat → Int64) : LJ G (hput h o (eL G 1 f2)) x m q o o2 f2 g S st := by
  obtain ⟨A, tg, X, fd, tt, gr, h1, c2, h3, h4, h5, h6, t1, t2, t3, t4, n1, n2, n3, n4, n5⟩ := w
  refine ⟨A, tg, X, fd, tt, gr, h1, c2.puto t3 clS_0, h3, h4.keep (fun b e hb w9 => hat_put_ne w9 ?_), hat_put h5, hat_put_ne h6 n5.symm, t1, t2, t3, t4, n1, n2, n3, n4, n5⟩
  rcases hb with hb | ⟨i, i1, i2, hb⟩
  · rw [hb]; exact n1.symm
  · rw [hb]; exact (n2 i i1 i2).symm
theorem LJ.put2 (w : LJ G h x m q o o2 f g S st) (g2 : Nat → UInt64) : LJ G (hput h o2 (eD G 1 g2)) x m q o o2 f g2 S st := by
  obtain ⟨A, tg, X, fd, tt, gr, h1, c2, h3, h4, h5, h6, t1, t2, t3, t4, n1, n2, n3, n4, n5⟩ := w
  refine ⟨A, tg, X, fd, tt, gr, h1, c2.puto t4 clS_0, h3, h4.keep (fun b e hb w9 => hat_put_ne w9 ?_), hat_put_ne h5 n5, hat_put h6, t1, t2, t3, t4, n1, n2, n3, n4, n5⟩
  rcases hb with hb | ⟨i, i1, i2, hb⟩
  · rw [hb]; exact n3.symm
  · rw [hb]; exact (n4 i i1 i2).symm
end
/-- a weaker end -/
theorem mM.mono {l : Launch} {G : mG} {s0 : State} {y : MethodName} {cc : ByteArray} {maxL : Nat} {ret : Option FieldType} {fr lo mc ms : Nat} {h : Hp} {As : List Value} {P P2 : Option Value → Hp → Prop} (hc : mM l G s0 y cc maxL ret fr lo mc ms h As P) (k : ∀ v h', P v h' → P2 v h') : mM l G s0 y cc maxL ret fr lo mc ms h As P2 := by
  intro p e ha hcp hk s m args below hf happ hP hT
  obtain ⟨n, o, h1, h2, h3, ⟨hq1, hq2⟩, h5⟩ := hc p e ha hcp hk s m args below hf happ hP hT
  exact ⟨n, o, h1, h2, h3, ⟨by obtain ⟨v, h', e1, e2, e3⟩ := hq1; exact ⟨v, h', e1, k _ _ e2, e3⟩, hq2⟩, h5⟩
