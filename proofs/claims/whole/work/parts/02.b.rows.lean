/-! THE ROWS over the world as a map -/
/-- what a method's body stands on -/
def mC (s0 : State) (p : Program) (s : State) (m : MethodId) (meth : Method) (c : Code) (cc : ByteArray) (nL : Nat) (own : String) (ret : Option FieldType) (nm : String) : Prop :=
  p.tables.exec = Jvm.exec ∧ c.code = cc ∧ c.maxLocals = nL ∧ s.vm.findClass own = some m.cls ∧ meth.locks = false ∧ meth.sig.returnType = ret ∧ mE s0 s ∧ meth.name = nm
/-- a class of the world -/
def mInW (Cn : String) (T : u_T) (N : Nat) : Prop := ∀ w ∈ u_ws Cn T N, mIn w
def mKi (ci : Nat) (Cn : String) (T : u_T) (N : Nat) (ty : Nat → FieldType) : Prop := mCl[ci]? = some (Cn, T, N) ∧ mInW Cn T N ∧ (∀ k, k < N → parseFieldDescriptor (T k).2.2.1 = some (ty k)) ∧ ∀ a, a < N → ∀ b, b < N → a ≠ b → (T a).2.1 ≠ (T b).2.1
section
variable {p : Program} {l : Launch} {e : Env} {R : Room} {s : State} {m : MethodId} {args : Array Value} {below : List Frame} {meth : Method} {c : Code} {H : Heap} {locs : List Loc} {cells slots : Nat} {Q : State → Prop}
variable {cc : ByteArray} {pc nL : Nat} {ls : Array Slot} {rest : List Value} {G : mG} {s0 : State} {a0 : Array Value} {own nm : String} {ret : Option FieldType} {h : Hp} {a : Nat}
theorem mInW.lays {Cn : String} {T : u_T} {N : Nat} (w : mInW Cn T N) (E : mE s0 s) (Z : mZ l G a0 s0) (as : Array Value) : ∀ x ∈ u_ws Cn T N, x.before as s = true := fun x hx => E.good Z (w x hx) as
theorem m_get (Z : mZ l G a0 s0) (C : mC s0 p s m meth c cc nL own ret nm) (hM : MW G s0.heap.size h H) {ci : Nat} {fs : List Value} (ha : hat h a (eO ci fs)) {Cn : String} {T : u_T} {N : Nat} {ty : Nat → FieldType} (K : mKi ci Cn T N ty) (k : Nat) (hk : k < N) {index : Nat} (hl : mIn (.fieldLink own index (T k).1 (T k).2.1 (T k).2.2.1)) {v : Value} (hv : fs[k]? = some v) (hdg : decode cc pc = .ok (.getfield index, 3))
    (kk : W p l e R s m args below meth c H locs cells slots Q (F0 m (pc + 3) ls (v :: rest))) : W p l e R s m args below meth c H locs cells slots Q (F0 m pc ls (.ref a :: rest)) := by
  obtain ⟨hx, hb, hml, hown, hlk, hr, hE, hn⟩ := C
  obtain ⟨q0, he⟩ := va_pl_get0 ha
  exact va_get hx hb (K.2.1.lays hE Z args) (fun _ z => z) hown (hE.K Z) hM.1 q0 he K.1 k hk (hE.good Z hl args) (fun _ z => z) hv hdg kk
theorem m_getN (Z : mZ l G a0 s0) (C : mC s0 p s m meth c cc nL own ret nm) (hM : MW G s0.heap.size h H) {ci : Nat} {fs : List Value} (ha : hat h a (eO ci fs)) {Cn host : String} {T : u_T} {N : Nat} {ty : Nat → FieldType} (K : mKi ci Cn T N ty) (k : Nat) (hk : k < N) {index : Nat} (hl : mIn' (.fieldLinkNest own index (T k).1 (T k).2.1 (T k).2.2.1 host)) {v : Value} (hv : fs[k]? = some v) (hdg : decode cc pc = .ok (.getfield index, 3))
    (kk : W p l e R s m args below meth c H locs cells slots Q (F0 m (pc + 3) ls (v :: rest))) : W p l e R s m args below meth c H locs cells slots Q (F0 m pc ls (.ref a :: rest)) := by
  obtain ⟨hx, hb, hml, hown, hlk, hr, hE, hn⟩ := C
  obtain ⟨q0, he⟩ := va_pl_get0 ha
  exact va_getN hx hb (K.2.1.lays hE Z args) (fun _ z => z) hown (hE.K Z) hM.1 q0 he K.1 k hk (hE.nF Z hl args) (fun _ z => z) hv hdg kk
theorem m_put (Z : mZ l G a0 s0) (C : mC s0 p s m meth c cc nL own ret nm) (hM : MW G s0.heap.size h H) (hS : va_S (fun q => s0.heap.size ≤ q) s.heap H locs) {ci : Nat} {fs : List Value} (ha : hat h a (eO ci fs)) {Cn : String} {T : u_T} {N : Nat} {ty : Nat → FieldType} (K : mKi ci Cn T N ty) (k : Nat) (hk : k < N) {index : Nat} (hl : mIn (.fieldLink own index (T k).1 (T k).2.1 (T k).2.2.1)) {v : Value} (hfin : (T k).2.2.2 = false) (hn0 : narrow (ty k) v = v) (hfit : fits (ty k) v = true) {fs' : List Value} (hfs : fs.set k v = fs') (hlen : k < fs.length) (hdg : decode cc pc = .ok (.putfield index, 3))
    (kk : ∀ (H1 : Heap) (locs1 : List Loc), MW G s0.heap.size (hput h a (eO ci fs')) H1 → va_S (fun q => s0.heap.size ≤ q) s.heap H1 locs1 → W p l e R s m args below meth c H1 locs1 cells slots Q (F0 m (pc + 3) ls rest)) : W p l e R s m args below meth c H locs cells slots Q (F0 m pc ls (v :: .ref a :: rest)) := by
  obtain ⟨hx, hb, hml, hown, hlk, hr, hE, hn⟩ := C
  obtain ⟨q0, he⟩ := va_pl_get0 ha
  refine va_put hx hb (K.2.1.lays hE Z args) (fun _ z => z) ty K.2.2.1 K.2.2.2 hown (hE.K Z) hM.1 hM.2 hS q0 he K.1 k hk (hE.good Z hl args) (fun _ z => z) hfin (K.2.2.1 k hk) hn0 hfit hlen hdg fun H1 locs1 hP1 hD1 hS1 => ?_
  rw [hfs, va_pl_set0 hM.2 ha he] at hP1
  rw [hfs, va_pl_set0 hM.2 ha he] at hD1
  exact kk H1 locs1 ⟨hP1, hD1⟩ hS1
theorem m_putN (Z : mZ l G a0 s0) (C : mC s0 p s m meth c cc nL own ret nm) (hM : MW G s0.heap.size h H) (hS : va_S (fun q => s0.heap.size ≤ q) s.heap H locs) {ci : Nat} {fs : List Value} (ha : hat h a (eO ci fs)) {Cn host : String} {T : u_T} {N : Nat} {ty : Nat → FieldType} (K : mKi ci Cn T N ty) (k : Nat) (hk : k < N) {index : Nat} (hl : mIn' (.fieldLinkNest own index (T k).1 (T k).2.1 (T k).2.2.1 host)) {v : Value} (hfin : (T k).2.2.2 = false) (hn0 : narrow (ty k) v = v) (hfit : fits (ty k) v = true) {fs' : List Value} (hfs : fs.set k v = fs') (hlen : k < fs.length) (hdg : decode cc pc = .ok (.putfield index, 3))
    (kk : ∀ (H1 : Heap) (locs1 : List Loc), MW G s0.heap.size (hput h a (eO ci fs')) H1 → va_S (fun q => s0.heap.size ≤ q) s.heap H1 locs1 → W p l e R s m args below meth c H1 locs1 cells slots Q (F0 m (pc + 3) ls rest)) : W p l e R s m args below meth c H locs cells slots Q (F0 m pc ls (v :: .ref a :: rest)) := by
  obtain ⟨hx, hb, hml, hown, hlk, hr, hE, hn⟩ := C
  obtain ⟨q0, he⟩ := va_pl_get0 ha
  refine va_putN hx hb (K.2.1.lays hE Z args) (fun _ z => z) ty K.2.2.1 K.2.2.2 hown (hE.K Z) hM.1 hM.2 hS q0 he K.1 k hk (hE.nF Z hl args) (fun _ z => z) hfin (K.2.2.1 k hk) hn0 hfit hlen hdg fun H1 locs1 hP1 hD1 hS1 => ?_
  rw [hfs, va_pl_set0 hM.2 ha he] at hP1
  rw [hfs, va_pl_set0 hM.2 ha he] at hD1
  exact kk H1 locs1 ⟨hP1, hD1⟩ hS1
theorem m_putF (Z : mZ l G a0 s0) (C : mC s0 p s m meth c cc nL own ret "<init>") (hM : MW G s0.heap.size h H) (hS : va_S (fun q => s0.heap.size ≤ q) s.heap H locs) {ci : Nat} {fs : List Value} (ha : hat h a (eO ci fs)) {Cn : String} {T : u_T} {N : Nat} {ty : Nat → FieldType} (K : mKi ci Cn T N ty) (k : Nat) (hk : k < N) {index : Nat} (hl : mIn (.fieldLink own index (T k).1 (T k).2.1 (T k).2.2.1)) {v : Value} (hfin : (T k).2.2.2 = true) (hdecl : (T k).1 = own) (hn0 : narrow (ty k) v = v) (hfit : fits (ty k) v = true) {fs' : List Value} (hfs : fs.set k v = fs') (hlen : k < fs.length) (hdg : decode cc pc = .ok (.putfield index, 3))
    (kk : ∀ (H1 : Heap) (locs1 : List Loc), MW G s0.heap.size (hput h a (eO ci fs')) H1 → va_S (fun q => s0.heap.size ≤ q) s.heap H1 locs1 → W p l e R s m args below meth c H1 locs1 cells slots Q (F0 m (pc + 3) ls rest)) : W p l e R s m args below meth c H locs cells slots Q (F0 m pc ls (v :: .ref a :: rest)) := by
  obtain ⟨hx, hb, hml, hown, hlk, hr, hE, hn⟩ := C
  obtain ⟨q0, he⟩ := va_pl_get0 ha
  refine va_putF hx hb (K.2.1.lays hE Z args) (fun _ z => z) ty K.2.2.1 K.2.2.2 hown (hE.K Z) hM.1 hM.2 hS q0 he K.1 k hk (hE.good Z hl args) (fun _ z => z) hfin hn hdecl (K.2.2.1 k hk) hn0 hfit hlen hdg fun H1 locs1 hP1 hD1 hS1 => ?_
  rw [hfs, va_pl_set0 hM.2 ha he] at hP1
  rw [hfs, va_pl_set0 hM.2 ha he] at hD1
  exact kk H1 locs1 ⟨hP1, hD1⟩ hS1
-- arrays
theorem nI_vp {i : Int32} {k n : Nat} (hi : i = nI k) (hk : k < n) (hn : n < 2 ^ 31) : vp_in i n := by rw [hi]; exact vp_in_nI hk hn
theorem nI_cl {i : Int32} {k n : Nat} (hi : i = nI k) (hk : k < n) (hn : n < 2 ^ 31) : i.toNatClampNeg = k := by rw [hi]; exact nI_clamp (Nat.lt_trans hk hn)
theorem m_iald (Z : mZ l G a0 s0) (C : mC s0 p s m meth c cc nL own ret nm) (hM : MW G s0.heap.size h H) {n : Nat} {f : Nat → Int32} (ha : hat h a (eI G n f)) {i : Int32} (k : Nat) (hi : i = nI k) (hk : k < n) (hn : n < 2 ^ 31) (hdg : decode cc pc = .ok (.iaload, 1))
    (kk : W p l e R s m args below meth c H locs cells slots Q (F0 m (pc + 1) ls (.int (f k) :: rest))) : W p l e R s m args below meth c H locs cells slots Q (F0 m pc ls (.int i :: .ref a :: rest)) := by
  obtain ⟨hx, hb, hml, hown, hlk, hr, hE, -⟩ := C
  obtain ⟨q0, he⟩ := va_pl_get0 ha
  refine va_iald hx hb (hE.K Z) hM.1 q0 0 he rfl (nI_vp hi hk hn) hdg ?_
  rw [nI_cl hi hk hn]
  exact kk
theorem m_lald (Z : mZ l G a0 s0) (C : mC s0 p s m meth c cc nL own ret nm) (hM : MW G s0.heap.size h H) {n : Nat} {f : Nat → Int64} (ha : hat h a (eL G n f)) {i : Int32} (k : Nat) (hi : i = nI k) (hk : k < n) (hn : n < 2 ^ 31) (hdg : decode cc pc = .ok (.laload, 1))
    (kk : W p l e R s m args below meth c H locs cells slots Q (F0 m (pc + 1) ls (.long (f k) :: rest))) : W p l e R s m args below meth c H locs cells slots Q (F0 m pc ls (.int i :: .ref a :: rest)) := by
  obtain ⟨hx, hb, hml, hown, hlk, hr, hE, -⟩ := C
  obtain ⟨q0, he⟩ := va_pl_get0 ha
  refine va_lald hx hb (hE.K Z) hM.1 q0 1 he rfl (nI_vp hi hk hn) hdg ?_
  rw [nI_cl hi hk hn]
  exact kk
theorem m_dald (Z : mZ l G a0 s0) (C : mC s0 p s m meth c cc nL own ret nm) (hM : MW G s0.heap.size h H) {n : Nat} {f : Nat → UInt64} (ha : hat h a (eD G n f)) {i : Int32} (k : Nat) (hi : i = nI k) (hk : k < n) (hn : n < 2 ^ 31) (hdg : decode cc pc = .ok (.daload, 1))
    (kk : W p l e R s m args below meth c H locs cells slots Q (F0 m (pc + 1) ls (.double (f k) :: rest))) : W p l e R s m args below meth c H locs cells slots Q (F0 m pc ls (.int i :: .ref a :: rest)) := by
  obtain ⟨hx, hb, hml, hown, hlk, hr, hE, -⟩ := C
  obtain ⟨q0, he⟩ := va_pl_get0 ha
  refine va_dald hx hb (hE.K Z) hM.1 q0 5 he rfl (nI_vp hi hk hn) hdg ?_
  rw [nI_cl hi hk hn]
  exact kk
theorem m_bald (Z : mZ l G a0 s0) (C : mC s0 p s m meth c cc nL own ret nm) (hM : MW G s0.heap.size h H) {n : Nat} {f : Nat → Option Nat} (ha : hat h a (eB G n f)) {i : Int32} (k : Nat) (hi : i = nI k) (hk : k < n) (hn : n < 2 ^ 31) {v : Value} (hv : va_rf (f k) = v) (hdg : decode cc pc = .ok (.aaload, 1))
    (kk : W p l e R s m args below meth c H locs cells slots Q (F0 m (pc + 1) ls (v :: rest))) : W p l e R s m args below meth c H locs cells slots Q (F0 m pc ls (.int i :: .ref a :: rest)) := by
  obtain ⟨hx, hb, hml, hown, hlk, hr, hE, -⟩ := C
  obtain ⟨q0, he⟩ := va_pl_get0 ha
  refine va_aldq hx hb (hE.K Z) hM.1 q0 2 he rfl (nI_vp hi hk hn) hdg ?_
  rw [nI_cl hi hk hn, hv]
  exact kk
theorem m_sald (Z : mZ l G a0 s0) (C : mC s0 p s m meth c cc nL own ret nm) (hM : MW G s0.heap.size h H) {n : Nat} {f : Nat → Option Nat} (ha : hat h a (eS G n f)) {i : Int32} (k : Nat) (hi : i = nI k) (hk : k < n) (hn : n < 2 ^ 31) {v : Value} (hv : va_rf (f k) = v) (hdg : decode cc pc = .ok (.aaload, 1))
    (kk : W p l e R s m args below meth c H locs cells slots Q (F0 m (pc + 1) ls (v :: rest))) : W p l e R s m args below meth c H locs cells slots Q (F0 m pc ls (.int i :: .ref a :: rest)) := by
  obtain ⟨hx, hb, hml, hown, hlk, hr, hE, -⟩ := C
  obtain ⟨q0, he⟩ := va_pl_get0 ha
  refine va_aldq hx hb (hE.K Z) hM.1 q0 3 he rfl (nI_vp hi hk hn) hdg ?_
  rw [nI_cl hi hk hn, hv]
  exact kk
theorem m_aald (Z : mZ l G a0 s0) (C : mC s0 p s m meth c cc nL own ret nm) (hM : MW G s0.heap.size h H) {n : Nat} {f : Nat → Option Nat} (ha : hat h a (eA G n f)) {i : Int32} (k : Nat) (hi : i = nI k) (hk : k < n) (hn : n < 2 ^ 31) {v : Value} (hv : va_rf (f k) = v) (hdg : decode cc pc = .ok (.aaload, 1))
    (kk : W p l e R s m args below meth c H locs cells slots Q (F0 m (pc + 1) ls (v :: rest))) : W p l e R s m args below meth c H locs cells slots Q (F0 m pc ls (.int i :: .ref a :: rest)) := by
  obtain ⟨hx, hb, hml, hown, hlk, hr, hE, -⟩ := C
  obtain ⟨q0, he⟩ := va_pl_get0 ha
  have hlt : i.toNatClampNeg < n := by rw [nI_cl hi hk hn]; exact hk
  refine W.aald (v := va_rf (f i.toNatClampNeg)) (ty := .array .int) hx hb (hM.1 q0 _ he) (((hE.K Z).2 4 _ rfl).1 n (fun j => va_rf (f j))) rfl (fun q => by cases q) (by show ¬ (i < 0 ∨ (arrV _ _ _).slots.size ≤ _); rw [arrV_size]; exact nI_vp hi hk hn) (by show (arrV _ _ _).slots[_]? = _; rw [arrV_read _ _ hlt]) rfl rfl hdg ?_
  rw [nI_cl hi hk hn, hv]
  exact kk
theorem m_alen (Z : mZ l G a0 s0) (C : mC s0 p s m meth c cc nL own ret nm) (hM : MW G s0.heap.size h H) {x : vp_A} {t0 : Nat} {ty : FieldType} (ht : (mTy G.2)[t0]? = some (G.2 t0, ty)) (ha : hat h a (.inl (G.2 t0, x))) (hdg : decode cc pc = .ok (.arraylength, 1))
    (kk : W p l e R s m args below meth c H locs cells slots Q (F0 m (pc + 1) ls (.int (nI x.1) :: rest))) : W p l e R s m args below meth c H locs cells slots Q (F0 m pc ls (.ref a :: rest)) := by
  obtain ⟨hx, hb, hml, hown, hlk, hr, hE, -⟩ := C
  obtain ⟨q0, he⟩ := va_pl_get0 ha
  exact va_alen hx hb (hE.K Z) hM.1 q0 t0 he ht rfl hdg kk
theorem m_iast (Z : mZ l G a0 s0) (C : mC s0 p s m meth c cc nL own ret nm) (hM : MW G s0.heap.size h H) (hS : va_S (fun q => s0.heap.size ≤ q) s.heap H locs) {n : Nat} {f : Nat → Int32} (ha : hat h a (eI G n f)) {i x : Int32} (k : Nat) (hi : i = nI k) (hk : k < n) (hn : n < 2 ^ 31) (hdg : decode cc pc = .ok (.iastore, 1))
    (kk : ∀ (H1 : Heap) (locs1 : List Loc), MW G s0.heap.size (hput h a (eI G n (va_up f k x))) H1 → va_S (fun q => s0.heap.size ≤ q) s.heap H1 locs1 → W p l e R s m args below meth c H1 locs1 cells slots Q (F0 m (pc + 1) ls rest)) : W p l e R s m args below meth c H locs cells slots Q (F0 m pc ls (.int x :: .int i :: .ref a :: rest)) := by
  obtain ⟨hx, hb, hml, hown, hlk, hr, hE, -⟩ := C
  obtain ⟨q0, he⟩ := va_pl_get0 ha
  refine va_iast hx hb (hE.K Z) hM.1 hM.2 hS q0 0 he rfl (nI_vp hi hk hn) hdg fun H1 locs1 hP1 hD1 hS1 => ?_
  rw [nI_cl hi hk hn, va_pl_set0 hM.2 ha he] at hP1
  rw [nI_cl hi hk hn, va_pl_set0 hM.2 ha he] at hD1
  exact kk H1 locs1 ⟨hP1, hD1⟩ hS1
theorem m_last (Z : mZ l G a0 s0) (C : mC s0 p s m meth c cc nL own ret nm) (hM : MW G s0.heap.size h H) (hS : va_S (fun q => s0.heap.size ≤ q) s.heap H locs) {n : Nat} {f : Nat → Int64} (ha : hat h a (eL G n f)) {i : Int32} {x : Int64} (k : Nat) (hi : i = nI k) (hk : k < n) (hn : n < 2 ^ 31) (hdg : decode cc pc = .ok (.lastore, 1))
    (kk : ∀ (H1 : Heap) (locs1 : List Loc), MW G s0.heap.size (hput h a (eL G n (va_up f k x))) H1 → va_S (fun q => s0.heap.size ≤ q) s.heap H1 locs1 → W p l e R s m args below meth c H1 locs1 cells slots Q (F0 m (pc + 1) ls rest)) : W p l e R s m args below meth c H locs cells slots Q (F0 m pc ls (.long x :: .int i :: .ref a :: rest)) := by
  obtain ⟨hx, hb, hml, hown, hlk, hr, hE, -⟩ := C
  obtain ⟨q0, he⟩ := va_pl_get0 ha
  refine va_last hx hb (hE.K Z) hM.1 hM.2 hS q0 1 he rfl (nI_vp hi hk hn) hdg fun H1 locs1 hP1 hD1 hS1 => ?_
  rw [nI_cl hi hk hn, va_pl_set0 hM.2 ha he] at hP1
  rw [nI_cl hi hk hn, va_pl_set0 hM.2 ha he] at hD1
  exact kk H1 locs1 ⟨hP1, hD1⟩ hS1
theorem m_dast (Z : mZ l G a0 s0) (C : mC s0 p s m meth c cc nL own ret nm) (hM : MW G s0.heap.size h H) (hS : va_S (fun q => s0.heap.size ≤ q) s.heap H locs) {n : Nat} {f : Nat → UInt64} (ha : hat h a (eD G n f)) {i : Int32} {x : UInt64} (k : Nat) (hi : i = nI k) (hk : k < n) (hn : n < 2 ^ 31) (hdg : decode cc pc = .ok (.dastore, 1))
    (kk : ∀ (H1 : Heap) (locs1 : List Loc), MW G s0.heap.size (hput h a (eD G n (va_up f k x))) H1 → va_S (fun q => s0.heap.size ≤ q) s.heap H1 locs1 → W p l e R s m args below meth c H1 locs1 cells slots Q (F0 m (pc + 1) ls rest)) : W p l e R s m args below meth c H locs cells slots Q (F0 m pc ls (.double x :: .int i :: .ref a :: rest)) := by
  obtain ⟨hx, hb, hml, hown, hlk, hr, hE, -⟩ := C
  obtain ⟨q0, he⟩ := va_pl_get0 ha
  refine va_dast hx hb (hE.K Z) hM.1 hM.2 hS q0 5 he rfl (nI_vp hi hk hn) hdg fun H1 locs1 hP1 hD1 hS1 => ?_
  rw [nI_cl hi hk hn] at hP1 hD1
  rw [va_pl_set0 hM.2 ha he] at hP1
  rw [va_pl_set0 hM.2 ha he] at hD1
  exact kk H1 locs1 ⟨hP1, hD1⟩ hS1
theorem m_bast (Z : mZ l G a0 s0) (C : mC s0 p s m meth c cc nL own ret nm) (hM : MW G s0.heap.size h H) (hS : va_S (fun q => s0.heap.size ≤ q) s.heap H locs) {n v : Nat} {vs : List Value} {f : Nat → Option Nat} (ha : hat h a (eB G n f)) (hv : hat h v (eO 1 vs)) {i : Int32} (k : Nat) (hi : i = nI k) (hk : k < n) (hn : n < 2 ^ 31) (hdg : decode cc pc = .ok (.aastore, 1))
    (kk : ∀ (H1 : Heap) (locs1 : List Loc), MW G s0.heap.size (hput h a (eB G n (va_up f k (some v)))) H1 → va_S (fun q => s0.heap.size ≤ q) s.heap H1 locs1 → W p l e R s m args below meth c H1 locs1 cells slots Q (F0 m (pc + 1) ls rest)) : W p l e R s m args below meth c H locs cells slots Q (F0 m pc ls (.ref v :: .int i :: .ref a :: rest)) := by
  obtain ⟨hx, hb, hml, hown, hlk, hr, hE, -⟩ := C
  obtain ⟨q0, he⟩ := va_pl_get0 ha
  obtain ⟨q1, he1⟩ := va_pl_get0 hv
  refine va_astq (r := (RX1, TX1, 9)) hx hb (hE.K Z) hM.1 hM.2 hS q0 2 q1 1 he rfl he1 rfl (nI_vp hi hk hn) hdg fun H1 locs1 hP1 hD1 hS1 => ?_
  rw [nI_cl hi hk hn, va_pl_set0 hM.2 ha he] at hP1
  rw [nI_cl hi hk hn, va_pl_set0 hM.2 ha he] at hD1
  exact kk H1 locs1 ⟨hP1, hD1⟩ hS1
theorem m_sast (Z : mZ l G a0 s0) (C : mC s0 p s m meth c cc nL own ret nm) (hM : MW G s0.heap.size h H) (hS : va_S (fun q => s0.heap.size ≤ q) s.heap H locs) {n v : Nat} {vs : List Value} {f : Nat → Option Nat} (ha : hat h a (eS G n f)) (hv : hat h v (eO 2 vs)) {i : Int32} (k : Nat) (hi : i = nI k) (hk : k < n) (hn : n < 2 ^ 31) (hdg : decode cc pc = .ok (.aastore, 1))
    (kk : ∀ (H1 : Heap) (locs1 : List Loc), MW G s0.heap.size (hput h a (eS G n (va_up f k (some v)))) H1 → va_S (fun q => s0.heap.size ≤ q) s.heap H1 locs1 → W p l e R s m args below meth c H1 locs1 cells slots Q (F0 m (pc + 1) ls rest)) : W p l e R s m args below meth c H locs cells slots Q (F0 m pc ls (.ref v :: .int i :: .ref a :: rest)) := by
  obtain ⟨hx, hb, hml, hown, hlk, hr, hE, -⟩ := C
  obtain ⟨q0, he⟩ := va_pl_get0 ha
  obtain ⟨q1, he1⟩ := va_pl_get0 hv
  refine va_astq (r := (RX2, TX2, 9)) hx hb (hE.K Z) hM.1 hM.2 hS q0 3 q1 2 he rfl he1 rfl (nI_vp hi hk hn) hdg fun H1 locs1 hP1 hD1 hS1 => ?_
  rw [nI_cl hi hk hn, va_pl_set0 hM.2 ha he] at hP1
  rw [nI_cl hi hk hn, va_pl_set0 hM.2 ha he] at hD1
  exact kk H1 locs1 ⟨hP1, hD1⟩ hS1
end
