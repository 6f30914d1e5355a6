section
variable {p : Program} {l : Launch} {e : Env} {R : Room} {s : State} {m : MethodId} {args : Array Value} {below : List Frame} {meth : Method} {c : Code} {H : Heap} {locs : List Loc} {cells slots : Nat} {Q : State → Prop}
variable {cc : ByteArray} {pc nL : Nat} {ls : Array Slot} {rest st0 : List Value} {G : mG} {s0 : State} {a0 : Array Value} {own nm : String} {ret : Option FieldType} {h : Hp} {a b : Nat}
/-- a body's entry -/
theorem mM_of {y : MethodName} {maxL fr lo mc ms : Nat} {As : List Value} {P : Option Value → Hp → Prop} (own nm : String) (hcls : y.cls = own) (hname : y.name = nm) (hy : plainName y.cls = true) (hlen : (lg_sl As).length ≤ maxL)
    (body : ∀ p e s m below meth c, mC s0 p s m meth c cc maxL own ret nm → MW G s0.heap.size h s.heap → ∀ ls : Array Slot, lv_has ls maxL (lv_args 0 As) → W p l e (mRm fr lo mc ms) s m As.toArray below meth c s.heap [] 0 0 (MQ below (mQc G s0 P) As.toArray s mc ms (fun q => s0.heap.size ≤ q)) (F0 m 0 ls [])) : mM l G s0 y cc maxL ret fr lo mc ms h As P := by
  refine Met.ofW (cc := cc) (maxL := maxL) (ret := ret) hy rfl ?_
  intro p e s m args below meth c s₁ B hml hv
  obtain ⟨rfl, hE, hM⟩ := hv
  have C : mC s0 p s m meth c cc maxL own ret nm := ⟨B.exec, B.bytes, hml, hcls ▸ findClass_of_methodNamed B.named, B.notSynchronized, B.returns, hE, hname ▸ (name_of_methodNamed B.named B.method).1⟩
  rw [lg_entry_eq]
  exact body p e s m below meth c C hM _ (lv_entry As hlen)
theorem mT_of {y : MethodName} {maxL fr lo mc ms : Nat} {As : List Value} {P : Option Value → Hp → Prop} {X : String → Hp → Prop} (own nm : String) (hcls : y.cls = own) (hname : y.name = nm) (hy : plainName y.cls = true) (hlen : (lg_sl As).length ≤ maxL)
    (body : ∀ p e s m below meth c, mC s0 p s m meth c cc maxL own ret nm → (∀ x ∈ c.exceptionTable.toList, False) → MW G s0.heap.size h s.heap → ∀ ls : Array Slot, lv_has ls maxL (lv_args 0 As) → W p l e (mRm fr lo mc ms) s m As.toArray below meth c s.heap [] 0 0 (vx_MQ below (mQc G s0 P) (mXc G s0 X) As.toArray s mc ms (fun q => s0.heap.size ≤ q)) (F0 m 0 ls [])) : mT l G s0 y cc maxL ret fr lo mc ms h As P X := by
  refine vx_ofW (cc := cc) (maxL := maxL) (ret := ret) hy rfl ?_
  intro p e s m args below meth c s₁ B hml ht hv
  obtain ⟨rfl, hE, hM⟩ := hv
  have C : mC s0 p s m meth c cc maxL own ret nm := ⟨B.exec, B.bytes, hml, hcls ▸ findClass_of_methodNamed B.named, B.notSynchronized, B.returns, hE, hname ▸ (name_of_methodNamed B.named B.method).1⟩
  rw [lg_entry_eq]
  exact body p e s m below meth c C ht hM _ (lv_entry As hlen)
-- the ends of what returns
theorem m_q {P : Option Value → Hp → Prop} {v : Option Value} {as : Array Value} (hM : MW G s0.heap.size h H) (hS : va_S (fun q => s0.heap.size ≤ q) s.heap H locs) (hp : P v h) : ∀ t : State, t.heap = H → s.WarmedH t.vm → mQc G s0 P as s (.returned v) t := fun t ht _ => ⟨⟨v, h, rfl, hp, by rw [ht]; exact hM⟩, hS.F ht⟩
theorem m_iret {P : Option Value → Hp → Prop} {mc ms : Nat} {v : Int32} (C : mC s0 p s m meth c cc nL own (some .int) nm) (hM : MW G s0.heap.size h H) (hS : va_S (fun q => s0.heap.size ≤ q) s.heap H locs) (hc : cells ≤ mc) (hs : slots ≤ ms) (hdg : decode cc pc = .ok (.ireturn, 1)) (hp : P (some (.int v)) h) : W p l e R s m args below meth c H locs cells slots (MQ below (mQc G s0 P) args s mc ms (fun q => s0.heap.size ≤ q)) (F0 m pc ls [.int v]) := by
  obtain ⟨hx, hb, hml, hown, hlk, hr, hE, -⟩ := C
  exact W.widen hc hs (W.iret hx hb hr (m_q hM hS hp) hS.2.2 hdg hlk)
theorem m_zret {P : Option Value → Hp → Prop} {mc ms : Nat} {v : Int32} {ty : FieldType} (C : mC s0 p s m meth c cc nL own (some ty) nm) (hM : MW G s0.heap.size h H) (hS : va_S (fun q => s0.heap.size ≤ q) s.heap H locs) (hc : cells ≤ mc) (hs : slots ≤ ms) (hn : narrow ty (.int v) = .int v) (hdg : decode cc pc = .ok (.ireturn, 1)) (hp : P (some (.int v)) h) : W p l e R s m args below meth c H locs cells slots (MQ below (mQc G s0 P) args s mc ms (fun q => s0.heap.size ≤ q)) (F0 m pc ls [.int v]) := by
  obtain ⟨hx, hb, hml, hown, hlk, hr, hE, -⟩ := C
  exact W.widen hc hs (W.zret hx hb hr hn (m_q hM hS hp) hS.2.2 hdg hlk)
theorem m_lret {P : Option Value → Hp → Prop} {mc ms : Nat} {v : Int64} (C : mC s0 p s m meth c cc nL own (some .long) nm) (hM : MW G s0.heap.size h H) (hS : va_S (fun q => s0.heap.size ≤ q) s.heap H locs) (hc : cells ≤ mc) (hs : slots ≤ ms) (hdg : decode cc pc = .ok (.lreturn, 1)) (hp : P (some (.long v)) h) : W p l e R s m args below meth c H locs cells slots (MQ below (mQc G s0 P) args s mc ms (fun q => s0.heap.size ≤ q)) (F0 m pc ls [.long v]) := by
  obtain ⟨hx, hb, hml, hown, hlk, hr, hE, -⟩ := C
  exact W.widen hc hs (W.lret hx hb hr (m_q hM hS hp) hS.2.2 hdg hlk)
theorem m_dret {P : Option Value → Hp → Prop} {mc ms : Nat} {v : UInt64} (C : mC s0 p s m meth c cc nL own (some .double) nm) (hM : MW G s0.heap.size h H) (hS : va_S (fun q => s0.heap.size ≤ q) s.heap H locs) (hc : cells ≤ mc) (hs : slots ≤ ms) (hdg : decode cc pc = .ok (.dreturn, 1)) (hp : P (some (.double v)) h) : W p l e R s m args below meth c H locs cells slots (MQ below (mQc G s0 P) args s mc ms (fun q => s0.heap.size ≤ q)) (F0 m pc ls [.double v]) := by
  obtain ⟨hx, hb, hml, hown, hlk, hr, hE, -⟩ := C
  exact W.widen hc hs (W.dret hx hb hr (m_q hM hS hp) hS.2.2 hdg hlk)
theorem m_fret {P : Option Value → Hp → Prop} {mc ms : Nat} {v : UInt32} (C : mC s0 p s m meth c cc nL own (some .float) nm) (hM : MW G s0.heap.size h H) (hS : va_S (fun q => s0.heap.size ≤ q) s.heap H locs) (hc : cells ≤ mc) (hs : slots ≤ ms) (hdg : decode cc pc = .ok (.freturn, 1)) (hp : P (some (.float v)) h) : W p l e R s m args below meth c H locs cells slots (MQ below (mQc G s0 P) args s mc ms (fun q => s0.heap.size ≤ q)) (F0 m pc ls [.float v]) := by
  obtain ⟨hx, hb, hml, hown, hlk, hr, hE, -⟩ := C
  exact W.widen hc hs (W.fret hx hb hr (m_q hM hS hp) hS.2.2 hdg hlk)
theorem m_vret {P : Option Value → Hp → Prop} {mc ms : Nat} (C : mC s0 p s m meth c cc nL own none nm) (hM : MW G s0.heap.size h H) (hS : va_S (fun q => s0.heap.size ≤ q) s.heap H locs) (hc : cells ≤ mc) (hs : slots ≤ ms) (hdg : decode cc pc = .ok (.return_, 1)) (hp : P none h) : W p l e R s m args below meth c H locs cells slots (MQ below (mQc G s0 P) args s mc ms (fun q => s0.heap.size ≤ q)) (F0 m pc ls []) := by
  obtain ⟨hx, hb, hml, hown, hlk, hr, hE, -⟩ := C
  exact W.widen hc hs (W.vret hx hb hr (m_q hM hS hp) hS.2.2 hdg hlk)
-- an exception that leaves
theorem m_out {P : Option Value → Hp → Prop} {X : String → Hp → Prop} {mc ms : Nat} {E : String} {ce : Cell} {q : Addr} (C : mC s0 p s m meth c cc nL own ret nm) (ht : ∀ x ∈ c.exceptionTable.toList, False) (hM : MW G s0.heap.size h H) (hS : va_S (fun q => s0.heap.size ≤ q) s.heap H locs) (hc : cells ≤ mc) (hs : slots ≤ ms) (hcell : H[q]? = some ce) (hv : ce.vm = .none) (hcl : s.vm.findClass E = some ce.cls) (hx : X E h) :
    vx_W p l e R s m args below meth c H locs cells slots (vx_MQ below (mQc G s0 P) (mXc G s0 X) args s mc ms (fun q => s0.heap.size ≤ q)) (F0 m pc ls rest) q :=
  vx_out (fun x h => (ht x h).elim) C.2.2.2.2.1 hcell hv hcl (fun t ht _ => ⟨⟨h, hx, by rw [ht]; exact hM⟩, hS.F ht⟩) hS.2.2 hc hs
/-- throw new E("text") -/
def mXy (own : String) (ik is ic : Nat) (cls text : String) (names : List String) : Prop := Bundle.fit cls = true ∧ (∀ n ∈ names, Bundle.fit n = true) ∧ (∀ w ∈ Cond.classLink own ik cls :: Cond.initialized cls :: vx_atS own ic cls names, w ∈ lw_tbl ∧ mk2 w = true ∧ vx_ot w = true) ∧ mIn' (.stringRef own is text)
theorem m_throw (Z : mZ l G a0 s0) {P : Option Value → Hp → Prop} {X : String → Hp → Prop} {mc ms : Nat} {cls text : String} {names : List String} {ik is ic : Nat} (C : mC s0 p s m meth c cc nL own ret nm) (ht : ∀ x ∈ c.exceptionTable.toList, False) (hM : MW G s0.heap.size h H) (hS : va_S (fun q => s0.heap.size ≤ q) s.heap H locs) (Y : mXy own ik is ic cls text names) (hlz : ls.size = nL)
    (d0 : decode cc pc = .ok (.new ik, 3)) (d3 : decode cc (pc + 3) = .ok (.dup, 1)) (d4 : decode cc (pc + 4) = .ok (.ldc is, 2)) (d6 : decode cc (pc + 6) = .ok (.invokespecial ic, 3)) (d9 : decode cc (pc + 9) = .ok (.athrow, 1))
    (hR : names.length + 3 < R.frames ∧ (rest.map fun v => v.category).sum + (13 * (names.length + 1) + 43) ≤ R.locals ∧ cells + 1 ≤ R.cells ∧ slots + 6 ≤ R.slots) (hc : cells + 1 ≤ mc) (hs : slots + 6 ≤ ms) (hx : X cls h) :
    W p l e R s m args below meth c H locs cells slots (vx_MQ below (mQc G s0 P) (mXc G s0 X) args s mc ms (fun q => s0.heap.size ≤ q)) (F0 m pc ls rest) := by
  obtain ⟨hx0, hb, hml, hown, hlk, hr, hE, hn⟩ := C
  obtain ⟨sa, hsa⟩ := hE.str Z Y.2.2.2
  refine vx_throwS hx0 hb Z.2.2.1 hown Y.1 Y.2.1 (hE.two Z (Y.2.2.1 _ List.mem_cons_self).1 (Y.2.2.1 _ List.mem_cons_self).2.1 args) (hE.two Z (Y.2.2.1 _ (List.mem_cons_of_mem _ List.mem_cons_self)).1 (Y.2.2.1 _ (List.mem_cons_of_mem _ List.mem_cons_self)).2.1 args) hsa
    (fun w hw => hE.two Z (Y.2.2.1 _ (List.mem_cons_of_mem _ (List.mem_cons_of_mem _ hw))).1 (Y.2.2.1 _ (List.mem_cons_of_mem _ (List.mem_cons_of_mem _ hw))).2.1 args) (fun w hw => (Y.2.2.1 w hw).2.2) (hE.thr Z).1 (hE.thr Z).2 hS (hlz.trans hml.symm) d0 d3 d4 d6 d9 (fun x h => (ht x h).elim) hR.1 hR.2.1 hR.2.2.1 hR.2.2.2 hlk (fun t hvm hz hq => ?_) hS.2.2 hc hs
  refine ⟨⟨h, hx, ?_⟩, Nat.le_trans hS.1 hz, fun q h1 h2 => (hq q (Nat.lt_of_lt_of_le h1 hS.1)).trans (hS.2.1 q h1 h2)⟩
  exact ⟨hM.1.kept (fun k q hk => hq q.1 ((hM.1 k q hk).lt)), hM.2⟩
-- what is made
theorem m_new (Z : mZ l G a0 s0) (C : mC s0 p s m meth c cc nL own ret nm) (hM : MW G s0.heap.size h H) (hS : va_S (fun q => s0.heap.size ≤ q) s.heap H locs) {ci : Nat} {Cn : String} {T : u_T} {N : Nat} {ty : Nat → FieldType} (K : mKi ci Cn T N ty) {index : Nat} (wl : mIn (.classLink own index Cn)) (wi : mIn (.instantiable Cn N)) (wn : mIn (.initialized Cn)) {fs : List Value} (hfs : ∀ j, j < N → defaultValue (ty j) = vp_V fs j) (hcells : cells + 1 ≤ R.cells) (hslots : slots + N ≤ R.slots) (hdg : decode cc pc = .ok (.new index, 3))
    (kk : ∀ (q : Nat) (H1 : Heap), q ∉ h.1 → MW G s0.heap.size (hnew h q (eO ci fs)) H1 → va_S (fun q => s0.heap.size ≤ q) s.heap H1 locs → W p l e R s m args below meth c H1 locs (cells + 1) (slots + N) Q (F0 m (pc + 3) ls (.ref q :: rest))) : W p l e R s m args below meth c H locs cells slots Q (F0 m pc ls rest) := by
  obtain ⟨hx, hb, hml, hown, hlk, hr, hE, hn⟩ := C
  have hKn := (hE.K Z).1 ci _ K.1
  refine W.newcK hx hb hown (hE.good Z wl args) (hE.good Z wi args) (hE.good Z wn args) rfl hdg hcells hslots hKn.2.1 rfl fun H1 kC hkC e1 z1 o1 => ?_
  have hk : ∀ (k : Nat) (x : Nat × va_E), (va_pl h.1 h.2)[k]? = some x → H1[x.1]? = H[x.1]? := fun k x hx => o1 x.1 ((hM.1 k x hx).lt)
  have hnin : H.size ∉ h.1 := hM.fresh (Nat.le_refl _)
  have hP2 : va_P G.1 mCl (va_pl h.1 h.2 ++ [(H.size, eO ci fs)]) H1 := (hM.1.kept hk).app (fun k x hx => by
    have hz : k < 1 := (List.getElem?_eq_some_iff.mp hx).1
    rw [show k = 0 by omega] at hx
    cases hx
    exact ⟨_, K.1, (u_born ty (K.2.1.lays hE Z args) (fun _ z => z) hKn hkC e1 K.2.2.1).to hfs⟩)
  have hD2 : va_D (fun q => s0.heap.size ≤ q) (va_pl h.1 h.2 ++ [(H.size, eO ci fs)]) := hM.2.push hM.1 rfl (Nat.le_trans hE.2.1 hS.1)
  rw [va_pl_push0 hnin] at hP2
  rw [va_pl_push0 hnin] at hD2
  exact kk H.size H1 hnin ⟨hP2, hD2⟩ ⟨Nat.le_trans hS.1 (by omega), fun x h1 h2 => (o1 x (Nat.lt_of_lt_of_le h1 hS.1)).trans (hS.2.1 x h1 h2), hS.2.2⟩
theorem m_newa (Z : mZ l G a0 s0) (C : mC s0 p s m meth c cc nL own ret nm) (hM : MW G s0.heap.size h H) (hS : va_S (fun q => s0.heap.size ≤ q) s.heap H locs) {atype : ArrayType} {ty : FieldType} (hty : newarray.typeOf atype = ty) (warr : mIn (.arrayClass ty)) (t0 : Nat) (ht : (mTy G.2)[t0]? = some (G.2 t0, ty)) (hobj : va_RA s (G.2 t0) ty = (s.vm.findClass ("[" ++ ty.toString) = some (G.2 t0))) {n : Int32} (N' : Nat) {av : vp_A} (ha : ∀ cA : ClassId, vp_cell cA av = arrV cA N' (fun _ => defaultValue ty)) (hn : ¬ n < 0) (hN : n.toNatClampNeg = N') (hbytes : N' * componentBytes ty ≤ 536870912) (hcells : cells + 1 ≤ R.cells) (hslots : slots + N' ≤ R.slots) (hdg : decode cc pc = .ok (.newarray atype, 2))
    (kk : ∀ (q : Nat) (H1 : Heap), q ∉ h.1 → MW G s0.heap.size (hnew h q (.inl (G.2 t0, av))) H1 → va_S (fun q => s0.heap.size ≤ q) s.heap H1 locs → W p l e R s m args below meth c H1 locs (cells + 1) (slots + N') Q (F0 m (pc + 2) ls (.ref q :: rest))) : W p l e R s m args below meth c H locs cells slots Q (F0 m pc ls (.int n :: rest)) := by
  obtain ⟨hx, hb, hml, hown, hlk, hr, hE, hn0⟩ := C
  subst hty
  refine va_newaK hx hb (hE.good Z warr args) rfl hdg rfl hn hN hbytes hcells hslots rfl fun H1 cA e1 z1 o1 hAr hNm => ?_
  have hra := ((hE.K Z).2 t0 _ ht).2
  have hcc : cA = G.2 t0 := by
    have h3 : va_RA s (G.2 t0) (newarray.typeOf atype) := hra
    rw [hobj] at h3
    exact Option.some.inj (hNm.symm.trans h3)
  subst hcc
  have hk : ∀ (k : Nat) (x : Nat × va_E), (va_pl h.1 h.2)[k]? = some x → H1[x.1]? = H[x.1]? := fun k x hx => o1 x.1 ((hM.1 k x hx).lt)
  have hnin : H.size ∉ h.1 := hM.fresh (Nat.le_refl _)
  have hP2 : va_P G.1 mCl (va_pl h.1 h.2 ++ [(H.size, .inl (G.2 t0, av))]) H1 := (hM.1.kept hk).app (fun k x hx => by
    have hz : k < 1 := (List.getElem?_eq_some_iff.mp hx).1
    rw [show k = 0 by omega] at hx
    cases hx
    show H1[H.size]? = some (vp_cell _ _)
    rw [ha]
    exact e1)
  have hD2 : va_D (fun q => s0.heap.size ≤ q) (va_pl h.1 h.2 ++ [(H.size, .inl (G.2 t0, av))]) := hM.2.push hM.1 rfl (Nat.le_trans hE.2.1 hS.1)
  rw [va_pl_push0 hnin] at hP2
  rw [va_pl_push0 hnin] at hD2
  exact kk H.size H1 hnin ⟨hP2, hD2⟩ ⟨Nat.le_trans hS.1 (by omega), fun x h1 h2 => (o1 x (Nat.lt_of_lt_of_le h1 hS.1)).trans (hS.2.1 x h1 h2), hS.2.2⟩
end
