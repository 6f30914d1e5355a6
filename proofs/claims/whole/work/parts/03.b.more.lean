section
variable {p : Program} {l : Launch} {e : Env} {R : Room} {s : State} {m : MethodId} {args : Array Value} {below : List Frame} {meth : Method} {c : Code} {H : Heap} {locs : List Loc} {cells slots : Nat} {Q : State → Prop}
variable {cc : ByteArray} {pc nL : Nat} {ls : Array Slot} {rest st0 : List Value} {G : mG} {s0 : State} {a0 : Array Value} {own nm : String} {ret : Option FieldType} {h : Hp} {a b : Nat}
theorem oi_in : mIn (.instanceMethod objectInit) ∧ mIn (.code objectInit ⟨#[0xb1]⟩ 1 none) := ⟨mIn_of 93 (by decide +kernel), mIn_of 94 (by decide +kernel)⟩
theorem m_objInit (Z : mZ l G a0 s0) (C : mC s0 p s m meth c cc nL own ret nm) {index : Nat} (wl : mIn (.methodLink own index objectInit)) (hlz : ls.size = nL) (hdg : decode cc pc = .ok (.invokespecial index, 3)) (hR : 1 ≤ R.frames ∧ (rest.map fun v => v.category).sum + 12 ≤ R.locals)
    (kk : W p l e R s m args below meth c H locs cells slots Q (F0 m (pc + 3) ls rest)) : W p l e R s m args below meth c H locs cells slots Q (F0 m pc ls (.ref a :: rest)) := by
  obtain ⟨hx, hb, hml, hown, hlk, hr, hE, -⟩ := C
  refine W.objInit hx hb hown (hE.good Z wl args) (hE.good Z oi_in.1 args) (hE.good Z oi_in.2 args) rfl (hlz.trans hml.symm) rfl hdg hR.1 ?_ kk
  have h0 : (F0 m pc ls (.ref a :: rest)).monitorRoom = 0 := rfl
  rw [h0]
  simpa using hR.2
theorem mx_in : mIn (.static Lib.Math.max.name) ∧ mIn (.initialized "java/lang/Math") ∧ mIn (.code Lib.Math.max.name Lib.Math.max.code 2 (some .int)) := by
  unfold mIn
  decide +kernel
theorem m_imax (Z : mZ l G a0 s0) (C : mC s0 p s m meth c cc nL own ret nm) {index : Nat} (wl : mIn (.methodLink own index Lib.Math.max.name)) (hlz : ls.size = nL) (hdg : decode cc pc = .ok (.invokestatic index, 3)) (hR : 1 ≤ R.frames ∧ (rest.map fun v => v.category).sum + 13 ≤ R.locals ∧ cells ≤ R.cells ∧ slots ≤ R.slots) {x y : Int32}
    (kk : W p l e R s m args below meth c H locs cells slots Q (F0 m (pc + 3) ls (.int (if x < y then y else x) :: rest))) : W p l e R s m args below meth c H locs cells slots Q (F0 m pc ls (.int y :: .int x :: rest)) := by
  obtain ⟨hx, hb, hml, hown, hlk, hr, hE, -⟩ := C
  exact va_mmax hx hb (hml.trans hlz.symm) hown (hE.good Z wl args) (hE.good Z mx_in.1 args) (hE.good Z mx_in.2.1 args) (hE.good Z mx_in.2.2 args) hR.1 hR.2.1 hR.2.2.1 hR.2.2.2 hdg kk
/-- an array class over a class, from the law's start on -/
theorem mE.AO (E : mE s0 s) (Z : mZ l G a0 s0) {C : String} (w : mIn' (.arrayOver (.object C))) : va_AO C s := va_AO.moved E.1.alike (va_AO.of (Z.1 _ w))
theorem m_newq (Z : mZ l G a0 s0) (C : mC s0 p s m meth c cc nL own ret nm) (hM : MW G s0.heap.size h H) (hS : va_S (fun q => s0.heap.size ≤ q) s.heap H locs) {Cn : String} (t0 : Nat) (ht : (mTy G.2)[t0]? = some (G.2 t0, .object Cn)) {index : Nat} (wl : mIn (.classLink own index Cn)) (wo : mIn' (.arrayOver (.object Cn))) {n : Int32} (N' : Nat) (hn : ¬ n < 0) (hN : n.toNatClampNeg = N') (hbytes : N' * 4 ≤ 536870912) (hcells : cells + 1 ≤ R.cells) (hslots : slots + N' ≤ R.slots) (hdg : decode cc pc = .ok (.anewarray index, 3))
    (kk : ∀ (q : Nat) (H1 : Heap), q ∉ h.1 → MW G s0.heap.size (hnew h q (.inl (G.2 t0, N', .inr (.inr (.inr (.inr (fun _ => none))))))) H1 → va_S (fun q => s0.heap.size ≤ q) s.heap H1 locs → W p l e R s m args below meth c H1 locs (cells + 1) (slots + N') Q (F0 m (pc + 3) ls (.ref q :: rest))) : W p l e R s m args below meth c H locs cells slots Q (F0 m pc ls (.int n :: rest)) := by
  obtain ⟨hx, hb, hml, hown, hlk, hr, hE, hn0⟩ := C
  have hA : ∀ q : Nat, s.heap.size ≤ q → s0.heap.size ≤ q := fun q z => Nat.le_trans hE.2.1 z
  refine va_newq hx hb hown (hE.good Z wl args) (hE.AO Z wo) (hE.K Z) hM.1 hM.2 hS hA hn hN hbytes hcells hslots hdg fun q cA H1 hK1 hP1 hD1 hS1 => ?_
  have h1 := ((hE.K Z).2 t0 _ ht).2
  have h2 := (hK1.2 6 _ rfl).2
  obtain ⟨kA, comp, -, -, -, e1⟩ := h1
  obtain ⟨kA2, comp2, -, -, -, e2⟩ := h2
  have hcc : cA = G.2 t0 := Option.some.inj (e2.symm.trans e1)
  subst hcc
  have hnin : q ∉ h.1 := va_pl_fresh2 (X := []) hD1
  rw [va_pl_push0 hnin] at hP1
  rw [va_pl_push0 hnin] at hD1
  exact kk q H1 hnin ⟨hP1, hD1⟩ hS1
theorem m_mna (Z : mZ l G a0 s0) (C : mC s0 p s m meth c cc nL own ret nm) (hM : MW G s0.heap.size h H) (hS : va_S (fun q => s0.heap.size ≤ q) s.heap H locs) {index : Nat} (wl : mIn (.classLink own index "[[I")) (wa : mIn (.arrayClass .int)) (wo : mIn' (.arrayOver (.array .int))) {n k : Int32} (N K : Nat) (hn : ¬ n < 0) (hk : ¬ k < 0) (hN : n.toNatClampNeg = N) (hK : k.toNatClampNeg = K) (hb1 : N * 4 ≤ 536870912) (hb2 : K * 4 ≤ 536870912) (hcells : cells + (1 + N) ≤ R.cells) (hslots : slots + (N + N * K) ≤ R.slots) (hdg : decode cc pc = .ok (.multianewarray index 2, 4))
    (kk : ∀ (q : Nat) (r : Nat → Nat) (h' : Hp) (H1 : Heap), (∀ i j : Nat, i < N → j < N → r i = r j → i = j) → (∀ i : Nat, i < N → r i ∉ h.1) → q ∉ h.1 → (∀ i : Nat, i < N → q ≠ r i) → hat h' q (eA G N (fun i => if i < N then some (r i) else none)) → (∀ i : Nat, i < N → hat h' (r i) (eI G K (fun _ => 0))) → (∀ a e, hat h a e → hat h' a e) → MW G s0.heap.size h' H1 → va_S (fun q => s0.heap.size ≤ q) s.heap H1 locs → W p l e R s m args below meth c H1 locs (cells + 1 + N) (slots + N + N * K) Q (F0 m (pc + 4) ls (.ref q :: rest))) : W p l e R s m args below meth c H locs cells slots Q (F0 m pc ls (.int k :: .int n :: rest)) := by
  obtain ⟨hx, hb, hml, hown, hlk, hr, hE, hn0⟩ := C
  have hA : ∀ q : Nat, s.heap.size ≤ q → s0.heap.size ≤ q := fun q z => Nat.le_trans hE.2.1 z
  have hover : va_AOA .int s := by
    have h0 : va_AOA .int s0 := va_AOA.of (Z.1 _ wo)
    exact over_moved (a := #[]) (a' := #[]) hE.1.alike h0
  have hra0 : s.vm.findClass ("[" ++ FieldType.int.toString) = some (G.2 0) := ((hE.K Z).2 0 _ rfl).2
  refine va_mna (X := []) (L := h.1) (f := h.2) (ty := .int) (cy := G.2 0) (z := (K, .inl (fun _ => 0))) hx hb hown (hE.good Z wl args) hover (hE.good Z wa args) hra0 (hE.K Z) hM.1 hM.2 hS hA hn hk hN hK hb1 hb2 (by omega) rfl rfl hcells hslots (fun c => ?_) hdg fun q r cA H1 hinj hrn hK1 hP1 hD1 hS1 => ?_
  · show _ = vp_cell c (K, .inl (fun _ => 0))
    rw [vp_cell_i]
    exact arrV_new _ _ _
  · have e1 : s.vm.findClass ("[" ++ (FieldType.array .int).toString) = some (G.2 4) := ((hE.K Z).2 4 _ rfl).2
    have e2 : s.vm.findClass ("[" ++ (FieldType.array .int).toString) = some cA := (hK1.2 6 _ rfl).2
    have hcc : cA = G.2 4 := Option.some.inj (e2.symm.trans e1)
    subst hcc
    generalize hrs : (List.range N).map r = rs at hP1 hD1
    have hin : ∀ i, i < N → r i ∈ rs := fun i hi => by rw [← hrs]; exact List.mem_map.mpr ⟨i, List.mem_range.mpr hi, rfl⟩
    generalize hE9 : (.inl (G.2 4, N, .inr (.inr (.inr (.inr (fun i => if i < N then some (r i) else none))))) : va_E) = E9 at hP1 hD1
    generalize hE8 : (.inl (G.2 0, K, .inl (fun _ => 0)) : va_E) = E8 at hP1 hD1
    have hq : ∀ x, x ∈ h.1 ++ rs → x ≠ q := by
      intro x hx9 hxq
      subst hxq
      obtain ⟨k9, hk9⟩ := va_pl_get (X := [(x, E9)]) (f := vr_up h.2 rs E8) hx9
      have h3 : (([] ++ [(x, E9)]) ++ va_pl (h.1 ++ rs) (vr_up h.2 rs E8))[0]? = some (x, E9) := rfl
      have h5 := hD1.1 0 k9 _ _ h3 hk9 rfl
      subst h5
      have h6 : (x, E9) = (x, vr_up h.2 rs E8 x) := Option.some.inj (h3.symm.trans hk9)
      have h7 : E9 = vr_up h.2 rs E8 x := congrArg Prod.snd h6
      obtain ⟨j9, hj9⟩ := va_pl_get (X := []) (f := vr_up h.2 rs E8) hx9
      have h8 : (([] ++ [(x, E9)]) ++ va_pl (h.1 ++ rs) (vr_up h.2 rs E8))[j9 + 1]? = some (x, vr_up h.2 rs E8 x) := hj9
      have h10 := hD1.1 0 (j9 + 1) _ _ h3 h8 rfl
      omega
    have hw : ([] ++ [(q, E9)]) ++ va_pl (h.1 ++ rs) (vr_up h.2 rs E8) = va_pl (q :: (h.1 ++ rs)) (va_up (vr_up h.2 rs E8) q E9) := by
      show (q, E9) :: va_pl (h.1 ++ rs) (vr_up h.2 rs E8) = (q, va_up (vr_up h.2 rs E8) q E9 q) :: va_pl (h.1 ++ rs) (va_up (vr_up h.2 rs E8) q E9)
      rw [va_up_self]
      refine congrArg (fun l => (q, E9) :: l) ?_
      unfold va_pl
      refine List.map_congr_left fun x hx9 => ?_
      rw [va_up_ne _ _ (hq x hx9)]
    rw [hw] at hP1 hD1
    refine kk q r (q :: (h.1 ++ rs), va_up (vr_up h.2 rs E8) q E9) H1 hinj hrn (fun z => hq q (List.mem_append_left _ z) rfl) (fun i hi z => hq (r i) (List.mem_append_right _ (hin i hi)) z.symm) ⟨List.mem_cons_self, ?_⟩ (fun i hi => ⟨List.mem_cons_of_mem _ (List.mem_append_right _ (hin i hi)), ?_⟩) (fun a e w => ⟨List.mem_cons_of_mem _ (List.mem_append_left _ w.1), ?_⟩) ⟨hP1, hD1⟩ hS1
    · exact (va_up_self _ _ _).trans hE9.symm
    · show va_up (vr_up h.2 rs E8) q E9 (r i) = _
      rw [va_up_ne _ _ (hq (r i) (List.mem_append_right _ (hin i hi))), vr_up_in (hin i hi)]
      exact hE8.symm
    · show va_up (vr_up h.2 rs E8) q E9 a = _
      rw [va_up_ne _ _ (hq a (List.mem_append_left _ w.1)), vr_up_ne, w.2]
      rw [← hrs]
      intro z
      obtain ⟨i, hi, rfl⟩ := List.mem_map.mp z
      exact hrn i (List.mem_range.mp hi) w.1
end
