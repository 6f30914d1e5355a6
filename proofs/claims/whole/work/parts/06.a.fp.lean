theorem f_div_ok : ∀ a : Nat, a < 11 → ∀ d : Nat, d < 11 → d ≠ 0 → vf_n32 (FP.fdiv (FP.i2f (nI a)) (FP.i2f (nI d))) ∧ vf_n64 (FP.f2d (FP.fdiv (FP.i2f (nI a)) (FP.i2f (nI d)))) := by
  unfold vf_n32 vf_n64
  decide +kernel
theorem f_n64 {x : UInt64} (h : FP.Core.val64 x ≠ .nan) : vf_n64 x := by
  have h0 : ¬ FP.Core.dIsNaN x = true := fun q => h ((FP.Core.dIsNaN_iff x).mp q)
  rw [FP.Core.isNaN_bits] at h0
  unfold vf_n64
  rw [UInt64.le_iff_toNat_le, UInt64.toNat_and]
  have h1 : (0x7fffffffffffffff : UInt64).toNat = 2 ^ 63 - 1 := by decide
  have h2 : (0x7ff0000000000000 : UInt64).toNat = 9218868437227405312 := by decide
  rw [h1, h2, Nat.and_two_pow_sub_one_eq_mod]
  omega
theorem f_rr (f : FP.Core.Fmt) (s : Bool) (n d : Nat) (e : Int) : FP.Core.roundRatio f s n d e ≠ .nan := by
  unfold FP.Core.roundRatio
  split
  · intro h; cases h
  · unfold FP.Core.roundAt FP.Core.settle FP.Core.bound
    split <;> split <;> (intro h; cases h)
def f_pos : FP.Core.Datum → Bool
  | .fin _ d _ => decide (d ≠ 0)
  | _ => false
theorem f_den : ∀ d : Nat, d < 121 → d ≠ 0 → f_pos (FP.Core.val64 (FP.i2d (nI d))) = true := by decide +kernel
theorem d_div_ok (x : Int64) {d : Nat} (h : d < 121) (h0 : d ≠ 0) : vf_n64 (FP.ddiv (FP.l2d x) (FP.i2d (nI d))) := by
  refine f_n64 ?_
  show FP.Core.val64 (FP.Core.ddiv (FP.Core.l2d x) (FP.i2d (nI d))) ≠ .nan
  rw [FP.Core.val64_ddiv, FP.Core.val64_l2d]
  have e := f_den d h h0
  generalize FP.Core.val64 (FP.i2d (nI d)) = y at e ⊢
  have e2 : ∀ i : Int, FP.Core.round FP.Core.b64 (FP.Core.ofInt i) ≠ .nan := fun i => f_rr _ _ _ _ _
  have e3 := e2 x.toInt
  generalize FP.Core.round FP.Core.b64 (FP.Core.ofInt x.toInt) = z at e3 ⊢
  cases y with
  | nan => exact absurd e (by decide)
  | inf t => exact absurd e (by simp [f_pos])
  | fin t d r =>
    have hd : d ≠ 0 := of_decide_eq_true e
    cases z with
    | nan => exact absurd rfl e3
    | inf s => intro q; cases q
    | fin s c q => 
      show (if d = 0 then (if c = 0 then FP.Core.Datum.nan else FP.Core.Datum.inf (s != t)) else FP.Core.roundRatio FP.Core.b64 (s != t) c d (q - r)) ≠ _
      rw [if_neg hd]
      exact f_rr _ _ _ _ _
