/-! a series' samples in a range, in a range of rollups -/
abbrev z_s1 (T : Nat → Nat) (a d : Int64) (i : Nat) : Prop := a ≤ lN (T i) ∧ lN (T i) ≤ d
abbrev z_s2 (T : Nat → Nat) (a d : Int64) (i : Nat) : Prop := a ≤ lN (T i - T i % 10) ∧ lN (T i - T i % 10 + 10 - 1) ≤ d
abbrev z_s3 (T : Nat → Nat) (a d : Int64) (i : Nat) : Prop := a ≤ lN (T i - T i % 10 + 10 - 1) ∧ lN (T i - T i % 10) ≤ d
/-- found, total and greatest behind the first blocks -/
def k_rb (f : Nat → Nat → Int64) (g : Nat → Nat → Int32) (ft : Nat → Int64) (fv : Nat → Int32) (sz : Nat → Nat) (a d : Int64) : Nat → Nat × Int64 × Int32
  | 0 => (0, lN 0, -10000)
  | y + 1 => z_rs (z_bp (f y) (ft y) a d) (fun r => z_vl (g y) (fv y) (r + 1)) (k_rb f g ft fv sz a d y) (sz y)
