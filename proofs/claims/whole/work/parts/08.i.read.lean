/-! a series' samples in a range, in a range of rollups -/
abbrev z_s1 (T : Nat → Nat) (a d : Int64) (i : Nat) : Prop := a ≤ lN (T i) ∧ lN (T i) ≤ d
abbrev z_s2 (T : Nat → Nat) (a d : Int64) (i : Nat) : Prop := a ≤ lN (T i - T i % 10) ∧ lN (T i - T i % 10 + 10 - 1) ≤ d
abbrev z_s3 (T : Nat → Nat) (a d : Int64) (i : Nat) : Prop := a ≤ lN (T i - T i % 10 + 10 - 1) ∧ lN (T i - T i % 10) ≤ d
