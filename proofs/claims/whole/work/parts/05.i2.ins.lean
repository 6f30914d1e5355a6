theorem z_ins_t {b k : Nat} {v : Int32} {f : Nat → Int32} (h : v < f (b + k)) : z_ins b v (k + 1) f = z_ins b v k (va_up f (b + (k + 1)) (f (b + k))) := by rw [z_ins, if_pos h]
theorem z_ins_f {b k : Nat} {v : Int32} {f : Nat → Int32} (h : ¬ v < f (b + k)) : z_ins b v (k + 1) f = va_up f (b + (k + 1)) v := by rw [z_ins, if_neg h]
