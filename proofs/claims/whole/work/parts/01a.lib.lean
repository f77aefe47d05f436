/-! the library's laws of floats are used from here on -/
theorem fl_ok {x : UInt32} (h : FP.Core.val32 x ≠ .nan) : FP.Core.fcmp x x = some .eq := FP.Core.fcmp_self h
