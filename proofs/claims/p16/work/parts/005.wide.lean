/-- this text needs the whole library: said at once, so that the parts compile over it from the start -/
theorem zz_wide {r : UInt64} (h : Jvm.FP.Core.val64 r ≠ .nan) : Jvm.FP.Core.val64 r ≠ .nan := h
