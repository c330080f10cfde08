/-! a name of the library's rest: the claim is read over the whole library from its first part on -/
theorem wd_1 (v : Int32) : Jvm.FP.Core.DFin (Jvm.FP.Core.i2d v) := Jvm.FP.Core.i2d_fin v
