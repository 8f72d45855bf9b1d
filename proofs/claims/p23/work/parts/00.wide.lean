/-! This claim has floats: the first row names a law of JvmDerived/FloatLaws.lean, so that the first round on a new machine is read over the whole library at once (instead of compiling all parts twice) -/
theorem wid_b32 : FP.Core.Good FP.Core.b32 := FP.Core.good_b32
