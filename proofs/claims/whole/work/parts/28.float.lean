/-! Floats that are numbers of full precision: c units of 2^(k - 173), 2^23 ≤ c < 2^24 (laws of JvmDerived/FloatLaws.lean) -/
def nF (c k : Nat) : UInt32 := FP.Core.of32 (.fin false c ((k : Int) - 173))
def nFok (c k : Nat) : Prop := 2 ^ 23 ≤ c ∧ c < 2 ^ 24 ∧ 24 ≤ k ∧ k ≤ 277
theorem nF_fits {c k : Nat} (h : nFok c k) : FP.Core.fits FP.Core.b32 (.fin false c ((k : Int) - 173)) := by
  obtain ⟨h1, h2, h3, h4⟩ := h
  refine ⟨h2, ?_, ?_, Or.inr h1⟩
  · have e : FP.Core.b32.qmin = -149 := by decide
    rw [e]; omega
  · have e : FP.Core.b32.qmax = 104 := by decide
    rw [e]; omega
theorem nF_val {c k : Nat} (h : nFok c k) : FP.Core.val32 (nF c k) = .fin false c ((k : Int) - 173) := FP.Core.val32_of32 (nF_fits h)
/-- its bits -/
theorem nF_bits {c k : Nat} (h : nFok c k) : nF c k = UInt32.ofNat ((k - 23) * 2 ^ 23 + (c - 2 ^ 23)) := by
  obtain ⟨h1, h2, h3, h4⟩ := h
  unfold nF FP.Core.of32 FP.Core.encode
  have e1 : FP.Core.b32.tails = 2 ^ 23 := by decide
  have e2 : FP.Core.b32.qmin = -149 := by decide
  simp only []
  rw [if_neg (by rw [e1]; omega)]
  unfold FP.Core.assemble
  rw [e1, e2]
  rw [show ((k : Int) - 173 - -149).toNat + 1 = k - 23 by omega, Bool.toNat_false, Nat.zero_mul, Nat.zero_add]
theorem f2_val : FP.Core.val32 0x40000000 = .fin false (2 ^ 23) (-22) := by decide +kernel
theorem nF_of {a : UInt32} {c k : Nat} (h : nFok c k) (e : FP.Core.val32 a = .fin false c ((k : Int) - 173)) : a = nF c k := FP.Core.val32_inj (by rw [e]; intro z; cases z) (e.trans (nF_val h).symm)
/-- halving -/
theorem nF_half {c k : Nat} (h : nFok c k) (h2 : nFok c (k - 1)) (hk : 1 ≤ k) : FP.fdiv (nF c k) 0x40000000 = nF c (k - 1) := by
  refine nF_of h2 ?_
  have hv : FP.Core.val32 (FP.fdiv (nF c k) 0x40000000) = FP.Core.quotient FP.Core.b32 (FP.Core.val32 (nF c k)) (FP.Core.val32 0x40000000) := FP.Core.val32_fdiv _ _
  rw [hv, nF_val h, f2_val]
  have hq : FP.Core.quotient FP.Core.b32 (.fin false c ((k : Int) - 173)) (.fin false (2 ^ 23) (-22)) = FP.Core.roundRatio FP.Core.b32 (false != false) c (2 ^ 23) ((k : Int) - 173 - -22) := by
    simp only [FP.Core.quotient]
    rw [if_neg (by decide)]
  rw [hq]
  refine FP.Core.roundRatio_exact FP.Core.good_b32 (by decide) (nF_fits h2) ?_
  have e1 : ((k : Int) - 173 - -22 - (((k - 1 : Nat) : Int) - 173)).toNat = 23 := by omega
  have e2 : (((k - 1 : Nat) : Int) - 173 - ((k : Int) - 173 - -22)).toNat = 0 := by omega
  rw [e1, e2, Nat.pow_zero, Nat.mul_one]
/-- doubling -/
theorem nF_dbl {c k : Nat} (h : nFok c k) (h2 : nFok c (k + 1)) : FP.fmul (nF c k) 0x40000000 = nF c (k + 1) := by
  refine nF_of h2 ?_
  have hv : FP.Core.val32 (FP.fmul (nF c k) 0x40000000) = FP.Core.round FP.Core.b32 (FP.Core.exactProduct (FP.Core.val32 (nF c k)) (FP.Core.val32 0x40000000)) := FP.Core.val32_fmul _ _
  rw [hv, nF_val h, f2_val]
  show FP.Core.roundRatio FP.Core.b32 (false != false) (c * 2 ^ 23) 1 ((k : Int) - 173 + -22) = _
  refine FP.Core.roundRatio_exact FP.Core.good_b32 (by decide) (nF_fits h2) ?_
  have e1 : ((k : Int) - 173 + -22 - (((k + 1 : Nat) : Int) - 173)).toNat = 0 := by omega
  have e2 : (((k + 1 : Nat) : Int) - 173 - ((k : Int) - 173 + -22)).toNat = 23 := by omega
  rw [e1, e2, Nat.pow_zero, Nat.mul_one, Nat.mul_one]
theorem nF_num {c k : Nat} (h : nFok c k) : vf_n32 (nF c k) := by
  obtain ⟨h1, h2, h3, h4⟩ := h
  rw [nF_bits ⟨h1, h2, h3, h4⟩]
  unfold vf_n32
  rw [UInt32.le_iff_toNat_le, UInt32.toNat_and, UInt32.toNat_ofNat_of_lt' (by show _ < 4294967296; omega)]
  refine Nat.le_trans Nat.and_le_left ?_
  show _ ≤ 2139095040
  omega
/-- comparing -/
theorem f2_cmp {c k : Nat} (h : nFok c k) : FP.fcmp (nF c k) 0x40000000 = some (compare ((c * 2 ^ (k - min k 151) : Nat) : Int) ((2 ^ 23 * 2 ^ (151 - min k 151) : Nat) : Int)) := by
  show FP.Core.order (FP.Core.val32 (nF c k)) (FP.Core.val32 0x40000000) = _
  rw [nF_val h, f2_val]
  show some (compare (FP.Core.signed false (FP.Core.inUnits c ((k : Int) - 173) (min ((k : Int) - 173) (-22)))) (FP.Core.signed false (FP.Core.inUnits (2 ^ 23) (-22) (min ((k : Int) - 173) (-22))))) = _
  have e1 : ((k : Int) - 173 - min ((k : Int) - 173) (-22)).toNat = k - min k 151 := by omega
  have e2 : ((-22 : Int) - min ((k : Int) - 173) (-22)).toNat = 151 - min k 151 := by omega
  unfold FP.Core.inUnits
  rw [e1, e2]
  rfl
