/-! Floats that are numbers of full precision: c units of 2^(k - 173), 2^23 ≤ c < 2^24 (laws of JvmDerived/FloatLaws.lean) -/
def nF (c k : Nat) : UInt32 := FP.Core.of32 (.fin false c ((k : Int) - 173))
def nFok (c k : Nat) : Prop := 2 ^ 23 ≤ c ∧ c < 2 ^ 24 ∧ 24 ≤ k ∧ k ≤ 277
theorem nF_fits {c k : Nat} (h : nFok c k) : FP.Core.fits FP.Core.b32 (.fin false c ((k : Int) - 173)) := by
  obtain ⟨h1, h2, h3, h4⟩ := h
  refine ⟨h2, ?_, ?_, Or.inr h1⟩
  · have e : FP.Core.b32.qmin = -149 := by decide
    rw [e]; omega
  · have e : FP.Core.b32.qmax = 104 := by decide
    rw [e]; omega
theorem nF_val {c k : Nat} (h : nFok c k) : FP.Core.val32 (nF c k) = .fin false c ((k : Int) - 173) := FP.Core.val32_of32 (nF_fits h)
/-- its bits -/
theorem nF_bits {c k : Nat} (h : nFok c k) : nF c k = UInt32.ofNat ((k - 23) * 2 ^ 23 + (c - 2 ^ 23)) := by
  obtain ⟨h1, h2, h3, h4⟩ := h
  unfold nF FP.Core.of32 FP.Core.encode
  have e1 : FP.Core.b32.tails = 2 ^ 23 := by decide
  have e2 : FP.Core.b32.qmin = -149 := by decide
  simp only []
  rw [if_neg (by rw [e1]; omega)]
  unfold FP.Core.assemble
  rw [e1, e2]
  rw [show ((k : Int) - 173 - -149).toNat + 1 = k - 23 by omega, Bool.toNat_false, Nat.zero_mul, Nat.zero_add]
theorem f2_val : FP.Core.val32 0x40000000 = .fin false (2 ^ 23) (-22) := by decide +kernel
theorem nF_of {a : UInt32} {c k : Nat} (h : nFok c k) (e : FP.Core.val32 a = .fin false c ((k : Int) - 173)) : a = nF c k := FP.Core.val32_inj (by rw [e]; intro z; cases z) (e.trans (nF_val h).symm)
/-- halving -/
theorem nF_half {c k : Nat} (h : nFok c k) (h2 : nFok c (k - 1)) (hk : 1 ≤ k) : FP.fdiv (nF c k) 0x40000000 = nF c (k - 1) := by
  refine nF_of h2 ?_
  have hv : FP.Core.val32 (FP.fdiv (nF c k) 0x40000000) = FP.Core.quotient FP.Core.b32 (FP.Core.val32 (nF c k)) (FP.Core.val32 0x40000000) := FP.Core.val32_fdiv _ _
  rw [hv, nF_val h, f2_val]
  have hq : FP.Core.quotient FP.Core.b32 (.fin false c ((k : Int) - 173)) (.fin false (2 ^ 23) (-22)) = FP.Core.roundRatio FP.Core.b32 (false != false) c (2 ^ 23) ((k : Int) - 173 - -22) := by
    simp only [FP.Core.quotient]
    rw [if_neg (by decide)]
  rw [hq]
  refine FP.Core.roundRatio_exact FP.Core.good_b32 (by decide) (nF_fits h2) ?_
  have e1 : ((k : Int) - 173 - -22 - (((k - 1 : Nat) : Int) - 173)).toNat = 23 := by omega
  have e2 : (((k - 1 : Nat) : Int) - 173 - ((k : Int) - 173 - -22)).toNat = 0 := by omega
  rw [e1, e2, Nat.pow_zero, Nat.mul_one]
/-- doubling -/
theorem nF_dbl {c k : Nat} (h : nFok c k) (h2 : nFok c (k + 1)) : FP.fmul (nF c k) 0x40000000 = nF c (k + 1) := by
  refine nF_of h2 ?_
  have hv : FP.Core.val32 (FP.fmul (nF c k) 0x40000000) = FP.Core.round FP.Core.b32 (FP.Core.exactProduct (FP.Core.val32 (nF c k)) (FP.Core.val32 0x40000000)) := FP.Core.val32_fmul _ _
  rw [hv, nF_val h, f2_val]
  show FP.Core.roundRatio FP.Core.b32 (false != false) (c * 2 ^ 23) 1 ((k : Int) - 173 + -22) = _
  refine FP.Core.roundRatio_exact FP.Core.good_b32 (by decide) (nF_fits h2) ?_
  have e1 : ((k : Int) - 173 + -22 - (((k + 1 : Nat) : Int) - 173)).toNat = 0 := by omega
  have e2 : (((k + 1 : Nat) : Int) - 173 - ((k : Int) - 173 + -22)).toNat = 23 := by omega
  rw [e1, e2, Nat.pow_zero, Nat.mul_one, Nat.mul_one]
theorem nF_num {c k : Nat} (h : nFok c k) : vf_n32 (nF c k) := by
  obtain ⟨h1, h2, h3, h4⟩ := h
  rw [nF_bits ⟨h1, h2, h3, h4⟩]
  unfold vf_n32
  rw [UInt32.le_iff_toNat_le, UInt32.toNat_and, UInt32.toNat_ofNat_of_lt' (by show _ < 4294967296; omega)]
  refine Nat.le_trans Nat.and_le_left ?_
  show _ ≤ 2139095040
  omega
/-- comparing -/
theorem f2_cmp {c k : Nat} (h : nFok c k) : FP.fcmp (nF c k) 0x40000000 = some (compare ((c * 2 ^ (k - min k 151) : Nat) : Int) ((2 ^ 23 * 2 ^ (151 - min k 151) : Nat) : Int)) := by
  show FP.Core.order (FP.Core.val32 (nF c k)) (FP.Core.val32 0x40000000) = _
  rw [nF_val h, f2_val]
  show some (compare (FP.Core.signed false (FP.Core.inUnits c ((k : Int) - 173) (min ((k : Int) - 173) (-22)))) (FP.Core.signed false (FP.Core.inUnits (2 ^ 23) (-22) (min ((k : Int) - 173) (-22))))) = _
  have e1 : ((k : Int) - 173 - min ((k : Int) - 173) (-22)).toNat = k - min k 151 := by omega
  have e2 : ((-22 : Int) - min ((k : Int) - 173) (-22)).toNat = 151 - min k 151 := by omega
  unfold FP.Core.inUnits
  rw [e1, e2]
  rfl
theorem f1_val : FP.Core.val32 0x3f800000 = .fin false (2 ^ 23) (-23) := by decide +kernel
theorem fm_val : FP.Core.val32 0x4b000000 = .fin false (2 ^ 23) 0 := by decide +kernel
theorem f1_nF : (0x3f800000 : UInt32) = nF (2 ^ 23) 150 := nF_of ⟨by decide, by decide, by decide, by decide⟩ (by rw [f1_val]; rfl)
theorem f2_nF : (0x40000000 : UInt32) = nF (2 ^ 23) 151 := nF_of ⟨by decide, by decide, by decide, by decide⟩ (by rw [f2_val]; rfl)
theorem nF_cmp {c k d j : Nat} (h : nFok c k) (h2 : nFok d j) : FP.fcmp (nF c k) (nF d j) = some (compare ((c * 2 ^ (k - min k j) : Nat) : Int) ((d * 2 ^ (j - min k j) : Nat) : Int)) := by
  show FP.Core.order (FP.Core.val32 (nF c k)) (FP.Core.val32 (nF d j)) = _
  rw [nF_val h, nF_val h2]
  show some (compare (FP.Core.signed false (FP.Core.inUnits c ((k : Int) - 173) (min ((k : Int) - 173) ((j : Int) - 173)))) (FP.Core.signed false (FP.Core.inUnits d ((j : Int) - 173) (min ((k : Int) - 173) ((j : Int) - 173))))) = _
  have e1 : ((k : Int) - 173 - min ((k : Int) - 173) ((j : Int) - 173)).toNat = k - min k j := by omega
  have e2 : ((j : Int) - 173 - min ((k : Int) - 173) ((j : Int) - 173)).toNat = j - min k j := by omega
  unfold FP.Core.inUnits
  rw [e1, e2]
  rfl
/-- below a power of two -/
theorem nF_lt {c k j : Nat} (h : nFok c k) (h2 : nFok (2 ^ 23) j) (hk : k < j) : FP.fcmp (nF c k) (nF (2 ^ 23) j) = some .lt := by
  rw [nF_cmp h h2]
  have hm : min k j = k := by omega
  rw [hm, Nat.sub_self, Nat.pow_zero, Nat.mul_one]
  have h3 : c < 2 ^ 23 * 2 ^ (j - k) := by
    refine Nat.lt_of_lt_of_le h.2.1 ?_
    rw [← Nat.pow_add]
    exact Nat.pow_le_pow_right (by decide) (by omega)
  congr 1
  exact Int.compare_eq_lt.mpr (by exact_mod_cast h3)
/-- not below it -/
theorem nF_ge {c k j : Nat} (h : nFok c k) (h2 : nFok (2 ^ 23) j) (hk : j ≤ k) : FP.fcmp (nF c k) (nF (2 ^ 23) j) = some .gt ∨ FP.fcmp (nF c k) (nF (2 ^ 23) j) = some .eq := by
  rw [nF_cmp h h2]
  have hm : min k j = j := by omega
  rw [hm, Nat.sub_self, Nat.pow_zero, Nat.mul_one]
  have h3 : 2 ^ 23 ≤ c * 2 ^ (k - j) := Nat.le_trans h.1 (Nat.le_mul_of_pos_right _ (Nat.two_pow_pos _))
  rcases Nat.lt_or_ge (2 ^ 23) (c * 2 ^ (k - j)) with h4 | h4
  · left
    exact congrArg some (Int.compare_eq_gt.mpr (by exact_mod_cast h4))
  · right
    exact congrArg some (Int.compare_eq_eq.mpr (by exact_mod_cast Nat.le_antisymm h4 h3))
theorem ff_norm {x : Nat} (h0 : 0 < x) (h : x < 2 ^ 24) : ∃ t, t ≤ 23 ∧ 2 ^ 23 ≤ x * 2 ^ t ∧ x * 2 ^ t < 2 ^ 24 := by
  have h1 := Nat.log2_self_le (n := x) (by omega)
  have h2 := Nat.lt_log2_self (n := x)
  have h3 : x.log2 < 24 := (Nat.log2_lt (by omega)).mpr h
  refine ⟨23 - x.log2, by omega, ?_, ?_⟩
  · calc 2 ^ 23 = 2 ^ x.log2 * 2 ^ (23 - x.log2) := by rw [← Nat.pow_add]; congr 1; omega
      _ ≤ _ := Nat.mul_le_mul_right _ h1
  · calc x * 2 ^ (23 - x.log2) < 2 ^ (x.log2 + 1) * 2 ^ (23 - x.log2) := Nat.mul_lt_mul_of_pos_right h2 (Nat.two_pow_pos _)
      _ = 2 ^ 24 := by rw [← Nat.pow_add]; congr 1; omega
theorem num_of {a : UInt32} {c : Nat} {q : Int} (h : FP.Core.fits FP.Core.b32 (.fin false c q)) (e : FP.Core.val32 a = .fin false c q) : vf_n32 a := by
  have ha : a = FP.Core.of32 (.fin false c q) := FP.Core.val32_inj (by rw [e]; intro z; cases z) (e.trans (FP.Core.val32_of32 h).symm)
  obtain ⟨h1, h2, h3, h4⟩ := h
  have e1 : FP.Core.b32.tails = 2 ^ 23 := by decide
  have e2 : FP.Core.b32.qmin = -149 := by decide
  have e3 : FP.Core.b32.qmax = 104 := by decide
  have e4 : FP.Core.b32.p = 24 := by decide
  rw [e2] at h2
  rw [e3] at h3
  rw [e4] at h1
  have hb : FP.Core.encode FP.Core.b32 (.fin false c q) ≤ 2139095040 := by
    unfold FP.Core.encode FP.Core.assemble
    simp only [Bool.toNat_false, Nat.zero_mul, Nat.zero_add, e1, e2]
    split
    · omega
    · have : (q - -149).toNat ≤ 253 := by omega
      omega
  rw [ha]
  unfold vf_n32 FP.Core.of32
  rw [UInt32.le_iff_toNat_le, UInt32.toNat_and, UInt32.toNat_ofNat_of_lt' (by show _ < 4294967296; omega)]
  exact Nat.le_trans Nat.and_le_left hb
/-- what is left of a float in [1, 2) without its 1, as a whole number of 2^-23 -/
theorem nF_low {c : Nat} (h1 : 2 ^ 23 ≤ c) (h2 : c < 2 ^ 24) : vf_n32 (FP.fsub (nF c 150) 0x3f800000) ∧ vf_n32 (FP.fmul (FP.fsub (nF c 150) 0x3f800000) 0x4b000000) ∧ FP.f2i (FP.fmul (FP.fsub (nF c 150) 0x3f800000) 0x4b000000) = nI (c - 2 ^ 23) := by
  obtain ⟨x, rfl⟩ : ∃ x, c = 2 ^ 23 + x := ⟨c - 2 ^ 23, by omega⟩
  rw [Nat.add_sub_cancel_left]
  have hok : nFok (2 ^ 23 + x) 150 := ⟨h1, h2, by decide, by decide⟩
  have hs : FP.Core.val32 (FP.fsub (nF (2 ^ 23 + x) 150) 0x3f800000) = FP.Core.roundRatio FP.Core.b32 false x 1 (-23) := by
    have hv : FP.Core.val32 (FP.fsub (nF (2 ^ 23 + x) 150) 0x3f800000) = FP.Core.round FP.Core.b32 (FP.Core.exactSum (FP.Core.val32 (nF (2 ^ 23 + x) 150)) (FP.Core.negate (FP.Core.val32 0x3f800000))) := FP.Core.val32_fsub _ _
    rw [hv, nF_val hok, f1_val]
    have hu : FP.Core.sumUnits false (2 ^ 23 + x) (((150 : Nat) : Int) - 173) true (2 ^ 23) (-23) (min (((150 : Nat) : Int) - 173) (-23)) = ((x : Nat) : Int) := by
      unfold FP.Core.sumUnits FP.Core.signed FP.Core.inUnits
      have e1 : ((((150 : Nat) : Int) - 173) - min (((150 : Nat) : Int) - 173) (-23)).toNat = 0 := by omega
      have e2 : ((-23 : Int) - min (((150 : Nat) : Int) - 173) (-23)).toNat = 0 := by omega
      rw [e1, e2]
      simp only [Bool.false_eq_true, if_false, if_true, Nat.pow_zero, Nat.mul_one]
      omega
    simp only [FP.Core.negate, FP.Core.exactSum, Bool.not_false]
    rw [hu]
    have hsg : FP.Core.sumSign false true ((x : Nat) : Int) = false := by
      unfold FP.Core.sumSign
      split
      · rfl
      · exact decide_eq_false (by omega)
    rw [hsg, Int.natAbs_natCast]
    rfl
  rcases Nat.eq_zero_or_pos x with hx | hx
  · rw [hx] at hs ⊢
    have hs0 : FP.Core.val32 (FP.fsub (nF (2 ^ 23 + 0) 150) 0x3f800000) = .fin false 0 FP.Core.b32.qmin := hs
    have hz : FP.fsub (nF (2 ^ 23 + 0) 150) 0x3f800000 = 0 := FP.Core.val32_inj (by rw [hs0]; intro z; cases z) (hs0.trans (by decide +kernel))
    rw [hz]
    unfold vf_n32
    decide +kernel
  · obtain ⟨t, ht, hn1, hn2⟩ := ff_norm hx (by omega)
    have hf1 : FP.Core.fits FP.Core.b32 (.fin false (x * 2 ^ t) (-23 - (t : Int))) := by
      have h9 := nF_fits (c := x * 2 ^ t) (k := 150 - t) ⟨hn1, hn2, by omega, by omega⟩
      rwa [show (((150 - t : Nat) : Int) - 173) = -23 - (t : Int) by omega] at h9
    have hd : FP.Core.roundRatio FP.Core.b32 false x 1 (-23) = .fin false (x * 2 ^ t) (-23 - (t : Int)) := by
      refine FP.Core.roundRatio_exact FP.Core.good_b32 (by decide) hf1 ?_
      rw [show ((-23 : Int) - (-23 - (t : Int))).toNat = t by omega, show ((-23 - (t : Int)) - -23).toNat = 0 by omega]
      simp only [Nat.mul_one, Nat.pow_zero]
    rw [hd] at hs
    have hf2 : FP.Core.fits FP.Core.b32 (.fin false (x * 2 ^ t) (-(t : Int))) := by
      have h9 := nF_fits (c := x * 2 ^ t) (k := 173 - t) ⟨hn1, hn2, by omega, by omega⟩
      rwa [show (((173 - t : Nat) : Int) - 173) = -(t : Int) by omega] at h9
    have hm : FP.Core.val32 (FP.fmul (FP.fsub (nF (2 ^ 23 + x) 150) 0x3f800000) 0x4b000000) = .fin false (x * 2 ^ t) (-(t : Int)) := by
      have hv : FP.Core.val32 (FP.fmul (FP.fsub (nF (2 ^ 23 + x) 150) 0x3f800000) 0x4b000000) = FP.Core.round FP.Core.b32 (FP.Core.exactProduct (FP.Core.val32 (FP.fsub (nF (2 ^ 23 + x) 150) 0x3f800000)) (FP.Core.val32 0x4b000000)) := FP.Core.val32_fmul _ _
      rw [hv, hs, fm_val]
      show FP.Core.roundRatio FP.Core.b32 (false != false) (x * 2 ^ t * 2 ^ 23) 1 (-23 - (t : Int) + 0) = _
      refine FP.Core.roundRatio_exact FP.Core.good_b32 (by decide) hf2 ?_
      rw [show ((-23 - (t : Int) + 0) - -(t : Int)).toNat = 0 by omega, show (-(t : Int) - (-23 - (t : Int) + 0)).toNat = 23 by omega, Nat.pow_zero, Nat.mul_one, Nat.mul_one]
    refine ⟨num_of hf1 hs, num_of hf2 hm, ?_⟩
    show FP.Core.toI (FP.Core.val32 (FP.fmul (FP.fsub (nF (2 ^ 23 + x) 150) 0x3f800000) 0x4b000000)) = _
    rw [hm]
    have ht2 : FP.Core.truncate false (x * 2 ^ t) (-(t : Int)) = ((x : Nat) : Int) := by
      unfold FP.Core.truncate FP.Core.signed
      rw [show (-(t : Int)).toNat = 0 by omega, show (- -(t : Int)).toNat = t by omega, Nat.pow_zero, Nat.mul_one, Nat.mul_div_cancel _ (Nat.two_pow_pos _)]
      rfl
    have hi : FP.Core.toInt (-2 ^ 31) (2 ^ 31 - 1) (.fin false (x * 2 ^ t) (-(t : Int))) = ((x : Nat) : Int) := by
      simp only [FP.Core.toInt]
      rw [ht2, Int.min_eq_right (by omega), Int.max_eq_right (by omega)]
    show Int32.ofInt (FP.Core.toInt (-2 ^ 31) (2 ^ 31 - 1) _) = _
    rw [hi]
    rfl
