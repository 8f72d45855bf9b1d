/-! What is rounded is again a number of full precision -/
theorem lead_b (A B : Nat) : (A.log2 : Int) - B.log2 - 1 ≤ FP.Core.leading A B ∧ FP.Core.leading A B ≤ (A.log2 : Int) - B.log2 := by
  unfold FP.Core.leading
  simp only []
  split <;> omega
theorem rr_nF {A B : Nat} {e : Int} (hA : 0 < A) (hB : 0 < B) (h1 : -125 ≤ FP.Core.leading A B + e) (h2 : FP.Core.leading A B + e ≤ 120) :
    ∃ c k : Nat, nFok c k ∧ FP.Core.roundRatio FP.Core.b32 false A B e = .fin false c ((k : Int) - 173) ∧ FP.Core.leading A B + e + 150 ≤ (k : Int) ∧ (k : Int) ≤ FP.Core.leading A B + e + 151 := by
  have e1 : FP.Core.b32.tails = 2 ^ 23 := by decide
  have e2 : FP.Core.b32.qmin = -149 := by decide
  have e3 : FP.Core.b32.qmax = 104 := by decide
  have e4 : FP.Core.b32.p = 24 := by decide
  have hf := FP.Core.roundRatio_fits FP.Core.good_b32 false A hB e
  have hr : FP.Core.roundRatio FP.Core.b32 false A B e = FP.Core.roundAt FP.Core.b32 false A B e (FP.Core.quantum FP.Core.b32 A B e) := by
    unfold FP.Core.roundRatio
    rw [if_neg (by omega)]
  have hq : FP.Core.quantum FP.Core.b32 A B e = FP.Core.leading A B + e - 23 := by
    unfold FP.Core.quantum
    rw [e2, e4]
    omega
  rw [hr, hq] at hf
  rw [hr, hq]
  generalize FP.Core.leading A B + e = L at h1 h2 hf ⊢
  unfold FP.Core.roundAt at hf ⊢
  generalize FP.Core.nearest (FP.Core.unitsNum A e (L - 23)) (FP.Core.unitsDen B e (L - 23)) = c at hf ⊢
  have hk : (((L + 150).toNat : Nat) : Int) - 173 = L - 23 := by omega
  have hk1 : (((L + 151).toNat : Nat) : Int) - 173 = L - 23 + 1 := by omega
  by_cases hc : c < 2 ^ FP.Core.b32.p
  · have hs : FP.Core.settle FP.Core.b32 false c (L - 23) = .fin false c (L - 23) := by
      unfold FP.Core.settle FP.Core.bound
      rw [if_pos hc, if_pos (by rw [e3]; omega)]
    rw [hs] at hf ⊢
    obtain ⟨g1, g2, g3, g4⟩ := hf
    rw [e4] at g1
    rw [e2, e1] at g4
    refine ⟨c, (L + 150).toNat, ⟨?_, g1, by omega, by omega⟩, by rw [hk], by omega, by omega⟩
    rcases g4 with g4 | g4
    · omega
    · exact g4
  · have hs : FP.Core.settle FP.Core.b32 false c (L - 23) = .fin false (2 ^ 23) (L - 23 + 1) := by
      unfold FP.Core.settle FP.Core.bound
      rw [if_neg hc, if_pos (by rw [e3]; omega), e1]
    rw [hs]
    exact ⟨2 ^ 23, (L + 151).toNat, ⟨Nat.le_refl _, by decide, by omega, by omega⟩, by rw [hk1], by omega, by omega⟩
/-- a float of full precision whose exponent lies between -/
def isF (a : UInt32) (lo hi : Nat) : Prop := ∃ c k : Nat, nFok c k ∧ a = nF c k ∧ lo ≤ k ∧ k ≤ hi
theorem isF.num {a : UInt32} {lo hi : Nat} (h : isF a lo hi) : vf_n32 a := by
  obtain ⟨c, k, h1, rfl, _, _⟩ := h
  exact nF_num h1
theorem isF.wide {a : UInt32} {lo hi lo' hi' : Nat} (h : isF a lo hi) (h1 : lo' ≤ lo) (h2 : hi ≤ hi') : isF a lo' hi' := by
  obtain ⟨c, k, g1, g2, g3, g4⟩ := h
  exact ⟨c, k, g1, g2, by omega, by omega⟩
theorem nF_log {c k : Nat} (h : nFok c k) : c.log2 = 23 := by
  have h1 := (Nat.le_log2 (n := c) (k := 23) (by have := h.1; omega)).mpr h.1
  have h2 := (Nat.log2_lt (n := c) (k := 24) (by have := h.1; omega)).mpr h.2.1
  omega
theorem isF_i2f {n : Nat} (h0 : 0 < n) (h1 : n < 2 ^ 24) : isF (FP.i2f (nI n)) 149 174 := by
  have hv : FP.Core.val32 (FP.i2f (nI n)) = FP.Core.round FP.Core.b32 (FP.Core.ofInt (nI n).toInt) := FP.Core.val32_i2f _
  rw [nI_toInt (by omega)] at hv
  have ho : FP.Core.ofInt ((n : Nat) : Int) = .fin false n 0 := by
    unfold FP.Core.ofInt
    rw [Int.natAbs_natCast, decide_eq_false (by omega)]
  rw [ho] at hv
  have hl := lead_b n 1
  have h3 := (Nat.log2_lt (n := n) (k := 24) (by omega)).mpr h1
  have h4 : Nat.log2 1 = 0 := by decide
  rw [h4] at hl
  obtain ⟨c, k, g1, g2, g3, g4⟩ := rr_nF (e := 0) h0 (by decide : 0 < 1) (by omega) (by omega)
  have hv2 : FP.Core.val32 (FP.i2f (nI n)) = .fin false c ((k : Int) - 173) := hv.trans g2
  exact ⟨c, k, g1, nF_of g1 hv2, by omega, by omega⟩
theorem isF_mul {a b : UInt32} {l1 h1 l2 h2 lo hi : Nat} (ha : isF a l1 h1) (hb : isF b l2 h2) (e1 : lo + 151 ≤ l1 + l2) (e2 : h1 + h2 ≤ hi + 148) (e3 : 25 ≤ lo) (e4 : hi ≤ 270) : isF (FP.fmul a b) lo hi := by
  obtain ⟨c, k, a1, rfl, a3, a4⟩ := ha
  obtain ⟨d, j, b1, rfl, b3, b4⟩ := hb
  have hv : FP.Core.val32 (FP.fmul (nF c k) (nF d j)) = FP.Core.round FP.Core.b32 (FP.Core.exactProduct (FP.Core.val32 (nF c k)) (FP.Core.val32 (nF d j))) := FP.Core.val32_fmul _ _
  rw [nF_val a1, nF_val b1] at hv
  have hv2 : FP.Core.val32 (FP.fmul (nF c k) (nF d j)) = FP.Core.roundRatio FP.Core.b32 false (c * d) 1 (((k : Int) - 173) + ((j : Int) - 173)) := hv
  have p1 : 2 ^ 46 ≤ c * d := by
    rw [show (46 : Nat) = 23 + 23 from rfl, Nat.pow_add]
    exact Nat.mul_le_mul a1.1 b1.1
  have p2 : c * d < 2 ^ 48 := by
    rw [show (48 : Nat) = 24 + 24 from rfl, Nat.pow_add]
    exact Nat.mul_lt_mul'' a1.2.1 b1.2.1
  have p0 : c * d ≠ 0 := by
    have := Nat.two_pow_pos 46
    omega
  have q1 := (Nat.le_log2 (k := 46) p0).mpr p1
  have q2 := (Nat.log2_lt (k := 48) p0).mpr p2
  have hl := lead_b (c * d) 1
  have h4 : Nat.log2 1 = 0 := by decide
  rw [h4] at hl
  obtain ⟨c', k', g1, g2, g3, g4⟩ := rr_nF (A := c * d) (e := ((k : Int) - 173) + ((j : Int) - 173)) (Nat.pos_of_ne_zero p0) (by decide : 0 < 1) (by omega) (by omega)
  exact ⟨c', k', g1, nF_of g1 (hv2.trans g2), by omega, by omega⟩
theorem isF_div {a b : UInt32} {l1 h1 l2 h2 lo hi : Nat} (ha : isF a l1 h1) (hb : isF b l2 h2) (e1 : lo + h2 ≤ l1 + 149) (e2 : h1 + 151 ≤ hi + l2) (e3 : 25 ≤ lo) (e4 : hi ≤ 270) : isF (FP.fdiv a b) lo hi := by
  obtain ⟨c, k, a1, rfl, a3, a4⟩ := ha
  obtain ⟨d, j, b1, rfl, b3, b4⟩ := hb
  have hv : FP.Core.val32 (FP.fdiv (nF c k) (nF d j)) = FP.Core.quotient FP.Core.b32 (FP.Core.val32 (nF c k)) (FP.Core.val32 (nF d j)) := FP.Core.val32_fdiv _ _
  rw [nF_val a1, nF_val b1] at hv
  have d0 : 0 < d := by have := b1.1; omega
  have c0 : 0 < c := by have := a1.1; omega
  have hq : FP.Core.quotient FP.Core.b32 (.fin false c ((k : Int) - 173)) (.fin false d ((j : Int) - 173)) = FP.Core.roundRatio FP.Core.b32 (false != false) c d (((k : Int) - 173) - ((j : Int) - 173)) := by
    simp only [FP.Core.quotient]
    rw [if_neg (by omega)]
  have hv2 : FP.Core.val32 (FP.fdiv (nF c k) (nF d j)) = FP.Core.roundRatio FP.Core.b32 false c d (((k : Int) - 173) - ((j : Int) - 173)) := hv.trans hq
  have hl := lead_b c d
  rw [nF_log a1, nF_log b1] at hl
  obtain ⟨c', k', g1, g2, g3, g4⟩ := rr_nF (A := c) (B := d) (e := ((k : Int) - 173) - ((j : Int) - 173)) c0 d0 (by omega) (by omega)
  exact ⟨c', k', g1, nF_of g1 (hv2.trans g2), by omega, by omega⟩
theorem isF_add {a b : UInt32} (ha : isF a 120 180) (hb : isF b 120 180) : isF (FP.fadd a b) 119 243 := by
  obtain ⟨c, k, a1, rfl, a3, a4⟩ := ha
  obtain ⟨d, j, b1, rfl, b3, b4⟩ := hb
  have hv : FP.Core.val32 (FP.fadd (nF c k) (nF d j)) = FP.Core.round FP.Core.b32 (FP.Core.exactSum (FP.Core.val32 (nF c k)) (FP.Core.val32 (nF d j))) := FP.Core.val32_fadd _ _
  rw [nF_val a1, nF_val b1] at hv
  obtain ⟨m, hm⟩ : ∃ m : Nat, m = min k j := ⟨_, rfl⟩
  have hmi : min ((k : Int) - 173) ((j : Int) - 173) = (m : Int) - 173 := by omega
  have hu : FP.Core.sumUnits false c ((k : Int) - 173) false d ((j : Int) - 173) ((m : Int) - 173) = ((c * 2 ^ (k - m) + d * 2 ^ (j - m) : Nat) : Int) := by
    unfold FP.Core.sumUnits FP.Core.signed FP.Core.inUnits
    rw [show (((k : Int) - 173) - ((m : Int) - 173)).toNat = k - m by omega, show (((j : Int) - 173) - ((m : Int) - 173)).toNat = j - m by omega]
    simp only [Bool.false_eq_true, if_false]
    exact (Int.natCast_add _ _).symm
  have hs : FP.Core.exactSum (.fin false c ((k : Int) - 173)) (.fin false d ((j : Int) - 173)) = .fin false (c * 2 ^ (k - m) + d * 2 ^ (j - m)) ((m : Int) - 173) := by
    simp only [FP.Core.exactSum]
    rw [hmi, hu, Int.natAbs_natCast]
    congr 1
    unfold FP.Core.sumSign
    split
    · rfl
    · exact decide_eq_false (by omega)
  have hv2 : FP.Core.val32 (FP.fadd (nF c k) (nF d j)) = FP.Core.roundRatio FP.Core.b32 false (c * 2 ^ (k - m) + d * 2 ^ (j - m)) 1 ((m : Int) - 173) := by
    rw [hv, hs]
    rfl
  have p1 : 2 ^ 23 ≤ c * 2 ^ (k - m) + d * 2 ^ (j - m) := Nat.le_trans a1.1 (Nat.le_trans (Nat.le_mul_of_pos_right _ (Nat.two_pow_pos _)) (Nat.le_add_right _ _))
  have p2 : c * 2 ^ (k - m) + d * 2 ^ (j - m) < 2 ^ 85 := by
    have t1 : c * 2 ^ (k - m) < 2 ^ 24 * 2 ^ 60 := Nat.lt_of_lt_of_le (Nat.mul_lt_mul_of_pos_right a1.2.1 (Nat.two_pow_pos _)) (Nat.mul_le_mul_left _ (Nat.pow_le_pow_right (by decide) (by omega)))
    have t2 : d * 2 ^ (j - m) < 2 ^ 24 * 2 ^ 60 := Nat.lt_of_lt_of_le (Nat.mul_lt_mul_of_pos_right b1.2.1 (Nat.two_pow_pos _)) (Nat.mul_le_mul_left _ (Nat.pow_le_pow_right (by decide) (by omega)))
    have t3 : (2 : Nat) ^ 85 = 2 ^ 24 * 2 ^ 60 + 2 ^ 24 * 2 ^ 60 := by decide
    rw [t3]
    exact Nat.add_lt_add t1 t2
  generalize c * 2 ^ (k - m) + d * 2 ^ (j - m) = A at hv2 p1 p2
  have p0 : A ≠ 0 := by omega
  have q1 := (Nat.le_log2 (k := 23) p0).mpr p1
  have q2 := (Nat.log2_lt (k := 85) p0).mpr p2
  have hl := lead_b A 1
  have h4 : Nat.log2 1 = 0 := by decide
  rw [h4] at hl
  obtain ⟨c', k', g1, g2, g3, g4⟩ := rr_nF (A := A) (e := (m : Int) - 173) (Nat.pos_of_ne_zero p0) (by decide : 0 < 1) (by omega) (by omega)
  exact ⟨c', k', g1, nF_of g1 (hv2.trans g2), by omega, by omega⟩
theorem isF_c {a : UInt32} (c k : Nat) (h : nFok c k) (e : FP.Core.val32 a = .fin false c ((k : Int) - 173)) : isF a k k := ⟨c, k, h, nF_of h e, Nat.le_refl _, Nat.le_refl _⟩
theorem isF_pi : isF 1078530000 151 151 := isF_c 13176784 151 ⟨by decide, by decide, by decide, by decide⟩ (by decide +kernel)
theorem isF_798 : isF 1117755277 156 156 := isF_c 10459021 156 ⟨by decide, by decide, by decide, by decide⟩ (by decide +kernel)
theorem isF_10 : isF 1092616192 153 153 := isF_c 10485760 153 ⟨by decide, by decide, by decide, by decide⟩ (by decide +kernel)
theorem isF_125 : isF 1040187392 147 147 := isF_c 8388608 147 ⟨by decide, by decide, by decide, by decide⟩ (by decide +kernel)
theorem isF_677 : isF 1087939543 152 152 := isF_c 14197719 152 ⟨by decide, by decide, by decide, by decide⟩ (by decide +kernel)
/-- what bitsOf is asked of: 0, or a number of full precision -/
def isN (a : UInt32) : Prop := a = 0 ∨ isF a 0 400
theorem isF.n {a : UInt32} {lo hi : Nat} (h : isF a lo hi) (h2 : hi ≤ 400) : isN a := Or.inr (h.wide (Nat.zero_le _) h2)
theorem isN.num {a : UInt32} (h : isN a) : vf_n32 a := by
  rcases h with rfl | h
  · unfold vf_n32
    decide +kernel
  · exact h.num
/-- the pull of a brim -/
def puF (w e : Nat) : UInt32 := FP.fdiv (FP.fmul (FP.i2f (nI (2 * w))) 1078530000) (FP.i2f (nI e))
theorem puM {w : Nat} (h1 : 1 ≤ w) (h2 : w ≤ 200) : isF (FP.fmul (FP.i2f (nI (2 * w))) 1078530000) 149 177 := isF_mul (isF_i2f (by omega) (by omega)) isF_pi (by decide) (by decide) (by decide) (by decide)
theorem puF_is {w e : Nat} (h1 : 1 ≤ w) (h2 : w ≤ 200) (h3 : 1 ≤ e) (h4 : e ≤ 1200) : isF (puF w e) 124 179 := isF_div (puM h1 h2) (isF_i2f (by omega) (by omega)) (by decide) (by decide) (by decide) (by decide)
/-- the size of a head of a millimetres in a land -/
def szF (t a : Nat) : UInt32 := match t with
  | 0 => FP.fdiv (FP.i2f (nI a)) 1092616192
  | 1 => FP.fdiv (FP.i2f (nI a)) 1117755277
  | 2 => FP.fadd (FP.fdiv (FP.i2f (nI a)) 1117755277) 1040187392
  | _ => FP.fdiv (FP.i2f (nI a)) 1087939543
theorem sz0 : FP.fdiv (FP.i2f (nI 0)) 1092616192 = 0 := by decide +kernel
theorem sz1 : FP.fdiv (FP.i2f (nI 0)) 1117755277 = 0 := by decide +kernel
theorem sz2 : FP.fadd 0 1040187392 = 1040187392 := by decide +kernel
theorem sz3 : FP.fdiv (FP.i2f (nI 0)) 1087939543 = 0 := by decide +kernel
theorem szD {a : Nat} (h : a < 2000) : isN (FP.fdiv (FP.i2f (nI a)) 1092616192) ∧ isN (FP.fdiv (FP.i2f (nI a)) 1117755277) ∧ isN (FP.fadd (FP.fdiv (FP.i2f (nI a)) 1117755277) 1040187392) ∧ isN (FP.fdiv (FP.i2f (nI a)) 1087939543) := by
  rcases Nat.eq_zero_or_pos a with rfl | h0
  · rw [sz0, sz1, sz2, sz3]
    exact ⟨Or.inl rfl, Or.inl rfl, isF_125.n (by decide), Or.inl rfl⟩
  · have hi : isF (FP.i2f (nI a)) 149 174 := isF_i2f h0 (by omega)
    have h1 : isF (FP.fdiv (FP.i2f (nI a)) 1117755277) 142 169 := isF_div hi isF_798 (by decide) (by decide) (by decide) (by decide)
    refine ⟨(isF_div (lo := 145) (hi := 172) hi isF_10 (by decide) (by decide) (by decide) (by decide)).n (by decide), h1.n (by decide), (isF_add (h1.wide (by decide) (by decide)) (isF_125.wide (by decide) (by decide))).n (by decide), (isF_div (lo := 146) (hi := 173) hi isF_677 (by decide) (by decide) (by decide) (by decide)).n (by decide)⟩
theorem szF_is {t a : Nat} (h : a < 2000) : isN (szF t a) := by
  obtain ⟨h0, h1, h2, h3⟩ := szD h
  unfold szF
  split <;> assumption
/-- comparing with 0 -/
theorem f0_cmp {c k : Nat} (h : nFok c k) : FP.fcmp (nF c k) 0 = some .gt := by
  show FP.Core.order (FP.Core.val32 (nF c k)) (FP.Core.val32 0) = _
  rw [nF_val h, show FP.Core.val32 0 = .fin false 0 (-149) by decide +kernel]
  show some (compare (FP.Core.signed false (FP.Core.inUnits c ((k : Int) - 173) (min ((k : Int) - 173) (-149)))) (FP.Core.signed false (FP.Core.inUnits 0 (-149) (min ((k : Int) - 173) (-149))))) = _
  have h3 : 0 < c * 2 ^ (((k : Int) - 173) - min ((k : Int) - 173) (-149)).toNat := Nat.mul_pos (by have := h.1; omega) (Nat.two_pow_pos _)
  unfold FP.Core.inUnits FP.Core.signed
  generalize c * 2 ^ (((k : Int) - 173) - min ((k : Int) - 173) (-149)).toNat = y at h3
  rw [Nat.zero_mul]
  exact congrArg some (Int.compare_eq_gt.mpr (by simp only [Bool.false_eq_true, if_false]; omega))
/-- bits put together -/
theorem or_gen (i a x : Nat) (hx : x < 2 ^ i) (h : 2 ^ i * a + x < 2 ^ 31) : nI (2 ^ i * a) ||| nI x = nI (2 ^ i * a + x) := by
  have e := Nat.two_pow_add_eq_or_of_lt hx a
  have h1 : 2 ^ i * a < 2 ^ 31 := by omega
  have h2 : x < 2 ^ 31 := by omega
  generalize 2 ^ i * a = y at e h h1
  apply Int32.toBitVec_inj.mp
  apply BitVec.eq_of_toNat_eq
  rw [Int32.toBitVec_or, BitVec.toNat_or, pk_tn (by omega), pk_tn (by omega), pk_tn (by omega), e]
theorem shl_23 : ∀ a, a < 256 → nI a <<< (nI 23 &&& 31) = nI (2 ^ 23 * a) := by decide +kernel
theorem bits_put {m x : Nat} (hm : m < 255) (hx : x < 2 ^ 23) : nI m <<< (nI 23 &&& 31) ||| nI x = nI (2 ^ 23 * m + x) := by
  rw [shl_23 m (by omega)]
  refine or_gen 23 m x hx ?_
  have h1 : 2 ^ 23 * m ≤ 2 ^ 23 * 254 := Nat.mul_le_mul_left _ (by omega)
  have h2 : (2 : Nat) ^ 23 * 254 + 2 ^ 23 ≤ 2 ^ 31 := by decide
  generalize (2 : Nat) ^ 23 * m = y at h1 ⊢
  generalize (2 : Nat) ^ 23 * 254 = z at h1 h2
  omega
theorem nF_nat {c k : Nat} (h : nFok c k) : (nF c k).toNat = 2 ^ 23 * (k - 23) + (c - 2 ^ 23) := by
  rw [nF_bits h, UInt32.toNat_ofNat_of_lt' (by obtain ⟨h1, h2, h3, h4⟩ := h; show _ < 4294967296; omega), Nat.mul_comm]
theorem raw_nI (a : UInt32) : a.toInt32 = nI a.toNat := by
  apply Int32.toBitVec_inj.mp
  apply BitVec.eq_of_toNat_eq
  have := a.toNat_lt
  rw [pk_tn (by omega)]
  rfl
