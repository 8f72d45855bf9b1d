def MP (cA : Nat → ClassId) (q sc : Nat → Nat) (ar : Nat → Nat → Nat) (φ : hpM) : Prop := φ (q 0) = some (.inr (13, [.int (nI (sc 0)), .long (Int64.ofNat (sc 1)), .int (nI (sc 2)), .ref (q 1), .ref (q 2), .int (nI (sc 3)), .ref (q 3), .ref (q 4), .ref (q 5), .ref (q 6), .ref (q 7), .ref (q 8), .ref (q 9), .int (nI (sc 4)), .ref (q 10), .ref (q 11), .int (nI (sc 5)), .ref (q 12), .ref (q 13), .ref (q 14), .int (nI (sc 6)), .int (nI (sc 7))])) ∧ φ (q 1) = some (.inl (cA 1, 10, .inl (fun j => nI ((ar 1) j)))) ∧ φ (q 2) = some (.inl (cA 1, 10, .inl (fun j => nI ((ar 2) j)))) ∧ φ (q 3) = some (.inl (cA 1, 12, .inl (fun j => nI ((ar 3) j)))) ∧ φ (q 4) = some (.inl (cA 1, 72, .inl (fun j => nI ((ar 4) j)))) ∧ φ (q 5) = some (.inl (cA 1, 72, .inl (fun j => nI ((ar 5) j)))) ∧ φ (q 6) = some (.inl (cA 1, 72, .inl (fun j => nI ((ar 6) j)))) ∧ φ (q 7) = some (.inl (cA 1, 12, .inl (fun j => nI ((ar 7) j)))) ∧ φ (q 8) = some (.inl (cA 2, 12, .inl (fun j => nI ((ar 8) j)))) ∧ φ (q 9) = some (.inl (cA 2, 12, .inl (fun j => nI ((ar 9) j)))) ∧ φ (q 10) = some (.inl (cA 1, 8, .inl (fun j => nI ((ar 10) j)))) ∧ φ (q 11) = some (.inl (cA 1, 8, .inl (fun j => nI ((ar 11) j)))) ∧ φ (q 12) = some (.inl (cA 1, 6, .inl (fun j => nI ((ar 12) j)))) ∧ φ (q 13) = some (.inl (cA 1, 6, .inl (fun j => nI ((ar 13) j)))) ∧ φ (q 14) = some (.inl (cA 1, 8, .inl (fun j => nI ((ar 14) j))))
def inB (x lo hi : Int32) : Nat := if lo ≤ x ∧ x ≤ hi then 1 else 0
theorem inB_R (x : Int32) (lo hi : Nat) : inB x (nI lo) (nI hi) = if inR x lo hi then 1 else 0 := rfl
theorem inB_N {x : Int32} {k : Nat} (hk : k < 2 ^ 30) : inB x (nI 0) (nI k - nI 1) = if inN x k then 1 else 0 := by
  unfold inB
  have e : (nI k - nI 1).toInt = (k : Int) - 1 := by rw [pk_sub_toInt (by omega) (by omega)]; rfl
  have z : (nI 0).toInt = 0 := by decide
  have z0 : (0 : Int32).toInt = 0 := by decide
  by_cases h : inN x k
  · rw [if_pos h, if_pos]
    have h1 := h.1
    have h2 := h.2
    rw [Int32.lt_iff_toInt_lt, z0] at h1
    rw [Int32.lt_iff_toInt_lt, nI_toInt (by omega)] at h2
    rw [Int32.le_iff_toInt_le, Int32.le_iff_toInt_le, e, z]
    omega
  · rw [if_neg h, if_neg]
    intro h3
    apply h
    obtain ⟨h4, h5⟩ := h3
    rw [Int32.le_iff_toInt_le, z] at h4
    rw [Int32.le_iff_toInt_le, e] at h5
    unfold inN
    rw [Int32.lt_iff_toInt_lt, z0, Int32.lt_iff_toInt_lt, nI_toInt (by omega)]
    omega
def wdF (cf : Nat → Nat) : Nat → Nat
  | 0 => 0
  | i + 1 => if cf i = 32 then wdF cf i else 27 * wdF cf i + (cf i - 96)
def b27 (l : List Nat) : Nat := l.foldl (fun a c => 27 * a + (c - 96)) 0
def wcd (i : Nat) : Nat := b27 (wdT i)
theorem jL_i2l : ∀ c, c < 128 → (nI c).toInt64 = Int64.ofNat c := by decide +kernel
theorem jL_step {t c : Nat} (hc : c < 128) (h : 97 ≤ c) : (Int64.ofNat 27 * Int64.ofNat t + (nI c).toInt64 - Int64.ofNat 97) + Int64.ofNat 1 = Int64.ofNat (27 * t + (c - 96)) := by
  rw [jL_i2l c hc, ← Int64.ofNat_mul, ← Int64.ofNat_add, ← Int64.ofNat_sub _ _ (by omega), ← Int64.ofNat_add]
  congr 1
  omega
theorem jL_inj {a b : Nat} (ha : a < 2 ^ 62) (hb : b < 2 ^ 62) (h : Int64.ofNat a = Int64.ofNat b) : a = b := by
  have h2 := congrArg Int64.toInt h
  rw [Int64.toInt_ofNat_of_lt (by omega), Int64.toInt_ofNat_of_lt (by omega)] at h2
  omega
theorem jL_cmp {a b : Nat} (ha : a < 2 ^ 62) (hb : b < 2 ^ 62) : lg_cmp (Int64.ofNat a) (Int64.ofNat b) = 0 ↔ a = b := by
  constructor
  · intro h
    unfold lg_cmp at h
    split at h
    · cases h
    · split at h
      · next h1 h2 => exact jL_inj ha hb (by first | exact h2 | exact (Int64.le_antisymm (Int64.not_lt.mp h1) (Int64.not_lt.mp h2)).symm | exact (Int64.le_antisymm (Int64.not_lt.mp h2) (Int64.not_lt.mp h1)))
      · next h1 h2 => first | (cases h; done) | exact jL_inj ha hb (by first | exact (Int64.le_antisymm (Int64.not_lt.mp h1) (Int64.not_lt.mp h2)).symm | exact (Int64.le_antisymm (Int64.not_lt.mp h2) (Int64.not_lt.mp h1)))
  · intro h
    subst h
    unfold lg_cmp
    simp
set_option maxHeartbeats 4000000 in
set_option maxRecDepth 100000 in
/-- isIn(x, least, most) -/
theorem c_isIn (l : Launch) (D : va_G) (cA : Nat → ClassId) (ga : Nat → Nat → Nat) (φ : hpM) (sz : Nat) (x lo hi : Int32) : hM l yX9_isIn cX9_isIn 3 (some .boolean) { frames := 8, cells := 0, slots := 0, locals := 200 } [.int (x), .int (lo), .int (hi)] D cA ga φ sz (fun v φ' => v = some (.int (nI (inB x lo hi))) ∧ φ' = φ) 0 0 := by
  refine hM.of (by decide) (Nat.le_of_ble_eq_true rfl) rfl ?_
  intro p e s m args below meth c ls H locs S hr hlocks hnm hsz hHz hH hK hX hS hA hl
  refine lv_iload_n (pc := 0) S.1 S.2.1 dX9_isIn_0 rfl (lv_at hl 0 rfl) ?_
  refine lv_iload_n (pc := 1) S.1 S.2.1 dX9_isIn_1 rfl (lv_at hl 1 rfl) ?_
  refine lv_icmp_lt (pc := 2) (tgt := 14) S.1 S.2.1 dX9_isIn_2 (by decide) (fun c_1 => ?_) (fun c_1 => ?_)
  · skip
    refine lv_iconst (pc := 14) (v := nI 0) S.1 S.2.1 dX9_isIn_14 (by decide) ?_
    exact hv_ret (pc := 15) (v := nI 0) S hr rfl hlocks hH hS (⟨by rw [inB, if_neg (fun h => i32_lt_nle c_1 h.1)], rfl⟩) (Nat.le_of_ble_eq_true rfl) (Nat.le_of_ble_eq_true rfl) dX9_isIn_15
  · skip
    refine lv_iload_n (pc := 5) S.1 S.2.1 dX9_isIn_5 rfl (lv_at hl 0 rfl) ?_
    refine lv_iload_n (pc := 6) S.1 S.2.1 dX9_isIn_6 rfl (lv_at hl 2 rfl) ?_
    refine lv_icmp_gt (pc := 7) (tgt := 14) S.1 S.2.1 dX9_isIn_7 (by decide) (fun c_2 => ?_) (fun c_2 => ?_)
    · skip
      refine lv_iconst (pc := 14) (v := nI 0) S.1 S.2.1 dX9_isIn_14 (by decide) ?_
      exact hv_ret (pc := 15) (v := nI 0) S hr rfl hlocks hH hS (⟨by rw [inB, if_neg (fun h => i32_lt_nle c_2 h.2)], rfl⟩) (Nat.le_of_ble_eq_true rfl) (Nat.le_of_ble_eq_true rfl) dX9_isIn_15
    · skip
      refine lv_iconst (pc := 10) (v := nI 1) S.1 S.2.1 dX9_isIn_10 (by decide) ?_
      refine lv_goto (pc := 11) (tgt := 15) S.1 S.2.1 dX9_isIn_11 (by decide) ?_
      exact hv_ret (pc := 15) (v := nI 1) S hr rfl hlocks hH hS (⟨by rw [inB, if_pos ⟨i32_nlt c_1, i32_nlt c_2⟩], rfl⟩) (Nat.le_of_ble_eq_true rfl) (Nat.le_of_ble_eq_true rfl) dX9_isIn_15

set_option maxHeartbeats 4000000 in
set_option maxRecDepth 100000 in
/-- across(fur) -/
theorem c_m_across (l : Launch) (D : va_G) (cA : Nat → ClassId) (ga : Nat → Nat → Nat) (φ : hpM) (sz : Nat) (k : Nat) (hk : k < 4) : hM l yX9_across cX9_across 1 (some .int) { frames := 8, cells := 0, slots := 0, locals := 200 } [.int (nI k)] D cA ga φ sz (fun v φ' => v = some (.int (nI (fAcr k))) ∧ φ' = φ) 0 0 := by
  refine hM.of (by decide) (Nat.le_of_ble_eq_true rfl) rfl ?_
  intro p e s m args below meth c ls H locs S hr hlocks hnm hsz hHz hH hK hX hS hA hl
  refine lv_iload_n (pc := 0) S.1 S.2.1 dX9_across_0 rfl (lv_at hl 0 rfl) ?_
  refine hv_if_ne (pc := 1) (tgt := 9) (a := k) S.1 S.2.1 (by omega) dX9_across_1 (by decide) (fun c_1 => ?_) (fun c_1 => ?_)
  · skip
    refine lv_iload_n (pc := 9) S.1 S.2.1 dX9_across_9 rfl (lv_at hl 0 rfl) ?_
    refine lv_iconst (pc := 10) (v := nI 1) S.1 S.2.1 dX9_across_10 (by decide) ?_
    refine hv_icmp_ne (pc := 11) (tgt := 19) (a := k) (b := 1) S.1 S.2.1 (by omega) (by omega) dX9_across_11 (by decide) (fun c_2 => ?_) (fun c_2 => ?_)
    · skip
      refine lv_iload_n (pc := 19) S.1 S.2.1 dX9_across_19 rfl (lv_at hl 0 rfl) ?_
      refine lv_iconst (pc := 20) (v := nI 2) S.1 S.2.1 dX9_across_20 (by decide) ?_
      refine hv_icmp_ne (pc := 21) (tgt := 28) (a := k) (b := 2) S.1 S.2.1 (by omega) (by omega) dX9_across_21 (by decide) (fun c_3 => ?_) (fun c_3 => ?_)
      · skip
        refine lv_bipush (pc := 28) (v := nI 7) S.1 S.2.1 dX9_across_28 (by decide) ?_
        exact hv_ret (pc := 30) (v := nI 7) S hr rfl hlocks hH hS (⟨by first | (rw [show k = 0 by omega]; rfl) | (rw [show k = 1 by omega]; rfl) | (rw [show k = 2 by omega]; rfl) | (rw [show k = 3 by omega]; rfl), rfl⟩) (Nat.le_of_ble_eq_true rfl) (Nat.le_of_ble_eq_true rfl) dX9_across_30
      · skip
        refine lv_iconst (pc := 24) (v := nI 5) S.1 S.2.1 dX9_across_24 (by decide) ?_
        refine lv_goto (pc := 25) (tgt := 30) S.1 S.2.1 dX9_across_25 (by decide) ?_
        exact hv_ret (pc := 30) (v := nI 5) S hr rfl hlocks hH hS (⟨by first | (rw [show k = 0 by omega]; rfl) | (rw [show k = 1 by omega]; rfl) | (rw [show k = 2 by omega]; rfl) | (rw [show k = 3 by omega]; rfl), rfl⟩) (Nat.le_of_ble_eq_true rfl) (Nat.le_of_ble_eq_true rfl) dX9_across_30
    · skip
      refine lv_bipush (pc := 14) (v := nI 10) S.1 S.2.1 dX9_across_14 (by decide) ?_
      refine lv_goto (pc := 16) (tgt := 30) S.1 S.2.1 dX9_across_16 (by decide) ?_
      exact hv_ret (pc := 30) (v := nI 10) S hr rfl hlocks hH hS (⟨by first | (rw [show k = 0 by omega]; rfl) | (rw [show k = 1 by omega]; rfl) | (rw [show k = 2 by omega]; rfl) | (rw [show k = 3 by omega]; rfl), rfl⟩) (Nat.le_of_ble_eq_true rfl) (Nat.le_of_ble_eq_true rfl) dX9_across_30
  · skip
    refine lv_bipush (pc := 4) (v := nI 8) S.1 S.2.1 dX9_across_4 (by decide) ?_
    refine lv_goto (pc := 6) (tgt := 30) S.1 S.2.1 dX9_across_6 (by decide) ?_
    exact hv_ret (pc := 30) (v := nI 8) S hr rfl hlocks hH hS (⟨by first | (rw [show k = 0 by omega]; rfl) | (rw [show k = 1 by omega]; rfl) | (rw [show k = 2 by omega]; rfl) | (rw [show k = 3 by omega]; rfl), rfl⟩) (Nat.le_of_ble_eq_true rfl) (Nat.le_of_ble_eq_true rfl) dX9_across_30

set_option maxHeartbeats 4000000 in
set_option maxRecDepth 100000 in
/-- along(fur) -/
theorem c_m_along (l : Launch) (D : va_G) (cA : Nat → ClassId) (ga : Nat → Nat → Nat) (φ : hpM) (sz : Nat) (k : Nat) (hk : k < 4) : hM l yX9_along cX9_along 1 (some .int) { frames := 8, cells := 0, slots := 0, locals := 200 } [.int (nI k)] D cA ga φ sz (fun v φ' => v = some (.int (nI (fAlo k))) ∧ φ' = φ) 0 0 := by
  refine hM.of (by decide) (Nat.le_of_ble_eq_true rfl) rfl ?_
  intro p e s m args below meth c ls H locs S hr hlocks hnm hsz hHz hH hK hX hS hA hl
  refine lv_iload_n (pc := 0) S.1 S.2.1 dX9_along_0 rfl (lv_at hl 0 rfl) ?_
  refine hv_if_ne (pc := 1) (tgt := 9) (a := k) S.1 S.2.1 (by omega) dX9_along_1 (by decide) (fun c_1 => ?_) (fun c_1 => ?_)
  · skip
    refine lv_iload_n (pc := 9) S.1 S.2.1 dX9_along_9 rfl (lv_at hl 0 rfl) ?_
    refine lv_iconst (pc := 10) (v := nI 1) S.1 S.2.1 dX9_along_10 (by decide) ?_
    refine hv_icmp_ne (pc := 11) (tgt := 19) (a := k) (b := 1) S.1 S.2.1 (by omega) (by omega) dX9_along_11 (by decide) (fun c_2 => ?_) (fun c_2 => ?_)
    · skip
      refine lv_iload_n (pc := 19) S.1 S.2.1 dX9_along_19 rfl (lv_at hl 0 rfl) ?_
      refine lv_iconst (pc := 20) (v := nI 2) S.1 S.2.1 dX9_along_20 (by decide) ?_
      refine hv_icmp_ne (pc := 21) (tgt := 28) (a := k) (b := 2) S.1 S.2.1 (by omega) (by omega) dX9_along_21 (by decide) (fun c_3 => ?_) (fun c_3 => ?_)
      · skip
        refine lv_bipush (pc := 28) (v := nI 6) S.1 S.2.1 dX9_along_28 (by decide) ?_
        exact hv_ret (pc := 30) (v := nI 6) S hr rfl hlocks hH hS (⟨by first | (rw [show k = 0 by omega]; rfl) | (rw [show k = 1 by omega]; rfl) | (rw [show k = 2 by omega]; rfl) | (rw [show k = 3 by omega]; rfl), rfl⟩) (Nat.le_of_ble_eq_true rfl) (Nat.le_of_ble_eq_true rfl) dX9_along_30
      · skip
        refine lv_iconst (pc := 24) (v := nI 5) S.1 S.2.1 dX9_along_24 (by decide) ?_
        refine lv_goto (pc := 25) (tgt := 30) S.1 S.2.1 dX9_along_25 (by decide) ?_
        exact hv_ret (pc := 30) (v := nI 5) S hr rfl hlocks hH hS (⟨by first | (rw [show k = 0 by omega]; rfl) | (rw [show k = 1 by omega]; rfl) | (rw [show k = 2 by omega]; rfl) | (rw [show k = 3 by omega]; rfl), rfl⟩) (Nat.le_of_ble_eq_true rfl) (Nat.le_of_ble_eq_true rfl) dX9_along_30
    · skip
      refine lv_bipush (pc := 14) (v := nI 9) S.1 S.2.1 dX9_along_14 (by decide) ?_
      refine lv_goto (pc := 16) (tgt := 30) S.1 S.2.1 dX9_along_16 (by decide) ?_
      exact hv_ret (pc := 30) (v := nI 9) S hr rfl hlocks hH hS (⟨by first | (rw [show k = 0 by omega]; rfl) | (rw [show k = 1 by omega]; rfl) | (rw [show k = 2 by omega]; rfl) | (rw [show k = 3 by omega]; rfl), rfl⟩) (Nat.le_of_ble_eq_true rfl) (Nat.le_of_ble_eq_true rfl) dX9_along_30
  · skip
    refine lv_bipush (pc := 4) (v := nI 6) S.1 S.2.1 dX9_along_4 (by decide) ?_
    refine lv_goto (pc := 6) (tgt := 30) S.1 S.2.1 dX9_along_6 (by decide) ?_
    exact hv_ret (pc := 30) (v := nI 6) S hr rfl hlocks hH hS (⟨by first | (rw [show k = 0 by omega]; rfl) | (rw [show k = 1 by omega]; rfl) | (rw [show k = 2 by omega]; rfl) | (rw [show k = 3 by omega]; rfl), rfl⟩) (Nat.le_of_ble_eq_true rfl) (Nat.le_of_ble_eq_true rfl) dX9_along_30

set_option maxHeartbeats 4000000 in
set_option maxRecDepth 100000 in
/-- strain(fur) -/
theorem c_m_strain (l : Launch) (D : va_G) (cA : Nat → ClassId) (ga : Nat → Nat → Nat) (φ : hpM) (sz : Nat) (k : Nat) (hk : k < 4) : hM l yX9_strain cX9_strain 1 (some .int) { frames := 8, cells := 0, slots := 0, locals := 200 } [.int (nI k)] D cA ga φ sz (fun v φ' => v = some (.int (nI (fStr k))) ∧ φ' = φ) 0 0 := by
  refine hM.of (by decide) (Nat.le_of_ble_eq_true rfl) rfl ?_
  intro p e s m args below meth c ls H locs S hr hlocks hnm hsz hHz hH hK hX hS hA hl
  refine lv_iload_n (pc := 0) S.1 S.2.1 dX9_strain_0 rfl (lv_at hl 0 rfl) ?_
  refine hv_if_ne (pc := 1) (tgt := 9) (a := k) S.1 S.2.1 (by omega) dX9_strain_1 (by decide) (fun c_1 => ?_) (fun c_1 => ?_)
  · skip
    refine lv_iload_n (pc := 9) S.1 S.2.1 dX9_strain_9 rfl (lv_at hl 0 rfl) ?_
    refine lv_iconst (pc := 10) (v := nI 1) S.1 S.2.1 dX9_strain_10 (by decide) ?_
    refine hv_icmp_ne (pc := 11) (tgt := 19) (a := k) (b := 1) S.1 S.2.1 (by omega) (by omega) dX9_strain_11 (by decide) (fun c_2 => ?_) (fun c_2 => ?_)
    · skip
      refine lv_iload_n (pc := 19) S.1 S.2.1 dX9_strain_19 rfl (lv_at hl 0 rfl) ?_
      refine lv_iconst (pc := 20) (v := nI 2) S.1 S.2.1 dX9_strain_20 (by decide) ?_
      refine hv_icmp_ne (pc := 21) (tgt := 29) (a := k) (b := 2) S.1 S.2.1 (by omega) (by omega) dX9_strain_21 (by decide) (fun c_3 => ?_) (fun c_3 => ?_)
      · skip
        refine lv_bipush (pc := 29) (v := nI 25) S.1 S.2.1 dX9_strain_29 (by decide) ?_
        exact hv_ret (pc := 31) (v := nI 25) S hr rfl hlocks hH hS (⟨by first | (rw [show k = 0 by omega]; rfl) | (rw [show k = 1 by omega]; rfl) | (rw [show k = 2 by omega]; rfl) | (rw [show k = 3 by omega]; rfl), rfl⟩) (Nat.le_of_ble_eq_true rfl) (Nat.le_of_ble_eq_true rfl) dX9_strain_31
      · skip
        refine lv_bipush (pc := 24) (v := nI 35) S.1 S.2.1 dX9_strain_24 (by decide) ?_
        refine lv_goto (pc := 26) (tgt := 31) S.1 S.2.1 dX9_strain_26 (by decide) ?_
        exact hv_ret (pc := 31) (v := nI 35) S hr rfl hlocks hH hS (⟨by first | (rw [show k = 0 by omega]; rfl) | (rw [show k = 1 by omega]; rfl) | (rw [show k = 2 by omega]; rfl) | (rw [show k = 3 by omega]; rfl), rfl⟩) (Nat.le_of_ble_eq_true rfl) (Nat.le_of_ble_eq_true rfl) dX9_strain_31
    · skip
      refine lv_bipush (pc := 14) (v := nI 15) S.1 S.2.1 dX9_strain_14 (by decide) ?_
      refine lv_goto (pc := 16) (tgt := 31) S.1 S.2.1 dX9_strain_16 (by decide) ?_
      exact hv_ret (pc := 31) (v := nI 15) S hr rfl hlocks hH hS (⟨by first | (rw [show k = 0 by omega]; rfl) | (rw [show k = 1 by omega]; rfl) | (rw [show k = 2 by omega]; rfl) | (rw [show k = 3 by omega]; rfl), rfl⟩) (Nat.le_of_ble_eq_true rfl) (Nat.le_of_ble_eq_true rfl) dX9_strain_31
  · skip
    refine lv_bipush (pc := 4) (v := nI 20) S.1 S.2.1 dX9_strain_4 (by decide) ?_
    refine lv_goto (pc := 6) (tgt := 31) S.1 S.2.1 dX9_strain_6 (by decide) ?_
    exact hv_ret (pc := 31) (v := nI 20) S hr rfl hlocks hH hS (⟨by first | (rw [show k = 0 by omega]; rfl) | (rw [show k = 1 by omega]; rfl) | (rw [show k = 2 by omega]; rfl) | (rw [show k = 3 by omega]; rfl), rfl⟩) (Nat.le_of_ble_eq_true rfl) (Nat.le_of_ble_eq_true rfl) dX9_strain_31

set_option maxHeartbeats 4000000 in
set_option maxRecDepth 100000 in
/-- airOf(fur) -/
theorem c_m_airOf (l : Launch) (D : va_G) (cA : Nat → ClassId) (ga : Nat → Nat → Nat) (φ : hpM) (sz : Nat) (k : Nat) (hk : k < 4) : hM l yX9_airOf cX9_airOf 1 (some .int) { frames := 8, cells := 0, slots := 0, locals := 200 } [.int (nI k)] D cA ga φ sz (fun v φ' => v = some (.int (nI (fAir k))) ∧ φ' = φ) 0 0 := by
  refine hM.of (by decide) (Nat.le_of_ble_eq_true rfl) rfl ?_
  intro p e s m args below meth c ls H locs S hr hlocks hnm hsz hHz hH hK hX hS hA hl
  refine lv_iload_n (pc := 0) S.1 S.2.1 dX9_airOf_0 rfl (lv_at hl 0 rfl) ?_
  refine hv_if_ne (pc := 1) (tgt := 9) (a := k) S.1 S.2.1 (by omega) dX9_airOf_1 (by decide) (fun c_1 => ?_) (fun c_1 => ?_)
  · skip
    refine lv_iload_n (pc := 9) S.1 S.2.1 dX9_airOf_9 rfl (lv_at hl 0 rfl) ?_
    refine lv_iconst (pc := 10) (v := nI 1) S.1 S.2.1 dX9_airOf_10 (by decide) ?_
    refine hv_icmp_ne (pc := 11) (tgt := 18) (a := k) (b := 1) S.1 S.2.1 (by omega) (by omega) dX9_airOf_11 (by decide) (fun c_2 => ?_) (fun c_2 => ?_)
    · skip
      refine lv_iload_n (pc := 18) S.1 S.2.1 dX9_airOf_18 rfl (lv_at hl 0 rfl) ?_
      refine lv_iconst (pc := 19) (v := nI 2) S.1 S.2.1 dX9_airOf_19 (by decide) ?_
      refine hv_icmp_ne (pc := 20) (tgt := 27) (a := k) (b := 2) S.1 S.2.1 (by omega) (by omega) dX9_airOf_20 (by decide) (fun c_3 => ?_) (fun c_3 => ?_)
      · skip
        refine lv_bipush (pc := 27) (v := nI 12) S.1 S.2.1 dX9_airOf_27 (by decide) ?_
        exact hv_ret (pc := 29) (v := nI 12) S hr rfl hlocks hH hS (⟨by first | (rw [show k = 0 by omega]; rfl) | (rw [show k = 1 by omega]; rfl) | (rw [show k = 2 by omega]; rfl) | (rw [show k = 3 by omega]; rfl), rfl⟩) (Nat.le_of_ble_eq_true rfl) (Nat.le_of_ble_eq_true rfl) dX9_airOf_29
      · skip
        refine lv_iconst (pc := 23) (v := nI 5) S.1 S.2.1 dX9_airOf_23 (by decide) ?_
        refine lv_goto (pc := 24) (tgt := 29) S.1 S.2.1 dX9_airOf_24 (by decide) ?_
        exact hv_ret (pc := 29) (v := nI 5) S hr rfl hlocks hH hS (⟨by first | (rw [show k = 0 by omega]; rfl) | (rw [show k = 1 by omega]; rfl) | (rw [show k = 2 by omega]; rfl) | (rw [show k = 3 by omega]; rfl), rfl⟩) (Nat.le_of_ble_eq_true rfl) (Nat.le_of_ble_eq_true rfl) dX9_airOf_29
    · skip
      refine lv_iconst (pc := 14) (v := nI 2) S.1 S.2.1 dX9_airOf_14 (by decide) ?_
      refine lv_goto (pc := 15) (tgt := 29) S.1 S.2.1 dX9_airOf_15 (by decide) ?_
      exact hv_ret (pc := 29) (v := nI 2) S hr rfl hlocks hH hS (⟨by first | (rw [show k = 0 by omega]; rfl) | (rw [show k = 1 by omega]; rfl) | (rw [show k = 2 by omega]; rfl) | (rw [show k = 3 by omega]; rfl), rfl⟩) (Nat.le_of_ble_eq_true rfl) (Nat.le_of_ble_eq_true rfl) dX9_airOf_29
  · skip
    refine lv_bipush (pc := 4) (v := nI 8) S.1 S.2.1 dX9_airOf_4 (by decide) ?_
    refine lv_goto (pc := 6) (tgt := 29) S.1 S.2.1 dX9_airOf_6 (by decide) ?_
    exact hv_ret (pc := 29) (v := nI 8) S hr rfl hlocks hH hS (⟨by first | (rw [show k = 0 by omega]; rfl) | (rw [show k = 1 by omega]; rfl) | (rw [show k = 2 by omega]; rfl) | (rw [show k = 3 by omega]; rfl), rfl⟩) (Nat.le_of_ble_eq_true rfl) (Nat.le_of_ble_eq_true rfl) dX9_airOf_29

set_option maxHeartbeats 4000000 in
set_option maxRecDepth 100000 in
/-- shrunk(x, percent) -/
theorem c_m_shrunk (l : Launch) (D : va_G) (cA : Nat → ClassId) (ga : Nat → Nat → Nat) (φ : hpM) (sz : Nat) (a b : Nat) (ha : a ≤ 1200) (hb : b ≤ 100) : hM l yX9_shrunk cX9_shrunk 2 (some .int) { frames := 8, cells := 0, slots := 0, locals := 200 } [.int (nI a), .int (nI b)] D cA ga φ sz (fun v φ' => v = some (.int (nI (a * (100 - b) / 100))) ∧ φ' = φ) 0 0 := by
  refine hM.of (by decide) (Nat.le_of_ble_eq_true rfl) rfl ?_
  intro p e s m args below meth c ls H locs S hr hlocks hnm hsz hHz hH hK hX hS hA hl
  have hm1 : a * (100 - b) ≤ 1200 * 100 := Nat.mul_le_mul ha (by omega)
  refine lv_iload_n (pc := 0) S.1 S.2.1 dX9_shrunk_0 rfl (lv_at hl 0 rfl) ?_
  refine lv_bipush (pc := 1) (v := nI 100) S.1 S.2.1 dX9_shrunk_1 (by decide) ?_
  refine lv_iload_n (pc := 3) S.1 S.2.1 dX9_shrunk_3 rfl (lv_at hl 1 rfl) ?_
  refine lv_isub (pc := 4) S.1 S.2.1 dX9_shrunk_4 ?_
  refine hv_ti (y := nI (100 - b)) (pk_sub (by omega)) ?_
  refine lv_imul (pc := 5) S.1 S.2.1 dX9_shrunk_5 ?_
  refine hv_ti (y := nI (a * (100 - b))) (pk_mul _ _) ?_
  refine lv_bipush (pc := 6) (v := nI 100) S.1 S.2.1 dX9_shrunk_6 (by decide) ?_
  refine lv_idiv (pc := 8) S.1 S.2.1 dX9_shrunk_8 (by decide) ?_
  refine hv_ti (y := nI ((a * (100 - b)) / 100)) (pk_div (by omega) (by omega) (by omega)) ?_
  exact hv_ret (pc := 9) (v := nI ((a * (100 - b)) / 100)) S hr rfl hlocks hH hS (⟨rfl, rfl⟩) (Nat.le_of_ble_eq_true rfl) (Nat.le_of_ble_eq_true rfl) dX9_shrunk_9

set_option maxHeartbeats 4000000 in
set_option maxRecDepth 100000 in
/-- gain(kind, row) -/
theorem c_m_gain (l : Launch) (D : va_G) (cA : Nat → ClassId) (ga : Nat → Nat → Nat) (φ : hpM) (sz : Nat) (k x : Nat) (hk : k < 4) (hx : x < 2 ^ 30) : hM l yX9_gain cX9_gain 3 (some .int) { frames := 8, cells := 0, slots := 0, locals := 200 } [.int (nI k), .int (nI x)] D cA ga φ sz (fun v φ' => v = some (.int (nI (gN k x))) ∧ φ' = φ) 0 0 := by
  refine hM.of (by decide) (Nat.le_of_ble_eq_true rfl) rfl ?_
  intro p e s m args below meth c ls H locs S hr hlocks hnm hsz hHz hH hK hX hS hA hl
  refine lv_bipush (pc := 0) (v := nI 6) S.1 S.2.1 dX9_gain_0 (by decide) ?_
  refine lv_iload_n (pc := 2) S.1 S.2.1 dX9_gain_2 rfl (lv_at hl 1 rfl) ?_
  refine lv_iconst (pc := 3) (v := nI 3) S.1 S.2.1 dX9_gain_3 (by decide) ?_
  refine lv_idiv (pc := 4) S.1 S.2.1 dX9_gain_4 (by decide) ?_
  refine hv_ti (y := nI (x / 3)) (pk_div (by omega) (by omega) (by omega)) ?_
  refine lv_isub (pc := 5) S.1 S.2.1 dX9_gain_5 ?_
  by_cases hs : x / 3 ≤ 6
  · skip
    refine hv_ti (y := nI (6 - x / 3)) (pk_sub hs) ?_
    refine lv_istore_n (pc := 6) (lv' := [(2, .int (nI (6 - x / 3))), (0, .int (nI k)), (1, .int (nI x))]) S.1 S.2.1 dX9_gain_6 rfl hl (by decide) rfl (fun ls hl => ?_)
    refine lv_iload_n (pc := 7) S.1 S.2.1 dX9_gain_7 rfl (lv_at hl 1 rfl) ?_
    refine hv_if_ne (pc := 8) (tgt := 16) (a := k) S.1 S.2.1 (by omega) dX9_gain_8 (by decide) (fun c_1 => ?_) (fun c_1 => ?_)
    · skip
      refine lv_iload_n (pc := 16) S.1 S.2.1 dX9_gain_16 rfl (lv_at hl 1 rfl) ?_
      refine lv_iconst (pc := 17) (v := nI 1) S.1 S.2.1 dX9_gain_17 (by decide) ?_
      refine hv_icmp_ne (pc := 18) (tgt := 25) (a := k) (b := 1) S.1 S.2.1 (by omega) (by omega) dX9_gain_18 (by decide) (fun c_2 => ?_) (fun c_2 => ?_)
      · skip
        refine lv_iload_n (pc := 25) S.1 S.2.1 dX9_gain_25 rfl (lv_at hl 1 rfl) ?_
        refine lv_iconst (pc := 26) (v := nI 2) S.1 S.2.1 dX9_gain_26 (by decide) ?_
        refine hv_icmp_ne (pc := 27) (tgt := 42) (a := k) (b := 2) S.1 S.2.1 (by omega) (by omega) dX9_gain_27 (by decide) (fun c_3 => ?_) (fun c_3 => ?_)
        · skip
          refine lv_bipush (pc := 42) (v := nI 9) S.1 S.2.1 dX9_gain_42 (by decide) ?_
          exact hv_ret (pc := 44) (v := nI 9) S hr rfl hlocks hH hS (⟨by first | (rw [show k = 0 by omega]; rfl) | (rw [show k = 1 by omega]; rfl) | (rw [show k = 3 by omega]; rfl) | (rw [show k = 2 by omega]; show _ = some (Value.int (nI (6 - x / 3))); rw [show 6 - x / 3 = 0 by omega]) | (rw [show k = 2 by omega]; rfl) | (exfalso; assumption), rfl⟩) (Nat.le_of_ble_eq_true rfl) (Nat.le_of_ble_eq_true rfl) dX9_gain_44
        · skip
          refine lv_iload_n (pc := 30) S.1 S.2.1 dX9_gain_30 rfl (lv_at hl 0 rfl) ?_
          refine hv_if_ge (pc := 31) (tgt := 38) (a := 6 - x / 3) S.1 S.2.1 (by omega) dX9_gain_31 (by decide) (fun c_4 => ?_) (fun c_4 => ?_)
          · skip
            refine lv_iload_n (pc := 38) S.1 S.2.1 dX9_gain_38 rfl (lv_at hl 0 rfl) ?_
            refine lv_goto (pc := 39) (tgt := 44) S.1 S.2.1 dX9_gain_39 (by decide) ?_
            exact hv_ret (pc := 44) (v := nI (6 - x / 3)) S hr rfl hlocks hH hS (⟨by first | (rw [show k = 0 by omega]; rfl) | (rw [show k = 1 by omega]; rfl) | (rw [show k = 3 by omega]; rfl) | (rw [show k = 2 by omega]; show _ = some (Value.int (nI (6 - x / 3))); rw [show 6 - x / 3 = 0 by omega]) | (rw [show k = 2 by omega]; rfl) | (exfalso; assumption), rfl⟩) (Nat.le_of_ble_eq_true rfl) (Nat.le_of_ble_eq_true rfl) dX9_gain_44
          · skip
            refine lv_iconst (pc := 34) (v := nI 0) S.1 S.2.1 dX9_gain_34 (by decide) ?_
            refine lv_goto (pc := 35) (tgt := 44) S.1 S.2.1 dX9_gain_35 (by decide) ?_
            exact hv_ret (pc := 44) (v := nI 0) S hr rfl hlocks hH hS (⟨by first | (rw [show k = 0 by omega]; rfl) | (rw [show k = 1 by omega]; rfl) | (rw [show k = 3 by omega]; rfl) | (rw [show k = 2 by omega]; show _ = some (Value.int (nI (6 - x / 3))); rw [show 6 - x / 3 = 0 by omega]) | (rw [show k = 2 by omega]; rfl) | (exfalso; assumption), rfl⟩) (Nat.le_of_ble_eq_true rfl) (Nat.le_of_ble_eq_true rfl) dX9_gain_44
      · skip
        refine lv_iconst (pc := 21) (v := nI 4) S.1 S.2.1 dX9_gain_21 (by decide) ?_
        refine lv_goto (pc := 22) (tgt := 44) S.1 S.2.1 dX9_gain_22 (by decide) ?_
        exact hv_ret (pc := 44) (v := nI 4) S hr rfl hlocks hH hS (⟨by first | (rw [show k = 0 by omega]; rfl) | (rw [show k = 1 by omega]; rfl) | (rw [show k = 3 by omega]; rfl) | (rw [show k = 2 by omega]; show _ = some (Value.int (nI (6 - x / 3))); rw [show 6 - x / 3 = 0 by omega]) | (rw [show k = 2 by omega]; rfl) | (exfalso; assumption), rfl⟩) (Nat.le_of_ble_eq_true rfl) (Nat.le_of_ble_eq_true rfl) dX9_gain_44
    · skip
      refine lv_bipush (pc := 11) (v := nI 6) S.1 S.2.1 dX9_gain_11 (by decide) ?_
      refine lv_goto (pc := 13) (tgt := 44) S.1 S.2.1 dX9_gain_13 (by decide) ?_
      exact hv_ret (pc := 44) (v := nI 6) S hr rfl hlocks hH hS (⟨by first | (rw [show k = 0 by omega]; rfl) | (rw [show k = 1 by omega]; rfl) | (rw [show k = 3 by omega]; rfl) | (rw [show k = 2 by omega]; show _ = some (Value.int (nI (6 - x / 3))); rw [show 6 - x / 3 = 0 by omega]) | (rw [show k = 2 by omega]; rfl) | (exfalso; assumption), rfl⟩) (Nat.le_of_ble_eq_true rfl) (Nat.le_of_ble_eq_true rfl) dX9_gain_44
  · skip
    have hneg : nI 6 - nI (x / 3) < 0 := pk_sneg (by omega) (by omega)
    refine lv_istore_n (pc := 6) (lv' := [(2, .int (nI 6 - nI (x / 3))), (0, .int (nI k)), (1, .int (nI x))]) S.1 S.2.1 dX9_gain_6 rfl hl (by decide) rfl (fun ls hl => ?_)
    refine lv_iload_n (pc := 7) S.1 S.2.1 dX9_gain_7 rfl (lv_at hl 1 rfl) ?_
    refine hv_if_ne (pc := 8) (tgt := 16) (a := k) S.1 S.2.1 (by omega) dX9_gain_8 (by decide) (fun c_5 => ?_) (fun c_5 => ?_)
    · skip
      refine lv_iload_n (pc := 16) S.1 S.2.1 dX9_gain_16 rfl (lv_at hl 1 rfl) ?_
      refine lv_iconst (pc := 17) (v := nI 1) S.1 S.2.1 dX9_gain_17 (by decide) ?_
      refine hv_icmp_ne (pc := 18) (tgt := 25) (a := k) (b := 1) S.1 S.2.1 (by omega) (by omega) dX9_gain_18 (by decide) (fun c_6 => ?_) (fun c_6 => ?_)
      · skip
        refine lv_iload_n (pc := 25) S.1 S.2.1 dX9_gain_25 rfl (lv_at hl 1 rfl) ?_
        refine lv_iconst (pc := 26) (v := nI 2) S.1 S.2.1 dX9_gain_26 (by decide) ?_
        refine hv_icmp_ne (pc := 27) (tgt := 42) (a := k) (b := 2) S.1 S.2.1 (by omega) (by omega) dX9_gain_27 (by decide) (fun c_7 => ?_) (fun c_7 => ?_)
        · skip
          refine lv_bipush (pc := 42) (v := nI 9) S.1 S.2.1 dX9_gain_42 (by decide) ?_
          exact hv_ret (pc := 44) (v := nI 9) S hr rfl hlocks hH hS (⟨by first | (rw [show k = 0 by omega]; rfl) | (rw [show k = 1 by omega]; rfl) | (rw [show k = 3 by omega]; rfl) | (rw [show k = 2 by omega]; show _ = some (Value.int (nI (6 - x / 3))); rw [show 6 - x / 3 = 0 by omega]) | (rw [show k = 2 by omega]; rfl) | (exfalso; assumption), rfl⟩) (Nat.le_of_ble_eq_true rfl) (Nat.le_of_ble_eq_true rfl) dX9_gain_44
        · skip
          refine lv_iload_n (pc := 30) S.1 S.2.1 dX9_gain_30 rfl (lv_at hl 0 rfl) ?_
          refine lv_if_ge (pc := 31) (tgt := 38) S.1 S.2.1 dX9_gain_31 (by decide) (fun c_8 => ?_) (fun c_8 => ?_)
          · skip
            refine lv_iload_n (pc := 38) S.1 S.2.1 dX9_gain_38 rfl (lv_at hl 0 rfl) ?_
            refine lv_goto (pc := 39) (tgt := 44) S.1 S.2.1 dX9_gain_39 (by decide) ?_
            exact absurd (by assumption) (i32_lt_nle hneg)
          · skip
            refine lv_iconst (pc := 34) (v := nI 0) S.1 S.2.1 dX9_gain_34 (by decide) ?_
            refine lv_goto (pc := 35) (tgt := 44) S.1 S.2.1 dX9_gain_35 (by decide) ?_
            exact hv_ret (pc := 44) (v := nI 0) S hr rfl hlocks hH hS (⟨by first | (rw [show k = 0 by omega]; rfl) | (rw [show k = 1 by omega]; rfl) | (rw [show k = 3 by omega]; rfl) | (rw [show k = 2 by omega]; show _ = some (Value.int (nI (6 - x / 3))); rw [show 6 - x / 3 = 0 by omega]) | (rw [show k = 2 by omega]; rfl) | (exfalso; assumption), rfl⟩) (Nat.le_of_ble_eq_true rfl) (Nat.le_of_ble_eq_true rfl) dX9_gain_44
      · skip
        refine lv_iconst (pc := 21) (v := nI 4) S.1 S.2.1 dX9_gain_21 (by decide) ?_
        refine lv_goto (pc := 22) (tgt := 44) S.1 S.2.1 dX9_gain_22 (by decide) ?_
        exact hv_ret (pc := 44) (v := nI 4) S hr rfl hlocks hH hS (⟨by first | (rw [show k = 0 by omega]; rfl) | (rw [show k = 1 by omega]; rfl) | (rw [show k = 3 by omega]; rfl) | (rw [show k = 2 by omega]; show _ = some (Value.int (nI (6 - x / 3))); rw [show 6 - x / 3 = 0 by omega]) | (rw [show k = 2 by omega]; rfl) | (exfalso; assumption), rfl⟩) (Nat.le_of_ble_eq_true rfl) (Nat.le_of_ble_eq_true rfl) dX9_gain_44
    · skip
      refine lv_bipush (pc := 11) (v := nI 6) S.1 S.2.1 dX9_gain_11 (by decide) ?_
      refine lv_goto (pc := 13) (tgt := 44) S.1 S.2.1 dX9_gain_13 (by decide) ?_
      exact hv_ret (pc := 44) (v := nI 6) S hr rfl hlocks hH hS (⟨by first | (rw [show k = 0 by omega]; rfl) | (rw [show k = 1 by omega]; rfl) | (rw [show k = 3 by omega]; rfl) | (rw [show k = 2 by omega]; show _ = some (Value.int (nI (6 - x / 3))); rw [show 6 - x / 3 = 0 by omega]) | (rw [show k = 2 by omega]; rfl) | (exfalso; assumption), rfl⟩) (Nat.le_of_ble_eq_true rfl) (Nat.le_of_ble_eq_true rfl) dX9_gain_44

set_option maxHeartbeats 4000000 in
set_option maxRecDepth 100000 in
/-- word(7 letters) -/
theorem c_m_word (l : Launch) (D : va_G) (cA : Nat → ClassId) (ga : Nat → Nat → Nat) (φ : hpM) (sz : Nat) (cf : Nat → Nat) (hcf : ∀ i, i < 7 → cf i < 128 ∧ (cf i = 32 ∨ 97 ≤ cf i)) : hM l yX9_word cX9_word 11 (some .long) { frames := 8, cells := 0, slots := 0, locals := 200 } [.int (nI (cf 0)), .int (nI (cf 1)), .int (nI (cf 2)), .int (nI (cf 3)), .int (nI (cf 4)), .int (nI (cf 5)), .int (nI (cf 6))] D cA ga φ sz (fun v φ' => v = some (.long (Int64.ofNat (wdF cf 7))) ∧ φ' = φ) 0 0 := by
  refine hM.of (by decide) (Nat.le_of_ble_eq_true rfl) rfl ?_
  intro p e s m args below meth c ls H locs S hr hlocks hnm hsz hHz hH hK hX hS hA hl
  refine lv_lconst (pc := 0) (v := Int64.ofNat 0) S.1 S.2.1 dX9_word_0 rfl ?_
  refine lv_lstore (pc := 1) (lv' := [(7, .long (Int64.ofNat 0)), (0, .int (nI (cf 0))), (1, .int (nI (cf 1))), (2, .int (nI (cf 2))), (3, .int (nI (cf 3))), (4, .int (nI (cf 4))), (5, .int (nI (cf 5))), (6, .int (nI (cf 6)))]) S.1 S.2.1 dX9_word_1 hl (by decide) rfl (fun ls hl => ?_)
  refine lv_iconst (pc := 3) (v := nI 0) S.1 S.2.1 dX9_word_3 (by decide) ?_
  refine lv_istore (pc := 4) (lv' := [(9, .int (nI 0)), (7, .long (Int64.ofNat 0)), (0, .int (nI (cf 0))), (1, .int (nI (cf 1))), (2, .int (nI (cf 2))), (3, .int (nI (cf 3))), (4, .int (nI (cf 4))), (5, .int (nI (cf 5))), (6, .int (nI (cf 6)))]) S.1 S.2.1 dX9_word_4 hl (by decide) rfl (fun ls hl => ?_)
  have hg : ∃ (n i : Nat), (i + n = 7) ∧ lv_has ls 11 [(0, .int (nI (cf 0))), (1, .int (nI (cf 1))), (2, .int (nI (cf 2))), (3, .int (nI (cf 3))), (4, .int (nI (cf 4))), (5, .int (nI (cf 5))), (6, .int (nI (cf 6))), (7, .long (Int64.ofNat (wdF cf i))), (9, .int (nI i))] := ⟨7, 0, by omega, lv_sub hl [2, 3, 4, 5, 6, 7, 8, 1, 0] rfl⟩
  clear hl
  try clear hHz
  obtain ⟨n, i, hi, hl⟩ := hg
  induction n generalizing ls H locs i with
  | zero =>
    obtain rfl : i = 7 := by omega
    refine lv_iload (pc := 6) S.1 S.2.1 dX9_word_6 (lv_at hl 8 rfl) ?_
    refine lv_bipush (pc := 8) (v := nI 7) S.1 S.2.1 dX9_word_8 (by decide) ?_
    refine hv_icmp_ge (pc := 10) (tgt := 114) (a := 7) (b := 7) S.1 S.2.1 (by omega) (by omega) dX9_word_10 (by decide) (fun c_1 => ?_) (fun c_1 => ?_)
    · skip
      refine lv_lload (pc := 114) S.1 S.2.1 dX9_word_114 (lv_at hl 7 rfl) ?_
      exact hv_lret (pc := 116) S hr hlocks hH hS ⟨rfl, rfl⟩ (Nat.le_of_ble_eq_true rfl) (Nat.le_of_ble_eq_true rfl) dX9_word_116
    · skip
      exact absurd c_1 (by omega)
  | succ n ih =>
    obtain ⟨hc1, hc2⟩ := hcf i (by omega)
    refine lv_iload (pc := 6) S.1 S.2.1 dX9_word_6 (lv_at hl 8 rfl) ?_
    refine lv_bipush (pc := 8) (v := nI 7) S.1 S.2.1 dX9_word_8 (by decide) ?_
    refine hv_icmp_ge (pc := 10) (tgt := 114) (a := i) (b := 7) S.1 S.2.1 (by omega) (by omega) dX9_word_10 (by decide) (fun c_2 => ?_) (fun c_2 => ?_)
    · skip
      exact absurd c_2 (by omega)
    · skip
      refine lv_iload (pc := 13) S.1 S.2.1 dX9_word_13 (lv_at hl 8 rfl) ?_
      refine hv_if_ne (pc := 15) (tgt := 22) (a := i) S.1 S.2.1 (by omega) dX9_word_15 (by decide) (fun c_3 => ?_) (fun c_3 => ?_)
      · skip
        refine lv_iload (pc := 22) S.1 S.2.1 dX9_word_22 (lv_at hl 8 rfl) ?_
        refine lv_iconst (pc := 24) (v := nI 1) S.1 S.2.1 dX9_word_24 (by decide) ?_
        refine hv_icmp_ne (pc := 25) (tgt := 32) (a := i) (b := 1) S.1 S.2.1 (by omega) (by omega) dX9_word_25 (by decide) (fun c_4 => ?_) (fun c_4 => ?_)
        · skip
          refine lv_iload (pc := 32) S.1 S.2.1 dX9_word_32 (lv_at hl 8 rfl) ?_
          refine lv_iconst (pc := 34) (v := nI 2) S.1 S.2.1 dX9_word_34 (by decide) ?_
          refine hv_icmp_ne (pc := 35) (tgt := 42) (a := i) (b := 2) S.1 S.2.1 (by omega) (by omega) dX9_word_35 (by decide) (fun c_5 => ?_) (fun c_5 => ?_)
          · skip
            refine lv_iload (pc := 42) S.1 S.2.1 dX9_word_42 (lv_at hl 8 rfl) ?_
            refine lv_iconst (pc := 44) (v := nI 3) S.1 S.2.1 dX9_word_44 (by decide) ?_
            refine hv_icmp_ne (pc := 45) (tgt := 52) (a := i) (b := 3) S.1 S.2.1 (by omega) (by omega) dX9_word_45 (by decide) (fun c_6 => ?_) (fun c_6 => ?_)
            · skip
              refine lv_iload (pc := 52) S.1 S.2.1 dX9_word_52 (lv_at hl 8 rfl) ?_
              refine lv_iconst (pc := 54) (v := nI 4) S.1 S.2.1 dX9_word_54 (by decide) ?_
              refine hv_icmp_ne (pc := 55) (tgt := 63) (a := i) (b := 4) S.1 S.2.1 (by omega) (by omega) dX9_word_55 (by decide) (fun c_7 => ?_) (fun c_7 => ?_)
              · skip
                refine lv_iload (pc := 63) S.1 S.2.1 dX9_word_63 (lv_at hl 8 rfl) ?_
                refine lv_iconst (pc := 65) (v := nI 5) S.1 S.2.1 dX9_word_65 (by decide) ?_
                refine hv_icmp_ne (pc := 66) (tgt := 74) (a := i) (b := 5) S.1 S.2.1 (by omega) (by omega) dX9_word_66 (by decide) (fun c_8 => ?_) (fun c_8 => ?_)
                · skip
                  refine lv_iload (pc := 74) S.1 S.2.1 dX9_word_74 (lv_at hl 6 rfl) ?_
                  refine hv_ti (y := nI (cf i)) (by first | rw [show i = 0 by omega] | rw [show i = 1 by omega] | rw [show i = 2 by omega] | rw [show i = 3 by omega] | rw [show i = 4 by omega] | rw [show i = 5 by omega] | rw [show i = 6 by omega]) ?_
                  refine lv_istore (pc := 76) (lv' := [(10, .int (nI (cf i))), (0, .int (nI (cf 0))), (1, .int (nI (cf 1))), (2, .int (nI (cf 2))), (3, .int (nI (cf 3))), (4, .int (nI (cf 4))), (5, .int (nI (cf 5))), (6, .int (nI (cf 6))), (7, .long (Int64.ofNat (wdF cf i))), (9, .int (nI i))]) S.1 S.2.1 dX9_word_76 hl (by decide) rfl (fun ls hl => ?_)
                  refine lv_iload (pc := 78) S.1 S.2.1 dX9_word_78 (lv_at hl 0 rfl) ?_
                  refine lv_bipush (pc := 80) (v := nI 32) S.1 S.2.1 dX9_word_80 (by decide) ?_
                  refine hv_icmp_ne (pc := 82) (tgt := 90) (a := cf i) (b := 32) S.1 S.2.1 (by omega) (by omega) dX9_word_82 (by decide) (fun c_9 => ?_) (fun c_9 => ?_)
                  · skip
                    refine lv_ldc2 (pc := 90) (v := Int64.ofNat 27) S.1 S.2.1 S.2.2.2.1 (S.2.2.2.2 _ tw_1025) dX9_word_90 ?_
                    refine lv_lload (pc := 93) S.1 S.2.1 dX9_word_93 (lv_at hl 8 rfl) ?_
                    refine lv_lmul (pc := 95) S.1 S.2.1 dX9_word_95 ?_
                    refine lv_iload (pc := 96) S.1 S.2.1 dX9_word_96 (lv_at hl 0 rfl) ?_
                    refine lv_i2l (pc := 98) (v := (nI (cf i)).toInt64) S.1 S.2.1 dX9_word_98 rfl ?_
                    refine lv_ladd (pc := 99) S.1 S.2.1 dX9_word_99 ?_
                    refine lv_ldc2 (pc := 100) (v := Int64.ofNat 97) S.1 S.2.1 S.2.2.2.1 (S.2.2.2.2 _ tw_1026) dX9_word_100 ?_
                    refine lv_lsub (pc := 103) S.1 S.2.1 dX9_word_103 ?_
                    refine lv_lconst (pc := 104) (v := Int64.ofNat 1) S.1 S.2.1 dX9_word_104 rfl ?_
                    refine lv_ladd (pc := 105) S.1 S.2.1 dX9_word_105 ?_
                    refine hv_tv (y := .long (Int64.ofNat (27 * wdF cf i + (cf i - 96)))) (by rw [jL_step hc1 (by omega)]) ?_
                    refine lv_lstore (pc := 106) (lv' := [(7, .long (Int64.ofNat (27 * wdF cf i + (cf i - 96)))), (10, .int (nI (cf i))), (0, .int (nI (cf 0))), (1, .int (nI (cf 1))), (2, .int (nI (cf 2))), (3, .int (nI (cf 3))), (4, .int (nI (cf 4))), (5, .int (nI (cf 5))), (6, .int (nI (cf 6))), (9, .int (nI i))]) S.1 S.2.1 dX9_word_106 hl (by decide) rfl (fun ls hl => ?_)
                    refine lv_iinc (pc := 108) (v := nI (i + 1)) (lv' := [(9, .int (nI (i + 1))), (7, .long (Int64.ofNat (27 * wdF cf i + (cf i - 96)))), (10, .int (nI (cf i))), (0, .int (nI (cf 0))), (1, .int (nI (cf 1))), (2, .int (nI (cf 2))), (3, .int (nI (cf 3))), (4, .int (nI (cf 4))), (5, .int (nI (cf 5))), (6, .int (nI (cf 6)))]) S.1 S.2.1 dX9_word_108 hl (k := 9) rfl (by first | rfl | exact nI_add _ _) (by decide) rfl (fun ls hl => ?_)
                    refine lv_goto (pc := 111) (tgt := 6) S.1 S.2.1 dX9_word_111 (by decide) ?_
                    have ew : wdF cf (i + 1) = (27 * wdF cf i + (cf i - 96)) := by rw [wdF, if_neg c_9]
                    rw [← ew] at hl
                    have hi2 : (i + 1) + n = 7 := by omega
                    have hl2 : lv_has ls 11 [(0, .int (nI (cf 0))), (1, .int (nI (cf 1))), (2, .int (nI (cf 2))), (3, .int (nI (cf 3))), (4, .int (nI (cf 4))), (5, .int (nI (cf 5))), (6, .int (nI (cf 6))), (7, .long (Int64.ofNat (wdF cf (i + 1)))), (9, .int (nI (i + 1)))] := lv_sub hl [3, 4, 5, 6, 7, 8, 9, 1, 0] rfl
                    apply ih (i := i + 1) <;> assumption
                  · skip
                    refine lv_lload (pc := 85) S.1 S.2.1 dX9_word_85 (lv_at hl 8 rfl) ?_
                    refine lv_goto (pc := 87) (tgt := 106) S.1 S.2.1 dX9_word_87 (by decide) ?_
                    refine lv_lstore (pc := 106) (lv' := [(7, .long (Int64.ofNat (wdF cf i))), (10, .int (nI (cf i))), (0, .int (nI (cf 0))), (1, .int (nI (cf 1))), (2, .int (nI (cf 2))), (3, .int (nI (cf 3))), (4, .int (nI (cf 4))), (5, .int (nI (cf 5))), (6, .int (nI (cf 6))), (9, .int (nI i))]) S.1 S.2.1 dX9_word_106 hl (by decide) rfl (fun ls hl => ?_)
                    refine lv_iinc (pc := 108) (v := nI (i + 1)) (lv' := [(9, .int (nI (i + 1))), (7, .long (Int64.ofNat (wdF cf i))), (10, .int (nI (cf i))), (0, .int (nI (cf 0))), (1, .int (nI (cf 1))), (2, .int (nI (cf 2))), (3, .int (nI (cf 3))), (4, .int (nI (cf 4))), (5, .int (nI (cf 5))), (6, .int (nI (cf 6)))]) S.1 S.2.1 dX9_word_108 hl (k := 9) rfl (by first | rfl | exact nI_add _ _) (by decide) rfl (fun ls hl => ?_)
                    refine lv_goto (pc := 111) (tgt := 6) S.1 S.2.1 dX9_word_111 (by decide) ?_
                    have ew : wdF cf (i + 1) = (wdF cf i) := by rw [wdF, if_pos (by omega)]
                    rw [← ew] at hl
                    have hi2 : (i + 1) + n = 7 := by omega
                    have hl2 : lv_has ls 11 [(0, .int (nI (cf 0))), (1, .int (nI (cf 1))), (2, .int (nI (cf 2))), (3, .int (nI (cf 3))), (4, .int (nI (cf 4))), (5, .int (nI (cf 5))), (6, .int (nI (cf 6))), (7, .long (Int64.ofNat (wdF cf (i + 1)))), (9, .int (nI (i + 1)))] := lv_sub hl [3, 4, 5, 6, 7, 8, 9, 1, 0] rfl
                    apply ih (i := i + 1) <;> assumption
                · skip
                  refine lv_iload (pc := 69) S.1 S.2.1 dX9_word_69 (lv_at hl 5 rfl) ?_
                  refine lv_goto (pc := 71) (tgt := 76) S.1 S.2.1 dX9_word_71 (by decide) ?_
                  refine hv_ti (y := nI (cf i)) (by first | rw [show i = 0 by omega] | rw [show i = 1 by omega] | rw [show i = 2 by omega] | rw [show i = 3 by omega] | rw [show i = 4 by omega] | rw [show i = 5 by omega] | rw [show i = 6 by omega]) ?_
                  refine lv_istore (pc := 76) (lv' := [(10, .int (nI (cf i))), (0, .int (nI (cf 0))), (1, .int (nI (cf 1))), (2, .int (nI (cf 2))), (3, .int (nI (cf 3))), (4, .int (nI (cf 4))), (5, .int (nI (cf 5))), (6, .int (nI (cf 6))), (7, .long (Int64.ofNat (wdF cf i))), (9, .int (nI i))]) S.1 S.2.1 dX9_word_76 hl (by decide) rfl (fun ls hl => ?_)
                  refine lv_iload (pc := 78) S.1 S.2.1 dX9_word_78 (lv_at hl 0 rfl) ?_
                  refine lv_bipush (pc := 80) (v := nI 32) S.1 S.2.1 dX9_word_80 (by decide) ?_
                  refine hv_icmp_ne (pc := 82) (tgt := 90) (a := cf i) (b := 32) S.1 S.2.1 (by omega) (by omega) dX9_word_82 (by decide) (fun c_10 => ?_) (fun c_10 => ?_)
                  · skip
                    refine lv_ldc2 (pc := 90) (v := Int64.ofNat 27) S.1 S.2.1 S.2.2.2.1 (S.2.2.2.2 _ tw_1025) dX9_word_90 ?_
                    refine lv_lload (pc := 93) S.1 S.2.1 dX9_word_93 (lv_at hl 8 rfl) ?_
                    refine lv_lmul (pc := 95) S.1 S.2.1 dX9_word_95 ?_
                    refine lv_iload (pc := 96) S.1 S.2.1 dX9_word_96 (lv_at hl 0 rfl) ?_
                    refine lv_i2l (pc := 98) (v := (nI (cf i)).toInt64) S.1 S.2.1 dX9_word_98 rfl ?_
                    refine lv_ladd (pc := 99) S.1 S.2.1 dX9_word_99 ?_
                    refine lv_ldc2 (pc := 100) (v := Int64.ofNat 97) S.1 S.2.1 S.2.2.2.1 (S.2.2.2.2 _ tw_1026) dX9_word_100 ?_
                    refine lv_lsub (pc := 103) S.1 S.2.1 dX9_word_103 ?_
                    refine lv_lconst (pc := 104) (v := Int64.ofNat 1) S.1 S.2.1 dX9_word_104 rfl ?_
                    refine lv_ladd (pc := 105) S.1 S.2.1 dX9_word_105 ?_
                    refine hv_tv (y := .long (Int64.ofNat (27 * wdF cf i + (cf i - 96)))) (by rw [jL_step hc1 (by omega)]) ?_
                    refine lv_lstore (pc := 106) (lv' := [(7, .long (Int64.ofNat (27 * wdF cf i + (cf i - 96)))), (10, .int (nI (cf i))), (0, .int (nI (cf 0))), (1, .int (nI (cf 1))), (2, .int (nI (cf 2))), (3, .int (nI (cf 3))), (4, .int (nI (cf 4))), (5, .int (nI (cf 5))), (6, .int (nI (cf 6))), (9, .int (nI i))]) S.1 S.2.1 dX9_word_106 hl (by decide) rfl (fun ls hl => ?_)
                    refine lv_iinc (pc := 108) (v := nI (i + 1)) (lv' := [(9, .int (nI (i + 1))), (7, .long (Int64.ofNat (27 * wdF cf i + (cf i - 96)))), (10, .int (nI (cf i))), (0, .int (nI (cf 0))), (1, .int (nI (cf 1))), (2, .int (nI (cf 2))), (3, .int (nI (cf 3))), (4, .int (nI (cf 4))), (5, .int (nI (cf 5))), (6, .int (nI (cf 6)))]) S.1 S.2.1 dX9_word_108 hl (k := 9) rfl (by first | rfl | exact nI_add _ _) (by decide) rfl (fun ls hl => ?_)
                    refine lv_goto (pc := 111) (tgt := 6) S.1 S.2.1 dX9_word_111 (by decide) ?_
                    have ew : wdF cf (i + 1) = (27 * wdF cf i + (cf i - 96)) := by rw [wdF, if_neg c_10]
                    rw [← ew] at hl
                    have hi2 : (i + 1) + n = 7 := by omega
                    have hl2 : lv_has ls 11 [(0, .int (nI (cf 0))), (1, .int (nI (cf 1))), (2, .int (nI (cf 2))), (3, .int (nI (cf 3))), (4, .int (nI (cf 4))), (5, .int (nI (cf 5))), (6, .int (nI (cf 6))), (7, .long (Int64.ofNat (wdF cf (i + 1)))), (9, .int (nI (i + 1)))] := lv_sub hl [3, 4, 5, 6, 7, 8, 9, 1, 0] rfl
                    apply ih (i := i + 1) <;> assumption
                  · skip
                    refine lv_lload (pc := 85) S.1 S.2.1 dX9_word_85 (lv_at hl 8 rfl) ?_
                    refine lv_goto (pc := 87) (tgt := 106) S.1 S.2.1 dX9_word_87 (by decide) ?_
                    refine lv_lstore (pc := 106) (lv' := [(7, .long (Int64.ofNat (wdF cf i))), (10, .int (nI (cf i))), (0, .int (nI (cf 0))), (1, .int (nI (cf 1))), (2, .int (nI (cf 2))), (3, .int (nI (cf 3))), (4, .int (nI (cf 4))), (5, .int (nI (cf 5))), (6, .int (nI (cf 6))), (9, .int (nI i))]) S.1 S.2.1 dX9_word_106 hl (by decide) rfl (fun ls hl => ?_)
                    refine lv_iinc (pc := 108) (v := nI (i + 1)) (lv' := [(9, .int (nI (i + 1))), (7, .long (Int64.ofNat (wdF cf i))), (10, .int (nI (cf i))), (0, .int (nI (cf 0))), (1, .int (nI (cf 1))), (2, .int (nI (cf 2))), (3, .int (nI (cf 3))), (4, .int (nI (cf 4))), (5, .int (nI (cf 5))), (6, .int (nI (cf 6)))]) S.1 S.2.1 dX9_word_108 hl (k := 9) rfl (by first | rfl | exact nI_add _ _) (by decide) rfl (fun ls hl => ?_)
                    refine lv_goto (pc := 111) (tgt := 6) S.1 S.2.1 dX9_word_111 (by decide) ?_
                    have ew : wdF cf (i + 1) = (wdF cf i) := by rw [wdF, if_pos (by omega)]
                    rw [← ew] at hl
                    have hi2 : (i + 1) + n = 7 := by omega
                    have hl2 : lv_has ls 11 [(0, .int (nI (cf 0))), (1, .int (nI (cf 1))), (2, .int (nI (cf 2))), (3, .int (nI (cf 3))), (4, .int (nI (cf 4))), (5, .int (nI (cf 5))), (6, .int (nI (cf 6))), (7, .long (Int64.ofNat (wdF cf (i + 1)))), (9, .int (nI (i + 1)))] := lv_sub hl [3, 4, 5, 6, 7, 8, 9, 1, 0] rfl
                    apply ih (i := i + 1) <;> assumption
              · skip
                refine lv_iload (pc := 58) S.1 S.2.1 dX9_word_58 (lv_at hl 4 rfl) ?_
                refine lv_goto (pc := 60) (tgt := 76) S.1 S.2.1 dX9_word_60 (by decide) ?_
                refine hv_ti (y := nI (cf i)) (by first | rw [show i = 0 by omega] | rw [show i = 1 by omega] | rw [show i = 2 by omega] | rw [show i = 3 by omega] | rw [show i = 4 by omega] | rw [show i = 5 by omega] | rw [show i = 6 by omega]) ?_
                refine lv_istore (pc := 76) (lv' := [(10, .int (nI (cf i))), (0, .int (nI (cf 0))), (1, .int (nI (cf 1))), (2, .int (nI (cf 2))), (3, .int (nI (cf 3))), (4, .int (nI (cf 4))), (5, .int (nI (cf 5))), (6, .int (nI (cf 6))), (7, .long (Int64.ofNat (wdF cf i))), (9, .int (nI i))]) S.1 S.2.1 dX9_word_76 hl (by decide) rfl (fun ls hl => ?_)
                refine lv_iload (pc := 78) S.1 S.2.1 dX9_word_78 (lv_at hl 0 rfl) ?_
                refine lv_bipush (pc := 80) (v := nI 32) S.1 S.2.1 dX9_word_80 (by decide) ?_
                refine hv_icmp_ne (pc := 82) (tgt := 90) (a := cf i) (b := 32) S.1 S.2.1 (by omega) (by omega) dX9_word_82 (by decide) (fun c_11 => ?_) (fun c_11 => ?_)
                · skip
                  refine lv_ldc2 (pc := 90) (v := Int64.ofNat 27) S.1 S.2.1 S.2.2.2.1 (S.2.2.2.2 _ tw_1025) dX9_word_90 ?_
                  refine lv_lload (pc := 93) S.1 S.2.1 dX9_word_93 (lv_at hl 8 rfl) ?_
                  refine lv_lmul (pc := 95) S.1 S.2.1 dX9_word_95 ?_
                  refine lv_iload (pc := 96) S.1 S.2.1 dX9_word_96 (lv_at hl 0 rfl) ?_
                  refine lv_i2l (pc := 98) (v := (nI (cf i)).toInt64) S.1 S.2.1 dX9_word_98 rfl ?_
                  refine lv_ladd (pc := 99) S.1 S.2.1 dX9_word_99 ?_
                  refine lv_ldc2 (pc := 100) (v := Int64.ofNat 97) S.1 S.2.1 S.2.2.2.1 (S.2.2.2.2 _ tw_1026) dX9_word_100 ?_
                  refine lv_lsub (pc := 103) S.1 S.2.1 dX9_word_103 ?_
                  refine lv_lconst (pc := 104) (v := Int64.ofNat 1) S.1 S.2.1 dX9_word_104 rfl ?_
                  refine lv_ladd (pc := 105) S.1 S.2.1 dX9_word_105 ?_
                  refine hv_tv (y := .long (Int64.ofNat (27 * wdF cf i + (cf i - 96)))) (by rw [jL_step hc1 (by omega)]) ?_
                  refine lv_lstore (pc := 106) (lv' := [(7, .long (Int64.ofNat (27 * wdF cf i + (cf i - 96)))), (10, .int (nI (cf i))), (0, .int (nI (cf 0))), (1, .int (nI (cf 1))), (2, .int (nI (cf 2))), (3, .int (nI (cf 3))), (4, .int (nI (cf 4))), (5, .int (nI (cf 5))), (6, .int (nI (cf 6))), (9, .int (nI i))]) S.1 S.2.1 dX9_word_106 hl (by decide) rfl (fun ls hl => ?_)
                  refine lv_iinc (pc := 108) (v := nI (i + 1)) (lv' := [(9, .int (nI (i + 1))), (7, .long (Int64.ofNat (27 * wdF cf i + (cf i - 96)))), (10, .int (nI (cf i))), (0, .int (nI (cf 0))), (1, .int (nI (cf 1))), (2, .int (nI (cf 2))), (3, .int (nI (cf 3))), (4, .int (nI (cf 4))), (5, .int (nI (cf 5))), (6, .int (nI (cf 6)))]) S.1 S.2.1 dX9_word_108 hl (k := 9) rfl (by first | rfl | exact nI_add _ _) (by decide) rfl (fun ls hl => ?_)
                  refine lv_goto (pc := 111) (tgt := 6) S.1 S.2.1 dX9_word_111 (by decide) ?_
                  have ew : wdF cf (i + 1) = (27 * wdF cf i + (cf i - 96)) := by rw [wdF, if_neg c_11]
                  rw [← ew] at hl
                  have hi2 : (i + 1) + n = 7 := by omega
                  have hl2 : lv_has ls 11 [(0, .int (nI (cf 0))), (1, .int (nI (cf 1))), (2, .int (nI (cf 2))), (3, .int (nI (cf 3))), (4, .int (nI (cf 4))), (5, .int (nI (cf 5))), (6, .int (nI (cf 6))), (7, .long (Int64.ofNat (wdF cf (i + 1)))), (9, .int (nI (i + 1)))] := lv_sub hl [3, 4, 5, 6, 7, 8, 9, 1, 0] rfl
                  apply ih (i := i + 1) <;> assumption
                · skip
                  refine lv_lload (pc := 85) S.1 S.2.1 dX9_word_85 (lv_at hl 8 rfl) ?_
                  refine lv_goto (pc := 87) (tgt := 106) S.1 S.2.1 dX9_word_87 (by decide) ?_
                  refine lv_lstore (pc := 106) (lv' := [(7, .long (Int64.ofNat (wdF cf i))), (10, .int (nI (cf i))), (0, .int (nI (cf 0))), (1, .int (nI (cf 1))), (2, .int (nI (cf 2))), (3, .int (nI (cf 3))), (4, .int (nI (cf 4))), (5, .int (nI (cf 5))), (6, .int (nI (cf 6))), (9, .int (nI i))]) S.1 S.2.1 dX9_word_106 hl (by decide) rfl (fun ls hl => ?_)
                  refine lv_iinc (pc := 108) (v := nI (i + 1)) (lv' := [(9, .int (nI (i + 1))), (7, .long (Int64.ofNat (wdF cf i))), (10, .int (nI (cf i))), (0, .int (nI (cf 0))), (1, .int (nI (cf 1))), (2, .int (nI (cf 2))), (3, .int (nI (cf 3))), (4, .int (nI (cf 4))), (5, .int (nI (cf 5))), (6, .int (nI (cf 6)))]) S.1 S.2.1 dX9_word_108 hl (k := 9) rfl (by first | rfl | exact nI_add _ _) (by decide) rfl (fun ls hl => ?_)
                  refine lv_goto (pc := 111) (tgt := 6) S.1 S.2.1 dX9_word_111 (by decide) ?_
                  have ew : wdF cf (i + 1) = (wdF cf i) := by rw [wdF, if_pos (by omega)]
                  rw [← ew] at hl
                  have hi2 : (i + 1) + n = 7 := by omega
                  have hl2 : lv_has ls 11 [(0, .int (nI (cf 0))), (1, .int (nI (cf 1))), (2, .int (nI (cf 2))), (3, .int (nI (cf 3))), (4, .int (nI (cf 4))), (5, .int (nI (cf 5))), (6, .int (nI (cf 6))), (7, .long (Int64.ofNat (wdF cf (i + 1)))), (9, .int (nI (i + 1)))] := lv_sub hl [3, 4, 5, 6, 7, 8, 9, 1, 0] rfl
                  apply ih (i := i + 1) <;> assumption
            · skip
              refine lv_iload_n (pc := 48) S.1 S.2.1 dX9_word_48 rfl (lv_at hl 3 rfl) ?_
              refine lv_goto (pc := 49) (tgt := 76) S.1 S.2.1 dX9_word_49 (by decide) ?_
              refine hv_ti (y := nI (cf i)) (by first | rw [show i = 0 by omega] | rw [show i = 1 by omega] | rw [show i = 2 by omega] | rw [show i = 3 by omega] | rw [show i = 4 by omega] | rw [show i = 5 by omega] | rw [show i = 6 by omega]) ?_
              refine lv_istore (pc := 76) (lv' := [(10, .int (nI (cf i))), (0, .int (nI (cf 0))), (1, .int (nI (cf 1))), (2, .int (nI (cf 2))), (3, .int (nI (cf 3))), (4, .int (nI (cf 4))), (5, .int (nI (cf 5))), (6, .int (nI (cf 6))), (7, .long (Int64.ofNat (wdF cf i))), (9, .int (nI i))]) S.1 S.2.1 dX9_word_76 hl (by decide) rfl (fun ls hl => ?_)
              refine lv_iload (pc := 78) S.1 S.2.1 dX9_word_78 (lv_at hl 0 rfl) ?_
              refine lv_bipush (pc := 80) (v := nI 32) S.1 S.2.1 dX9_word_80 (by decide) ?_
              refine hv_icmp_ne (pc := 82) (tgt := 90) (a := cf i) (b := 32) S.1 S.2.1 (by omega) (by omega) dX9_word_82 (by decide) (fun c_12 => ?_) (fun c_12 => ?_)
              · skip
                refine lv_ldc2 (pc := 90) (v := Int64.ofNat 27) S.1 S.2.1 S.2.2.2.1 (S.2.2.2.2 _ tw_1025) dX9_word_90 ?_
                refine lv_lload (pc := 93) S.1 S.2.1 dX9_word_93 (lv_at hl 8 rfl) ?_
                refine lv_lmul (pc := 95) S.1 S.2.1 dX9_word_95 ?_
                refine lv_iload (pc := 96) S.1 S.2.1 dX9_word_96 (lv_at hl 0 rfl) ?_
                refine lv_i2l (pc := 98) (v := (nI (cf i)).toInt64) S.1 S.2.1 dX9_word_98 rfl ?_
                refine lv_ladd (pc := 99) S.1 S.2.1 dX9_word_99 ?_
                refine lv_ldc2 (pc := 100) (v := Int64.ofNat 97) S.1 S.2.1 S.2.2.2.1 (S.2.2.2.2 _ tw_1026) dX9_word_100 ?_
                refine lv_lsub (pc := 103) S.1 S.2.1 dX9_word_103 ?_
                refine lv_lconst (pc := 104) (v := Int64.ofNat 1) S.1 S.2.1 dX9_word_104 rfl ?_
                refine lv_ladd (pc := 105) S.1 S.2.1 dX9_word_105 ?_
                refine hv_tv (y := .long (Int64.ofNat (27 * wdF cf i + (cf i - 96)))) (by rw [jL_step hc1 (by omega)]) ?_
                refine lv_lstore (pc := 106) (lv' := [(7, .long (Int64.ofNat (27 * wdF cf i + (cf i - 96)))), (10, .int (nI (cf i))), (0, .int (nI (cf 0))), (1, .int (nI (cf 1))), (2, .int (nI (cf 2))), (3, .int (nI (cf 3))), (4, .int (nI (cf 4))), (5, .int (nI (cf 5))), (6, .int (nI (cf 6))), (9, .int (nI i))]) S.1 S.2.1 dX9_word_106 hl (by decide) rfl (fun ls hl => ?_)
                refine lv_iinc (pc := 108) (v := nI (i + 1)) (lv' := [(9, .int (nI (i + 1))), (7, .long (Int64.ofNat (27 * wdF cf i + (cf i - 96)))), (10, .int (nI (cf i))), (0, .int (nI (cf 0))), (1, .int (nI (cf 1))), (2, .int (nI (cf 2))), (3, .int (nI (cf 3))), (4, .int (nI (cf 4))), (5, .int (nI (cf 5))), (6, .int (nI (cf 6)))]) S.1 S.2.1 dX9_word_108 hl (k := 9) rfl (by first | rfl | exact nI_add _ _) (by decide) rfl (fun ls hl => ?_)
                refine lv_goto (pc := 111) (tgt := 6) S.1 S.2.1 dX9_word_111 (by decide) ?_
                have ew : wdF cf (i + 1) = (27 * wdF cf i + (cf i - 96)) := by rw [wdF, if_neg c_12]
                rw [← ew] at hl
                have hi2 : (i + 1) + n = 7 := by omega
                have hl2 : lv_has ls 11 [(0, .int (nI (cf 0))), (1, .int (nI (cf 1))), (2, .int (nI (cf 2))), (3, .int (nI (cf 3))), (4, .int (nI (cf 4))), (5, .int (nI (cf 5))), (6, .int (nI (cf 6))), (7, .long (Int64.ofNat (wdF cf (i + 1)))), (9, .int (nI (i + 1)))] := lv_sub hl [3, 4, 5, 6, 7, 8, 9, 1, 0] rfl
                apply ih (i := i + 1) <;> assumption
              · skip
                refine lv_lload (pc := 85) S.1 S.2.1 dX9_word_85 (lv_at hl 8 rfl) ?_
                refine lv_goto (pc := 87) (tgt := 106) S.1 S.2.1 dX9_word_87 (by decide) ?_
                refine lv_lstore (pc := 106) (lv' := [(7, .long (Int64.ofNat (wdF cf i))), (10, .int (nI (cf i))), (0, .int (nI (cf 0))), (1, .int (nI (cf 1))), (2, .int (nI (cf 2))), (3, .int (nI (cf 3))), (4, .int (nI (cf 4))), (5, .int (nI (cf 5))), (6, .int (nI (cf 6))), (9, .int (nI i))]) S.1 S.2.1 dX9_word_106 hl (by decide) rfl (fun ls hl => ?_)
                refine lv_iinc (pc := 108) (v := nI (i + 1)) (lv' := [(9, .int (nI (i + 1))), (7, .long (Int64.ofNat (wdF cf i))), (10, .int (nI (cf i))), (0, .int (nI (cf 0))), (1, .int (nI (cf 1))), (2, .int (nI (cf 2))), (3, .int (nI (cf 3))), (4, .int (nI (cf 4))), (5, .int (nI (cf 5))), (6, .int (nI (cf 6)))]) S.1 S.2.1 dX9_word_108 hl (k := 9) rfl (by first | rfl | exact nI_add _ _) (by decide) rfl (fun ls hl => ?_)
                refine lv_goto (pc := 111) (tgt := 6) S.1 S.2.1 dX9_word_111 (by decide) ?_
                have ew : wdF cf (i + 1) = (wdF cf i) := by rw [wdF, if_pos (by omega)]
                rw [← ew] at hl
                have hi2 : (i + 1) + n = 7 := by omega
                have hl2 : lv_has ls 11 [(0, .int (nI (cf 0))), (1, .int (nI (cf 1))), (2, .int (nI (cf 2))), (3, .int (nI (cf 3))), (4, .int (nI (cf 4))), (5, .int (nI (cf 5))), (6, .int (nI (cf 6))), (7, .long (Int64.ofNat (wdF cf (i + 1)))), (9, .int (nI (i + 1)))] := lv_sub hl [3, 4, 5, 6, 7, 8, 9, 1, 0] rfl
                apply ih (i := i + 1) <;> assumption
          · skip
            refine lv_iload_n (pc := 38) S.1 S.2.1 dX9_word_38 rfl (lv_at hl 2 rfl) ?_
            refine lv_goto (pc := 39) (tgt := 76) S.1 S.2.1 dX9_word_39 (by decide) ?_
            refine hv_ti (y := nI (cf i)) (by first | rw [show i = 0 by omega] | rw [show i = 1 by omega] | rw [show i = 2 by omega] | rw [show i = 3 by omega] | rw [show i = 4 by omega] | rw [show i = 5 by omega] | rw [show i = 6 by omega]) ?_
            refine lv_istore (pc := 76) (lv' := [(10, .int (nI (cf i))), (0, .int (nI (cf 0))), (1, .int (nI (cf 1))), (2, .int (nI (cf 2))), (3, .int (nI (cf 3))), (4, .int (nI (cf 4))), (5, .int (nI (cf 5))), (6, .int (nI (cf 6))), (7, .long (Int64.ofNat (wdF cf i))), (9, .int (nI i))]) S.1 S.2.1 dX9_word_76 hl (by decide) rfl (fun ls hl => ?_)
            refine lv_iload (pc := 78) S.1 S.2.1 dX9_word_78 (lv_at hl 0 rfl) ?_
            refine lv_bipush (pc := 80) (v := nI 32) S.1 S.2.1 dX9_word_80 (by decide) ?_
            refine hv_icmp_ne (pc := 82) (tgt := 90) (a := cf i) (b := 32) S.1 S.2.1 (by omega) (by omega) dX9_word_82 (by decide) (fun c_13 => ?_) (fun c_13 => ?_)
            · skip
              refine lv_ldc2 (pc := 90) (v := Int64.ofNat 27) S.1 S.2.1 S.2.2.2.1 (S.2.2.2.2 _ tw_1025) dX9_word_90 ?_
              refine lv_lload (pc := 93) S.1 S.2.1 dX9_word_93 (lv_at hl 8 rfl) ?_
              refine lv_lmul (pc := 95) S.1 S.2.1 dX9_word_95 ?_
              refine lv_iload (pc := 96) S.1 S.2.1 dX9_word_96 (lv_at hl 0 rfl) ?_
              refine lv_i2l (pc := 98) (v := (nI (cf i)).toInt64) S.1 S.2.1 dX9_word_98 rfl ?_
              refine lv_ladd (pc := 99) S.1 S.2.1 dX9_word_99 ?_
              refine lv_ldc2 (pc := 100) (v := Int64.ofNat 97) S.1 S.2.1 S.2.2.2.1 (S.2.2.2.2 _ tw_1026) dX9_word_100 ?_
              refine lv_lsub (pc := 103) S.1 S.2.1 dX9_word_103 ?_
              refine lv_lconst (pc := 104) (v := Int64.ofNat 1) S.1 S.2.1 dX9_word_104 rfl ?_
              refine lv_ladd (pc := 105) S.1 S.2.1 dX9_word_105 ?_
              refine hv_tv (y := .long (Int64.ofNat (27 * wdF cf i + (cf i - 96)))) (by rw [jL_step hc1 (by omega)]) ?_
              refine lv_lstore (pc := 106) (lv' := [(7, .long (Int64.ofNat (27 * wdF cf i + (cf i - 96)))), (10, .int (nI (cf i))), (0, .int (nI (cf 0))), (1, .int (nI (cf 1))), (2, .int (nI (cf 2))), (3, .int (nI (cf 3))), (4, .int (nI (cf 4))), (5, .int (nI (cf 5))), (6, .int (nI (cf 6))), (9, .int (nI i))]) S.1 S.2.1 dX9_word_106 hl (by decide) rfl (fun ls hl => ?_)
              refine lv_iinc (pc := 108) (v := nI (i + 1)) (lv' := [(9, .int (nI (i + 1))), (7, .long (Int64.ofNat (27 * wdF cf i + (cf i - 96)))), (10, .int (nI (cf i))), (0, .int (nI (cf 0))), (1, .int (nI (cf 1))), (2, .int (nI (cf 2))), (3, .int (nI (cf 3))), (4, .int (nI (cf 4))), (5, .int (nI (cf 5))), (6, .int (nI (cf 6)))]) S.1 S.2.1 dX9_word_108 hl (k := 9) rfl (by first | rfl | exact nI_add _ _) (by decide) rfl (fun ls hl => ?_)
              refine lv_goto (pc := 111) (tgt := 6) S.1 S.2.1 dX9_word_111 (by decide) ?_
              have ew : wdF cf (i + 1) = (27 * wdF cf i + (cf i - 96)) := by rw [wdF, if_neg c_13]
              rw [← ew] at hl
              have hi2 : (i + 1) + n = 7 := by omega
              have hl2 : lv_has ls 11 [(0, .int (nI (cf 0))), (1, .int (nI (cf 1))), (2, .int (nI (cf 2))), (3, .int (nI (cf 3))), (4, .int (nI (cf 4))), (5, .int (nI (cf 5))), (6, .int (nI (cf 6))), (7, .long (Int64.ofNat (wdF cf (i + 1)))), (9, .int (nI (i + 1)))] := lv_sub hl [3, 4, 5, 6, 7, 8, 9, 1, 0] rfl
              apply ih (i := i + 1) <;> assumption
            · skip
              refine lv_lload (pc := 85) S.1 S.2.1 dX9_word_85 (lv_at hl 8 rfl) ?_
              refine lv_goto (pc := 87) (tgt := 106) S.1 S.2.1 dX9_word_87 (by decide) ?_
              refine lv_lstore (pc := 106) (lv' := [(7, .long (Int64.ofNat (wdF cf i))), (10, .int (nI (cf i))), (0, .int (nI (cf 0))), (1, .int (nI (cf 1))), (2, .int (nI (cf 2))), (3, .int (nI (cf 3))), (4, .int (nI (cf 4))), (5, .int (nI (cf 5))), (6, .int (nI (cf 6))), (9, .int (nI i))]) S.1 S.2.1 dX9_word_106 hl (by decide) rfl (fun ls hl => ?_)
              refine lv_iinc (pc := 108) (v := nI (i + 1)) (lv' := [(9, .int (nI (i + 1))), (7, .long (Int64.ofNat (wdF cf i))), (10, .int (nI (cf i))), (0, .int (nI (cf 0))), (1, .int (nI (cf 1))), (2, .int (nI (cf 2))), (3, .int (nI (cf 3))), (4, .int (nI (cf 4))), (5, .int (nI (cf 5))), (6, .int (nI (cf 6)))]) S.1 S.2.1 dX9_word_108 hl (k := 9) rfl (by first | rfl | exact nI_add _ _) (by decide) rfl (fun ls hl => ?_)
              refine lv_goto (pc := 111) (tgt := 6) S.1 S.2.1 dX9_word_111 (by decide) ?_
              have ew : wdF cf (i + 1) = (wdF cf i) := by rw [wdF, if_pos (by omega)]
              rw [← ew] at hl
              have hi2 : (i + 1) + n = 7 := by omega
              have hl2 : lv_has ls 11 [(0, .int (nI (cf 0))), (1, .int (nI (cf 1))), (2, .int (nI (cf 2))), (3, .int (nI (cf 3))), (4, .int (nI (cf 4))), (5, .int (nI (cf 5))), (6, .int (nI (cf 6))), (7, .long (Int64.ofNat (wdF cf (i + 1)))), (9, .int (nI (i + 1)))] := lv_sub hl [3, 4, 5, 6, 7, 8, 9, 1, 0] rfl
              apply ih (i := i + 1) <;> assumption
        · skip
          refine lv_iload_n (pc := 28) S.1 S.2.1 dX9_word_28 rfl (lv_at hl 1 rfl) ?_
          refine lv_goto (pc := 29) (tgt := 76) S.1 S.2.1 dX9_word_29 (by decide) ?_
          refine hv_ti (y := nI (cf i)) (by first | rw [show i = 0 by omega] | rw [show i = 1 by omega] | rw [show i = 2 by omega] | rw [show i = 3 by omega] | rw [show i = 4 by omega] | rw [show i = 5 by omega] | rw [show i = 6 by omega]) ?_
          refine lv_istore (pc := 76) (lv' := [(10, .int (nI (cf i))), (0, .int (nI (cf 0))), (1, .int (nI (cf 1))), (2, .int (nI (cf 2))), (3, .int (nI (cf 3))), (4, .int (nI (cf 4))), (5, .int (nI (cf 5))), (6, .int (nI (cf 6))), (7, .long (Int64.ofNat (wdF cf i))), (9, .int (nI i))]) S.1 S.2.1 dX9_word_76 hl (by decide) rfl (fun ls hl => ?_)
          refine lv_iload (pc := 78) S.1 S.2.1 dX9_word_78 (lv_at hl 0 rfl) ?_
          refine lv_bipush (pc := 80) (v := nI 32) S.1 S.2.1 dX9_word_80 (by decide) ?_
          refine hv_icmp_ne (pc := 82) (tgt := 90) (a := cf i) (b := 32) S.1 S.2.1 (by omega) (by omega) dX9_word_82 (by decide) (fun c_14 => ?_) (fun c_14 => ?_)
          · skip
            refine lv_ldc2 (pc := 90) (v := Int64.ofNat 27) S.1 S.2.1 S.2.2.2.1 (S.2.2.2.2 _ tw_1025) dX9_word_90 ?_
            refine lv_lload (pc := 93) S.1 S.2.1 dX9_word_93 (lv_at hl 8 rfl) ?_
            refine lv_lmul (pc := 95) S.1 S.2.1 dX9_word_95 ?_
            refine lv_iload (pc := 96) S.1 S.2.1 dX9_word_96 (lv_at hl 0 rfl) ?_
            refine lv_i2l (pc := 98) (v := (nI (cf i)).toInt64) S.1 S.2.1 dX9_word_98 rfl ?_
            refine lv_ladd (pc := 99) S.1 S.2.1 dX9_word_99 ?_
            refine lv_ldc2 (pc := 100) (v := Int64.ofNat 97) S.1 S.2.1 S.2.2.2.1 (S.2.2.2.2 _ tw_1026) dX9_word_100 ?_
            refine lv_lsub (pc := 103) S.1 S.2.1 dX9_word_103 ?_
            refine lv_lconst (pc := 104) (v := Int64.ofNat 1) S.1 S.2.1 dX9_word_104 rfl ?_
            refine lv_ladd (pc := 105) S.1 S.2.1 dX9_word_105 ?_
            refine hv_tv (y := .long (Int64.ofNat (27 * wdF cf i + (cf i - 96)))) (by rw [jL_step hc1 (by omega)]) ?_
            refine lv_lstore (pc := 106) (lv' := [(7, .long (Int64.ofNat (27 * wdF cf i + (cf i - 96)))), (10, .int (nI (cf i))), (0, .int (nI (cf 0))), (1, .int (nI (cf 1))), (2, .int (nI (cf 2))), (3, .int (nI (cf 3))), (4, .int (nI (cf 4))), (5, .int (nI (cf 5))), (6, .int (nI (cf 6))), (9, .int (nI i))]) S.1 S.2.1 dX9_word_106 hl (by decide) rfl (fun ls hl => ?_)
            refine lv_iinc (pc := 108) (v := nI (i + 1)) (lv' := [(9, .int (nI (i + 1))), (7, .long (Int64.ofNat (27 * wdF cf i + (cf i - 96)))), (10, .int (nI (cf i))), (0, .int (nI (cf 0))), (1, .int (nI (cf 1))), (2, .int (nI (cf 2))), (3, .int (nI (cf 3))), (4, .int (nI (cf 4))), (5, .int (nI (cf 5))), (6, .int (nI (cf 6)))]) S.1 S.2.1 dX9_word_108 hl (k := 9) rfl (by first | rfl | exact nI_add _ _) (by decide) rfl (fun ls hl => ?_)
            refine lv_goto (pc := 111) (tgt := 6) S.1 S.2.1 dX9_word_111 (by decide) ?_
            have ew : wdF cf (i + 1) = (27 * wdF cf i + (cf i - 96)) := by rw [wdF, if_neg c_14]
            rw [← ew] at hl
            have hi2 : (i + 1) + n = 7 := by omega
            have hl2 : lv_has ls 11 [(0, .int (nI (cf 0))), (1, .int (nI (cf 1))), (2, .int (nI (cf 2))), (3, .int (nI (cf 3))), (4, .int (nI (cf 4))), (5, .int (nI (cf 5))), (6, .int (nI (cf 6))), (7, .long (Int64.ofNat (wdF cf (i + 1)))), (9, .int (nI (i + 1)))] := lv_sub hl [3, 4, 5, 6, 7, 8, 9, 1, 0] rfl
            apply ih (i := i + 1) <;> assumption
          · skip
            refine lv_lload (pc := 85) S.1 S.2.1 dX9_word_85 (lv_at hl 8 rfl) ?_
            refine lv_goto (pc := 87) (tgt := 106) S.1 S.2.1 dX9_word_87 (by decide) ?_
            refine lv_lstore (pc := 106) (lv' := [(7, .long (Int64.ofNat (wdF cf i))), (10, .int (nI (cf i))), (0, .int (nI (cf 0))), (1, .int (nI (cf 1))), (2, .int (nI (cf 2))), (3, .int (nI (cf 3))), (4, .int (nI (cf 4))), (5, .int (nI (cf 5))), (6, .int (nI (cf 6))), (9, .int (nI i))]) S.1 S.2.1 dX9_word_106 hl (by decide) rfl (fun ls hl => ?_)
            refine lv_iinc (pc := 108) (v := nI (i + 1)) (lv' := [(9, .int (nI (i + 1))), (7, .long (Int64.ofNat (wdF cf i))), (10, .int (nI (cf i))), (0, .int (nI (cf 0))), (1, .int (nI (cf 1))), (2, .int (nI (cf 2))), (3, .int (nI (cf 3))), (4, .int (nI (cf 4))), (5, .int (nI (cf 5))), (6, .int (nI (cf 6)))]) S.1 S.2.1 dX9_word_108 hl (k := 9) rfl (by first | rfl | exact nI_add _ _) (by decide) rfl (fun ls hl => ?_)
            refine lv_goto (pc := 111) (tgt := 6) S.1 S.2.1 dX9_word_111 (by decide) ?_
            have ew : wdF cf (i + 1) = (wdF cf i) := by rw [wdF, if_pos (by omega)]
            rw [← ew] at hl
            have hi2 : (i + 1) + n = 7 := by omega
            have hl2 : lv_has ls 11 [(0, .int (nI (cf 0))), (1, .int (nI (cf 1))), (2, .int (nI (cf 2))), (3, .int (nI (cf 3))), (4, .int (nI (cf 4))), (5, .int (nI (cf 5))), (6, .int (nI (cf 6))), (7, .long (Int64.ofNat (wdF cf (i + 1)))), (9, .int (nI (i + 1)))] := lv_sub hl [3, 4, 5, 6, 7, 8, 9, 1, 0] rfl
            apply ih (i := i + 1) <;> assumption
      · skip
        refine lv_iload_n (pc := 18) S.1 S.2.1 dX9_word_18 rfl (lv_at hl 0 rfl) ?_
        refine lv_goto (pc := 19) (tgt := 76) S.1 S.2.1 dX9_word_19 (by decide) ?_
        refine hv_ti (y := nI (cf i)) (by first | rw [show i = 0 by omega] | rw [show i = 1 by omega] | rw [show i = 2 by omega] | rw [show i = 3 by omega] | rw [show i = 4 by omega] | rw [show i = 5 by omega] | rw [show i = 6 by omega]) ?_
        refine lv_istore (pc := 76) (lv' := [(10, .int (nI (cf i))), (0, .int (nI (cf 0))), (1, .int (nI (cf 1))), (2, .int (nI (cf 2))), (3, .int (nI (cf 3))), (4, .int (nI (cf 4))), (5, .int (nI (cf 5))), (6, .int (nI (cf 6))), (7, .long (Int64.ofNat (wdF cf i))), (9, .int (nI i))]) S.1 S.2.1 dX9_word_76 hl (by decide) rfl (fun ls hl => ?_)
        refine lv_iload (pc := 78) S.1 S.2.1 dX9_word_78 (lv_at hl 0 rfl) ?_
        refine lv_bipush (pc := 80) (v := nI 32) S.1 S.2.1 dX9_word_80 (by decide) ?_
        refine hv_icmp_ne (pc := 82) (tgt := 90) (a := cf i) (b := 32) S.1 S.2.1 (by omega) (by omega) dX9_word_82 (by decide) (fun c_15 => ?_) (fun c_15 => ?_)
        · skip
          refine lv_ldc2 (pc := 90) (v := Int64.ofNat 27) S.1 S.2.1 S.2.2.2.1 (S.2.2.2.2 _ tw_1025) dX9_word_90 ?_
          refine lv_lload (pc := 93) S.1 S.2.1 dX9_word_93 (lv_at hl 8 rfl) ?_
          refine lv_lmul (pc := 95) S.1 S.2.1 dX9_word_95 ?_
          refine lv_iload (pc := 96) S.1 S.2.1 dX9_word_96 (lv_at hl 0 rfl) ?_
          refine lv_i2l (pc := 98) (v := (nI (cf i)).toInt64) S.1 S.2.1 dX9_word_98 rfl ?_
          refine lv_ladd (pc := 99) S.1 S.2.1 dX9_word_99 ?_
          refine lv_ldc2 (pc := 100) (v := Int64.ofNat 97) S.1 S.2.1 S.2.2.2.1 (S.2.2.2.2 _ tw_1026) dX9_word_100 ?_
          refine lv_lsub (pc := 103) S.1 S.2.1 dX9_word_103 ?_
          refine lv_lconst (pc := 104) (v := Int64.ofNat 1) S.1 S.2.1 dX9_word_104 rfl ?_
          refine lv_ladd (pc := 105) S.1 S.2.1 dX9_word_105 ?_
          refine hv_tv (y := .long (Int64.ofNat (27 * wdF cf i + (cf i - 96)))) (by rw [jL_step hc1 (by omega)]) ?_
          refine lv_lstore (pc := 106) (lv' := [(7, .long (Int64.ofNat (27 * wdF cf i + (cf i - 96)))), (10, .int (nI (cf i))), (0, .int (nI (cf 0))), (1, .int (nI (cf 1))), (2, .int (nI (cf 2))), (3, .int (nI (cf 3))), (4, .int (nI (cf 4))), (5, .int (nI (cf 5))), (6, .int (nI (cf 6))), (9, .int (nI i))]) S.1 S.2.1 dX9_word_106 hl (by decide) rfl (fun ls hl => ?_)
          refine lv_iinc (pc := 108) (v := nI (i + 1)) (lv' := [(9, .int (nI (i + 1))), (7, .long (Int64.ofNat (27 * wdF cf i + (cf i - 96)))), (10, .int (nI (cf i))), (0, .int (nI (cf 0))), (1, .int (nI (cf 1))), (2, .int (nI (cf 2))), (3, .int (nI (cf 3))), (4, .int (nI (cf 4))), (5, .int (nI (cf 5))), (6, .int (nI (cf 6)))]) S.1 S.2.1 dX9_word_108 hl (k := 9) rfl (by first | rfl | exact nI_add _ _) (by decide) rfl (fun ls hl => ?_)
          refine lv_goto (pc := 111) (tgt := 6) S.1 S.2.1 dX9_word_111 (by decide) ?_
          have ew : wdF cf (i + 1) = (27 * wdF cf i + (cf i - 96)) := by rw [wdF, if_neg c_15]
          rw [← ew] at hl
          have hi2 : (i + 1) + n = 7 := by omega
          have hl2 : lv_has ls 11 [(0, .int (nI (cf 0))), (1, .int (nI (cf 1))), (2, .int (nI (cf 2))), (3, .int (nI (cf 3))), (4, .int (nI (cf 4))), (5, .int (nI (cf 5))), (6, .int (nI (cf 6))), (7, .long (Int64.ofNat (wdF cf (i + 1)))), (9, .int (nI (i + 1)))] := lv_sub hl [3, 4, 5, 6, 7, 8, 9, 1, 0] rfl
          apply ih (i := i + 1) <;> assumption
        · skip
          refine lv_lload (pc := 85) S.1 S.2.1 dX9_word_85 (lv_at hl 8 rfl) ?_
          refine lv_goto (pc := 87) (tgt := 106) S.1 S.2.1 dX9_word_87 (by decide) ?_
          refine lv_lstore (pc := 106) (lv' := [(7, .long (Int64.ofNat (wdF cf i))), (10, .int (nI (cf i))), (0, .int (nI (cf 0))), (1, .int (nI (cf 1))), (2, .int (nI (cf 2))), (3, .int (nI (cf 3))), (4, .int (nI (cf 4))), (5, .int (nI (cf 5))), (6, .int (nI (cf 6))), (9, .int (nI i))]) S.1 S.2.1 dX9_word_106 hl (by decide) rfl (fun ls hl => ?_)
          refine lv_iinc (pc := 108) (v := nI (i + 1)) (lv' := [(9, .int (nI (i + 1))), (7, .long (Int64.ofNat (wdF cf i))), (10, .int (nI (cf i))), (0, .int (nI (cf 0))), (1, .int (nI (cf 1))), (2, .int (nI (cf 2))), (3, .int (nI (cf 3))), (4, .int (nI (cf 4))), (5, .int (nI (cf 5))), (6, .int (nI (cf 6)))]) S.1 S.2.1 dX9_word_108 hl (k := 9) rfl (by first | rfl | exact nI_add _ _) (by decide) rfl (fun ls hl => ?_)
          refine lv_goto (pc := 111) (tgt := 6) S.1 S.2.1 dX9_word_111 (by decide) ?_
          have ew : wdF cf (i + 1) = (wdF cf i) := by rw [wdF, if_pos (by omega)]
          rw [← ew] at hl
          have hi2 : (i + 1) + n = 7 := by omega
          have hl2 : lv_has ls 11 [(0, .int (nI (cf 0))), (1, .int (nI (cf 1))), (2, .int (nI (cf 2))), (3, .int (nI (cf 3))), (4, .int (nI (cf 4))), (5, .int (nI (cf 5))), (6, .int (nI (cf 6))), (7, .long (Int64.ofNat (wdF cf (i + 1)))), (9, .int (nI (i + 1)))] := lv_sub hl [3, 4, 5, 6, 7, 8, 9, 1, 0] rfl
          apply ih (i := i + 1) <;> assumption
