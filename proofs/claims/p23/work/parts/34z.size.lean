/-! The sizes of lands, compared: for each head that can be measured -/
def szB (a : Nat) : Bool := decide ((szF 0 a).toNat < 2 ^ 31) && decide ((szF 1 a).toNat < 2 ^ 31) && decide ((szF 2 a).toNat < 2 ^ 31) && decide ((szF 3 a).toNat < 2 ^ 31) && (decide (a = 0) || decide (0 < (szF 0 a).toNat)) && decide ((szF 1 a).toNat < (szF 2 a).toNat) && decide ((szF 0 a).toNat ≤ (szF 3 a).toNat) && decide ((szF 1 a).toNat ≤ (szF 0 a).toNat)
def szA (a : Nat) : Nat → Bool
  | 0 => true
  | n + 1 => szB (a + n) && szA a n
theorem szA_0 : szA 0 200 = true := by decide +kernel
theorem szA_1 : szA 200 200 = true := by decide +kernel
theorem szA_2 : szA 400 200 = true := by decide +kernel
theorem szA_3 : szA 600 200 = true := by decide +kernel
theorem szA_4 : szA 800 200 = true := by decide +kernel
theorem szA_5 : szA 1000 200 = true := by decide +kernel
theorem szA_6 : szA 1200 200 = true := by decide +kernel
theorem szA_at {a : Nat} : ∀ n, szA a n = true → ∀ i, i < n → szB (a + i) = true
  | 0, _, i, hi => absurd hi (Nat.not_lt_zero i)
  | n + 1, h, i, hi => by
    unfold szA at h
    rw [Bool.and_eq_true] at h
    by_cases hq : i = n
    · rw [hq]; exact h.1
    · exact szA_at n h.2 i (by omega)
theorem szB_ok {a : Nat} (h : a < 1400) : szB a = true := by
  have e : a = 200 * (a / 200) + a % 200 := (Nat.div_add_mod a 200).symm
  have h2 : a % 200 < 200 := Nat.mod_lt _ (by decide)
  have h3 : a / 200 < 7 := by omega
  rw [e]
  generalize a % 200 = i at h2 ⊢
  generalize a / 200 = j at h3 ⊢
  rcases (show j = 0 ∨ j = 1 ∨ j = 2 ∨ j = 3 ∨ j = 4 ∨ j = 5 ∨ j = 6 by omega) with rfl | rfl | rfl | rfl | rfl | rfl | rfl
  · exact szA_at 200 szA_0 i h2
  · exact szA_at 200 szA_1 i h2
  · exact szA_at 200 szA_2 i h2
  · exact szA_at 200 szA_3 i h2
  · exact szA_at 200 szA_4 i h2
  · exact szA_at 200 szA_5 i h2
  · exact szA_at 200 szA_6 i h2
theorem sz_ok {a : Nat} (h : a < 1400) : (szF 0 a).toNat < 2 ^ 31 ∧ (szF 1 a).toNat < 2 ^ 31 ∧ (szF 2 a).toNat < 2 ^ 31 ∧ (szF 3 a).toNat < 2 ^ 31 ∧ (a = 0 ∨ 0 < (szF 0 a).toNat) ∧ (szF 1 a).toNat < (szF 2 a).toNat ∧ (szF 0 a).toNat ≤ (szF 3 a).toNat ∧ (szF 1 a).toNat ≤ (szF 0 a).toNat := by
  have h1 := szB_ok h
  unfold szB at h1
  simp only [Bool.and_eq_true, Bool.or_eq_true, decide_eq_true_eq] at h1
  obtain ⟨⟨⟨⟨⟨⟨⟨q0, q1⟩, q2⟩, q3⟩, q4⟩, q5⟩, q6⟩, q7⟩ := h1
  exact ⟨q0, q1, q2, q3, q4, q5, q6, q7⟩
theorem sz_00 : (szF 0 0).toNat = 0 := by decide +kernel
