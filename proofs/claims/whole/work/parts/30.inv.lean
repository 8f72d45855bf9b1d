/-! Numbers: the typed word, refusals, the invariant of both sides -/
def c27 : List Nat → Nat
  | [] => 0
  | c :: r => 27 * c27 r + (c - 96)
theorem b27_c (l : List Nat) : b27 l = c27 l.reverse := by
  unfold b27
  rw [← List.foldr_reverse (f := fun c a => 27 * a + (c - 96))]
  generalize l.reverse = r
  induction r with
  | nil => rfl
  | cons c r ih => simp only [List.foldr_cons, c27]; rw [ih]
theorem c27_inj : ∀ r r' : List Nat, (∀ c, c ∈ r → 97 ≤ c ∧ c ≤ 122) → (∀ c, c ∈ r' → 97 ≤ c ∧ c ≤ 122) → c27 r = c27 r' → r = r'
  | [], [], _, _, _ => rfl
  | [], c :: r', _, h2, h => by
    have := h2 c List.mem_cons_self
    simp only [c27] at h
    omega
  | c :: r, [], h1, _, h => by
    have := h1 c List.mem_cons_self
    simp only [c27] at h
    omega
  | c :: r, c' :: r', h1, h2, h => by
    have e1 := h1 c List.mem_cons_self
    have e2 := h2 c' List.mem_cons_self
    simp only [c27] at h
    have e3 : c = c' := by omega
    have e4 := c27_inj r r' (fun z hz => h1 z (List.mem_cons_of_mem _ hz)) (fun z hz => h2 z (List.mem_cons_of_mem _ hz)) (by omega)
    rw [e3, e4]
theorem b27_inj {l l' : List Nat} (h1 : ∀ c, c ∈ l → 97 ≤ c ∧ c ≤ 122) (h2 : ∀ c, c ∈ l' → 97 ≤ c ∧ c ≤ 122) (h : b27 l = b27 l') : l = l' := by
  rw [b27_c, b27_c] at h
  have := c27_inj _ _ (fun c hc => h1 c (List.mem_reverse.mp hc)) (fun c hc => h2 c (List.mem_reverse.mp hc)) h
  exact List.reverse_inj.mp this
theorem c27_lt : ∀ r : List Nat, (∀ c, c ∈ r → 97 ≤ c ∧ c ≤ 122) → c27 r < 27 ^ r.length
  | [], _ => by decide
  | c :: r, h => by
    have h1 := h c List.mem_cons_self
    have h2 := c27_lt r (fun z hz => h z (List.mem_cons_of_mem _ hz))
    simp only [c27, List.length_cons, Nat.pow_succ]
    omega
theorem wdT_ok : ∀ i, i < 11 → ∀ c, c ∈ wdT i → 97 ≤ c ∧ c ≤ 122 := by decide +kernel
/-- what is typed -/
def J0 (sc : Nat → Nat) (e : Nat → Nat → Nat) : Prop := sc 0 ≤ 7 ∧ (∀ j, j < sc 0 → 97 ≤ e 0 j ∧ e 0 j ≤ 122) ∧ sc 1 = b27 ((List.range (sc 0)).map (e 0))
theorem J0.mem {sc : Nat → Nat} {e : Nat → Nat → Nat} (h : J0 sc e) : ∀ c, c ∈ (List.range (sc 0)).map (e 0) → 97 ≤ c ∧ c ≤ 122 := fun c hc => by
  obtain ⟨j, hj, rfl⟩ := List.mem_map.mp hc
  exact h.2.1 j (List.mem_range.mp hj)
theorem J0.ty {sc : Nat → Nat} {e : Nat → Nat → Nat} (h : J0 sc e) : sc 1 < 2 ^ 62 := by
  have h1 := c27_lt ((List.range (sc 0)).map (e 0)).reverse (fun c hc => h.mem c (List.mem_reverse.mp hc))
  rw [h.2.2, b27_c]
  refine Nat.lt_of_lt_of_le h1 ?_
  rw [List.length_reverse, List.length_map, List.length_range]
  refine Nat.le_trans (Nat.pow_le_pow_right (by decide) h.1) ?_
  decide
theorem J0.g {sc : Nat → Nat} {e : Nat → Nat → Nat} (h : J0 sc e) : ∀ j, j < sc 0 → e 0 j < 128 := fun j hj => by
  have := h.2.1 j hj
  omega
theorem J0.fi {sc : Nat → Nat} {e : Nat → Nat → Nat} (h : J0 sc e) (off : Nat) : ∀ n j, off + j + n ≤ 11 → fiF off (e 0) (sc 0) n j = wkO off (sc 1) n j
  | 0, _, _ => rfl
  | n + 1, j, hn => by
    unfold fiF wkO
    have e1 : isT (e 0) (sc 0) (off + j) = 1 ↔ sc 1 = wcd (off + j) := by
      unfold isT wcd
      rw [h.2.2]
      constructor
      · intro h1
        split at h1
        · next h2 => rw [h2]
        · cases h1
      · intro h1
        rw [if_pos (b27_inj h.mem (wdT_ok _ (by omega)) h1)]
    by_cases hq : sc 1 = wcd (off + j)
    · rw [if_pos (e1.mpr hq), if_pos hq]
    · rw [if_neg (fun z => hq (e1.mp z)), if_neg hq]
      exact h.fi off n (j + 1) (by omega)
theorem J0.snoc {sc : Nat → Nat} {e : Nat → Nat → Nat} (h : J0 sc e) (hk : sc 0 < 7) {x : Nat} (h1 : 97 ≤ x) (h2 : x ≤ 122) :
    J0 (va_up (va_up (va_up sc 0 (sc 0 + 1)) 1 (27 * sc 1 + (x - 96))) 7 0) (va_up e 0 (va_up (e 0) (sc 0) x)) := by
  have e0 : va_up (va_up (va_up sc 0 (sc 0 + 1)) 1 (27 * sc 1 + (x - 96))) 7 0 0 = sc 0 + 1 := rfl
  have e1 : va_up (va_up (va_up sc 0 (sc 0 + 1)) 1 (27 * sc 1 + (x - 96))) 7 0 1 = 27 * sc 1 + (x - 96) := rfl
  have e2 : va_up e 0 (va_up (e 0) (sc 0) x) 0 = va_up (e 0) (sc 0) x := rfl
  unfold J0
  rw [e0, e1, e2]
  refine ⟨by omega, fun j hj => ?_, ?_⟩
  · unfold va_up
    split
    · exact ⟨h1, h2⟩
    · exact h.2.1 j (by omega)
  · rw [List.range_succ, List.map_append, List.map_cons, List.map_nil, va_up_self]
    have e3 : (List.range (sc 0)).map (va_up (e 0) (sc 0) x) = (List.range (sc 0)).map (e 0) := List.map_congr_left fun j hj => va_up_ne _ _ (by have := List.mem_range.mp hj; omega)
    rw [e3, h.2.2]
    unfold b27
    rw [List.foldl_append]
    rfl
theorem J0.nil (sc : Nat → Nat) (e : Nat → Nat → Nat) (h0 : sc 0 = 0) (h1 : sc 1 = 0) : J0 sc e := by
  unfold J0
  rw [h0, h1]
  exact ⟨by omega, fun j hj => by omega, rfl⟩
theorem tr_eq {o : Option Nat} {d : Nat} (ho : ∀ f, o = some f → f < 3) (hd : d < 2 ^ 30) : trR o d = trM o d := by
  unfold trM
  cases o with
  | none => rfl
  | some f =>
    have := ho f rfl
    show alF f d = _
    unfold alF
    rcases (show f = 0 ∨ f = 1 ∨ f = 2 by omega) with rfl | rfl | rfl
    · rw [if_pos (show d / 10 < fPro 0 by show d / 10 < 2147483647; omega), if_pos (show d / 10 < wkP (some 0) by show d / 10 < 1000000000; omega)]
    · rfl
    · rfl
/-- heights by cycles -/
def hS (k : Nat) : Nat → Nat
  | 0 => 60
  | c + 1 => shL k (hS k c)
theorem hS_ok : ∀ k, k < 4 → ∀ c, c < 13 → 0 < hS k c ∧ hS k c ≤ 60 := by decide +kernel
theorem wS_ok : ∀ k, k < 4 → ∀ c, c < 13 → ∀ b, b < 6 → 0 < wS k c (1200 - 150 * b) := by decide +kernel
theorem bW_pos (a d b : Nat) : 0 < bW a d b := by
  unfold bW
  omega
/-! refusals -/
theorem hoF_0 (wf mf : Nat → Nat) (ht : Nat) : ∀ n j, hoF wf mf ht n j = 0 ↔ ∀ i, i < n → ¬ mf (j + i) * 100000 / (wf (j + i) * ht) < 40
  | 0, _ => by simp [hoF]
  | n + 1, j => by
    unfold hoF
    by_cases h : mf j * 100000 / (wf j * ht) < 40
    · rw [if_pos h]
      refine ⟨fun z => absurd z (by decide), fun z => absurd h (z 0 (by omega))⟩
    · rw [if_neg h, hoF_0 wf mf ht n (j + 1)]
      constructor
      · intro z i hi
        rcases i with _ | i
        · exact h
        · have := z i (by omega)
          rwa [show j + 1 + i = j + (i + 1) by omega] at this
      · intro z i hi
        have := z (i + 1) (by omega)
        rwa [show j + (i + 1) = j + 1 + i by omega] at this
theorem thF_0 (a : Nat → Nat) : ∀ n, thF a n = 0 ↔ ∀ i, i < n → ¬ a i < 40
  | 0 => by simp [thF]
  | n + 1 => by
    have ih := thF_0 a n
    unfold thF
    by_cases h : thF a n = 0 ∧ ¬ a n < 40
    · rw [if_pos h]
      refine ⟨fun _ i hi => ?_, fun _ => rfl⟩
      rcases Nat.lt_succ_iff_lt_or_eq.mp hi with h1 | h1
      · exact ih.mp h.1 i h1
      · rw [h1]; exact h.2
    · rw [if_neg h]
      exact ⟨fun z => absurd z (by decide), fun z => absurd ⟨ih.mpr fun i hi => z i (by omega), z n (by omega)⟩ h⟩
theorem tnF_0 (k : Nat) (w b : Nat → Nat) : ∀ n, tnF k w b n = 0 ↔ ∀ i, i < n → ¬ (w i < b i ∧ fStr k < 100 * (b i - w i) / w i)
  | 0 => by simp [tnF]
  | n + 1 => by
    have ih := tnF_0 k w b n
    unfold tnF
    by_cases h : tnF k w b n = 0 ∧ ¬ (w n < b n ∧ fStr k < 100 * (b n - w n) / w n)
    · rw [if_pos h]
      refine ⟨fun _ i hi => ?_, fun _ => rfl⟩
      rcases Nat.lt_succ_iff_lt_or_eq.mp hi with h1 | h1
      · exact ih.mp h.1 i h1
      · rw [h1]; exact h.2
    · rw [if_neg h]
      exact ⟨fun z => absurd z (by decide), fun z => absurd ⟨ih.mpr fun i hi => z i (by omega), z n (by omega)⟩ h⟩
theorem wiF_0 (k : Nat) (w b : Nat → Nat) : ∀ n, wiF k w b n = 0 ↔ ∀ i, i < n → ¬ (b i < w i ∧ b i < shA k (w i))
  | 0 => by simp [wiF]
  | n + 1 => by
    have ih := wiF_0 k w b n
    unfold wiF
    by_cases h : wiF k w b n = 0 ∧ ¬ (b n < w n ∧ b n < shA k (w n))
    · rw [if_pos h]
      refine ⟨fun _ i hi => ?_, fun _ => rfl⟩
      rcases Nat.lt_succ_iff_lt_or_eq.mp hi with h1 | h1
      · exact ih.mp h.1 i h1
      · rw [h1]; exact h.2
    · rw [if_neg h]
      exact ⟨fun z => absurd z (by decide), fun z => absurd ⟨ih.mpr fun i hi => z i (by omega), z n (by omega)⟩ h⟩
def toC (k : Nat) (wf bw : Nat → Nat) (i : Nat) : Prop := wf i < bw i ∧ toN k (bw i - wf i) (wf i) = 1
def wiC (k : Nat) (wf bw : Nat → Nat) (i : Nat) : Prop := bw i < wf i ∧ bw i < shA k (wf i)
theorem rfF_2 (k : Nat) (wf bw : Nat → Nat) : ∀ n j t, (¬ ∀ i, i < n → ¬ toC k wf bw (j + i)) → rfF k wf bw n j t = 2
  | 0, _, _, h => absurd (fun i hi => absurd hi (Nat.not_lt_zero i)) h
  | n + 1, j, t, h => by
    unfold rfF
    by_cases h1 : wf j < bw j ∧ toN k (bw j - wf j) (wf j) = 1
    · rw [if_pos h1]
    · rw [if_neg h1]
      refine rfF_2 k wf bw n (j + 1) _ (fun z => h fun i hi => ?_)
      rcases i with _ | i
      · exact h1
      · have := z i (by omega)
        rwa [show j + 1 + i = j + (i + 1) by omega] at this
theorem rfF_n (k : Nat) (wf bw : Nat → Nat) : ∀ n j t, (∀ i, i < n → ¬ toC k wf bw (j + i)) → (rfF k wf bw n j t = 0 ∨ rfF k wf bw n j t = 3) ∧ (rfF k wf bw n j t = 0 ↔ t = 0 ∧ ∀ i, i < n → ¬ wiC k wf bw (j + i))
  | 0, _, t, _ => by
    unfold rfF
    by_cases h : t = 0
    · simp [h]
    · simp [h]
  | n + 1, j, t, h => by
    have h0 := h 0 (by omega)
    unfold rfF
    rw [if_neg (show ¬ (wf j < bw j ∧ toN k (bw j - wf j) (wf j) = 1) from h0)]
    have h1 : ∀ i, i < n → ¬ toC k wf bw (j + 1 + i) := fun i hi => by
      have := h (i + 1) (by omega)
      rwa [show j + (i + 1) = j + 1 + i by omega] at this
    obtain ⟨r1, r2⟩ := rfF_n k wf bw n (j + 1) (if t = 0 ∧ ¬ (bw j < wf j ∧ bw j < shA k (wf j)) then 0 else 1) h1
    refine ⟨r1, r2.trans ?_⟩
    by_cases h3 : t = 0 ∧ ¬ (bw j < wf j ∧ bw j < shA k (wf j))
    · rw [if_pos h3]
      constructor
      · intro z
        refine ⟨h3.1, fun i hi => ?_⟩
        rcases i with _ | i
        · exact h3.2
        · have := z.2 i (by omega)
          rwa [show j + 1 + i = j + (i + 1) by omega] at this
      · intro z
        refine ⟨rfl, fun i hi => ?_⟩
        have := z.2 (i + 1) (by omega)
        rwa [show j + (i + 1) = j + 1 + i by omega] at this
    · rw [if_neg h3]
      exact ⟨fun z => absurd z.1 (by decide), fun z => absurd ⟨z.1, z.2 0 (by omega)⟩ h3⟩
theorem ref_eq {k ht : Nat} {wf mf bw a w : Nat → Nat} (hw : ∀ i, i < 6 → 0 < wf i ∧ w i = wf i ∧ a i = mf i * 100000 / (wf i * ht)) : refR k ht wf mf bw = mhR k a w bw := by
  have e1 : hoF wf mf ht 6 0 = 0 ↔ thF a 6 = 0 := by
    rw [hoF_0, thF_0]
    constructor
    · intro z i hi
      have := z i hi
      rw [Nat.zero_add] at this
      rwa [(hw i hi).2.2]
    · intro z i hi
      have := z i hi
      rw [(hw i hi).2.2] at this
      rwa [Nat.zero_add]
  have ht9 : ∀ i, i < 6 → (toC k wf bw i ↔ (w i < bw i ∧ fStr k < 100 * (bw i - w i) / w i)) := fun i hi => by
    obtain ⟨h1, h2, -⟩ := hw i hi
    unfold toC toN
    rw [h2, if_neg (show ¬ wf i = 0 by omega)]
    constructor
    · rintro ⟨z1, z2⟩
      refine ⟨z1, ?_⟩
      by_cases hq : fStr k < 100 * (bw i - wf i) / wf i
      · exact hq
      · rw [if_neg hq] at z2; cases z2
    · rintro ⟨z1, z2⟩
      exact ⟨z1, by rw [if_pos z2]⟩
  have hw9 : ∀ i, i < 6 → (wiC k wf bw i ↔ (bw i < w i ∧ bw i < shA k (w i))) := fun i hi => by
    unfold wiC
    rw [(hw i hi).2.1]
  unfold refR mhR
  by_cases h1 : thF a 6 = 0
  · rw [if_pos (e1.mpr h1), if_pos h1]
    by_cases h2 : tnF k w bw 6 = 0
    · rw [if_pos h2]
      have h3 : ∀ i, i < 6 → ¬ toC k wf bw (0 + i) := fun i hi => by
        rw [Nat.zero_add, ht9 i hi]
        exact (tnF_0 k w bw 6).mp h2 i hi
      obtain ⟨r1, r2⟩ := rfF_n k wf bw 6 0 0 h3
      have r3 : rfF k wf bw 6 0 0 = 0 ↔ wiF k w bw 6 = 0 := by
        rw [r2, wiF_0]
        constructor
        · intro z i hi
          have := z.2 i hi
          rwa [Nat.zero_add, hw9 i hi] at this
        · intro z
          exact ⟨rfl, fun i hi => by rw [Nat.zero_add, hw9 i hi]; exact z i hi⟩
      by_cases h4 : wiF k w bw 6 = 0
      · rw [if_pos h4]; exact r3.mpr h4
      · rw [if_neg h4]
        rcases r1 with r1 | r1
        · exact absurd (r3.mp r1) h4
        · exact r1
    · rw [if_neg h2]
      refine rfF_2 k wf bw 6 0 0 (fun z => h2 ((tnF_0 k w bw 6).mpr fun i hi => ?_))
      have := z i hi
      rwa [Nat.zero_add, ht9 i hi] at this
  · rw [if_neg (fun z => h1 (e1.mp z)), if_neg h1]
