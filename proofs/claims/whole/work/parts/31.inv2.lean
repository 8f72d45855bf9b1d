/-! The invariant of both sides behind t steps, and what each method makes of it -/
def J5 (sc : Nat → Nat) (ar : Nat → Nat → Nat) (w : Nat → Nat → Nat → Nat) (e : Nat → Nat → Nat) (i : Nat) : Prop :=
  ((∀ j, w 0 i j ≤ 1200) ∧ (∀ j, w 1 i j ≤ 500)) ∧ (∀ j, j < 6 → ar 4 (6 * i + j) = w 0 i j ∧ ar 5 (6 * i + j) = e 1 i ∧ ar 6 (6 * i + j) = w 1 i j) ∧ (e 2 i ≤ sc 4 ∧ (ar 8 i = 0 ↔ e 2 i = 0)) ∧ e 1 i = hS (ar 3 i) (ar 7 i) ∧
  (e 2 i = 0 → ∀ j, j < 6 → w 0 i j = wS (ar 3 i) (ar 7 i) (1200 - 150 * j)) ∧ (e 2 i ≠ 0 → ∀ j, j < 6 → w 0 i j = bW (ar 10 (e 2 i - 1)) (ar 11 (e 2 i - 1)) j)
def J3 (ar : Nat → Nat → Nat) : Prop := ∀ i, ar 3 i < 4 ∧ ar 7 i ≤ 12 ∧ ar 8 i ≤ 1 ∧ ar 9 i ≤ 1
def J4 (sc : Nat → Nat) (ar : Nat → Nat → Nat) : Prop := ∀ i, sc 3 ≤ i → ar 7 i = 0 ∧ ar 8 i = 0 ∧ ar 9 i = 0
def J6 (sc : Nat → Nat) (ar : Nat → Nat → Nat) : Prop := ∀ i, i < sc 4 → (300 ≤ ar 10 i ∧ ar 10 i ≤ 700) ∧ (1 ≤ ar 11 i ∧ ar 11 i ≤ 6)
def J7 (sc : Nat → Nat) (ar : Nat → Nat → Nat) : Prop := (∀ i, ar 12 i ≤ 30) ∧ ∀ i, sc 5 ≤ i → ar 12 i = 0 ∧ ar 13 i = 0
def INV (t : Nat) (sc : Nat → Nat) (ar : Nat → Nat → Nat) (w : Nat → Nat → Nat → Nat) (e : Nat → Nat → Nat) : Prop :=
  J0 sc e ∧ (sc 2 ≤ 10 ∧ sc 3 ≤ 12 ∧ sc 4 ≤ 8 ∧ sc 5 ≤ 6) ∧ (∀ i, ar 1 i < 4 ∧ ar 2 i ≤ 5000) ∧ J3 ar ∧ J4 sc ar ∧ (∀ i, i < sc 3 → J5 sc ar w e i) ∧ J6 sc ar ∧ J7 sc ar ∧ (∀ j, ar 14 j ≤ 200) ∧ (sc 6 ≤ 30 * t ∧ ∀ i, ar 13 i ≤ 12 * t)
section INVS
variable {t : Nat} {sc : Nat → Nat} {ar : Nat → Nat → Nat} {w : Nat → Nat → Nat → Nat} {e : Nat → Nat → Nat}
theorem INV.j0 (h : INV t sc ar w e) : J0 sc e := h.1
theorem INV.j1 (h : INV t sc ar w e) : sc 2 ≤ 10 ∧ sc 3 ≤ 12 ∧ sc 4 ≤ 8 ∧ sc 5 ≤ 6 := h.2.1
theorem INV.j2 (h : INV t sc ar w e) : ∀ i, ar 1 i < 4 ∧ ar 2 i ≤ 5000 := h.2.2.1
theorem INV.j3 (h : INV t sc ar w e) : J3 ar := h.2.2.2.1
theorem INV.j4 (h : INV t sc ar w e) : J4 sc ar := h.2.2.2.2.1
theorem INV.j5 (h : INV t sc ar w e) : ∀ i, i < sc 3 → J5 sc ar w e i := h.2.2.2.2.2.1
theorem INV.j6 (h : INV t sc ar w e) : J6 sc ar := h.2.2.2.2.2.2.1
theorem INV.j7 (h : INV t sc ar w e) : J7 sc ar := h.2.2.2.2.2.2.2.1
theorem INV.j8 (h : INV t sc ar w e) : ∀ j, ar 14 j ≤ 200 := h.2.2.2.2.2.2.2.2.1
theorem INV.j9 (h : INV t sc ar w e) : sc 6 ≤ 30 * t ∧ ∀ i, ar 13 i ≤ 12 * t := h.2.2.2.2.2.2.2.2.2
theorem INV.ht (h : INV t sc ar w e) {i : Nat} (hi : i < sc 3) : 0 < e 1 i ∧ e 1 i ≤ 60 := by
  rw [(h.j5 i hi).2.2.2.1]
  exact hS_ok _ (h.j3 i).1 _ (by have := (h.j3 i).2.1; omega)
theorem INV.wp (h : INV t sc ar w e) {i : Nat} (hi : i < sc 3) {j : Nat} (hj : j < 6) : 0 < w 0 i j := by
  by_cases h0 : e 2 i = 0
  · rw [(h.j5 i hi).2.2.2.2.1 h0 j hj]
    exact wS_ok _ (h.j3 i).1 _ (by have := (h.j3 i).2.1; omega) j hj
  · rw [(h.j5 i hi).2.2.2.2.2 h0 j hj]
    exact bW_pos _ _ _
theorem INV.hwb (h : INV t sc ar w e) : ∀ i, i < 6 * sc 3 → (0 < ar 4 i ∧ ar 4 i ≤ 1200) ∧ (0 < ar 5 i ∧ ar 5 i ≤ 60) ∧ ar 6 i ≤ 500 := fun i hi => by
  have h1 : i / 6 < sc 3 := by omega
  have h2 : i % 6 < 6 := by omega
  obtain ⟨e4, e5, e6⟩ := (h.j5 _ h1).2.1 _ h2
  rw [show 6 * (i / 6) + i % 6 = i by omega] at e4 e5 e6
  rw [e4, e5, e6]
  exact ⟨⟨h.wp h1 h2, (h.j5 _ h1).1.1 _⟩, h.ht h1, (h.j5 _ h1).1.2 _⟩
theorem INV.hcb (h : INV t sc ar w e) : ∀ i, i < sc 3 → ar 3 i < 4 ∧ (∀ j, w 0 i j ≤ 1200) ∧ e 1 i ≤ 60 ∧ (∀ j, w 1 i j ≤ 500) ∧ ar 7 i ≤ 12 ∧ ar 9 i ≤ 1 := fun i hi => ⟨(h.j3 i).1, (h.j5 i hi).1.1, (h.ht hi).2, (h.j5 i hi).1.2, (h.j3 i).2.1, (h.j3 i).2.2.2⟩
theorem INV.hdr (h : INV t sc ar w e) : ∀ i, i < sc 3 → e 2 i ≤ sc 4 := fun i hi => (h.j5 i hi).2.2.1.1
theorem INV.cyc (h : INV t sc ar w e) (x z : Int32) : cycleX (sc 3) (sc 5) (ar 3) (ar 7) (ar 12) (e 2) x z = cycleX (sc 3) (sc 5) (ar 3) (ar 7) (ar 12) (ar 8) x z := by
  unfold cycleX
  by_cases h1 : inN x (sc 3)
  · obtain ⟨i, rfl, hi⟩ := h1.nat (by have := h.j1; omega)
    rw [nx_nI (by have := h.j1; omega)]
    have h2 := (h.j5 i hi).2.2.1.2
    by_cases h3 : e 2 i = 0
    · rw [if_pos (h2.mpr h3), if_pos h3]
    · rw [if_neg (fun q => h3 (h2.mp q)), if_neg h3]
  · rw [if_neg h1, if_neg h1]
theorem INV.mono (h : INV t sc ar w e) (c : Nat) : INV (t + 1) (va_up sc 7 c) ar w e :=
  ⟨h.j0, h.j1, h.j2, h.j3, h.j4, h.j5, h.j6, h.j7, h.j8, ⟨show sc 6 ≤ _ by have := h.j9.1; omega, fun i => by have := h.j9.2 i; omega⟩⟩
theorem INV.letter (h : INV t sc ar w e) (hk : sc 0 < 7) {x : Nat} (h1 : 97 ≤ x) (h2 : x ≤ 122) : INV (t + 1) (va_up (va_up (va_up sc 0 (sc 0 + 1)) 1 (27 * sc 1 + (x - 96))) 7 0) ar w (va_up e 0 (va_up (e 0) (sc 0) x)) :=
  ⟨h.j0.snoc hk h1 h2, h.j1, h.j2, h.j3, h.j4, h.j5, h.j6, h.j7, h.j8, (h.mono 0).j9⟩
/-- the word is cleared -/
theorem INV.clear (h : INV t sc ar w e) (v : Nat) : INV (t + 1) (va_up (va_up (va_up sc 0 0) 1 0) 7 0) ar w (va_up e 3 (va_up (e 3) 0 v)) :=
  ⟨J0.nil _ _ rfl rfl, h.j1, h.j2, h.j3, h.j4, h.j5, h.j6, h.j7, h.j8, (h.mono 0).j9⟩
theorem INV.lot (h : INV t sc ar w e) (hn : sc 2 < 10) (v : Nat) {fu x1 : Nat} (hf : fu < 4) (hx : x1 ≤ 5000) : INV (t + 1) (va_up (va_up (va_up (va_up sc 0 0) 1 0) 2 (sc 2 + 1)) 7 0) (va_up (va_up ar 1 (va_up (ar 1) (sc 2) fu)) 2 (va_up (ar 2) (sc 2) x1)) w (va_up e 3 (va_up (e 3) 0 v)) := by
  refine ⟨J0.nil _ _ rfl rfl, ⟨show sc 2 + 1 ≤ 10 by omega, h.j1.2⟩, fun i => ?_, h.j3, h.j4, h.j5, h.j6, h.j7, h.j8, (h.mono 0).j9⟩
  have := h.j2 i
  show va_up (ar 1) (sc 2) fu i < 4 ∧ va_up (ar 2) (sc 2) x1 i ≤ 5000
  unfold va_up
  split <;> omega
theorem INV.hand (h : INV t sc ar w e) (hn : sc 5 < 6) : INV (t + 1) (va_up (va_up sc 5 (sc 5 + 1)) 7 0) ar w e :=
  ⟨h.j0, ⟨h.j1.1, h.j1.2.1, h.j1.2.2.1, show sc 5 + 1 ≤ 6 by omega⟩, h.j2, h.j3, h.j4, h.j5, h.j6, ⟨h.j7.1, fun i hi => h.j7.2 i (by have : sc 5 + 1 ≤ i := hi; omega)⟩, h.j8, (h.mono 0).j9⟩
theorem INV.block (h : INV t sc ar w e) (hn : sc 4 < 8) {x1 z1 : Nat} (hx : 300 ≤ x1 ∧ x1 ≤ 700) (hz : 1 ≤ z1 ∧ z1 ≤ 6) : INV (t + 1) (va_up (va_up sc 4 (sc 4 + 1)) 7 0) (va_up (va_up ar 10 (va_up (ar 10) (sc 4) x1)) 11 (va_up (ar 11) (sc 4) z1)) w e := by
  refine ⟨h.j0, ⟨h.j1.1, h.j1.2.1, show sc 4 + 1 ≤ 8 by omega, h.j1.2.2.2⟩, h.j2, h.j3, h.j4, fun i hi => ?_, fun i hi => ?_, h.j7, h.j8, (h.mono 0).j9⟩
  · obtain ⟨a1, a2, ⟨a3, a4⟩, a5, a6, a7⟩ := h.j5 i hi
    refine ⟨a1, a2, ⟨show e 2 i ≤ sc 4 + 1 by omega, a4⟩, a5, a6, fun hn2 j hj => ?_⟩
    rw [a7 hn2 j hj]
    show _ = bW (va_up (ar 10) (sc 4) x1 (e 2 i - 1)) (va_up (ar 11) (sc 4) z1 (e 2 i - 1)) j
    rw [va_up_ne _ _ (by omega), va_up_ne _ _ (by omega)]
  · show (300 ≤ va_up (ar 10) (sc 4) x1 i ∧ va_up (ar 10) (sc 4) x1 i ≤ 700) ∧ (1 ≤ va_up (ar 11) (sc 4) z1 i ∧ va_up (ar 11) (sc 4) z1 i ≤ 6)
    have hi2 : i < sc 4 + 1 := hi
    by_cases hq : i = sc 4
    · rw [hq, va_up_self, va_up_self]; exact ⟨hx, hz⟩
    · rw [va_up_ne _ _ hq, va_up_ne _ _ hq]; exact h.j6 i (by omega)
theorem pfy_out {g f : Nat → Nat} {x i j : Nat} (h : i ≠ x) (hj : j < 6) : pfy g (6 * x) f 6 (6 * i + j) = g (6 * i + j) := by
  unfold pfy
  rw [if_neg (by omega)]
theorem gB_one {g t j : Nat} (hj : j < 6) : gB g t j ≤ g := Nat.le_trans (Nat.le_add_left _ _) (gB_le g t (i := j + 1) (by omega))
theorem gB_rest {g t : Nat} : gB g t 0 + (g - smN (gB g t) 6) ≤ g := by
  have h1 := gB_le g t (i := 6) (Nat.le_refl _)
  have h2 := smN_mono (gB g t) (i := 1) (j := 6) (by decide)
  have h3 : smN (gB g t) 1 = gB g t 0 := by simp [smN]
  omega
theorem INV.cone (h : INV t sc ar w e) {x1 y1 t1 : Nat} (hx : x1 < sc 2) (hy : y1 ≤ 500) (hn : sc 3 < 12) :
    INV (t + 1) (va_up (va_up sc 3 (sc 3 + 1)) 7 0) (va_up (va_up (va_up (va_up (va_up ar 2 (va_up (ar 2) x1 (ar 2 x1 - y1))) 3 (va_up (ar 3) (sc 3) (ar 1 x1))) 4 (pfy (ar 4) (6 * sc 3) (fun b => 1200 - 150 * b) 6)) 5 (pfy (ar 5) (6 * sc 3) (fun _ => 60) 6)) 6 (va_up (pfy (ar 6) (6 * sc 3) (gB y1 t1) 6) (6 * sc 3) (gB y1 t1 0 + (y1 - smN (gB y1 t1) 6))))
      (va_up (va_up w 0 (va_up (w 0) (sc 3) (pfx (fun b => 1200 - 150 * b) zr 6))) 1 (va_up (w 1) (sc 3) (va_up (pfx (gB y1 t1) zr 6) 0 (gB y1 t1 0 + (y1 - smN (gB y1 t1) 6))))) (va_up (va_up e 1 (va_up (e 1) (sc 3) 60)) 2 (va_up (e 2) (sc 3) 0)) := by
  obtain ⟨h7, h8, h9⟩ := h.j4 (sc 3) (Nat.le_refl _)
  refine ⟨h.j0, ⟨h.j1.1, show sc 3 + 1 ≤ 12 by omega, h.j1.2.2⟩, fun i => ⟨(h.j2 i).1, ?_⟩, fun i => ⟨?_, (h.j3 i).2⟩, fun i hi => h.j4 i (by have : sc 3 + 1 ≤ i := hi; omega), fun i hi => ?_, h.j6, h.j7, h.j8, (h.mono 0).j9⟩
  · show va_up (ar 2) x1 (ar 2 x1 - y1) i ≤ 5000
    have := (h.j2 i).2
    have := (h.j2 x1).2
    unfold va_up
    split <;> omega
  · show va_up (ar 3) (sc 3) (ar 1 x1) i < 4
    have := (h.j3 i).1
    have := (h.j2 x1).1
    unfold va_up
    split <;> omega
  · have hi2 : i < sc 3 + 1 := hi
    by_cases hq : i = sc 3
    · subst hq
      have w0 : (va_up (va_up w 0 (va_up (w 0) (sc 3) (pfx (fun b => 1200 - 150 * b) zr 6))) 1 (va_up (w 1) (sc 3) (va_up (pfx (gB y1 t1) zr 6) 0 (gB y1 t1 0 + (y1 - smN (gB y1 t1) 6))))) 0 (sc 3) = pfx (fun b => 1200 - 150 * b) zr 6 := va_up_self _ _ _
      have w1 : (va_up (va_up w 0 (va_up (w 0) (sc 3) (pfx (fun b => 1200 - 150 * b) zr 6))) 1 (va_up (w 1) (sc 3) (va_up (pfx (gB y1 t1) zr 6) 0 (gB y1 t1 0 + (y1 - smN (gB y1 t1) 6))))) 1 (sc 3) = va_up (pfx (gB y1 t1) zr 6) 0 (gB y1 t1 0 + (y1 - smN (gB y1 t1) 6)) := va_up_self _ _ _
      have e1 : (va_up (va_up e 1 (va_up (e 1) (sc 3) 60)) 2 (va_up (e 2) (sc 3) 0)) 1 (sc 3) = 60 := va_up_self _ _ _
      have e2 : (va_up (va_up e 1 (va_up (e 1) (sc 3) 60)) 2 (va_up (e 2) (sc 3) 0)) 2 (sc 3) = 0 := va_up_self _ _ _
      unfold J5
      rw [w0, w1, e1, e2]
      refine ⟨⟨fun j => ?_, fun j => ?_⟩, fun j hj => ⟨?_, ?_, ?_⟩, ⟨Nat.zero_le _, ?_⟩, ?_, fun _ j hj => ?_, fun z => absurd rfl z⟩
      · unfold pfx zr
        split
        · show 1200 - 150 * j ≤ 1200
          omega
        · omega
      · have r1 := gB_rest (g := y1) (t := t1)
        by_cases hj0 : j = 0
        · rw [hj0, va_up_self]; omega
        · rw [va_up_ne _ _ hj0]
          unfold pfx zr
          split
          · have := gB_one (g := y1) (t := t1) (j := j) (by assumption)
            omega
          · omega
      · show pfy (ar 4) (6 * sc 3) (fun b => 1200 - 150 * b) 6 (6 * sc 3 + j) = _
        rw [pfy_in hj, pfx_lt hj]
      · show pfy (ar 5) (6 * sc 3) (fun _ => 60) 6 (6 * sc 3 + j) = 60
        rw [pfy_in hj]
      · show va_up (pfy (ar 6) (6 * sc 3) (gB y1 t1) 6) (6 * sc 3) _ (6 * sc 3 + j) = _
        by_cases hj0 : j = 0
        · rw [hj0, Nat.add_zero, va_up_self, va_up_self]
        · rw [va_up_ne _ _ (by omega), va_up_ne _ _ hj0, pfy_in hj, pfx_lt hj]
      · exact ⟨fun _ => rfl, fun _ => h8⟩
      · show 60 = hS _ (ar 7 (sc 3))
        rw [h7]; rfl
      · show pfx (fun b => 1200 - 150 * b) zr 6 j = wS _ (ar 7 (sc 3)) _
        rw [h7, pfx_lt hj]; rfl
    · obtain ⟨a1, a2, a3, a5, a6, a7⟩ := h.j5 i (by omega)
      have w0 : (va_up (va_up w 0 (va_up (w 0) (sc 3) (pfx (fun b => 1200 - 150 * b) zr 6))) 1 (va_up (w 1) (sc 3) (va_up (pfx (gB y1 t1) zr 6) 0 (gB y1 t1 0 + (y1 - smN (gB y1 t1) 6))))) 0 i = w 0 i := va_up_ne _ _ hq
      have w1 : (va_up (va_up w 0 (va_up (w 0) (sc 3) (pfx (fun b => 1200 - 150 * b) zr 6))) 1 (va_up (w 1) (sc 3) (va_up (pfx (gB y1 t1) zr 6) 0 (gB y1 t1 0 + (y1 - smN (gB y1 t1) 6))))) 1 i = w 1 i := va_up_ne _ _ hq
      have e1 : (va_up (va_up e 1 (va_up (e 1) (sc 3) 60)) 2 (va_up (e 2) (sc 3) 0)) 1 i = e 1 i := va_up_ne _ _ hq
      have e2 : (va_up (va_up e 1 (va_up (e 1) (sc 3) 60)) 2 (va_up (e 2) (sc 3) 0)) 2 i = e 2 i := va_up_ne _ _ hq
      have a33 : (va_up (va_up (va_up (va_up (va_up ar 2 (va_up (ar 2) x1 (ar 2 x1 - y1))) 3 (va_up (ar 3) (sc 3) (ar 1 x1))) 4 (pfy (ar 4) (6 * sc 3) (fun b => 1200 - 150 * b) 6)) 5 (pfy (ar 5) (6 * sc 3) (fun _ => 60) 6)) 6 (va_up (pfy (ar 6) (6 * sc 3) (gB y1 t1) 6) (6 * sc 3) (gB y1 t1 0 + (y1 - smN (gB y1 t1) 6)))) 3 i = ar 3 i := va_up_ne _ _ hq
      unfold J5
      rw [w0, w1, e1, e2, a33]
      refine ⟨a1, fun j hj => ?_, a3, a5, a6, a7⟩
      obtain ⟨b1, b2, b3⟩ := a2 j hj
      refine ⟨?_, ?_, ?_⟩
      · show pfy (ar 4) (6 * sc 3) (fun b => 1200 - 150 * b) 6 (6 * i + j) = _
        rw [pfy_out hq hj]; exact b1
      · show pfy (ar 5) (6 * sc 3) (fun _ => 60) 6 (6 * i + j) = _
        rw [pfy_out hq hj]; exact b2
      · show va_up (pfy (ar 6) (6 * sc 3) (gB y1 t1) 6) (6 * sc 3) _ (6 * i + j) = _
        rw [va_up_ne _ _ (by omega), pfy_out hq hj]; exact b3
theorem INV.cycle (h : INV t sc ar w e) {x1 z1 : Nat} (hx : x1 < sc 3) (hz : z1 < sc 5) (hd : e 2 x1 = 0) (hc : ar 7 x1 < 12) (ha : ar 12 z1 + fAir (ar 3 x1) ≤ 30) :
    INV (t + 1) (va_up sc 7 0) (va_up (va_up (va_up (va_up (va_up ar 4 (pfy (ar 4) (6 * x1) (fun b => shA (ar 3 x1) (ar 4 (6 * x1 + b))) 6)) 5 (pfy (ar 5) (6 * x1) (fun b => shL (ar 3 x1) (ar 5 (6 * x1 + b))) 6)) 7 (va_up (ar 7) x1 (ar 7 x1 + 1))) 12 (va_up (ar 12) z1 (ar 12 z1 + fAir (ar 3 x1)))) 13 (va_up (ar 13) z1 (ar 13 z1 + fAir (ar 3 x1))))
      (va_up w 0 (va_up (w 0) x1 (shP (ar 3 x1) (w 0 x1) 6))) (va_up e 1 (va_up (e 1) x1 (shL (ar 3 x1) (e 1 x1)))) := by
  have hf := fAir_le (ar 3 x1)
  refine ⟨h.j0, h.j1, h.j2, fun i => ⟨(h.j3 i).1, ?_, (h.j3 i).2.2⟩, fun i hi => ⟨?_, (h.j4 i hi).2⟩, fun i hi => ?_, h.j6, ⟨fun i => ?_, fun i hi => ⟨?_, ?_⟩⟩, h.j8, ⟨(h.mono 0).j9.1, fun i => ?_⟩⟩
  · show va_up (ar 7) x1 (ar 7 x1 + 1) i ≤ 12
    have := (h.j3 i).2.1
    unfold va_up
    split <;> omega
  · show va_up (ar 7) x1 (ar 7 x1 + 1) i = 0
    have hi2 : sc 3 ≤ i := hi
    rw [va_up_ne _ _ (by omega)]
    exact (h.j4 i hi).1
  · by_cases hq : i = x1
    · subst hq
      obtain ⟨a1, a2, a3, a5, a6, a7⟩ := h.j5 i hx
      have w0 : (va_up w 0 (va_up (w 0) i (shP (ar 3 i) (w 0 i) 6))) 0 i = shP (ar 3 i) (w 0 i) 6 := va_up_self _ _ _
      have e1 : (va_up e 1 (va_up (e 1) i (shL (ar 3 i) (e 1 i)))) 1 i = shL (ar 3 i) (e 1 i) := va_up_self _ _ _
      have a77 : (va_up (va_up (va_up (va_up (va_up ar 4 (pfy (ar 4) (6 * i) (fun b => shA (ar 3 i) (ar 4 (6 * i + b))) 6)) 5 (pfy (ar 5) (6 * i) (fun b => shL (ar 3 i) (ar 5 (6 * i + b))) 6)) 7 (va_up (ar 7) i (ar 7 i + 1))) 12 (va_up (ar 12) z1 (ar 12 z1 + fAir (ar 3 i)))) 13 (va_up (ar 13) z1 (ar 13 z1 + fAir (ar 3 i)))) 7 i = ar 7 i + 1 := va_up_self _ _ _
      unfold J5
      rw [w0, e1, a77]
      refine ⟨⟨fun j => ?_, a1.2⟩, fun j hj => ⟨?_, ?_, (a2 j hj).2.2⟩, a3, ?_, fun _ j hj => ?_, fun z => absurd hd z⟩
      · unfold shP
        split
        · exact Nat.le_trans (shA_le _ _) (a1.1 j)
        · exact a1.1 j
      · show pfy (ar 4) (6 * i) (fun b => shA (ar 3 i) (ar 4 (6 * i + b))) 6 (6 * i + j) = _
        rw [pfy_in hj, (a2 j hj).1]
        unfold shP
        rw [if_pos hj]
      · show pfy (ar 5) (6 * i) (fun b => shL (ar 3 i) (ar 5 (6 * i + b))) 6 (6 * i + j) = _
        rw [pfy_in hj, (a2 j hj).2.1]
      · rw [a5]; rfl
      · have := a6 hd j hj
        unfold shP
        rw [if_pos hj, this]; rfl
    · obtain ⟨a1, a2, a3, a5, a6, a7⟩ := h.j5 i hi
      have w0 : (va_up w 0 (va_up (w 0) x1 (shP (ar 3 x1) (w 0 x1) 6))) 0 i = w 0 i := va_up_ne _ _ hq
      have e1 : (va_up e 1 (va_up (e 1) x1 (shL (ar 3 x1) (e 1 x1)))) 1 i = e 1 i := va_up_ne _ _ hq
      have a77 : (va_up (va_up (va_up (va_up (va_up ar 4 (pfy (ar 4) (6 * x1) (fun b => shA (ar 3 x1) (ar 4 (6 * x1 + b))) 6)) 5 (pfy (ar 5) (6 * x1) (fun b => shL (ar 3 x1) (ar 5 (6 * x1 + b))) 6)) 7 (va_up (ar 7) x1 (ar 7 x1 + 1))) 12 (va_up (ar 12) z1 (ar 12 z1 + fAir (ar 3 x1)))) 13 (va_up (ar 13) z1 (ar 13 z1 + fAir (ar 3 x1)))) 7 i = ar 7 i := va_up_ne _ _ hq
      unfold J5
      rw [w0, e1, a77]
      exact ⟨a1, fun j hj => ⟨(show pfy (ar 4) (6 * x1) (fun b => shA (ar 3 x1) (ar 4 (6 * x1 + b))) 6 (6 * i + j) = _ from (pfy_out hq hj).trans (a2 j hj).1), (show pfy (ar 5) (6 * x1) (fun b => shL (ar 3 x1) (ar 5 (6 * x1 + b))) 6 (6 * i + j) = _ from (pfy_out hq hj).trans (a2 j hj).2.1), (a2 j hj).2.2⟩, a3, a5, a6, a7⟩
  · show va_up (ar 12) z1 (ar 12 z1 + fAir (ar 3 x1)) i ≤ 30
    have := h.j7.1 i
    unfold va_up
    split <;> omega
  · show va_up (ar 12) z1 (ar 12 z1 + fAir (ar 3 x1)) i = 0
    have hi2 : sc 5 ≤ i := hi
    rw [va_up_ne _ _ (by omega)]
    exact (h.j7.2 i hi).1
  · show va_up (ar 13) z1 (ar 13 z1 + fAir (ar 3 x1)) i = 0
    have hi2 : sc 5 ≤ i := hi
    rw [va_up_ne _ _ (by omega)]
    exact (h.j7.2 i hi).2
  · show va_up (ar 13) z1 (ar 13 z1 + fAir (ar 3 x1)) i ≤ 12 * (t + 1)
    have := h.j9.2 i
    have := h.j9.2 z1
    unfold va_up
    split <;> omega
theorem INV.draw (h : INV t sc ar w e) {x1 z1 : Nat} (hx : x1 < sc 3) (hz : z1 < sc 4) :
    INV (t + 1) (va_up sc 7 0) (va_up (va_up ar 4 (pfy (ar 4) (6 * x1) (bW (ar 10 z1) (ar 11 z1)) 6)) 8 (va_up (ar 8) x1 1)) (va_up w 0 (va_up (w 0) x1 (pfx (bW (ar 10 z1) (ar 11 z1)) (w 0 x1) 6))) (va_up e 2 (va_up (e 2) x1 (z1 + 1))) := by
  refine ⟨h.j0, h.j1, h.j2, fun i => ⟨(h.j3 i).1, (h.j3 i).2.1, ?_, (h.j3 i).2.2.2⟩, fun i hi => ⟨(h.j4 i hi).1, ?_, (h.j4 i hi).2.2⟩, fun i hi => ?_, h.j6, h.j7, h.j8, (h.mono 0).j9⟩
  · show va_up (ar 8) x1 1 i ≤ 1
    have := (h.j3 i).2.2.1
    unfold va_up
    split <;> omega
  · show va_up (ar 8) x1 1 i = 0
    have hi2 : sc 3 ≤ i := hi
    rw [va_up_ne _ _ (by omega)]
    exact (h.j4 i hi).2.1
  · by_cases hq : i = x1
    · subst hq
      obtain ⟨a1, a2, a3, a5, a6, a7⟩ := h.j5 i hx
      have w0 : (va_up w 0 (va_up (w 0) i (pfx (bW (ar 10 z1) (ar 11 z1)) (w 0 i) 6))) 0 i = pfx (bW (ar 10 z1) (ar 11 z1)) (w 0 i) 6 := va_up_self _ _ _
      have e2 : (va_up e 2 (va_up (e 2) i (z1 + 1))) 2 i = z1 + 1 := va_up_self _ _ _
      have a88 : (va_up (va_up ar 4 (pfy (ar 4) (6 * i) (bW (ar 10 z1) (ar 11 z1)) 6)) 8 (va_up (ar 8) i 1)) 8 i = 1 := va_up_self _ _ _
      unfold J5
      rw [w0, e2, a88]
      refine ⟨⟨fun j => ?_, a1.2⟩, fun j hj => ⟨?_, (a2 j hj).2⟩, ⟨show z1 + 1 ≤ sc 4 by omega, by omega⟩, a5, fun z => absurd z (by omega), fun _ j hj => ?_⟩
      · unfold pfx
        split
        · have := bW_le (a := ar 10 z1) (d := ar 11 z1) (b := j) (h.j6 z1 hz).1.2
          omega
        · exact a1.1 j
      · show pfy (ar 4) (6 * i) (bW (ar 10 z1) (ar 11 z1)) 6 (6 * i + j) = _
        rw [pfy_in hj, pfx_lt hj]
      · rw [pfx_lt hj, Nat.add_sub_cancel]; rfl
    · obtain ⟨a1, a2, a3, a5, a6, a7⟩ := h.j5 i hi
      have w0 : (va_up w 0 (va_up (w 0) x1 (pfx (bW (ar 10 z1) (ar 11 z1)) (w 0 x1) 6))) 0 i = w 0 i := va_up_ne _ _ hq
      have e2 : (va_up e 2 (va_up (e 2) x1 (z1 + 1))) 2 i = e 2 i := va_up_ne _ _ hq
      have a88 : (va_up (va_up ar 4 (pfy (ar 4) (6 * x1) (bW (ar 10 z1) (ar 11 z1)) 6)) 8 (va_up (ar 8) x1 1)) 8 i = ar 8 i := va_up_ne _ _ hq
      unfold J5
      rw [w0, e2, a88]
      exact ⟨a1, fun j hj => ⟨(show pfy (ar 4) (6 * x1) (bW (ar 10 z1) (ar 11 z1)) 6 (6 * i + j) = _ from (pfy_out hq hj).trans (a2 j hj).1), (a2 j hj).2⟩, a3, a5, a6, a7⟩
theorem INV.trim (h : INV t sc ar w e) (v : Nat) {x1 q : Nat} (hx : x1 < sc 3) (hq : q ≤ 1) : INV (t + 1) (va_up (va_up (va_up sc 0 0) 1 0) 7 0) (va_up ar 9 (va_up (ar 9) x1 q)) w (va_up e 3 (va_up (e 3) 0 v)) := by
  refine ⟨J0.nil _ _ rfl rfl, h.j1, h.j2, fun i => ⟨(h.j3 i).1, (h.j3 i).2.1, (h.j3 i).2.2.1, ?_⟩, fun i hi => ⟨(h.j4 i hi).1, (h.j4 i hi).2.1, ?_⟩, h.j5, h.j6, h.j7, h.j8, (h.mono 0).j9⟩
  · show va_up (ar 9) x1 q i ≤ 1
    have := (h.j3 i).2.2.2
    unfold va_up
    split <;> omega
  · show va_up (ar 9) x1 q i = 0
    have hi2 : sc 3 ≤ i := hi
    rw [va_up_ne _ _ (by omega)]
    exact (h.j4 i hi).2.2
theorem INV.pass (h : INV t sc ar w e) {x1 : Nat} (hx : x1 ≤ 30) : INV (t + 1) (va_up (va_up sc 6 (sc 6 + x1)) 7 0) (va_up ar 12 (pfx zr (ar 12) 6)) w e := by
  refine ⟨h.j0, h.j1, h.j2, h.j3, h.j4, h.j5, h.j6, ⟨fun i => ?_, fun i hi => ⟨?_, (h.j7.2 i hi).2⟩⟩, h.j8, ⟨show sc 6 + x1 ≤ _ by have := h.j9.1; omega, (h.mono 0).j9.2⟩⟩
  · show pfx zr (ar 12) 6 i ≤ 30
    have := h.j7.1 i
    unfold pfx zr
    split <;> omega
  · show pfx zr (ar 12) 6 i = 0
    have := (h.j7.2 i hi).1
    unfold pfx zr
    split <;> omega
theorem INV.measure (h : INV t sc ar w e) {x1 z1 : Nat} (hz : z1 ≤ 200) : INV (t + 1) (va_up sc 7 0) (va_up ar 14 (va_up (ar 14) x1 z1)) w e := by
  refine ⟨h.j0, h.j1, h.j2, h.j3, h.j4, h.j5, h.j6, h.j7, fun j => ?_, (h.mono 0).j9⟩
  show va_up (ar 14) x1 z1 j ≤ 200
  have := h.j8 j
  unfold va_up
  split <;> omega
theorem INV.init : INV 0 (fun _ => 0) (fun _ _ => 0) (fun _ _ _ => 0) (fun _ _ => 0) :=
  ⟨J0.nil _ _ rfl rfl, ⟨Nat.zero_le _, Nat.zero_le _, Nat.zero_le _, Nat.zero_le _⟩, fun _ => ⟨(by decide : 0 < 4), Nat.zero_le _⟩, fun _ => ⟨(by decide : 0 < 4), Nat.zero_le _, Nat.zero_le _, Nat.zero_le _⟩, fun _ _ => ⟨rfl, rfl, rfl⟩, fun _ hi => absurd hi (Nat.not_lt_zero _), fun _ hi => absurd hi (Nat.not_lt_zero _), ⟨fun _ => Nat.zero_le _, fun _ _ => ⟨rfl, rfl⟩⟩, fun _ => Nat.zero_le _, ⟨Nat.zero_le _, fun _ => Nat.zero_le _⟩⟩
end INVS
