/-! The law's numbers and the yard's: what holds of both behind t turns -/
/-- heights by cycles -/
def hS (k : Nat) : Nat → Nat
  | 0 => 60
  | c + 1 => shL k (hS k c)
theorem hS_ok : ∀ k, k < 4 → ∀ c, c < 13 → 0 < hS k c ∧ hS k c ≤ 60 := by decide +kernel
theorem wS_ok : ∀ k, k < 4 → ∀ c, c < 13 → ∀ b, b < 6 → 49 < wS k c (1200 - 150 * b) ∧ wS k c (1200 - 150 * b) ≤ 1200 - 150 * b := by decide +kernel
theorem wS_dn : ∀ k, k < 4 → ∀ c, c < 13 → ∀ b, b < 5 → wS k c (1200 - 150 * (b + 1)) < wS k c (1200 - 150 * b) := by decide +kernel
theorem bW_pos (a d b : Nat) : 49 < bW a d b := by
  unfold bW
  omega
theorem bW_dn (a d b : Nat) : bW a d (b + 1) ≤ bW a d b := by
  unfold bW
  have : a / 10 * (b + 1 - d) ≤ a / 10 * (b + 1 + 1 - d) := Nat.mul_le_mul_left _ (by omega)
  omega
theorem bW_in {a d b : Nat} (ha : 300 ≤ a) (hb : b + 1 ≤ d) : bW a d b = a := by
  unfold bW
  rw [show b + 1 - d = 0 by omega, Nat.mul_zero]
  omega
theorem fAir_is {k : Nat} (h : k < 4) : fAir k = 8 ∨ fAir k = 2 ∨ fAir k = 5 ∨ fAir k = 12 := by
  rcases (show k = 0 ∨ k = 1 ∨ k = 2 ∨ k = 3 by omega) with rfl | rfl | rfl | rfl <;> decide
theorem shA_lt {k w : Nat} (hk : k < 4) (hw : 0 < w) : shA k w < w := by
  unfold shA
  have h5 : 5 ≤ fAcr k := by rcases (show k = 0 ∨ k = 1 ∨ k = 2 ∨ k = 3 by omega) with rfl | rfl | rfl | rfl <;> decide
  have h1 : w * (100 - fAcr k) ≤ w * 95 := Nat.mul_le_mul_left _ (by omega)
  omega
/-- each band of a new cone has grams; together they are the cone's -/
theorem gF_pos {g t : Nat} (hg : 10 ≤ g) (ht : t ≤ 5) : ∀ j, j < 6 → 0 < gF g t j := by
  have key : ∀ b, 1 ≤ b → b < 6 → 0 < gB g t b := fun b h1 h2 => by
    unfold gB
    rw [pS6]
    refine Nat.div_pos ?_ (by omega)
    have e1 : 10 * (10 + t * 1) ≤ g * pF t b := Nat.mul_le_mul hg (by unfold pF; have := Nat.mul_le_mul_left t h1; omega)
    omega
  intro j hj
  unfold gF
  by_cases h0 : j = 0
  · rw [h0, va_up_self]
    have hs := gB_sum g t 6
    rw [pS6] at hs
    have e6 : smN (gB g t) 6 = gB g t 0 + (gB g t 1 + gB g t 2 + gB g t 3 + gB g t 4 + gB g t 5) := by simp only [smN]; omega
    have hd : ∀ b, gB g t b * (60 + t * 15) ≤ g * pF t b := fun b => by unfold gB; rw [pS6]; exact Nat.div_mul_le_self _ _
    have p1 := hd 1
    have p2 := hd 2
    have p3 := hd 3
    have p4 := hd 4
    have p5 := hd 5
    have hsum : (gB g t 1 + gB g t 2 + gB g t 3 + gB g t 4 + gB g t 5) * (60 + t * 15) ≤ g * (50 + t * 15) := by
      have : g * pF t 1 + g * pF t 2 + g * pF t 3 + g * pF t 4 + g * pF t 5 = g * (50 + t * 15) := by
        rw [← Nat.mul_add, ← Nat.mul_add, ← Nat.mul_add, ← Nat.mul_add]
        congr 1
        unfold pF
        omega
      rw [Nat.add_mul, Nat.add_mul, Nat.add_mul, Nat.add_mul]
      omega
    have hlt : gB g t 1 + gB g t 2 + gB g t 3 + gB g t 4 + gB g t 5 < g := by
      refine Nat.lt_of_mul_lt_mul_right (a := 60 + t * 15) (Nat.lt_of_le_of_lt hsum ?_)
      exact Nat.mul_lt_mul_of_pos_left (by omega) (by omega)
    have hle := gB_le g t (i := 6) (Nat.le_refl _)
    omega
  · rw [va_up_ne _ _ h0]
    exact key j (by omega) hj
theorem smN_cg {f g : Nat → Nat} : ∀ n, (∀ j, j < n → f j = g j) → smN f n = smN g n
  | 0, _ => rfl
  | n + 1, h => by simp only [smN]; rw [smN_cg n (fun j hj => h j (by omega)), h n (by omega)]
theorem smN_up {f : Nat → Nat} {k v : Nat} : ∀ n, k < n → smN (va_up f k v) n + f k = smN f n + v
  | 0, h => absurd h (Nat.not_lt_zero _)
  | n + 1, h => by
    simp only [smN]
    by_cases hk : k = n
    · subst hk
      rw [va_up_self, smN_cg (f := va_up f k v) (g := f) k (fun j hj => va_up_ne _ _ (by omega))]
      omega
    · rw [va_up_ne _ _ (Ne.symm hk)]
      have := smN_up (f := f) (k := k) (v := v) n (by omega)
      omega
theorem gF_sum (g t : Nat) : smN (gF g t) 6 = g := by
  have h1 := smN_up (f := gB g t) (k := 0) (v := gB g t 0 + (g - smN (gB g t) 6)) 6 (by decide)
  have h2 := gB_le g t (i := 6) (Nat.le_refl _)
  unfold gF
  omega
theorem smN_one {f : Nat → Nat} {n j : Nat} (h : j < n) : f j ≤ smN f n := Nat.le_trans (by simp only [smN]; omega) (smN_mono f (i := j + 1) h)
/-- the row 2 of the place k is set to what it is -/
theorem up_id {o : Nat → Nat → Nat} {k j v : Nat} (h : o k j = v) : va_up o k (va_up (o k) j v) = o := by
  funext a b
  by_cases ha : a = k
  · subst ha
    rw [va_up_self]
    by_cases hb : b = j
    · subst hb; rw [va_up_self, h]
    · rw [va_up_ne _ _ hb]
  · rw [va_up_ne _ _ ha]
/-- a cone -/
def CN (ar : Nat → Nat → Nat) (w : Nat → Nat → Nat → Nat) (e o : Nat → Nat → Nat) (i : Nat) : Prop :=
  (∀ j, w 0 i j ≤ 1200) ∧ (∀ j, w 1 i j ≤ 500) ∧ e 1 i = hS (ar 3 i) (ar 7 i) ∧ (e 2 i = 0 → ∀ j, j < 6 → w 0 i j = wS (ar 3 i) (ar 7 i) (1200 - 150 * j)) ∧ (e 2 i ≠ 0 → ∀ j, j < 6 → w 0 i j = bW (ar 10 (e 2 i - 1)) (ar 11 (e 2 i - 1)) j) ∧ (∀ j, j < 6 → 0 < w 1 i j) ∧ smN (w 1 i) 6 = o 1 (4 * i)
def L1 (sc : Nat → Nat) : Prop := sc 2 ≤ 10 ∧ sc 3 ≤ 12 ∧ sc 4 ≤ 8 ∧ sc 5 ≤ 6
def L3 (sc : Nat → Nat) (ar e : Nat → Nat → Nat) : Prop := ∀ i, ar 3 i < 4 ∧ ar 7 i ≤ 12 ∧ ar 9 i ≤ 1 ∧ e 2 i ≤ sc 4
def L4 (sc : Nat → Nat) (ar e : Nat → Nat → Nat) : Prop := ∀ i, sc 3 ≤ i → ar 7 i = 0 ∧ ar 9 i = 0 ∧ e 2 i = 0
def L6 (sc : Nat → Nat) (ar o : Nat → Nat → Nat) : Prop := ∀ i, i < sc 4 → (300 ≤ ar 10 i ∧ ar 10 i ≤ 700) ∧ (1 ≤ ar 11 i ∧ ar 11 i ≤ 6) ∧ o 2 (2 * i) = ar 10 i ∧ o 2 (2 * i + 1) = ar 11 i
def L7 (sc : Nat → Nat) (ar : Nat → Nat → Nat) : Prop := (∀ i, ar 12 i ≤ 30 ∧ ar 12 i ≤ ar 13 i) ∧ ∀ i, sc 5 ≤ i → ar 12 i = 0 ∧ ar 13 i = 0
def LM (sc : Nat → Nat) (o : Nat → Nat → Nat) : Prop := o 0 0 = sc 2 ∧ o 0 1 = sc 3 ∧ o 0 2 = sc 4 ∧ o 0 3 = sc 5 ∧ o 0 4 = sc 6 ∧ (0 < sc 3 → 0 < sc 2)
def LC (ar e o : Nat → Nat → Nat) : Prop := ∀ i, o 1 (4 * i + 1) = ar 7 i ∧ o 1 (4 * i + 2) = (if e 2 i = 0 then 0 else 1) ∧ o 1 (4 * i + 3) = ar 9 i
def LR (ar o : Nat → Nat → Nat) : Prop := (∀ j, j < 8 → o 4 j = ar 14 j) ∧ o 4 8 = smN (ar 14) 8
def LI (t : Nat) (sc : Nat → Nat) (ar : Nat → Nat → Nat) (w : Nat → Nat → Nat → Nat) (e o : Nat → Nat → Nat) : Prop :=
  L1 sc ∧ (∀ i, ar 1 i < 4 ∧ ar 2 i ≤ 5000) ∧ L3 sc ar e ∧ L4 sc ar e ∧ (∀ i, i < sc 3 → CN ar w e o i) ∧ L6 sc ar o ∧ L7 sc ar ∧ (∀ j, ar 14 j ≤ 200) ∧ (sc 6 ≤ 30 * t ∧ ∀ i, ar 13 i ≤ 12 * t) ∧ LM sc o ∧ LC ar e o ∧ (∀ i, o 3 i = ar 12 i) ∧ LR ar o
section LIS
variable {t : Nat} {sc : Nat → Nat} {ar : Nat → Nat → Nat} {w : Nat → Nat → Nat → Nat} {e o : Nat → Nat → Nat}
theorem LI.l1 (h : LI t sc ar w e o) : sc 2 ≤ 10 ∧ sc 3 ≤ 12 ∧ sc 4 ≤ 8 ∧ sc 5 ≤ 6 := h.1
theorem LI.l2 (h : LI t sc ar w e o) : ∀ i, ar 1 i < 4 ∧ ar 2 i ≤ 5000 := h.2.1
theorem LI.l3 (h : LI t sc ar w e o) : L3 sc ar e := h.2.2.1
theorem LI.l4 (h : LI t sc ar w e o) : L4 sc ar e := h.2.2.2.1
theorem LI.l5 (h : LI t sc ar w e o) : ∀ i, i < sc 3 → CN ar w e o i := h.2.2.2.2.1
theorem LI.l6 (h : LI t sc ar w e o) : L6 sc ar o := h.2.2.2.2.2.1
theorem LI.l7 (h : LI t sc ar w e o) : L7 sc ar := h.2.2.2.2.2.2.1
theorem LI.l8 (h : LI t sc ar w e o) : ∀ j, ar 14 j ≤ 200 := h.2.2.2.2.2.2.2.1
theorem LI.l9 (h : LI t sc ar w e o) : sc 6 ≤ 30 * t ∧ ∀ i, ar 13 i ≤ 12 * t := h.2.2.2.2.2.2.2.2.1
theorem LI.lm (h : LI t sc ar w e o) : LM sc o := h.2.2.2.2.2.2.2.2.2.1
theorem LI.lc (h : LI t sc ar w e o) : LC ar e o := h.2.2.2.2.2.2.2.2.2.2.1
theorem LI.lh (h : LI t sc ar w e o) : ∀ i, o 3 i = ar 12 i := h.2.2.2.2.2.2.2.2.2.2.2.1
theorem LI.lr (h : LI t sc ar w e o) : LR ar o := h.2.2.2.2.2.2.2.2.2.2.2.2
theorem LI.up9 (h : LI t sc ar w e o) : sc 6 ≤ 30 * (t + 1) ∧ ∀ i, ar 13 i ≤ 12 * (t + 1) := ⟨by have := h.l9.1; omega, fun i => by have := h.l9.2 i; omega⟩
theorem LI.up (h : LI t sc ar w e o) : LI (t + 1) sc ar w e o := ⟨h.l1, h.l2, h.l3, h.l4, h.l5, h.l6, h.l7, h.l8, h.up9, h.lm, h.lc, h.lh, h.lr⟩
/-- the typed letters' number is no one's business -/
theorem LI.m5 (h : LI t sc ar w e o) (v : Nat) : LI t sc ar w e (va_up o 0 (va_up (o 0) 5 v)) := ⟨h.l1, h.l2, h.l3, h.l4, h.l5, h.l6, h.l7, h.l8, h.l9, h.lm, h.lc, h.lh, h.lr⟩
theorem LI.ht (h : LI t sc ar w e o) {i : Nat} (hi : i < sc 3) : 0 < e 1 i ∧ e 1 i ≤ 60 := by
  rw [(h.l5 i hi).2.2.1]
  exact hS_ok _ (h.l3 i).1 _ (by have := (h.l3 i).2.1; omega)
theorem LI.wp (h : LI t sc ar w e o) {i : Nat} (hi : i < sc 3) {j : Nat} (hj : j < 6) : 49 < w 0 i j := by
  by_cases h0 : e 2 i = 0
  · rw [(h.l5 i hi).2.2.2.1 h0 j hj]
    exact (wS_ok _ (h.l3 i).1 _ (by have := (h.l3 i).2.1; omega) j hj).1
  · rw [(h.l5 i hi).2.2.2.2.1 h0 j hj]
    exact bW_pos _ _ _
theorem LI.hcb (h : LI t sc ar w e o) : ∀ i, i < sc 3 → ar 3 i < 4 ∧ (∀ j, w 0 i j ≤ 1200) ∧ e 1 i ≤ 60 ∧ (∀ j, w 1 i j ≤ 500) ∧ ar 7 i ≤ 12 ∧ ar 9 i ≤ 1 := fun i hi => ⟨(h.l3 i).1, (h.l5 i hi).1, (h.ht hi).2, (h.l5 i hi).2.1, (h.l3 i).2.1, (h.l3 i).2.2.1⟩
theorem LI.hbb (h : LI t sc ar w e o) : ∀ i, i < sc 4 → ar 10 i ≤ 700 ∧ ar 11 i ≤ 6 := fun i hi => ⟨(h.l6 i hi).1.2, (h.l6 i hi).2.1.2⟩
theorem LI.hdr (h : LI t sc ar w e o) : ∀ i, i < sc 3 → e 2 i ≤ sc 4 := fun i _ => (h.l3 i).2.2.2
theorem LI.r8 (h : LI t sc ar w e o) : o 4 8 ≤ 1600 := by rw [h.lr.2]; exact smN_le h.l8 8
/-- widths go down along the cone -/
theorem LI.wd (h : LI t sc ar w e o) {i : Nat} (hi : i < sc 3) {j : Nat} (hj : j < 5) : w 0 i (j + 1) ≤ w 0 i j ∧ (e 2 i = 0 → w 0 i (j + 1) < w 0 i j) := by
  by_cases h0 : e 2 i = 0
  · have := wS_dn _ (h.l3 i).1 _ (show ar 7 i < 13 by have := (h.l3 i).2.1; omega) j hj
    rw [(h.l5 i hi).2.2.2.1 h0 j (by omega), (h.l5 i hi).2.2.2.1 h0 (j + 1) (by omega)]
    exact ⟨by omega, fun _ => this⟩
  · rw [(h.l5 i hi).2.2.2.2.1 h0 j (by omega), (h.l5 i hi).2.2.2.2.1 h0 (j + 1) (by omega)]
    exact ⟨bW_dn _ _ _, fun z => absurd z h0⟩
/-- and are at most what they were formed -/
theorem LI.wf (h : LI t sc ar w e o) {i : Nat} (hi : i < sc 3) {j : Nat} (hj : j < 6) (h0 : e 2 i = 0) : w 0 i j ≤ 1200 - 150 * j := by
  rw [(h.l5 i hi).2.2.2.1 h0 j hj]
  exact (wS_ok _ (h.l3 i).1 _ (by have := (h.l3 i).2.1; omega) j hj).2
theorem LI.init : LI 0 (fun _ => 0) (fun _ _ => 0) (fun _ _ _ => 0) (fun _ _ => 0) (fun _ _ => 0) :=
  ⟨⟨Nat.zero_le _, Nat.zero_le _, Nat.zero_le _, Nat.zero_le _⟩, fun _ => ⟨(by decide : 0 < 4), Nat.zero_le _⟩, fun _ => ⟨(by decide : 0 < 4), Nat.zero_le _, Nat.zero_le _, Nat.zero_le _⟩, fun _ _ => ⟨rfl, rfl, rfl⟩, fun _ hi => absurd hi (Nat.not_lt_zero _), fun _ hi => absurd hi (Nat.not_lt_zero _), ⟨fun _ => ⟨Nat.zero_le _, Nat.zero_le _⟩, fun _ _ => ⟨rfl, rfl⟩⟩, fun _ => Nat.zero_le _, ⟨Nat.zero_le _, fun _ => Nat.zero_le _⟩, ⟨rfl, rfl, rfl, rfl, rfl, fun z => absurd z (Nat.lt_irrefl _)⟩, fun _ => ⟨rfl, rfl, rfl⟩, fun _ => rfl, ⟨fun _ _ => rfl, rfl⟩⟩
theorem LI.lot (h : LI t sc ar w e o) (hn : sc 2 < 10) {fu x1 : Nat} (hf : fu < 4) (hx : x1 ≤ 5000) : LI (t + 1) (va_up sc 2 (sc 2 + 1)) (va_up (va_up ar 1 (va_up (ar 1) (sc 2) fu)) 2 (va_up (ar 2) (sc 2) x1)) w e (va_up o 0 (va_up (o 0) 0 (sc 2 + 1))) := by
  refine ⟨⟨show sc 2 + 1 ≤ 10 by omega, h.l1.2⟩, fun i => ⟨?_, ?_⟩, h.l3, h.l4, h.l5, h.l6, h.l7, h.l8, h.up9, ⟨rfl, h.lm.2.1, h.lm.2.2.1, h.lm.2.2.2.1, h.lm.2.2.2.2.1, fun _ => Nat.succ_pos _⟩, h.lc, h.lh, h.lr⟩
  · show va_up (ar 1) (sc 2) fu i < 4
    have := (h.l2 i).1
    unfold va_up
    split <;> omega
  · show va_up (ar 2) (sc 2) x1 i ≤ 5000
    have := (h.l2 i).2
    unfold va_up
    split <;> omega
theorem LI.hand (h : LI t sc ar w e o) (hn : sc 5 < 6) : LI (t + 1) (va_up sc 5 (sc 5 + 1)) ar w e (va_up o 0 (va_up (o 0) 3 (sc 5 + 1))) :=
  ⟨⟨h.l1.1, h.l1.2.1, h.l1.2.2.1, show sc 5 + 1 ≤ 6 by omega⟩, h.l2, h.l3, h.l4, h.l5, h.l6, ⟨h.l7.1, fun i hi => h.l7.2 i (by have : sc 5 + 1 ≤ i := hi; omega)⟩, h.l8, h.up9, ⟨h.lm.1, h.lm.2.1, h.lm.2.2.1, rfl, h.lm.2.2.2.2⟩, h.lc, h.lh, h.lr⟩
theorem LI.block (h : LI t sc ar w e o) (hn : sc 4 < 8) {x1 z1 : Nat} (hx : 300 ≤ x1 ∧ x1 ≤ 700) (hz : 1 ≤ z1 ∧ z1 ≤ 6) : LI (t + 1) (va_up sc 4 (sc 4 + 1)) (va_up (va_up ar 10 (va_up (ar 10) (sc 4) x1)) 11 (va_up (ar 11) (sc 4) z1)) w e (va_up (va_up o 2 (va_up (va_up (o 2) (2 * sc 4) x1) (2 * sc 4 + 1) z1)) 0 (va_up (o 0) 2 (sc 4 + 1))) := by
  refine ⟨⟨h.l1.1, h.l1.2.1, show sc 4 + 1 ≤ 8 by omega, h.l1.2.2.2⟩, h.l2, fun i => ⟨(h.l3 i).1, (h.l3 i).2.1, (h.l3 i).2.2.1, ?_⟩, h.l4, fun i hi => ?_, fun i hi => ?_, h.l7, h.l8, h.up9, ⟨h.lm.1, h.lm.2.1, rfl, h.lm.2.2.2⟩, h.lc, h.lh, h.lr⟩
  · show e 2 i ≤ sc 4 + 1
    have := (h.l3 i).2.2.2
    omega
  · obtain ⟨a1, a2, a3, a4, a5, a6, a7⟩ := h.l5 i hi
    refine ⟨a1, a2, a3, a4, fun hn2 j hj => ?_, a6, a7⟩
    rw [a5 hn2 j hj]
    have := (h.l3 i).2.2.2
    show _ = bW (va_up (ar 10) (sc 4) x1 (e 2 i - 1)) (va_up (ar 11) (sc 4) z1 (e 2 i - 1)) j
    rw [va_up_ne _ _ (by omega), va_up_ne _ _ (by omega)]
  · have hi2 : i < sc 4 + 1 := hi
    show (300 ≤ va_up (ar 10) (sc 4) x1 i ∧ va_up (ar 10) (sc 4) x1 i ≤ 700) ∧ (1 ≤ va_up (ar 11) (sc 4) z1 i ∧ va_up (ar 11) (sc 4) z1 i ≤ 6) ∧ va_up (va_up (o 2) (2 * sc 4) x1) (2 * sc 4 + 1) z1 (2 * i) = va_up (ar 10) (sc 4) x1 i ∧ va_up (va_up (o 2) (2 * sc 4) x1) (2 * sc 4 + 1) z1 (2 * i + 1) = va_up (ar 11) (sc 4) z1 i
    by_cases hq : i = sc 4
    · rw [hq, va_up_self, va_up_self, va_up_self, va_up_ne _ _ (by omega), va_up_self]; exact ⟨hx, hz, rfl, rfl⟩
    · rw [va_up_ne _ _ hq, va_up_ne _ _ hq, va_up_ne _ _ (by omega), va_up_ne _ _ (by omega), va_up_ne _ _ (by omega), va_up_ne _ _ (by omega)]; exact h.l6 i (by omega)
theorem LI.cone (h : LI t sc ar w e o) {x1 y1 t1 : Nat} (hx : x1 < sc 2) (hy0 : 10 ≤ y1) (hy : y1 ≤ 500) (ht : t1 ≤ 5) (hn : sc 3 < 12) :
    LI (t + 1) (va_up sc 3 (sc 3 + 1)) (va_up (va_up ar 2 (va_up (ar 2) x1 (ar 2 x1 - y1))) 3 (va_up (ar 3) (sc 3) (ar 1 x1)))
      (va_up (va_up w 0 (va_up (w 0) (sc 3) (pfx (fun b => 1200 - 150 * b) zr 6))) 1 (va_up (w 1) (sc 3) (va_up (pfx (gB y1 t1) zr 6) 0 (gB y1 t1 0 + (y1 - smN (gB y1 t1) 6))))) (va_up (va_up e 1 (va_up (e 1) (sc 3) 60)) 2 (va_up (e 2) (sc 3) 0))
      (va_up (va_up o 1 (va_up (o 1) (4 * sc 3) y1)) 0 (va_up (o 0) 1 (sc 3 + 1))) := by
  obtain ⟨h7, h9, h2⟩ := h.l4 (sc 3) (Nat.le_refl _)
  have hgf : ∀ j, j < 6 → va_up (pfx (gB y1 t1) zr 6) 0 (gB y1 t1 0 + (y1 - smN (gB y1 t1) 6)) j = gF y1 t1 j := fun j hj => by
    unfold gF
    by_cases hj0 : j = 0
    · rw [hj0, va_up_self, va_up_self]
    · rw [va_up_ne _ _ hj0, va_up_ne _ _ hj0, pfx_lt hj]
  have hgs := gF_sum y1 t1
  refine ⟨⟨h.l1.1, show sc 3 + 1 ≤ 12 by omega, h.l1.2.2⟩, fun i => ⟨(h.l2 i).1, ?_⟩, fun i => ⟨?_, (h.l3 i).2.1, (h.l3 i).2.2.1, ?_⟩, fun i hi => ⟨(h.l4 i (by have : sc 3 + 1 ≤ i := hi; omega)).1, (h.l4 i (by have : sc 3 + 1 ≤ i := hi; omega)).2.1, ?_⟩, fun i hi => ?_, h.l6, h.l7, h.l8, h.up9, ⟨h.lm.1, rfl, h.lm.2.2.1, h.lm.2.2.2.1, h.lm.2.2.2.2.1, fun _ => show 0 < sc 2 by omega⟩, fun i => ?_, h.lh, h.lr⟩
  · show va_up (ar 2) x1 (ar 2 x1 - y1) i ≤ 5000
    have := (h.l2 i).2
    have := (h.l2 x1).2
    unfold va_up
    split <;> omega
  · show va_up (ar 3) (sc 3) (ar 1 x1) i < 4
    have := (h.l3 i).1
    have := (h.l2 x1).1
    unfold va_up
    split <;> omega
  · show va_up (e 2) (sc 3) 0 i ≤ sc 4
    have := (h.l3 i).2.2.2
    unfold va_up
    split <;> omega
  · show va_up (e 2) (sc 3) 0 i = 0
    have hi2 : sc 3 + 1 ≤ i := hi
    rw [va_up_ne _ _ (by omega)]
    exact (h.l4 i (by omega)).2.2
  · have hi2 : i < sc 3 + 1 := hi
    by_cases hq : i = sc 3
    · subst hq
      unfold CN
      show (∀ j, va_up (w 0) (sc 3) (pfx (fun b => 1200 - 150 * b) zr 6) (sc 3) j ≤ 1200) ∧ (∀ j, va_up (w 1) (sc 3) (va_up (pfx (gB y1 t1) zr 6) 0 (gB y1 t1 0 + (y1 - smN (gB y1 t1) 6))) (sc 3) j ≤ 500) ∧ va_up (e 1) (sc 3) 60 (sc 3) = hS (va_up (ar 3) (sc 3) (ar 1 x1) (sc 3)) (ar 7 (sc 3)) ∧ (va_up (e 2) (sc 3) 0 (sc 3) = 0 → ∀ j, j < 6 → va_up (w 0) (sc 3) (pfx (fun b => 1200 - 150 * b) zr 6) (sc 3) j = wS (va_up (ar 3) (sc 3) (ar 1 x1) (sc 3)) (ar 7 (sc 3)) (1200 - 150 * j)) ∧ (va_up (e 2) (sc 3) 0 (sc 3) ≠ 0 → _) ∧ (∀ j, j < 6 → 0 < va_up (w 1) (sc 3) (va_up (pfx (gB y1 t1) zr 6) 0 (gB y1 t1 0 + (y1 - smN (gB y1 t1) 6))) (sc 3) j) ∧ smN (va_up (w 1) (sc 3) (va_up (pfx (gB y1 t1) zr 6) 0 (gB y1 t1 0 + (y1 - smN (gB y1 t1) 6))) (sc 3)) 6 = va_up (o 1) (4 * sc 3) y1 (4 * sc 3)
      simp only [va_up_self]
      refine ⟨fun j => ?_, fun j => ?_, by rw [h7]; rfl, fun _ j hj => by rw [h7, pfx_lt hj]; rfl, fun z => absurd rfl z, fun j hj => by rw [hgf j hj]; exact gF_pos hy0 ht j hj, (smN_cg 6 hgf).trans hgs⟩
      · unfold pfx zr
        split
        · show 1200 - 150 * j ≤ 1200
          omega
        · omega
      · by_cases hj : j < 6
        · rw [hgf j hj]
          have := smN_one (f := gF y1 t1) hj
          omega
        · rw [va_up_ne _ _ (by omega)]
          unfold pfx zr
          rw [if_neg hj]
          omega
    · obtain ⟨a1, a2, a3, a4, a5, a6, a7⟩ := h.l5 i (by omega)
      have w0 : (va_up (va_up w 0 (va_up (w 0) (sc 3) (pfx (fun b => 1200 - 150 * b) zr 6))) 1 (va_up (w 1) (sc 3) (va_up (pfx (gB y1 t1) zr 6) 0 (gB y1 t1 0 + (y1 - smN (gB y1 t1) 6))))) 0 i = w 0 i := va_up_ne _ _ hq
      have w1 : (va_up (va_up w 0 (va_up (w 0) (sc 3) (pfx (fun b => 1200 - 150 * b) zr 6))) 1 (va_up (w 1) (sc 3) (va_up (pfx (gB y1 t1) zr 6) 0 (gB y1 t1 0 + (y1 - smN (gB y1 t1) 6))))) 1 i = w 1 i := va_up_ne _ _ hq
      have e1 : (va_up (va_up e 1 (va_up (e 1) (sc 3) 60)) 2 (va_up (e 2) (sc 3) 0)) 1 i = e 1 i := va_up_ne _ _ hq
      have e2 : (va_up (va_up e 1 (va_up (e 1) (sc 3) 60)) 2 (va_up (e 2) (sc 3) 0)) 2 i = e 2 i := va_up_ne _ _ hq
      have a33 : (va_up (va_up ar 2 (va_up (ar 2) x1 (ar 2 x1 - y1))) 3 (va_up (ar 3) (sc 3) (ar 1 x1))) 3 i = ar 3 i := va_up_ne _ _ hq
      have o1 : (va_up (va_up o 1 (va_up (o 1) (4 * sc 3) y1)) 0 (va_up (o 0) 1 (sc 3 + 1))) 1 (4 * i) = o 1 (4 * i) := va_up_ne _ _ (by omega)
      unfold CN
      rw [w0, w1, e1, e2, a33, o1]
      exact ⟨a1, a2, a3, a4, a5, a6, a7⟩
  · obtain ⟨c1, c2, c3⟩ := h.lc i
    refine ⟨(va_up_ne (o 1) y1 (show 4 * i + 1 ≠ 4 * sc 3 by omega)).trans c1, (va_up_ne (o 1) y1 (show 4 * i + 2 ≠ 4 * sc 3 by omega)).trans ?_, (va_up_ne (o 1) y1 (show 4 * i + 3 ≠ 4 * sc 3 by omega)).trans c3⟩
    rw [c2]
    show _ = if va_up (e 2) (sc 3) 0 i = 0 then 0 else 1
    by_cases hq : i = sc 3
    · rw [hq, va_up_self, h2]
    · rw [va_up_ne _ _ hq]
theorem LI.cycle (h : LI t sc ar w e o) {x1 z1 : Nat} (hx : x1 < sc 3) (hz : z1 < sc 5) (hd : e 2 x1 = 0) (hc : ar 7 x1 < 12) (ha : ar 12 z1 + fAir (ar 3 x1) ≤ 30) :
    LI (t + 1) sc (va_up (va_up (va_up ar 7 (va_up (ar 7) x1 (ar 7 x1 + 1))) 12 (va_up (ar 12) z1 (ar 12 z1 + fAir (ar 3 x1)))) 13 (va_up (ar 13) z1 (ar 13 z1 + fAir (ar 3 x1))))
      (va_up w 0 (va_up (w 0) x1 (shP (ar 3 x1) (w 0 x1) 6))) (va_up e 1 (va_up (e 1) x1 (shL (ar 3 x1) (e 1 x1)))) (va_up (va_up o 1 (va_up (o 1) (4 * x1 + 1) (o 1 (4 * x1 + 1) + 1))) 3 (va_up (o 3) z1 (o 3 z1 + fAir (ar 3 x1)))) := by
  have hf := fAir_le (ar 3 x1)
  refine ⟨h.l1, h.l2, fun i => ⟨(h.l3 i).1, ?_, (h.l3 i).2.2⟩, fun i hi => ⟨?_, (h.l4 i hi).2⟩, fun i hi => ?_, h.l6, ⟨fun i => ?_, fun i hi => ?_⟩, h.l8, ⟨h.up9.1, fun i => ?_⟩, h.lm, fun i => ?_, fun i => ?_, h.lr⟩
  · show va_up (ar 7) x1 (ar 7 x1 + 1) i ≤ 12
    have := (h.l3 i).2.1
    unfold va_up
    split <;> omega
  · show va_up (ar 7) x1 (ar 7 x1 + 1) i = 0
    rw [va_up_ne _ _ (by omega)]
    exact (h.l4 i hi).1
  · by_cases hq : i = x1
    · subst hq
      obtain ⟨a1, a2, a3, a4, a5, a6, a7⟩ := h.l5 i hx
      have w0 : (va_up w 0 (va_up (w 0) i (shP (ar 3 i) (w 0 i) 6))) 0 i = shP (ar 3 i) (w 0 i) 6 := va_up_self _ _ _
      have e1 : (va_up e 1 (va_up (e 1) i (shL (ar 3 i) (e 1 i)))) 1 i = shL (ar 3 i) (e 1 i) := va_up_self _ _ _
      have a77 : (va_up (va_up (va_up ar 7 (va_up (ar 7) i (ar 7 i + 1))) 12 (va_up (ar 12) z1 (ar 12 z1 + fAir (ar 3 i)))) 13 (va_up (ar 13) z1 (ar 13 z1 + fAir (ar 3 i)))) 7 i = ar 7 i + 1 := va_up_self _ _ _
      have o1 : (va_up (va_up o 1 (va_up (o 1) (4 * i + 1) (o 1 (4 * i + 1) + 1))) 3 (va_up (o 3) z1 (o 3 z1 + fAir (ar 3 i)))) 1 (4 * i) = o 1 (4 * i) := va_up_ne _ _ (by omega)
      unfold CN
      rw [w0, e1, a77, o1]
      refine ⟨fun j => ?_, a2, by rw [a3]; rfl, fun _ j hj => ?_, fun z => absurd hd z, a6, a7⟩
      · unfold shP
        split
        · exact Nat.le_trans (shA_le _ _) (a1 j)
        · exact a1 j
      · have := a4 hd j hj
        unfold shP
        rw [if_pos hj, this]; rfl
    · obtain ⟨a1, a2, a3, a4, a5, a6, a7⟩ := h.l5 i hi
      have w0 : (va_up w 0 (va_up (w 0) x1 (shP (ar 3 x1) (w 0 x1) 6))) 0 i = w 0 i := va_up_ne _ _ hq
      have e1 : (va_up e 1 (va_up (e 1) x1 (shL (ar 3 x1) (e 1 x1)))) 1 i = e 1 i := va_up_ne _ _ hq
      have a77 : (va_up (va_up (va_up ar 7 (va_up (ar 7) x1 (ar 7 x1 + 1))) 12 (va_up (ar 12) z1 (ar 12 z1 + fAir (ar 3 x1)))) 13 (va_up (ar 13) z1 (ar 13 z1 + fAir (ar 3 x1)))) 7 i = ar 7 i := va_up_ne _ _ hq
      have o1 : (va_up (va_up o 1 (va_up (o 1) (4 * x1 + 1) (o 1 (4 * x1 + 1) + 1))) 3 (va_up (o 3) z1 (o 3 z1 + fAir (ar 3 x1)))) 1 (4 * i) = o 1 (4 * i) := va_up_ne _ _ (by omega)
      unfold CN
      rw [w0, e1, a77, o1]
      exact ⟨a1, a2, a3, a4, a5, a6, a7⟩
  · show va_up (ar 12) z1 (ar 12 z1 + fAir (ar 3 x1)) i ≤ 30 ∧ va_up (ar 12) z1 (ar 12 z1 + fAir (ar 3 x1)) i ≤ va_up (ar 13) z1 (ar 13 z1 + fAir (ar 3 x1)) i
    have := h.l7.1 i
    unfold va_up
    split
    · next hq => subst hq; omega
    · omega
  · show va_up (ar 12) z1 (ar 12 z1 + fAir (ar 3 x1)) i = 0 ∧ va_up (ar 13) z1 (ar 13 z1 + fAir (ar 3 x1)) i = 0
    have hi2 : sc 5 ≤ i := hi
    rw [va_up_ne _ _ (by omega), va_up_ne _ _ (by omega)]
    exact h.l7.2 i hi
  · show va_up (ar 13) z1 (ar 13 z1 + fAir (ar 3 x1)) i ≤ 12 * (t + 1)
    have := h.l9.2 i
    have := h.l9.2 z1
    unfold va_up
    split <;> omega
  · obtain ⟨c1, c2, c3⟩ := h.lc i
    show va_up (o 1) (4 * x1 + 1) (o 1 (4 * x1 + 1) + 1) (4 * i + 1) = va_up (ar 7) x1 (ar 7 x1 + 1) i ∧ va_up (o 1) (4 * x1 + 1) (o 1 (4 * x1 + 1) + 1) (4 * i + 2) = _ ∧ va_up (o 1) (4 * x1 + 1) (o 1 (4 * x1 + 1) + 1) (4 * i + 3) = _
    rw [va_up_ne _ _ (show 4 * i + 2 ≠ 4 * x1 + 1 by omega), va_up_ne _ _ (show 4 * i + 3 ≠ 4 * x1 + 1 by omega)]
    refine ⟨?_, c2, c3⟩
    by_cases hq : i = x1
    · subst hq; rw [va_up_self, va_up_self, c1]
    · rw [va_up_ne _ _ (by omega), va_up_ne _ _ hq]; exact c1
  · show va_up (o 3) z1 (o 3 z1 + fAir (ar 3 x1)) i = va_up (ar 12) z1 (ar 12 z1 + fAir (ar 3 x1)) i
    by_cases hq : i = z1
    · subst hq; rw [va_up_self, va_up_self, h.lh i]
    · rw [va_up_ne _ _ hq, va_up_ne _ _ hq]; exact h.lh i
theorem LI.draw (h : LI t sc ar w e o) {x1 z1 : Nat} (hx : x1 < sc 3) (hz : z1 < sc 4) :
    LI (t + 1) sc ar (va_up w 0 (va_up (w 0) x1 (pfx (bW (ar 10 z1) (ar 11 z1)) (w 0 x1) 6))) (va_up e 2 (va_up (e 2) x1 (z1 + 1))) (va_up o 1 (va_up (o 1) (4 * x1 + 2) 1)) := by
  refine ⟨h.l1, h.l2, fun i => ⟨(h.l3 i).1, (h.l3 i).2.1, (h.l3 i).2.2.1, ?_⟩, fun i hi => ⟨(h.l4 i hi).1, (h.l4 i hi).2.1, ?_⟩, fun i hi => ?_, h.l6, h.l7, h.l8, h.up9, h.lm, fun i => ?_, h.lh, h.lr⟩
  · show va_up (e 2) x1 (z1 + 1) i ≤ sc 4
    have := (h.l3 i).2.2.2
    unfold va_up
    split <;> omega
  · show va_up (e 2) x1 (z1 + 1) i = 0
    rw [va_up_ne _ _ (by omega)]
    exact (h.l4 i hi).2.2
  · by_cases hq : i = x1
    · subst hq
      obtain ⟨a1, a2, a3, a4, a5, a6, a7⟩ := h.l5 i hx
      have w0 : (va_up w 0 (va_up (w 0) i (pfx (bW (ar 10 z1) (ar 11 z1)) (w 0 i) 6))) 0 i = pfx (bW (ar 10 z1) (ar 11 z1)) (w 0 i) 6 := va_up_self _ _ _
      have e2 : (va_up e 2 (va_up (e 2) i (z1 + 1))) 2 i = z1 + 1 := va_up_self _ _ _
      have o1 : (va_up o 1 (va_up (o 1) (4 * i + 2) 1)) 1 (4 * i) = o 1 (4 * i) := va_up_ne _ _ (by omega)
      unfold CN
      rw [w0, e2, o1]
      refine ⟨fun j => ?_, a2, a3, fun z => absurd z (by omega), fun _ j hj => ?_, a6, a7⟩
      · unfold pfx
        split
        · have := bW_le (a := ar 10 z1) (d := ar 11 z1) (b := j) (h.l6 z1 hz).1.2
          omega
        · exact a1 j
      · rw [pfx_lt hj, Nat.add_sub_cancel]
    · obtain ⟨a1, a2, a3, a4, a5, a6, a7⟩ := h.l5 i hi
      have w0 : (va_up w 0 (va_up (w 0) x1 (pfx (bW (ar 10 z1) (ar 11 z1)) (w 0 x1) 6))) 0 i = w 0 i := va_up_ne _ _ hq
      have e2 : (va_up e 2 (va_up (e 2) x1 (z1 + 1))) 2 i = e 2 i := va_up_ne _ _ hq
      have o1 : (va_up o 1 (va_up (o 1) (4 * x1 + 2) 1)) 1 (4 * i) = o 1 (4 * i) := va_up_ne _ _ (by omega)
      unfold CN
      rw [w0, e2, o1]
      exact ⟨a1, a2, a3, a4, a5, a6, a7⟩
  · obtain ⟨c1, c2, c3⟩ := h.lc i
    show va_up (o 1) (4 * x1 + 2) 1 (4 * i + 1) = _ ∧ va_up (o 1) (4 * x1 + 2) 1 (4 * i + 2) = (if va_up (e 2) x1 (z1 + 1) i = 0 then 0 else 1) ∧ va_up (o 1) (4 * x1 + 2) 1 (4 * i + 3) = _
    rw [va_up_ne _ _ (show 4 * i + 1 ≠ 4 * x1 + 2 by omega), va_up_ne _ _ (show 4 * i + 3 ≠ 4 * x1 + 2 by omega)]
    refine ⟨c1, ?_, c3⟩
    by_cases hq : i = x1
    · subst hq; rw [va_up_self, va_up_self, if_neg (by omega)]
    · rw [va_up_ne _ _ (by omega), va_up_ne _ _ hq]; exact c2
theorem LI.trim (h : LI t sc ar w e o) {x1 q : Nat} (hx : x1 < sc 3) (hq : q ≤ 1) : LI (t + 1) sc (va_up ar 9 (va_up (ar 9) x1 q)) w e (va_up o 1 (va_up (o 1) (4 * x1 + 3) q)) := by
  refine ⟨h.l1, h.l2, fun i => ⟨(h.l3 i).1, (h.l3 i).2.1, ?_, (h.l3 i).2.2.2⟩, fun i hi => ⟨(h.l4 i hi).1, ?_, (h.l4 i hi).2.2⟩, fun i hi => ?_, h.l6, h.l7, h.l8, h.up9, h.lm, fun i => ?_, h.lh, h.lr⟩
  · show va_up (ar 9) x1 q i ≤ 1
    have := (h.l3 i).2.2.1
    unfold va_up
    split <;> omega
  · show va_up (ar 9) x1 q i = 0
    rw [va_up_ne _ _ (by omega)]
    exact (h.l4 i hi).2.1
  · obtain ⟨a1, a2, a3, a4, a5, a6, a7⟩ := h.l5 i hi
    have o1 : (va_up o 1 (va_up (o 1) (4 * x1 + 3) q)) 1 (4 * i) = o 1 (4 * i) := va_up_ne _ _ (by omega)
    unfold CN
    rw [o1]
    exact ⟨a1, a2, a3, a4, a5, a6, a7⟩
  · obtain ⟨c1, c2, c3⟩ := h.lc i
    show va_up (o 1) (4 * x1 + 3) q (4 * i + 1) = _ ∧ va_up (o 1) (4 * x1 + 3) q (4 * i + 2) = _ ∧ va_up (o 1) (4 * x1 + 3) q (4 * i + 3) = va_up (ar 9) x1 q i
    rw [va_up_ne _ _ (show 4 * i + 1 ≠ 4 * x1 + 3 by omega), va_up_ne _ _ (show 4 * i + 2 ≠ 4 * x1 + 3 by omega)]
    refine ⟨c1, c2, ?_⟩
    by_cases hq : i = x1
    · subst hq; rw [va_up_self, va_up_self]
    · rw [va_up_ne _ _ (by omega), va_up_ne _ _ hq]; exact c3
theorem LI.pass (h : LI t sc ar w e o) {x1 : Nat} (hx : x1 ≤ 30) {g : Nat → Nat} (hg : ∀ i, g i = if i < 6 then 0 else o 3 i) : LI (t + 1) (va_up sc 6 (sc 6 + x1)) (va_up ar 12 (pfx zr (ar 12) 6)) w e (va_up (va_up o 0 (va_up (o 0) 4 (sc 6 + x1))) 3 g) := by
  refine ⟨h.l1, h.l2, h.l3, h.l4, h.l5, h.l6, ⟨fun i => ?_, fun i hi => ⟨?_, (h.l7.2 i hi).2⟩⟩, h.l8, ⟨show sc 6 + x1 ≤ _ by have := h.l9.1; omega, h.up9.2⟩, ⟨h.lm.1, h.lm.2.1, h.lm.2.2.1, h.lm.2.2.2.1, rfl, h.lm.2.2.2.2.2⟩, h.lc, fun i => ?_, h.lr⟩
  · show pfx zr (ar 12) 6 i ≤ 30 ∧ pfx zr (ar 12) 6 i ≤ ar 13 i
    have := h.l7.1 i
    unfold pfx zr
    split <;> omega
  · show pfx zr (ar 12) 6 i = 0
    have := (h.l7.2 i hi).1
    unfold pfx zr
    split <;> omega
  · show g i = pfx zr (ar 12) 6 i
    rw [hg i, h.lh i]
    rfl
theorem LI.measure (h : LI t sc ar w e o) {x1 z1 : Nat} (hx : x1 < 8) (hz : z1 ≤ 200) : LI (t + 1) sc (va_up ar 14 (va_up (ar 14) x1 z1)) w e (va_up o 4 (va_up (va_up (o 4) 8 (o 4 8 + z1 - o 4 x1)) x1 z1)) := by
  refine ⟨h.l1, h.l2, h.l3, h.l4, h.l5, h.l6, h.l7, fun j => ?_, h.up9, h.lm, h.lc, h.lh, ⟨fun j hj => ?_, ?_⟩⟩
  · show va_up (ar 14) x1 z1 j ≤ 200
    have := h.l8 j
    unfold va_up
    split <;> omega
  · show va_up (va_up (o 4) 8 (o 4 8 + z1 - o 4 x1)) x1 z1 j = va_up (ar 14) x1 z1 j
    by_cases hq : j = x1
    · subst hq; rw [va_up_self, va_up_self]
    · rw [va_up_ne _ _ hq, va_up_ne _ _ (by omega), va_up_ne _ _ hq]; exact h.lr.1 j hj
  · show va_up (va_up (o 4) 8 (o 4 8 + z1 - o 4 x1)) x1 z1 8 = smN (va_up (ar 14) x1 z1) 8
    rw [va_up_ne _ _ (by omega), va_up_self, h.lr.2, h.lr.1 x1 hx]
    have := smN_up (f := ar 14) (k := x1) (v := z1) 8 hx
    omega
end LIS
/-! The typed word, as a list -/
def fiL (off : Nat) (l : List Nat) : Nat → Nat → Option Nat
  | 0, _ => none
  | n + 1, j => if l = wdT (off + j) then some j else fiL off l n (j + 1)
theorem fi_L (off : Nat) (g : Nat → Nat) (k : Nat) : ∀ n j, fiF off g k n j = fiL off ((List.range k).map g) n j
  | 0, _ => rfl
  | n + 1, j => by
    unfold fiF fiL isT
    by_cases h : (List.range k).map g = wdT (off + j)
    · rw [if_pos h, if_pos h, if_pos rfl]
    · rw [if_neg h, if_neg h, if_neg (by decide)]
      exact fi_L off g k n (j + 1)
/-- what is typed: tk letters, tg -/
def TY (tk : Nat) (tg : Nat → Nat) : Prop := tk ≤ 7 ∧ ∀ j, j < tk → tg j < 128
theorem TY.nil (tg : Nat → Nat) : TY 0 tg := ⟨by omega, fun j hj => absurd hj (Nat.not_lt_zero _)⟩
