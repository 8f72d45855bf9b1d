/-! The yard's cells by role and place: 0 the single ones (0 the yard, 1 the builder, 2 its bytes, 3 to 6 the arrays of lots, cones, hands, blocks, 7 the head, 8 its radii, 9 to 13 the law's own arrays), 1 lots, 2 cones, 3 their widths, 4 their grams, 5 hands, 6 blocks. What they hold is said by tk, tm, tg (letters typed: how many, the builder's mark, which), sc (2 lots, 3 cones, 4 blocks, 5 hands, 6 days), ar (1 furs and 2 grams of lots, 3 furs, 7 cycles, 9 trims of cones, 10, 11 blocks, 12, 13 hands, 14 radii), w (0 widths, 1 grams), e (1 heights, 2 last blocks), o (the law's arrays). -/
def PIC (C : Nat → Nat → Option va_E) (ad : Nat → Nat → Nat) (φ : hpM) : Prop :=
  (∀ r j x, C r j = some x → φ (ad r j) = some x) ∧ ∀ r j r' j', C r j ≠ none → C r' j' ≠ none → ad r j = ad r' j' → r = r' ∧ j = j'
theorem PIC.at {C : Nat → Nat → Option va_E} {ad : Nat → Nat → Nat} {φ : hpM} (h : PIC C ad φ) {r j : Nat} {x : va_E} (hx : C r j = some x) : φ (ad r j) = some x := h.1 r j x hx
def up2 (C : Nat → Nat → Option va_E) (r j : Nat) (x : va_E) : Nat → Nat → Option va_E := fun r' j' => if r' = r then (if j' = j then some x else C r' j') else C r' j'
theorem up2_s (C : Nat → Nat → Option va_E) (r j : Nat) (x : va_E) : up2 C r j x r j = some x := by simp [up2]
theorem up2_n {C : Nat → Nat → Option va_E} {r j r' j' : Nat} {x : va_E} (h : ¬ (r' = r ∧ j' = j)) : up2 C r j x r' j' = C r' j' := by
  unfold up2
  split
  · split
    · exact absurd ⟨by assumption, by assumption⟩ h
    · rfl
  · rfl
theorem PIC.set {C : Nat → Nat → Option va_E} {ad : Nat → Nat → Nat} {φ : hpM} (h : PIC C ad φ) (r j : Nat) (x : va_E) (hc : C r j ≠ none) : PIC (up2 C r j x) ad (ups φ (ad r j) x) := by
  have hn : ∀ r' j', up2 C r j x r' j' ≠ none → C r' j' ≠ none := fun r' j' h1 => by
    by_cases hq : r' = r ∧ j' = j
    · rw [hq.1, hq.2]; exact hc
    · rwa [up2_n hq] at h1
  refine ⟨fun r' j' y hy => ?_, fun r1 j1 r2 j2 h1 h2 e => h.2 r1 j1 r2 j2 (hn _ _ h1) (hn _ _ h2) e⟩
  by_cases hq : r' = r ∧ j' = j
  · rw [hq.1, hq.2, up2_s] at hy
    rw [hq.1, hq.2, ups_s, hy]
  · rw [up2_n hq] at hy
    exact ups_n (fun e => hq (h.2 r' j' r j (by rw [hy]; exact fun z => by cases z) hc e)) (h.1 r' j' y hy)
theorem PIC.set' {C : Nat → Nat → Option va_E} {ad : Nat → Nat → Nat} {φ : hpM} (h : PIC C ad φ) (r j : Nat) {q : Nat} (x : va_E) (hq : ad r j = q) (hc : C r j ≠ none) : PIC (up2 C r j x) ad (ups φ q x) := by
  rw [← hq]; exact h.set r j x hc
theorem PIC.new {C : Nat → Nat → Option va_E} {ad : Nat → Nat → Nat} {φ : hpM} (h : PIC C ad φ) (r j : Nat) {q : Nat} (x : va_E) (hq : φ q = none) : PIC (up2 C r j x) (va_up ad r (va_up (ad r) j q)) (ups φ q x) := by
  have ha : va_up ad r (va_up (ad r) j q) r j = q := by rw [va_up_self, va_up_self]
  have hb : ∀ r' j', ¬ (r' = r ∧ j' = j) → va_up ad r (va_up (ad r) j q) r' j' = ad r' j' := fun r' j' hn => by
    by_cases h1 : r' = r
    · subst h1
      rw [va_up_self, va_up_ne _ _ (fun h2 => hn ⟨rfl, h2⟩)]
    · rw [va_up_ne _ _ h1]
  have hne : ∀ r' j', C r' j' ≠ none → ad r' j' ≠ q := fun r' j' h1 e => by
    cases hc : C r' j' with
    | none => exact h1 hc
    | some y => have := h.1 r' j' y hc; rw [e, hq] at this; cases this
  refine ⟨fun r' j' y hy => ?_, fun r1 j1 r2 j2 h1 h2 e => ?_⟩
  · by_cases hn : r' = r ∧ j' = j
    · rw [hn.1, hn.2, up2_s] at hy
      rw [hn.1, hn.2, ha, ups_s, hy]
    · rw [up2_n hn] at hy
      rw [hb _ _ hn]
      exact ups_n (hne r' j' (by rw [hy]; exact fun z => by cases z)) (h.1 r' j' y hy)
  · by_cases n1 : r1 = r ∧ j1 = j
    · by_cases n2 : r2 = r ∧ j2 = j
      · exact ⟨n1.1.trans n2.1.symm, n1.2.trans n2.2.symm⟩
      · rw [up2_n n2] at h2
        rw [n1.1, n1.2, ha, hb _ _ n2] at e
        exact absurd e.symm (hne _ _ h2)
    · rw [up2_n n1] at h1
      by_cases n2 : r2 = r ∧ j2 = j
      · rw [n2.1, n2.2, ha, hb _ _ n1] at e
        exact absurd e (hne _ _ h1)
      · rw [up2_n n2] at h2
        rw [hb _ _ n1, hb _ _ n2] at e
        exact h.2 _ _ _ _ h1 h2 e
theorem PIC.cg {C C' : Nat → Nat → Option va_E} {ad : Nat → Nat → Nat} {φ : hpM} (h : PIC C ad φ) (hc : ∀ r j, C r j = C' r j) : PIC C' ad φ := by
  have e : C = C' := by funext r j; exact hc r j
  rw [← e]; exact h
def yC0 (cA : Nat → ClassId) (tk tm : Nat) (tg : Nat → Nat) (sc : Nat → Nat) (ar : Nat → Nat → Nat) (o : Nat → Nat → Nat) (ad : Nat → Nat → Nat) (j : Nat) : Option va_E := match j with
  | 0 => some (.inr (12, [.ref (ad 0 1), .ref (ad 0 3), .ref (ad 0 4), .ref (ad 0 5), .ref (ad 0 6), .ref (ad 0 7), .int (nI (sc 2)), .int (nI (sc 3)), .int (nI (sc 5)), .int (nI (sc 4)), .int (nI (sc 6))]))
  | 1 => some (.inr (1, [.ref (ad 0 2), .int (nI 0), .int (nI tm), .int (nI tk)]))
  | 2 => some (.inl (cA 0, 16, .inl (fun j => nI (tg j))))
  | 3 => some (.inl (cA 7, 10, .inr (.inr (.inr (.inr (reF (sc 2) (ad 1)))))))
  | 4 => some (.inl (cA 5, 12, .inr (.inr (.inr (.inr (reF (sc 3) (ad 2)))))))
  | 5 => some (.inl (cA 6, 6, .inr (.inr (.inr (.inr (reF (sc 5) (ad 5)))))))
  | 6 => some (.inl (cA 4, 8, .inr (.inr (.inr (.inr (reF (sc 4) (ad 6)))))))
  | 7 => some (.inr (9, [.ref (ad 0 8)]))
  | 8 => some (.inl (cA 1, 8, .inl (fun j => nI (ar 14 j))))
  | 9 => some (.inl (cA 1, 6, .inl (fun j => nI (o 0 j))))
  | 10 => some (.inl (cA 1, 48, .inl (fun j => nI (o 1 j))))
  | 11 => some (.inl (cA 1, 16, .inl (fun j => nI (o 2 j))))
  | 12 => some (.inl (cA 1, 6, .inl (fun j => nI (o 3 j))))
  | 13 => some (.inl (cA 1, 9, .inl (fun j => nI (o 4 j))))
  | _ => none
def yL1 (ga : Nat → Nat → Nat) (ar : Nat → Nat → Nat) (i : Nat) : va_E := .inr (10, [.ref (ga 0 (ar 1 i)), .int (nI (ar 2 i))])
def yL2 (ga : Nat → Nat → Nat) (ar : Nat → Nat → Nat) (e : Nat → Nat → Nat) (ad : Nat → Nat → Nat) (i : Nat) : va_E := .inr (5, [.ref (ga 0 (ar 3 i)), .ref (ad 3 i), .ref (ad 4 i), .int (nI (e 1 i)), .int (nI (ar 7 i)), lbV (ad 6) (e 2 i), .int (nI (ar 9 i))])
def yL3 (cA : Nat → ClassId) (f : Nat → Nat → Nat) (i : Nat) : va_E := .inl (cA 1, 6, .inl (fun j => nI (f i j)))
def yL5 (ar : Nat → Nat → Nat) (i : Nat) : va_E := .inr (8, [.int (nI (ar 12 i)), .int (nI (ar 13 i))])
def yL6 (ar : Nat → Nat → Nat) (i : Nat) : va_E := .inr (4, [.int (nI (ar 10 i)), .int (nI (ar 11 i))])
def fam (n : Nat) (c : Nat → va_E) (j : Nat) : Option va_E := if j < n then some (c j) else none
def yC (cA : Nat → ClassId) (ga : Nat → Nat → Nat) (tk tm : Nat) (tg : Nat → Nat) (sc : Nat → Nat) (ar : Nat → Nat → Nat) (w : Nat → Nat → Nat → Nat) (e : Nat → Nat → Nat) (o : Nat → Nat → Nat) (ad : Nat → Nat → Nat) (r j : Nat) : Option va_E := match r with
  | 0 => yC0 cA tk tm tg sc ar o ad j
  | 1 => fam (sc 2) (yL1 ga ar) j
  | 2 => fam (sc 3) (yL2 ga ar e ad) j
  | 3 => fam (sc 3) (yL3 cA (w 0)) j
  | 4 => fam (sc 3) (yL3 cA (w 1)) j
  | 5 => fam (sc 5) (yL5 ar) j
  | 6 => fam (sc 4) (yL6 ar) j
  | _ => none
theorem fam_at {n i : Nat} {c : Nat → va_E} (h : i < n) : fam n c i = some (c i) := if_pos h
theorem fam_ne {n i : Nat} {c : Nat → va_E} (h : i < n) : fam n c i ≠ none := by rw [fam_at h]; exact fun z => by cases z
theorem fam_cg {n : Nat} {c c' : Nat → va_E} (h : ∀ j, j < n → c j = c' j) (j : Nat) : fam n c j = fam n c' j := by
  unfold fam
  split
  · rw [h j (by assumption)]
  · rfl
theorem fam_set {n x : Nat} {c c' : Nat → va_E} {y : va_E} (hx : x < n) (h1 : y = c' x) (h2 : ∀ j, j < n → j ≠ x → c j = c' j) (j : Nat) : (if j = x then some y else fam n c j) = fam n c' j := by
  unfold fam
  by_cases h : j = x
  · rw [if_pos h, h, if_pos hx, h1]
  · rw [if_neg h]
    split
    · rw [h2 j (by assumption) h]
    · rfl
theorem fam_new {n : Nat} {c c' : Nat → va_E} {y : va_E} (h1 : y = c' n) (h2 : ∀ j, j < n → c j = c' j) (j : Nat) : (if j = n then some y else fam n c j) = fam (n + 1) c' j := by
  unfold fam
  by_cases h : j = n
  · rw [if_pos h, h, if_pos (Nat.lt_succ_self n), h1]
  · rw [if_neg h]
    by_cases h3 : j < n
    · rw [if_pos h3, if_pos (by omega), h2 j h3]
    · rw [if_neg h3, if_neg (by omega)]
theorem lbV_up {ab : Nat → Nat} {n d q : Nat} (h : d ≤ n) : lbV ab d = lbV (va_up ab n q) d := by
  unfold lbV
  split
  · rfl
  · rw [va_up_ne _ _ (by omega)]
set_option maxRecDepth 10000 in
theorem yp_o0 {cA : Nat → ClassId} {ga : Nat → Nat → Nat} {tk tm : Nat} {tg : Nat → Nat} {sc : Nat → Nat} {ar : Nat → Nat → Nat} {w : Nat → Nat → Nat → Nat} {e : Nat → Nat → Nat} {o : Nat → Nat → Nat} {ad : Nat → Nat → Nat} {φ : hpM} (h : PIC (yC cA ga tk tm tg sc ar w e o ad) ad φ) (i v : Nat) : PIC (yC cA ga tk tm tg sc ar w e (va_up o 0 (va_up ((o 0)) i v)) ad) (ad) (ups φ (ad 0 9) (.inl (cA 1, 6, .inl (fun j => nI ((va_up (o 0) i v) j))))) := by
  refine PIC.cg (h.set 0 9 _ (fun z => by cases z)) ?_
  intro r j
  rcases r with _ | _ | _ | _ | _ | _ | _ | r
  · rcases j with _ | _ | _ | _ | _ | _ | _ | _ | _ | _ | _ | _ | _ | _ | j
    · rfl
    · rfl
    · rfl
    · rfl
    · rfl
    · rfl
    · rfl
    · rfl
    · rfl
    · rfl
    · rfl
    · rfl
    · rfl
    · rfl
    · rfl
  · rfl
  · rfl
  · rfl
  · rfl
  · rfl
  · rfl
  · rfl
set_option maxRecDepth 10000 in
theorem yp_o1 {cA : Nat → ClassId} {ga : Nat → Nat → Nat} {tk tm : Nat} {tg : Nat → Nat} {sc : Nat → Nat} {ar : Nat → Nat → Nat} {w : Nat → Nat → Nat → Nat} {e : Nat → Nat → Nat} {o : Nat → Nat → Nat} {ad : Nat → Nat → Nat} {φ : hpM} (h : PIC (yC cA ga tk tm tg sc ar w e o ad) ad φ) (i v : Nat) : PIC (yC cA ga tk tm tg sc ar w e (va_up o 1 (va_up ((o 1)) i v)) ad) (ad) (ups φ (ad 0 10) (.inl (cA 1, 48, .inl (fun j => nI ((va_up (o 1) i v) j))))) := by
  refine PIC.cg (h.set 0 10 _ (fun z => by cases z)) ?_
  intro r j
  rcases r with _ | _ | _ | _ | _ | _ | _ | r
  · rcases j with _ | _ | _ | _ | _ | _ | _ | _ | _ | _ | _ | _ | _ | _ | j
    · rfl
    · rfl
    · rfl
    · rfl
    · rfl
    · rfl
    · rfl
    · rfl
    · rfl
    · rfl
    · rfl
    · rfl
    · rfl
    · rfl
    · rfl
  · rfl
  · rfl
  · rfl
  · rfl
  · rfl
  · rfl
  · rfl
set_option maxRecDepth 10000 in
theorem yp_o2 {cA : Nat → ClassId} {ga : Nat → Nat → Nat} {tk tm : Nat} {tg : Nat → Nat} {sc : Nat → Nat} {ar : Nat → Nat → Nat} {w : Nat → Nat → Nat → Nat} {e : Nat → Nat → Nat} {o : Nat → Nat → Nat} {ad : Nat → Nat → Nat} {φ : hpM} (h : PIC (yC cA ga tk tm tg sc ar w e o ad) ad φ) (i v : Nat) : PIC (yC cA ga tk tm tg sc ar w e (va_up o 2 (va_up ((o 2)) i v)) ad) (ad) (ups φ (ad 0 11) (.inl (cA 1, 16, .inl (fun j => nI ((va_up (o 2) i v) j))))) := by
  refine PIC.cg (h.set 0 11 _ (fun z => by cases z)) ?_
  intro r j
  rcases r with _ | _ | _ | _ | _ | _ | _ | r
  · rcases j with _ | _ | _ | _ | _ | _ | _ | _ | _ | _ | _ | _ | _ | _ | j
    · rfl
    · rfl
    · rfl
    · rfl
    · rfl
    · rfl
    · rfl
    · rfl
    · rfl
    · rfl
    · rfl
    · rfl
    · rfl
    · rfl
    · rfl
  · rfl
  · rfl
  · rfl
  · rfl
  · rfl
  · rfl
  · rfl
set_option maxRecDepth 10000 in
theorem yp_o3 {cA : Nat → ClassId} {ga : Nat → Nat → Nat} {tk tm : Nat} {tg : Nat → Nat} {sc : Nat → Nat} {ar : Nat → Nat → Nat} {w : Nat → Nat → Nat → Nat} {e : Nat → Nat → Nat} {o : Nat → Nat → Nat} {ad : Nat → Nat → Nat} {φ : hpM} (h : PIC (yC cA ga tk tm tg sc ar w e o ad) ad φ) (i v : Nat) : PIC (yC cA ga tk tm tg sc ar w e (va_up o 3 (va_up ((o 3)) i v)) ad) (ad) (ups φ (ad 0 12) (.inl (cA 1, 6, .inl (fun j => nI ((va_up (o 3) i v) j))))) := by
  refine PIC.cg (h.set 0 12 _ (fun z => by cases z)) ?_
  intro r j
  rcases r with _ | _ | _ | _ | _ | _ | _ | r
  · rcases j with _ | _ | _ | _ | _ | _ | _ | _ | _ | _ | _ | _ | _ | _ | j
    · rfl
    · rfl
    · rfl
    · rfl
    · rfl
    · rfl
    · rfl
    · rfl
    · rfl
    · rfl
    · rfl
    · rfl
    · rfl
    · rfl
    · rfl
  · rfl
  · rfl
  · rfl
  · rfl
  · rfl
  · rfl
  · rfl
set_option maxRecDepth 10000 in
theorem yp_o4 {cA : Nat → ClassId} {ga : Nat → Nat → Nat} {tk tm : Nat} {tg : Nat → Nat} {sc : Nat → Nat} {ar : Nat → Nat → Nat} {w : Nat → Nat → Nat → Nat} {e : Nat → Nat → Nat} {o : Nat → Nat → Nat} {ad : Nat → Nat → Nat} {φ : hpM} (h : PIC (yC cA ga tk tm tg sc ar w e o ad) ad φ) (i v : Nat) : PIC (yC cA ga tk tm tg sc ar w e (va_up o 4 (va_up ((o 4)) i v)) ad) (ad) (ups φ (ad 0 13) (.inl (cA 1, 9, .inl (fun j => nI ((va_up (o 4) i v) j))))) := by
  refine PIC.cg (h.set 0 13 _ (fun z => by cases z)) ?_
  intro r j
  rcases r with _ | _ | _ | _ | _ | _ | _ | r
  · rcases j with _ | _ | _ | _ | _ | _ | _ | _ | _ | _ | _ | _ | _ | _ | j
    · rfl
    · rfl
    · rfl
    · rfl
    · rfl
    · rfl
    · rfl
    · rfl
    · rfl
    · rfl
    · rfl
    · rfl
    · rfl
    · rfl
    · rfl
  · rfl
  · rfl
  · rfl
  · rfl
  · rfl
  · rfl
  · rfl
set_option maxRecDepth 10000 in
theorem yp_letter {cA : Nat → ClassId} {ga : Nat → Nat → Nat} {tk tm : Nat} {tg : Nat → Nat} {sc : Nat → Nat} {ar : Nat → Nat → Nat} {w : Nat → Nat → Nat → Nat} {e : Nat → Nat → Nat} {o : Nat → Nat → Nat} {ad : Nat → Nat → Nat} {φ : hpM} (h : PIC (yC cA ga tk tm tg sc ar w e o ad) ad φ) (x1 : Nat) : PIC (yC cA ga (tk + 1) tm (va_up tg tk x1) sc ar w e o ad) (ad) (ups (ups φ (ad 0 1) (.inr (1, [.ref (ad 0 2), .int (nI 0), .int (nI tm), .int (nI (tk + 1))]))) (ad 0 2) (.inl (cA 0, 16, .inl (fun j => nI ((va_up tg tk x1) j))))) := by
  refine PIC.cg ((h.set 0 1 _ (fun z => by cases z)).set 0 2 _ (fun z => by cases z)) ?_
  intro r j
  rcases r with _ | _ | _ | _ | _ | _ | _ | r
  · rcases j with _ | _ | _ | _ | _ | _ | _ | _ | _ | _ | _ | _ | _ | _ | j
    · rfl
    · rfl
    · rfl
    · rfl
    · rfl
    · rfl
    · rfl
    · rfl
    · rfl
    · rfl
    · rfl
    · rfl
    · rfl
    · rfl
    · rfl
  · rfl
  · rfl
  · rfl
  · rfl
  · rfl
  · rfl
  · rfl
set_option maxRecDepth 10000 in
theorem yp_clear {cA : Nat → ClassId} {ga : Nat → Nat → Nat} {tk tm : Nat} {tg : Nat → Nat} {sc : Nat → Nat} {ar : Nat → Nat → Nat} {w : Nat → Nat → Nat → Nat} {e : Nat → Nat → Nat} {o : Nat → Nat → Nat} {ad : Nat → Nat → Nat} {φ : hpM} (h : PIC (yC cA ga tk tm tg sc ar w e o ad) ad φ) : PIC (yC cA ga 0 (if tk = 0 then tm else 1) tg sc ar w e o ad) (ad) (ups φ (ad 0 1) (.inr (1, [.ref (ad 0 2), .int (nI 0), .int (nI (if tk = 0 then tm else 1)), .int (nI 0)]))) := by
  refine PIC.cg (h.set 0 1 _ (fun z => by cases z)) ?_
  intro r j
  rcases r with _ | _ | _ | _ | _ | _ | _ | r
  · rcases j with _ | _ | _ | _ | _ | _ | _ | _ | _ | _ | _ | _ | _ | _ | j
    · rfl
    · rfl
    · rfl
    · rfl
    · rfl
    · rfl
    · rfl
    · rfl
    · rfl
    · rfl
    · rfl
    · rfl
    · rfl
    · rfl
    · rfl
  · rfl
  · rfl
  · rfl
  · rfl
  · rfl
  · rfl
  · rfl
set_option maxRecDepth 10000 in
theorem yp_lot {cA : Nat → ClassId} {ga : Nat → Nat → Nat} {tk tm : Nat} {tg : Nat → Nat} {sc : Nat → Nat} {ar : Nat → Nat → Nat} {w : Nat → Nat → Nat → Nat} {e : Nat → Nat → Nat} {o : Nat → Nat → Nat} {ad : Nat → Nat → Nat} {φ : hpM} (h : PIC (yC cA ga tk tm tg sc ar w e o ad) ad φ) (fu x1 q : Nat) (hq : (ups φ (ad 0 1) (.inr (1, [.ref (ad 0 2), .int (nI 0), .int (nI (if tk = 0 then tm else 1)), .int (nI 0)]))) q = none) : PIC (yC cA ga 0 (if tk = 0 then tm else 1) tg (va_up sc 2 (sc 2 + 1)) (va_up (va_up ar 1 (va_up ((ar 1)) ((sc 2)) fu)) 2 (va_up (((va_up ar 1 (va_up ((ar 1)) ((sc 2)) fu)) 2)) ((sc 2)) x1)) w e o (va_up ad 1 (va_up (ad 1) (sc 2) q))) (va_up ad 1 (va_up (ad 1) (sc 2) q)) (ups (ups (ups (ups (ups φ (ad 0 1) (.inr (1, [.ref (ad 0 2), .int (nI 0), .int (nI (if tk = 0 then tm else 1)), .int (nI 0)]))) q (.inr (10, [.null, .int (nI 0)]))) q (.inr (10, [.ref (ga 0 fu), .int (nI x1)]))) (ad 0 3) (.inl (cA 7, 10, .inr (.inr (.inr (.inr (va_up (reF (sc 2) (ad 1)) (sc 2) (some q)))))))) (ad 0 0) (.inr (12, [.ref (ad 0 1), .ref (ad 0 3), .ref (ad 0 4), .ref (ad 0 5), .ref (ad 0 6), .ref (ad 0 7), .int (nI (sc 2 + 1)), .int (nI (sc 3)), .int (nI (sc 5)), .int (nI (sc 4)), .int (nI (sc 6))]))) := by
  refine PIC.cg (by rw [ups_ups]; exact (((h.set 0 1 _ (fun z => by cases z)).new 1 (sc 2) _ hq).set 0 3 _ (fun z => by cases z)).set 0 0 _ (fun z => by cases z)) ?_
  intro r j
  rcases r with _ | _ | _ | _ | _ | _ | _ | r
  · rcases j with _ | _ | _ | _ | _ | _ | _ | _ | _ | _ | _ | _ | _ | _ | j
    · rfl
    · rfl
    · rfl
    · exact congrArg (fun z => some (Sum.inl (cA 7, 10, Sum.inr (Sum.inr (Sum.inr (Sum.inr z)))))) reF_up
    · rfl
    · rfl
    · rfl
    · rfl
    · rfl
    · rfl
    · rfl
    · rfl
    · rfl
    · rfl
    · rfl
  · exact fam_new (by simp [yL1, va_up]) (fun j hj => by simp [yL1, va_up, show j ≠ sc 2 by omega]) j
  · rfl
  · rfl
  · rfl
  · rfl
  · rfl
  · rfl
set_option maxRecDepth 10000 in
theorem yp_hand {cA : Nat → ClassId} {ga : Nat → Nat → Nat} {tk tm : Nat} {tg : Nat → Nat} {sc : Nat → Nat} {ar : Nat → Nat → Nat} {w : Nat → Nat → Nat → Nat} {e : Nat → Nat → Nat} {o : Nat → Nat → Nat} {ad : Nat → Nat → Nat} {φ : hpM} (h : PIC (yC cA ga tk tm tg sc ar w e o ad) ad φ) (q : Nat) (hq : φ q = none) (h12 : ar 12 (sc 5) = 0) (h13 : ar 13 (sc 5) = 0) : PIC (yC cA ga tk tm tg (va_up sc 5 (sc 5 + 1)) ar w e o (va_up ad 5 (va_up (ad 5) (sc 5) q))) (va_up ad 5 (va_up (ad 5) (sc 5) q)) (ups (ups (ups (ups φ q (.inr (8, [.int (nI 0), .int (nI 0)]))) q (.inr (8, [.int (nI 0), .int (nI 0)]))) (ad 0 5) (.inl (cA 6, 6, .inr (.inr (.inr (.inr (va_up (reF (sc 5) (ad 5)) (sc 5) (some q)))))))) (ad 0 0) (.inr (12, [.ref (ad 0 1), .ref (ad 0 3), .ref (ad 0 4), .ref (ad 0 5), .ref (ad 0 6), .ref (ad 0 7), .int (nI (sc 2)), .int (nI (sc 3)), .int (nI (sc 5 + 1)), .int (nI (sc 4)), .int (nI (sc 6))]))) := by
  refine PIC.cg (by rw [ups_ups]; exact ((h.new 5 (sc 5) _ hq).set 0 5 _ (fun z => by cases z)).set 0 0 _ (fun z => by cases z)) ?_
  intro r j
  rcases r with _ | _ | _ | _ | _ | _ | _ | r
  · rcases j with _ | _ | _ | _ | _ | _ | _ | _ | _ | _ | _ | _ | _ | _ | j
    · rfl
    · rfl
    · rfl
    · rfl
    · rfl
    · exact congrArg (fun z => some (Sum.inl (cA 6, 6, Sum.inr (Sum.inr (Sum.inr (Sum.inr z)))))) reF_up
    · rfl
    · rfl
    · rfl
    · rfl
    · rfl
    · rfl
    · rfl
    · rfl
    · rfl
  · rfl
  · rfl
  · rfl
  · rfl
  · exact fam_new (by simp [yL5, h12, h13]) (fun j hj => rfl) j
  · rfl
  · rfl
set_option maxRecDepth 10000 in
theorem yp_block {cA : Nat → ClassId} {ga : Nat → Nat → Nat} {tk tm : Nat} {tg : Nat → Nat} {sc : Nat → Nat} {ar : Nat → Nat → Nat} {w : Nat → Nat → Nat → Nat} {e : Nat → Nat → Nat} {o : Nat → Nat → Nat} {ad : Nat → Nat → Nat} {φ : hpM} (h : PIC (yC cA ga tk tm tg sc ar w e o ad) ad φ) (x1 z1 q : Nat) (hq : φ q = none) (hdr : ∀ i, i < sc 3 → e 2 i ≤ sc 4) : PIC (yC cA ga tk tm tg (va_up sc 4 (sc 4 + 1)) (va_up (va_up ar 10 (va_up (ar 10) (sc 4) x1)) 11 (va_up (ar 11) (sc 4) z1)) w e o (va_up ad 6 (va_up (ad 6) (sc 4) q))) (va_up ad 6 (va_up (ad 6) (sc 4) q)) (ups (ups (ups (ups φ q (.inr (4, [.int (nI 0), .int (nI 0)]))) q (.inr (4, [.int (nI x1), .int (nI z1)]))) (ad 0 6) (.inl (cA 4, 8, .inr (.inr (.inr (.inr (va_up (reF (sc 4) (ad 6)) (sc 4) (some q)))))))) (ad 0 0) (.inr (12, [.ref (ad 0 1), .ref (ad 0 3), .ref (ad 0 4), .ref (ad 0 5), .ref (ad 0 6), .ref (ad 0 7), .int (nI (sc 2)), .int (nI (sc 3)), .int (nI (sc 5)), .int (nI (sc 4 + 1)), .int (nI (sc 6))]))) := by
  refine PIC.cg (by rw [ups_ups]; exact ((h.new 6 (sc 4) _ hq).set 0 6 _ (fun z => by cases z)).set 0 0 _ (fun z => by cases z)) ?_
  intro r j
  rcases r with _ | _ | _ | _ | _ | _ | _ | r
  · rcases j with _ | _ | _ | _ | _ | _ | _ | _ | _ | _ | _ | _ | _ | _ | j
    · rfl
    · rfl
    · rfl
    · rfl
    · rfl
    · rfl
    · exact congrArg (fun z => some (Sum.inl (cA 4, 8, Sum.inr (Sum.inr (Sum.inr (Sum.inr z)))))) reF_up
    · rfl
    · rfl
    · rfl
    · rfl
    · rfl
    · rfl
    · rfl
    · rfl
  · rfl
  · exact fam_cg (fun j hj => congrArg (fun z => (Sum.inr (5, [.ref (ga 0 (ar 3 j)), .ref (ad 3 j), .ref (ad 4 j), .int (nI (e 1 j)), .int (nI (ar 7 j)), z, .int (nI (ar 9 j))]) : va_E)) (lbV_up (hdr j hj))) j
  · rfl
  · rfl
  · rfl
  · exact fam_new (by simp [yL6, va_up]) (fun j hj => by simp [yL6, va_up, show j ≠ sc 4 by omega]) j
  · rfl
set_option maxRecDepth 10000 in
theorem yp_cone {cA : Nat → ClassId} {ga : Nat → Nat → Nat} {tk tm : Nat} {tg : Nat → Nat} {sc : Nat → Nat} {ar : Nat → Nat → Nat} {w : Nat → Nat → Nat → Nat} {e : Nat → Nat → Nat} {o : Nat → Nat → Nat} {ad : Nat → Nat → Nat} {φ : hpM} (h : PIC (yC cA ga tk tm tg sc ar w e o ad) ad φ) (x1 y1 t1 q q1 q2 : Nat) (hx : x1 < sc 2) (hq : (ups φ (ad 1 x1) (.inr (10, [.ref (ga 0 (ar 1 x1)), .int (nI (ar 2 x1 - y1))]))) q = none) (hq1 : (ups (ups φ (ad 1 x1) (.inr (10, [.ref (ga 0 (ar 1 x1)), .int (nI (ar 2 x1 - y1))]))) q (.inr (5, [.null, .null, .null, .int (nI 0), .int (nI 0), .null, .int (nI 0)]))) q1 = none) (hq2 : (ups (ups φ (ad 1 x1) (.inr (10, [.ref (ga 0 (ar 1 x1)), .int (nI (ar 2 x1 - y1))]))) q (.inr (5, [.null, .null, .null, .int (nI 0), .int (nI 0), .null, .int (nI 0)]))) q2 = none) (hqn : q2 ≠ q1) (h7 : ar 7 (sc 3) = 0) (h9 : ar 9 (sc 3) = 0) : PIC (yC cA ga tk tm tg (va_up sc 3 (sc 3 + 1)) (va_up (va_up ar 2 (va_up (ar 2) x1 (ar 2 x1 - y1))) 3 (va_up (ar 3) (sc 3) (ar 1 x1))) (va_up (va_up w 0 (va_up (w 0) (sc 3) (pfx (fun b => 1200 - 150 * b) zr 6))) 1 (va_up (w 1) (sc 3) (va_up (pfx (gB y1 t1) zr 6) 0 (gB y1 t1 0 + (y1 - smN (gB y1 t1) 6))))) (va_up (va_up e 1 (va_up (e 1) (sc 3) 60)) 2 (va_up (e 2) (sc 3) 0)) o (va_up (va_up (va_up ad 2 (va_up (ad 2) (sc 3) q)) 3 (va_up (ad 3) (sc 3) q1)) 4 (va_up (ad 4) (sc 3) q2))) (va_up (va_up (va_up ad 2 (va_up (ad 2) (sc 3) q)) 3 (va_up (ad 3) (sc 3) q1)) 4 (va_up (ad 4) (sc 3) q2)) (ups (ups (ups (ups (ups (ups (ups φ (ad 1 x1) (.inr (10, [.ref (ga 0 (ar 1 x1)), .int (nI (ar 2 x1 - y1))]))) q (.inr (5, [.null, .null, .null, .int (nI 0), .int (nI 0), .null, .int (nI 0)]))) q1 (.inl (cA 1, 6, .inl (fun j => nI ((pfx (fun b => 1200 - 150 * b) zr 6) j))))) q2 (.inl (cA 1, 6, .inl (fun j => nI ((va_up (pfx (gB y1 t1) zr 6) 0 (gB y1 t1 0 + (y1 - smN (gB y1 t1) 6))) j))))) q (.inr (5, [.ref (ga 0 (ar 1 x1)), .ref (q1), .ref (q2), .int (nI 60), .int (nI 0), .null, .int (nI 0)]))) (ad 0 4) (.inl (cA 5, 12, .inr (.inr (.inr (.inr (va_up (reF (sc 3) (ad 2)) (sc 3) (some q)))))))) (ad 0 0) (.inr (12, [.ref (ad 0 1), .ref (ad 0 3), .ref (ad 0 4), .ref (ad 0 5), .ref (ad 0 6), .ref (ad 0 7), .int (nI (sc 2)), .int (nI (sc 3 + 1)), .int (nI (sc 5)), .int (nI (sc 4)), .int (nI (sc 6))]))) := by
  refine PIC.cg (by have h1 := (((h.set 1 x1 (.inr (10, [.ref (ga 0 (ar 1 x1)), .int (nI (ar 2 x1 - y1))])) (fam_ne hx)).new 2 (sc 3) (.inr (5, [.null, .null, .null, .int (nI 0), .int (nI 0), .null, .int (nI 0)])) hq).new 3 (sc 3) (.inl (cA 1, 6, .inl (fun j => nI ((pfx (fun b => 1200 - 150 * b) zr 6) j)))) hq1).new 4 (sc 3) (.inl (cA 1, 6, .inl (fun j => nI ((va_up (pfx (gB y1 t1) zr 6) 0 (gB y1 t1 0 + (y1 - smN (gB y1 t1) 6))) j)))) ((ups_n hqn hq2)); have h2 := h1.set' 2 (sc 3) (.inr (5, [.ref (ga 0 (ar 1 x1)), .ref (q1), .ref (q2), .int (nI 60), .int (nI 0), .null, .int (nI 0)])) (q := q) (by show va_up (ad 2) (sc 3) q (sc 3) = q; exact va_up_self _ _ _) (by show (if sc 3 = sc 3 then _ else _) ≠ none; rw [if_pos rfl]; exact (fun z => by cases z)); exact (h2.set 0 4 (.inl (cA 5, 12, .inr (.inr (.inr (.inr (va_up (reF (sc 3) (ad 2)) (sc 3) (some q))))))) (fun z => by cases z)).set 0 0 (.inr (12, [.ref (ad 0 1), .ref (ad 0 3), .ref (ad 0 4), .ref (ad 0 5), .ref (ad 0 6), .ref (ad 0 7), .int (nI (sc 2)), .int (nI (sc 3 + 1)), .int (nI (sc 5)), .int (nI (sc 4)), .int (nI (sc 6))])) (fun z => by cases z)) ?_
  intro r j
  rcases r with _ | _ | _ | _ | _ | _ | _ | r
  · rcases j with _ | _ | _ | _ | _ | _ | _ | _ | _ | _ | _ | _ | _ | _ | j
    · rfl
    · rfl
    · rfl
    · rfl
    · exact congrArg (fun z => some (Sum.inl (cA 5, 12, Sum.inr (Sum.inr (Sum.inr (Sum.inr z)))))) reF_up
    · rfl
    · rfl
    · rfl
    · rfl
    · rfl
    · rfl
    · rfl
    · rfl
    · rfl
    · rfl
  · exact fam_set hx (by simp [yL1, va_up]) (fun j hj hn => by simp [yL1, va_up, hn]) j
  · exact (Classical.em (j = sc 3)).elim (fun hj => by subst hj; show (if sc 3 = sc 3 then some _ else _) = _; rw [if_pos rfl]; simp [yC, fam, yL2, va_up, h7, h9, lbV]) (fun hj => by show (if j = sc 3 then some _ else (if j = sc 3 then some _ else fam (sc 3) (yL2 ga ar e ad) j)) = _; rw [if_neg hj, if_neg hj]; exact (if_neg hj).symm.trans (fam_new (n := sc 3) (c' := yL2 ga (va_up (va_up ar 2 (va_up (ar 2) x1 (ar 2 x1 - y1))) 3 (va_up (ar 3) (sc 3) (ar 1 x1))) (va_up (va_up e 1 (va_up (e 1) (sc 3) 60)) 2 (va_up (e 2) (sc 3) 0)) (va_up (va_up (va_up ad 2 (va_up (ad 2) (sc 3) q)) 3 (va_up (ad 3) (sc 3) q1)) 4 (va_up (ad 4) (sc 3) q2))) rfl (fun j hj2 => by simp [yL2, va_up, show j ≠ sc 3 by omega]) j))
  · exact fam_new (by simp [yL3, va_up]) (fun j hj => by simp [yL3, va_up, show j ≠ sc 3 by omega]) j
  · exact fam_new (by simp [yL3, va_up]) (fun j hj => by simp [yL3, va_up, show j ≠ sc 3 by omega]) j
  · rfl
  · rfl
  · rfl
set_option maxRecDepth 10000 in
theorem yp_cycle {cA : Nat → ClassId} {ga : Nat → Nat → Nat} {tk tm : Nat} {tg : Nat → Nat} {sc : Nat → Nat} {ar : Nat → Nat → Nat} {w : Nat → Nat → Nat → Nat} {e : Nat → Nat → Nat} {o : Nat → Nat → Nat} {ad : Nat → Nat → Nat} {φ : hpM} (h : PIC (yC cA ga tk tm tg sc ar w e o ad) ad φ) (x1 z1 : Nat) (hx : x1 < sc 3) (hz : z1 < sc 5) : PIC (yC cA ga tk tm tg sc (va_up (va_up (va_up ar 7 (va_up (ar 7) x1 (ar 7 x1 + 1))) 12 (va_up (ar 12) z1 (ar 12 z1 + fAir (ar 3 x1)))) 13 (va_up (ar 13) z1 (ar 13 z1 + fAir (ar 3 x1)))) (va_up w 0 (va_up (w 0) x1 (shP (ar 3 x1) (w 0 x1) 6))) (va_up e 1 (va_up (e 1) x1 (shL (ar 3 x1) (e 1 x1)))) o ad) (ad) (ups (ups (ups φ (ad 5 z1) (.inr (8, [.int (nI (ar 12 z1 + fAir (ar 3 x1))), .int (nI (ar 13 z1 + fAir (ar 3 x1)))]))) (ad 3 x1) (.inl (cA 1, 6, .inl (fun j => nI ((shP (ar 3 x1) (w 0 x1) 6) j))))) (ad 2 x1) (.inr (5, [.ref (ga 0 (ar 3 x1)), .ref (ad 3 x1), .ref (ad 4 x1), .int (nI (shL (ar 3 x1) (e 1 x1))), .int (nI (ar 7 x1 + 1)), lbV (ad 6) (e 2 x1), .int (nI (ar 9 x1))]))) := by
  refine PIC.cg (((h.set 5 z1 _ (fam_ne hz)).set 3 x1 _ (fam_ne hx)).set 2 x1 _ (fam_ne hx)) ?_
  intro r j
  rcases r with _ | _ | _ | _ | _ | _ | _ | r
  · rcases j with _ | _ | _ | _ | _ | _ | _ | _ | _ | _ | _ | _ | _ | _ | j
    · rfl
    · rfl
    · rfl
    · rfl
    · rfl
    · rfl
    · rfl
    · rfl
    · rfl
    · rfl
    · rfl
    · rfl
    · rfl
    · rfl
    · rfl
  · rfl
  · exact fam_set hx (by simp [yL2, va_up]) (fun j hj hn => by simp [yL2, va_up, hn]) j
  · exact fam_set hx (by simp [yL3, va_up]) (fun j hj hn => by simp [yL3, va_up, hn]) j
  · rfl
  · exact fam_set hz (by simp [yL5, va_up]) (fun j hj hn => by simp [yL5, va_up, hn]) j
  · rfl
  · rfl
set_option maxRecDepth 10000 in
theorem yp_draw {cA : Nat → ClassId} {ga : Nat → Nat → Nat} {tk tm : Nat} {tg : Nat → Nat} {sc : Nat → Nat} {ar : Nat → Nat → Nat} {w : Nat → Nat → Nat → Nat} {e : Nat → Nat → Nat} {o : Nat → Nat → Nat} {ad : Nat → Nat → Nat} {φ : hpM} (h : PIC (yC cA ga tk tm tg sc ar w e o ad) ad φ) (x1 z1 : Nat) (bw : Nat → Nat) (hx : x1 < sc 3) (hz : z1 < sc 4) : PIC (yC cA ga tk tm tg sc ar (va_up w 0 (va_up (w 0) x1 (pfx bw (w 0 x1) 6))) (va_up e 2 (va_up (e 2) x1 (z1 + 1))) o ad) (ad) (ups (ups φ (ad 3 x1) (.inl (cA 1, 6, .inl (fun j => nI ((pfx bw (w 0 x1) 6) j))))) (ad 2 x1) (.inr (5, [.ref (ga 0 (ar 3 x1)), .ref (ad 3 x1), .ref (ad 4 x1), .int (nI (e 1 x1)), .int (nI (ar 7 x1)), .ref (ad 6 z1), .int (nI (ar 9 x1))]))) := by
  refine PIC.cg ((h.set 3 x1 _ (fam_ne hx)).set 2 x1 _ (fam_ne hx)) ?_
  intro r j
  rcases r with _ | _ | _ | _ | _ | _ | _ | r
  · rcases j with _ | _ | _ | _ | _ | _ | _ | _ | _ | _ | _ | _ | _ | _ | j
    · rfl
    · rfl
    · rfl
    · rfl
    · rfl
    · rfl
    · rfl
    · rfl
    · rfl
    · rfl
    · rfl
    · rfl
    · rfl
    · rfl
    · rfl
  · rfl
  · exact fam_set hx (by simp [yL2, va_up, lbV]) (fun j hj hn => by simp [yL2, va_up, hn]) j
  · exact fam_set hx (by simp [yL3, va_up]) (fun j hj hn => by simp [yL3, va_up, hn]) j
  · rfl
  · rfl
  · rfl
  · rfl
set_option maxRecDepth 10000 in
theorem yp_trim {cA : Nat → ClassId} {ga : Nat → Nat → Nat} {tk tm : Nat} {tg : Nat → Nat} {sc : Nat → Nat} {ar : Nat → Nat → Nat} {w : Nat → Nat → Nat → Nat} {e : Nat → Nat → Nat} {o : Nat → Nat → Nat} {ad : Nat → Nat → Nat} {φ : hpM} (h : PIC (yC cA ga tk tm tg sc ar w e o ad) ad φ) (x1 t : Nat) (hx : x1 < sc 3) : PIC (yC cA ga 0 (if tk = 0 then tm else 1) tg sc (va_up ar 9 (va_up (ar 9) x1 t)) w e o ad) (ad) (ups (ups φ (ad 0 1) (.inr (1, [.ref (ad 0 2), .int (nI 0), .int (nI (if tk = 0 then tm else 1)), .int (nI 0)]))) (ad 2 x1) (.inr (5, [.ref (ga 0 (ar 3 x1)), .ref (ad 3 x1), .ref (ad 4 x1), .int (nI (e 1 x1)), .int (nI (ar 7 x1)), lbV (ad 6) (e 2 x1), .int (nI t)]))) := by
  refine PIC.cg ((h.set 0 1 _ (fun z => by cases z)).set 2 x1 _ (fam_ne hx)) ?_
  intro r j
  rcases r with _ | _ | _ | _ | _ | _ | _ | r
  · rcases j with _ | _ | _ | _ | _ | _ | _ | _ | _ | _ | _ | _ | _ | _ | j
    · rfl
    · rfl
    · rfl
    · rfl
    · rfl
    · rfl
    · rfl
    · rfl
    · rfl
    · rfl
    · rfl
    · rfl
    · rfl
    · rfl
    · rfl
  · rfl
  · exact fam_set hx (by simp [yL2, va_up]) (fun j hj hn => by simp [yL2, va_up, hn]) j
  · rfl
  · rfl
  · rfl
  · rfl
  · rfl
set_option maxRecDepth 10000 in
theorem yp_measure {cA : Nat → ClassId} {ga : Nat → Nat → Nat} {tk tm : Nat} {tg : Nat → Nat} {sc : Nat → Nat} {ar : Nat → Nat → Nat} {w : Nat → Nat → Nat → Nat} {e : Nat → Nat → Nat} {o : Nat → Nat → Nat} {ad : Nat → Nat → Nat} {φ : hpM} (h : PIC (yC cA ga tk tm tg sc ar w e o ad) ad φ) (x1 z1 : Nat) : PIC (yC cA ga tk tm tg sc (va_up ar 14 (va_up (ar 14) x1 z1)) w e o ad) (ad) (ups φ (ad 0 8) (.inl (cA 1, 8, .inl (fun j => nI ((va_up (ar 14) x1 z1) j))))) := by
  refine PIC.cg (h.set 0 8 _ (fun z => by cases z)) ?_
  intro r j
  rcases r with _ | _ | _ | _ | _ | _ | _ | r
  · rcases j with _ | _ | _ | _ | _ | _ | _ | _ | _ | _ | _ | _ | _ | _ | j
    · rfl
    · rfl
    · rfl
    · rfl
    · rfl
    · rfl
    · rfl
    · rfl
    · rfl
    · rfl
    · rfl
    · rfl
    · rfl
    · rfl
    · rfl
  · rfl
  · rfl
  · rfl
  · rfl
  · rfl
  · rfl
  · rfl
set_option maxRecDepth 10000 in
theorem yp_day {cA : Nat → ClassId} {ga : Nat → Nat → Nat} {tk tm : Nat} {tg : Nat → Nat} {sc : Nat → Nat} {ar : Nat → Nat → Nat} {w : Nat → Nat → Nat → Nat} {e : Nat → Nat → Nat} {o : Nat → Nat → Nat} {ad : Nat → Nat → Nat} {φ : hpM} (h : PIC (yC cA ga tk tm tg sc ar w e o ad) ad φ) (x1 : Nat) : PIC (yC cA ga tk tm tg (va_up sc 6 (sc 6 + x1)) ar w e o ad) (ad) (ups φ (ad 0 0) (.inr (12, [.ref (ad 0 1), .ref (ad 0 3), .ref (ad 0 4), .ref (ad 0 5), .ref (ad 0 6), .ref (ad 0 7), .int (nI (sc 2)), .int (nI (sc 3)), .int (nI (sc 5)), .int (nI (sc 4)), .int (nI (sc 6 + x1))]))) := by
  refine PIC.cg (h.set 0 0 _ (fun z => by cases z)) ?_
  intro r j
  rcases r with _ | _ | _ | _ | _ | _ | _ | r
  · rcases j with _ | _ | _ | _ | _ | _ | _ | _ | _ | _ | _ | _ | _ | _ | j
    · rfl
    · rfl
    · rfl
    · rfl
    · rfl
    · rfl
    · rfl
    · rfl
    · rfl
    · rfl
    · rfl
    · rfl
    · rfl
    · rfl
    · rfl
  · rfl
  · rfl
  · rfl
  · rfl
  · rfl
  · rfl
  · rfl
set_option maxRecDepth 10000 in
theorem yp_hd {cA : Nat → ClassId} {ga : Nat → Nat → Nat} {tk tm : Nat} {tg : Nat → Nat} {sc : Nat → Nat} {ar : Nat → Nat → Nat} {w : Nat → Nat → Nat → Nat} {e : Nat → Nat → Nat} {o : Nat → Nat → Nat} {ad : Nat → Nat → Nat} {φ : hpM} (h : PIC (yC cA ga tk tm tg sc ar w e o ad) ad φ) (i : Nat) (hi : i < sc 5) : PIC (yC cA ga tk tm tg sc (va_up ar 12 (va_up (ar 12) i 0)) w e o ad) (ad) (ups φ (ad 5 i) (.inr (8, [.int (nI 0), .int (nI (ar 13 i))]))) := by
  refine PIC.cg (h.set 5 i _ (fam_ne hi)) ?_
  intro r j
  rcases r with _ | _ | _ | _ | _ | _ | _ | r
  · rcases j with _ | _ | _ | _ | _ | _ | _ | _ | _ | _ | _ | _ | _ | _ | j
    · rfl
    · rfl
    · rfl
    · rfl
    · rfl
    · rfl
    · rfl
    · rfl
    · rfl
    · rfl
    · rfl
    · rfl
    · rfl
    · rfl
    · rfl
  · rfl
  · rfl
  · rfl
  · rfl
  · exact fam_set hi (by simp [yL5, va_up]) (fun j hj hn => by simp [yL5, va_up, hn]) j
  · rfl
  · rfl
theorem yp_hz {cA : Nat → ClassId} {ga : Nat → Nat → Nat} {tk tm : Nat} {tg : Nat → Nat} {sc : Nat → Nat} {ar : Nat → Nat → Nat} {w : Nat → Nat → Nat → Nat} {e : Nat → Nat → Nat} {o : Nat → Nat → Nat} {ad : Nat → Nat → Nat} {φ : hpM} (h : PIC (yC cA ga tk tm tg sc ar w e o ad) ad φ) : ∀ i, PIC (yC cA ga tk tm tg sc (va_up ar 12 (hdZ (ar 12) i)) w e o ad) ad (hzM φ (sc 5) (ad 5) (ar 13) i) := by
  intro i
  induction i with
  | zero => exact h.cg (fun r j => by
      have e0 : va_up ar 12 (hdZ (ar 12) 0) = ar := by
        funext k j
        unfold va_up
        split
        · next hk => rw [hk]; simp [hdZ]
        · rfl
      rw [e0])
  | succ i ih =>
    unfold hzM
    split
    · next hi =>
      refine (yp_hd ih i hi).cg (fun r j => ?_)
      have e1 : va_up (va_up ar 12 (hdZ (ar 12) i)) 12 (va_up (va_up ar 12 (hdZ (ar 12) i) 12) i 0) = va_up ar 12 (hdZ (ar 12) (i + 1)) := by
        funext k j
        by_cases hk : k = 12
        · subst hk
          simp only [va_up_self]
          unfold va_up hdZ
          by_cases hj : j = i
          · subst hj; simp
          · rw [if_neg hj]
            by_cases hj2 : j < i
            · rw [if_pos hj2, if_pos (by omega)]
            · rw [if_neg hj2, if_neg (by omega)]
        · rw [va_up_ne _ _ hk, va_up_ne _ _ hk, va_up_ne _ _ hk]
      rw [e1]
    · next hi =>
      refine ih.cg (fun r j => ?_)
      rcases r with _ | _ | _ | _ | _ | _ | _ | r
      · rcases j with _ | _ | _ | _ | _ | _ | _ | _ | _ | _ | _ | _ | _ | _ | j <;> rfl
      · rfl
      · rfl
      · rfl
      · rfl
      · exact fam_cg (fun j hj => by simp [yL5, va_up, hdZ, show j < i by omega, show j < i + 1 by omega]) j
      · rfl
      · rfl
theorem yp_pass {cA : Nat → ClassId} {ga : Nat → Nat → Nat} {tk tm : Nat} {tg : Nat → Nat} {sc : Nat → Nat} {ar : Nat → Nat → Nat} {w : Nat → Nat → Nat → Nat} {e : Nat → Nat → Nat} {o : Nat → Nat → Nat} {ad : Nat → Nat → Nat} {φ : hpM} (h : PIC (yC cA ga tk tm tg sc ar w e o ad) ad φ) (x1 : Nat) (h5 : sc 5 ≤ 6) : PIC (yC cA ga tk tm tg (va_up sc 6 (sc 6 + x1)) (va_up ar 12 (pfx zr (ar 12) 6)) w e o ad) ad (hzM (ups φ (ad 0 0) (.inr (12, [.ref (ad 0 1), .ref (ad 0 3), .ref (ad 0 4), .ref (ad 0 5), .ref (ad 0 6), .ref (ad 0 7), .int (nI (sc 2)), .int (nI (sc 3)), .int (nI (sc 5)), .int (nI (sc 4)), .int (nI (sc 6 + x1))]))) (sc 5) (ad 5) (ar 13) 6) := by
  refine (yp_hz (yp_day h x1) 6).cg (fun r j => ?_)
  rcases r with _ | _ | _ | _ | _ | _ | _ | r
  · rcases j with _ | _ | _ | _ | _ | _ | _ | _ | _ | _ | _ | _ | _ | _ | j <;> rfl
  · rfl
  · rfl
  · rfl
  · rfl
  · exact fam_cg (fun j hj => by
      have hj6 : j < 6 := Nat.lt_of_lt_of_le hj h5
      simp [yL5, va_up, hdZ, pfx, hj6, zr]) j
  · rfl
  · rfl
