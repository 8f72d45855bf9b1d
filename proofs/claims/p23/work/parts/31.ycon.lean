/-! The world of the yard and the law's arrays; the yard's methods in its words -/
def YW (cA : Nat → ClassId) (ga : Nat → Nat → Nat) (az : Nat → Nat) (tk tm : Nat) (tg sc : Nat → Nat) (ar : Nat → Nat → Nat) (w : Nat → Nat → Nat → Nat) (ez o : Nat → Nat → Nat) (φ : hpM) : Prop := ∃ ad : Nat → Nat → Nat, ad 0 = az ∧ PIC (yC cA ga tk tm tg sc ar w ez o ad) ad φ
section PICY
variable {cA : Nat → ClassId} {ga : Nat → Nat → Nat} {tk tm : Nat} {tg sc : Nat → Nat} {ar : Nat → Nat → Nat} {w : Nat → Nat → Nat → Nat} {ez o ad : Nat → Nat → Nat} {az : Nat → Nat} {φ : hpM}
theorem PIC.lt (h : PIC (yC cA ga tk tm tg sc ar w ez o ad) ad φ) : ∀ i, i < sc 2 → φ (ad 1 i) = some (.inr (10, [.ref (ga 0 (ar 1 i)), .int (nI (ar 2 i))])) := fun i hi => h.at (r := 1) (fam_at hi)
theorem PIC.ha (h : PIC (yC cA ga tk tm tg sc ar w ez o ad) ad φ) : ∀ i, i < sc 5 → φ (ad 5 i) = some (.inr (8, [.int (nI (ar 12 i)), .int (nI (ar 13 i))])) := fun i hi => h.at (r := 5) (fam_at hi)
theorem PIC.bl (h : PIC (yC cA ga tk tm tg sc ar w ez o ad) ad φ) : ∀ i, i < sc 4 → φ (ad 6 i) = some (.inr (4, [.int (nI (ar 10 i)), .int (nI (ar 11 i))])) := fun i hi => h.at (r := 6) (fam_at hi)
theorem PIC.hai (h : PIC (yC cA ga tk tm tg sc ar w ez o ad) ad φ) : ∀ i j, i < sc 5 → j < sc 5 → ad 5 i = ad 5 j → i = j := fun i j hi hj q => (h.2 5 i 5 j (fam_ne hi) (fam_ne hj) q).2
theorem PIC.cn (h : PIC (yC cA ga tk tm tg sc ar w ez o ad) ad φ) : ∀ i, i < sc 3 → φ (ad 2 i) = some (.inr (5, [.ref (ga 0 (ar 3 i)), .ref (ad 3 i), .ref (ad 4 i), .int (nI (ez 1 i)), .int (nI (ar 7 i)), lbV (ad 6) (ez 2 i), .int (nI (ar 9 i))])) ∧ φ (ad 3 i) = some (.inl (cA 1, 6, .inl (fun j => nI ((w 0 i) j)))) ∧ φ (ad 4 i) = some (.inl (cA 1, 6, .inl (fun j => nI ((w 1 i) j)))) ∧ ad 4 i ≠ ad 3 i := fun i hi =>
  ⟨h.at (r := 2) (fam_at hi), h.at (r := 3) (fam_at hi), h.at (r := 4) (fam_at hi), fun q => absurd (h.2 4 i 3 i (fam_ne hi) (fam_ne hi) q).1 (by decide)⟩
theorem YW.y (h : YW cA ga az tk tm tg sc ar w ez o φ) : ∃ fs : List Value, φ (az 0) = some (.inr (12, fs)) := by
  obtain ⟨ad, rfl, hP⟩ := h
  exact ⟨_, hP.at (r := 0) (j := 0) rfl⟩
theorem YW.a0 (h : YW cA ga az tk tm tg sc ar w ez o φ) : φ (az 9) = some (.inl (cA 1, 6, .inl (fun j => nI (o 0 j)))) := by
  obtain ⟨ad, rfl, hP⟩ := h
  exact hP.at (r := 0) (j := 9) rfl
theorem YW.s0 (h : YW cA ga az tk tm tg sc ar w ez o φ) (i v : Nat) : YW cA ga az tk tm tg sc ar w ez (va_up o 0 (va_up (o 0) i v)) (ups φ (az 9) (.inl (cA 1, 6, .inl (fun j => nI (va_up (o 0) i v j))))) := by
  obtain ⟨ad, rfl, hP⟩ := h
  exact ⟨ad, rfl, yp_o0 hP i v⟩
theorem YW.a1 (h : YW cA ga az tk tm tg sc ar w ez o φ) : φ (az 10) = some (.inl (cA 1, 48, .inl (fun j => nI (o 1 j)))) := by
  obtain ⟨ad, rfl, hP⟩ := h
  exact hP.at (r := 0) (j := 10) rfl
theorem YW.s1 (h : YW cA ga az tk tm tg sc ar w ez o φ) (i v : Nat) : YW cA ga az tk tm tg sc ar w ez (va_up o 1 (va_up (o 1) i v)) (ups φ (az 10) (.inl (cA 1, 48, .inl (fun j => nI (va_up (o 1) i v j))))) := by
  obtain ⟨ad, rfl, hP⟩ := h
  exact ⟨ad, rfl, yp_o1 hP i v⟩
theorem YW.a2 (h : YW cA ga az tk tm tg sc ar w ez o φ) : φ (az 11) = some (.inl (cA 1, 16, .inl (fun j => nI (o 2 j)))) := by
  obtain ⟨ad, rfl, hP⟩ := h
  exact hP.at (r := 0) (j := 11) rfl
theorem YW.s2 (h : YW cA ga az tk tm tg sc ar w ez o φ) (i v : Nat) : YW cA ga az tk tm tg sc ar w ez (va_up o 2 (va_up (o 2) i v)) (ups φ (az 11) (.inl (cA 1, 16, .inl (fun j => nI (va_up (o 2) i v j))))) := by
  obtain ⟨ad, rfl, hP⟩ := h
  exact ⟨ad, rfl, yp_o2 hP i v⟩
theorem YW.a3 (h : YW cA ga az tk tm tg sc ar w ez o φ) : φ (az 12) = some (.inl (cA 1, 6, .inl (fun j => nI (o 3 j)))) := by
  obtain ⟨ad, rfl, hP⟩ := h
  exact hP.at (r := 0) (j := 12) rfl
theorem YW.s3 (h : YW cA ga az tk tm tg sc ar w ez o φ) (i v : Nat) : YW cA ga az tk tm tg sc ar w ez (va_up o 3 (va_up (o 3) i v)) (ups φ (az 12) (.inl (cA 1, 6, .inl (fun j => nI (va_up (o 3) i v j))))) := by
  obtain ⟨ad, rfl, hP⟩ := h
  exact ⟨ad, rfl, yp_o3 hP i v⟩
theorem YW.a4 (h : YW cA ga az tk tm tg sc ar w ez o φ) : φ (az 13) = some (.inl (cA 1, 9, .inl (fun j => nI (o 4 j)))) := by
  obtain ⟨ad, rfl, hP⟩ := h
  exact hP.at (r := 0) (j := 13) rfl
theorem YW.s4 (h : YW cA ga az tk tm tg sc ar w ez o φ) (i v : Nat) : YW cA ga az tk tm tg sc ar w ez (va_up o 4 (va_up (o 4) i v)) (ups φ (az 13) (.inl (cA 1, 9, .inl (fun j => nI (va_up (o 4) i v j))))) := by
  obtain ⟨ad, rfl, hP⟩ := h
  exact ⟨ad, rfl, yp_o4 hP i v⟩
end PICY
section HMXU
variable {l : Launch} {y : MethodName} {cc : ByteArray} {maxL : Nat} {ret : Option FieldType} {rm : Room} {av : List Value} {D : va_G} {cA : Nat → ClassId} {ga : Nat → Nat → Nat} {φ : hpM} {sz : Nat} {post post' : Option Value → hpM → Prop} {px px' : String → hpM → Prop} {mc ms : Nat}
theorem hMX.mono (h : hMX l y cc maxL ret rm av D cA ga φ sz post px mc ms) (h1 : ∀ v φ', post v φ' → post' v φ') (h2 : ∀ E φ', px E φ' → px' E φ') : hMX l y cc maxL ret rm av D cA ga φ sz post' px' mc ms := by
  intro p e ha hc hk s m args below hf happ hP hK
  obtain ⟨n, o, q1, q2, q3, q4⟩ := h p e ha hc hk s m args below hf happ hP hK
  refine ⟨n, o, q1, q2, q3, ?_⟩
  rcases q4 with ⟨⟨⟨v, φ', a1, a2, a3⟩, a4⟩, a5⟩ | ⟨q, a1, E, ce, L, ⟨φ', b1, b2⟩, b3⟩
  · exact Or.inl ⟨⟨⟨v, φ', a1, h1 v φ' a2, a3⟩, a4⟩, a5⟩
  · exact Or.inr ⟨q, a1, E, ce, L, ⟨φ', h2 E φ' b1, b2⟩, b3⟩
theorem hMX.ok (h : hMX l y cc maxL ret rm av D cA ga φ sz post px mc ms) (h2 : ∀ E φ', ¬ px E φ') (h1 : ∀ v φ', post v φ' → post' v φ') : hM l y cc maxL ret rm av D cA ga φ sz post' mc ms := by
  intro p e ha hc hk s m args below hf happ hP hK
  obtain ⟨n, o, q1, q2, q3, q4⟩ := h p e ha hc hk s m args below hf happ hP hK
  refine ⟨n, o, q1, q2, q3, ?_⟩
  rcases q4 with ⟨⟨⟨v, φ', a1, a2, a3⟩, a4⟩, a5⟩ | ⟨q, a1, E, ce, L, ⟨φ', b1, b2⟩, b3⟩
  · exact ⟨⟨⟨v, φ', a1, h1 v φ' a2, a3⟩, a4⟩, a5⟩
  · exact absurd b1 (h2 E φ')
end HMXU
theorem inX_0 {n k : Nat} (h : k < n) (hn : n < 2 ^ 31) : inX n (nI k) = 0 := by rw [inX, if_pos ((inN_nI (by omega) hn).mpr h)]
theorem aboutX_0 {n k b a : Nat} (h : k < n) (hn : n < 2 ^ 31) (hb : b < 6) (ha : a ≤ 3) : aboutX n (nI k) (nI b) (nI a) = 0 := by rw [aboutX, if_pos ((inN_nI (by omega) hn).mpr h), if_pos ((inN_nI (by omega) (by omega)).mpr hb), if_pos ((inR_nI (by omega) (by omega) (by omega)).mpr ⟨by omega, ha⟩)]
theorem anewX_0 {n k b : Nat} (h : k < n) (hn : n < 2 ^ 31) (hb : b < 6) : anewX n (nI k) (nI b) = 0 := by rw [anewX, if_pos ((inN_nI (by omega) hn).mpr h), if_pos ((inN_nI (by omega) (by omega)).mpr hb)]
theorem cntX_0 {x : Nat} (h1 : 1 ≤ x) (h2 : x ≤ 100) : cntX (nI x) = 0 := by rw [cntX, if_pos ((inR_nI (by omega) (by omega) (by omega)).mpr ⟨h1, h2⟩)]
theorem rowsX_0 {x : Nat} (h1 : 1 ≤ x) (h2 : x ≤ 2000) : rowsX (nI x) = 0 := by rw [rowsX, if_pos ((inR_nI (by omega) (by omega) (by omega)).mpr ⟨h1, h2⟩)]
theorem passX_0 {x : Nat} (h1 : 1 ≤ x) (h2 : x ≤ 30) : passX (nI x) = 0 := by rw [passX, if_pos ((inR_nI (by omega) (by omega) (by omega)).mpr ⟨h1, h2⟩)]
theorem measX_0 {x z : Nat} (h1 : x < 8) (h2 : z ≤ 200) : measX (nI x) (nI z) = 0 := by rw [measX, if_pos ((inN_nI (by omega) (by omega)).mpr h1), if_pos ((inR_nI (by omega) (by omega) (by omega)).mpr ⟨by omega, h2⟩)]
theorem drawX_0 {n k b j : Nat} (h : k < n) (hn : n < 2 ^ 31) (hb : j < b) (hb2 : b < 2 ^ 31) : drawX n b (nI k) (nI j) = 0 := by rw [drawX, if_pos ((inN_nI (by omega) hn).mpr h), if_pos ((inN_nI (by omega) hb2).mpr hb)]
theorem letterX_00 {k x : Nat} (hk : k < 7) (h1 : 97 ≤ x) (h2 : x ≤ 122) : letterX k (nI x) = 0 := by rw [letterX, if_pos ((inR_nI (by omega) (by omega) (by omega)).mpr ⟨h1, h2⟩), if_pos hk]
theorem lotX_00 {k x : Nat} (hk : k < 10) (h1 : 1 ≤ x) (h2 : x ≤ 5000) : lotX k (nI x) = 0 := by rw [lotX, if_pos ((inR_nI (by omega) (by omega) (by omega)).mpr ⟨h1, h2⟩), if_pos hk]
theorem blockX_00 {k x z : Nat} (hk : k < 8) (h1 : 300 ≤ x) (h2 : x ≤ 700) (h3 : 1 ≤ z) (h4 : z ≤ 6) : blockX k (nI x) (nI z) = 0 := by rw [blockX, if_pos ((inR_nI (by omega) (by omega) (by omega)).mpr ⟨h1, h2⟩), if_pos ((inR_nI (by omega) (by omega) (by omega)).mpr ⟨h3, h4⟩), if_pos hk]
theorem coneX_00 {nl nc x y t : Nat} {lg : Nat → Nat} (hx : x < nl) (hn : nl < 2 ^ 31) (h1 : 10 ≤ y) (h2 : y ≤ 500) (ht : t ≤ 5) (hc : nc < 12) (hg : y ≤ lg x) : coneX nl nc lg (nI x) (nI y) (nI t) = 0 := by
  rw [coneX, if_pos ((inN_nI (by omega) hn).mpr hx), if_pos ((inR_nI (by omega) (by omega) (by omega)).mpr ⟨h1, h2⟩), if_pos ((inR_nI (by omega) (by omega) (by omega)).mpr ⟨by omega, ht⟩), if_pos hc, nx_nI (by omega), nx_nI (by omega), if_pos hg]
theorem trimX_00 {n x : Nat} {tr : Nat → Nat} (hx : x < n) (hn : n < 2 ^ 31) (ht : tr x = 0) : trimX n tr (nI x) = 0 := by
  rw [trimX, if_pos ((inN_nI (by omega) hn).mpr hx), nx_nI (by omega), if_pos ht]
theorem cycleX_00 {nc nh x z : Nat} {cf cy ad dr : Nat → Nat} (hx : x < nc) (hn : nc < 2 ^ 31) (hz : z < nh) (hn2 : nh < 2 ^ 31) (h1 : ad z + fAir (cf x) ≤ 30) (h2 : dr x = 0) (h3 : cy x < 12) : cycleX nc nh cf cy ad dr (nI x) (nI z) = 0 := by
  rw [cycleX, if_pos ((inN_nI (by omega) hn).mpr hx), if_pos ((inN_nI (by omega) hn2).mpr hz), nx_nI (by omega), nx_nI (by omega), if_pos h1, if_pos h2, if_pos h3]
set_option maxHeartbeats 1000000 in
theorem ys_about (l : Launch) (hfl : l.stackTraces = false) (D : va_G) (cA : Nat → ClassId) (ga : Nat → Nat → Nat) (φ : hpM) (sz : Nat) (az : Nat → Nat) (tn tk tm : Nat) (tg sc : Nat → Nat) (ar : Nat → Nat → Nat) (w : Nat → Nat → Nat → Nat) (ez o oi : Nat → Nat → Nat) (k b a : Nat) (hY : YW cA ga az tk tm tg sc ar w ez o φ) (hI : LI tn sc ar w ez oi) (hT : TY tk tg) (hk : k < sc 3) (hb : b < 6) (ha : a ≤ 3) : hM l yX8_about cX8_about 5 (some .int) { frames := 10, cells := 5, slots := 30, locals := 320 } [.ref (az 0), .int (nI k), .int (nI b), .int (nI a)] D cA ga φ sz (fun v φ' => v = some (.int (nI (abR (w 0 k b) (ez 1 k) (w 1 k b) a))) ∧ φ' = φ) 5 30 := by
  obtain ⟨ad, rfl, hP⟩ := hY
  have hl1 := hI.l1
  refine hMX.ok (c_about l hfl D cA ga φ sz (ad 0 0) (ad 0 1) (ad 0 3) (ad 0 4) (ad 0 5) (ad 0 6) (ad 0 7) (sc 2) (sc 3) (sc 5) (sc 4) (sc 6) (ad 2) (ad 3) (ad 4) (ar 3) (ez 1) (ar 7) (ar 9) (ad 6) (ez 2) (w 0) (w 1) (nI k) (nI b) (nI a) (hP.at (r := 0) (j := 0) rfl) (hP.at (r := 0) (j := 4) rfl) hP.cn hI.hcb hI.l1.2.1) (fun E φ' h => h.2.2 (aboutX_0 hk (by omega) hb ha)) (fun v φ' h => ?_)
  obtain ⟨-, x1, z1, t1, hx1, hz1, ht1, hxn, hzn, ht3, rfl, hp9⟩ := h
  have ix1 : x1 = k := jI_inj hx1.symm (by omega) (by omega)
  subst ix1
  have iz1 : z1 = b := jI_inj hz1.symm (by omega) (by omega)
  subst iz1
  have it1 : t1 = a := jI_inj ht1.symm (by omega) (by omega)
  subst it1
  exact ⟨rfl, hp9⟩
set_option maxHeartbeats 1000000 in
theorem ys_widthAnew (l : Launch) (hfl : l.stackTraces = false) (D : va_G) (cA : Nat → ClassId) (ga : Nat → Nat → Nat) (φ : hpM) (sz : Nat) (az : Nat → Nat) (tn tk tm : Nat) (tg sc : Nat → Nat) (ar : Nat → Nat → Nat) (w : Nat → Nat → Nat → Nat) (ez o oi : Nat → Nat → Nat) (k b : Nat) (hY : YW cA ga az tk tm tg sc ar w ez o φ) (hI : LI tn sc ar w ez oi) (hT : TY tk tg) (hk : k < sc 3) (hb : b < 6) : hM l yX8_widthAnew cX8_widthAnew 4 (some .int) { frames := 10, cells := 4, slots := 24, locals := 320 } [.ref (az 0), .int (nI k), .int (nI b)] D cA ga φ sz (fun v φ' => v = some (.int (nI (w 0 k b))) ∧ φ' = φ) 4 24 := by
  obtain ⟨ad, rfl, hP⟩ := hY
  have hl1 := hI.l1
  refine hMX.ok (c_widthAnew l hfl D cA ga φ sz (ad 0 0) (ad 0 1) (ad 0 3) (ad 0 4) (ad 0 5) (ad 0 6) (ad 0 7) (sc 2) (sc 3) (sc 5) (sc 4) (sc 6) (ad 2) (ad 3) (ad 4) (ar 3) (ez 1) (ar 7) (ar 9) (ad 6) (ez 2) (w 0) (w 1) (ar 10) (ar 11) (nI k) (nI b) (hP.at (r := 0) (j := 0) rfl) (hP.at (r := 0) (j := 4) rfl) hP.cn hI.hcb hI.l1.2.1 hP.bl hI.hbb hI.hdr) (fun E φ' h => h.2.2 (anewX_0 hk (by omega) hb)) (fun v φ' h => ?_)
  obtain ⟨-, x1, z1, hx1, hz1, hxn, hzn, rfl, hp9⟩ := h
  have ix1 : x1 = k := jI_inj hx1.symm (by omega) (by omega)
  subst ix1
  have iz1 : z1 = b := jI_inj hz1.symm (by omega) (by omega)
  subst iz1
  refine ⟨?_, hp9⟩
  congr 3
  by_cases h0 : ez 2 x1 = 0
  · rw [if_pos h0]; exact ((hI.l5 x1 hxn).2.2.2.1 h0 z1 hzn).symm
  · rw [if_neg h0]; exact ((hI.l5 x1 hxn).2.2.2.2.1 h0 z1 hzn).symm
set_option maxHeartbeats 1000000 in
theorem ys_fits (l : Launch) (hfl : l.stackTraces = false) (D : va_G) (cA : Nat → ClassId) (ga : Nat → Nat → Nat) (φ : hpM) (sz : Nat) (az : Nat → Nat) (tn tk tm : Nat) (tg sc : Nat → Nat) (ar : Nat → Nat → Nat) (w : Nat → Nat → Nat → Nat) (ez o oi : Nat → Nat → Nat) (k : Nat) (hY : YW cA ga az tk tm tg sc ar w ez o φ) (hI : LI tn sc ar w ez oi) (hT : TY tk tg) (hk : k < sc 3) : hM l yX8_fits cX8_fits 3 (some .boolean) { frames := 10, cells := 2, slots := 12, locals := 320 } [.ref (az 0), .int (nI k)] D cA ga φ sz (fun v φ' => v = some (.int (nI (fiR (w 0 k 0) (oi 4 8 * 785 / 1000)))) ∧ φ' = φ) 2 12 := by
  obtain ⟨ad, rfl, hP⟩ := hY
  have hl1 := hI.l1
  refine hMX.ok (c_fits l hfl D cA ga φ sz (ad 0 0) (ad 0 1) (ad 0 3) (ad 0 4) (ad 0 5) (ad 0 6) (ad 0 7) (sc 2) (sc 3) (sc 5) (sc 4) (sc 6) (ad 2) (ad 3) (ad 4) (ar 3) (ez 1) (ar 7) (ar 9) (ad 6) (ez 2) (w 0) (w 1) (ad 0 8) (ar 14) (nI k) (hP.at (r := 0) (j := 0) rfl) (hP.at (r := 0) (j := 4) rfl) (hP.at (r := 0) (j := 7) rfl) (hP.at (r := 0) (j := 8) rfl) hP.cn hI.hcb hI.l1.2.1 hI.l8) (fun E φ' h => h.2.2 (inX_0 hk (by omega))) (fun v φ' h => ?_)
  obtain ⟨-, x1, hx1, hxn, rfl, hp9⟩ := h
  have ix1 : x1 = k := jI_inj hx1.symm (by omega) (by omega)
  subst ix1
  rw [hI.lr.2]
  exact ⟨rfl, hp9⟩
set_option maxHeartbeats 1000000 in
theorem ys_size (l : Launch) (hfl : l.stackTraces = false) (D : va_G) (cA : Nat → ClassId) (ga : Nat → Nat → Nat) (φ : hpM) (sz : Nat) (az : Nat → Nat) (tn tk tm : Nat) (tg sc : Nat → Nat) (ar : Nat → Nat → Nat) (w : Nat → Nat → Nat → Nat) (ez o oi : Nat → Nat → Nat) (k : Nat) (hY : YW cA ga az tk tm tg sc ar w ez o φ) (hI : LI tn sc ar w ez oi) (hT : TY tk tg) (hk : k < 4) : hM l yX8_size cX8_size 2 (some .int) { frames := 10, cells := 2, slots := 12, locals := 320 } [.ref (az 0), .int (nI k)] D cA ga φ sz (fun v φ' => v = some (.int (nI ((szF k (oi 4 8 * 785 / 1000)).toNat))) ∧ φ' = φ) 2 12 := by
  obtain ⟨ad, rfl, hP⟩ := hY
  have hl1 := hI.l1
  refine hMX.ok (c_size l hfl D cA ga φ sz (ad 0 0) (ad 0 1) (ad 0 3) (ad 0 4) (ad 0 5) (ad 0 6) (ad 0 7) (sc 2) (sc 3) (sc 5) (sc 4) (sc 6) (ad 0 8) (ar 14) (nI k) (hP.at (r := 0) (j := 0) rfl) (hP.at (r := 0) (j := 7) rfl) (hP.at (r := 0) (j := 8) rfl) hI.l8) (fun E φ' h => h.2.2 (inX_0 hk (by omega))) (fun v φ' h => ?_)
  obtain ⟨-, x1, hx1, hxn, rfl, hp9⟩ := h
  have ix1 : x1 = k := jI_inj hx1.symm (by omega) (by omega)
  subst ix1
  rw [hI.lr.2]
  exact ⟨rfl, hp9⟩
set_option maxHeartbeats 1000000 in
theorem ys_grams (l : Launch) (hfl : l.stackTraces = false) (D : va_G) (cA : Nat → ClassId) (ga : Nat → Nat → Nat) (φ : hpM) (sz : Nat) (az : Nat → Nat) (tn tk tm : Nat) (tg sc : Nat → Nat) (ar : Nat → Nat → Nat) (w : Nat → Nat → Nat → Nat) (ez o oi : Nat → Nat → Nat) (k : Nat) (hY : YW cA ga az tk tm tg sc ar w ez o φ) (hI : LI tn sc ar w ez oi) (hT : TY tk tg) (hk : k < sc 2) : hM l yX8_grams cX8_grams 2 (some .int) { frames := 10, cells := 2, slots := 12, locals := 320 } [.ref (az 0), .int (nI k)] D cA ga φ sz (fun v φ' => v = some (.int (nI (ar 2 k))) ∧ φ' = φ) 2 12 := by
  obtain ⟨ad, rfl, hP⟩ := hY
  have hl1 := hI.l1
  refine hMX.ok (c_grams l hfl D cA ga φ sz (ad 0 0) (ad 0 1) (ad 0 3) (ad 0 4) (ad 0 5) (ad 0 6) (ad 0 7) (sc 2) (sc 3) (sc 5) (sc 4) (sc 6) (ad 1) (ar 1) (ar 2) (nI k) (hP.at (r := 0) (j := 0) rfl) (hP.at (r := 0) (j := 3) rfl) hP.lt hI.l1.1) (fun E φ' h => h.2.2 (inX_0 hk (by omega))) (fun v φ' h => ?_)
  obtain ⟨-, x1, hx1, hxn, rfl, hp9⟩ := h
  have ix1 : x1 = k := jI_inj hx1.symm (by omega) (by omega)
  subst ix1
  exact ⟨rfl, hp9⟩
set_option maxHeartbeats 1000000 in
theorem ys_air (l : Launch) (hfl : l.stackTraces = false) (D : va_G) (cA : Nat → ClassId) (ga : Nat → Nat → Nat) (φ : hpM) (sz : Nat) (az : Nat → Nat) (tn tk tm : Nat) (tg sc : Nat → Nat) (ar : Nat → Nat → Nat) (w : Nat → Nat → Nat → Nat) (ez o oi : Nat → Nat → Nat) (k b : Nat) (hY : YW cA ga az tk tm tg sc ar w ez o φ) (hI : LI tn sc ar w ez oi) (hT : TY tk tg) (hk : k < sc 5) (hb : b ≤ 1) : hM l yX8_air cX8_air 4 (some .int) { frames := 10, cells := 2, slots := 12, locals := 320 } [.ref (az 0), .int (nI k), .int (nI b)] D cA ga φ sz (fun v φ' => v = some (.int (nI (if b = 0 then ar 13 k else ar 12 k))) ∧ φ' = φ) 2 12 := by
  obtain ⟨ad, rfl, hP⟩ := hY
  have hl1 := hI.l1
  refine hMX.ok (c_air l hfl D cA ga φ sz (ad 0 0) (ad 0 1) (ad 0 3) (ad 0 4) (ad 0 5) (ad 0 6) (ad 0 7) (sc 2) (sc 3) (sc 5) (sc 4) (sc 6) (ad 5) (ar 12) (ar 13) (nI k) (nI b) (hP.at (r := 0) (j := 0) rfl) (hP.at (r := 0) (j := 5) rfl) hP.ha hI.l1.2.2.2) (fun E φ' h => h.2.2 (inX_0 hk (by omega))) (fun v φ' h => ?_)
  obtain ⟨-, x1, hx1, hxn, rfl, hp9⟩ := h
  have ix1 : x1 = k := jI_inj hx1.symm (by omega) (by omega)
  subst ix1
  refine ⟨?_, hp9⟩
  rcases (show b = 0 ∨ b = 1 by omega) with rfl | rfl <;> rfl
set_option maxHeartbeats 1000000 in
theorem ys_count (l : Launch) (hfl : l.stackTraces = false) (D : va_G) (cA : Nat → ClassId) (ga : Nat → Nat → Nat) (φ : hpM) (sz : Nat) (az : Nat → Nat) (tn tk tm : Nat) (tg sc : Nat → Nat) (ar : Nat → Nat → Nat) (w : Nat → Nat → Nat → Nat) (ez o oi : Nat → Nat → Nat) (x : Nat) (hY : YW cA ga az tk tm tg sc ar w ez o φ) (hI : LI tn sc ar w ez oi) (hT : TY tk tg) (h1 : 1 ≤ x) (h2 : x ≤ 100) : hM l yX8_count cX8_count 3 (some .int) { frames := 14, cells := 1, slots := 6, locals := 560 } [.ref (az 0), .int (nI x)] D cA ga φ sz (fun v φ' => v = some (.int (ctR (fiF 7 tg tk 4 0) x)) ∧ YW cA ga az 0 (if tk = 0 then tm else 1) tg sc ar w ez o φ') 1 6 := by
  obtain ⟨ad, rfl, hP⟩ := hY
  have hl1 := hI.l1
  refine hMX.ok (c_count l hfl D cA ga φ sz (ad 0 0) (ad 0 1) (ad 0 3) (ad 0 4) (ad 0 5) (ad 0 6) (ad 0 7) (sc 2) (sc 3) (sc 5) (sc 4) (sc 6) (ad 0 2) tm tk tg (nI x) (hP.at (r := 0) (j := 0) rfl) (hP.at (r := 0) (j := 1) rfl) (hP.at (r := 0) (j := 2) rfl) hT.1 hT.2) (fun E φ' h => h.2.2 (cntX_0 h1 h2)) (fun v φ' h => ?_)
  obtain ⟨-, x1, hx1, hxlo, hxhi, rfl, hp9⟩ := h
  have ix1 : x1 = x := jI_inj hx1.symm (by omega) (by omega)
  subst ix1
  exact ⟨rfl, ad, rfl, by rw [hp9]; exact yp_clear hP⟩
set_option maxHeartbeats 1000000 in
theorem ys_countAnew (l : Launch) (hfl : l.stackTraces = false) (D : va_G) (cA : Nat → ClassId) (ga : Nat → Nat → Nat) (φ : hpM) (sz : Nat) (az : Nat → Nat) (tn tk tm : Nat) (tg sc : Nat → Nat) (ar : Nat → Nat → Nat) (w : Nat → Nat → Nat → Nat) (ez o oi : Nat → Nat → Nat) (x : Nat) (hY : YW cA ga az tk tm tg sc ar w ez o φ) (hI : LI tn sc ar w ez oi) (hT : TY tk tg) (h1 : 1 ≤ x) (h2 : x ≤ 100) : hM l yX8_countAnew cX8_countAnew 3 (some .int) { frames := 14, cells := 1, slots := 6, locals := 560 } [.ref (az 0), .int (nI x)] D cA ga φ sz (fun v φ' => v = some (.int (ctR (fiF 7 tg tk 4 0) x)) ∧ YW cA ga az 0 (if tk = 0 then tm else 1) tg sc ar w ez o φ') 1 6 := by
  obtain ⟨ad, rfl, hP⟩ := hY
  have hl1 := hI.l1
  refine hMX.ok (c_countAnew l hfl D cA ga φ sz (ad 0 0) (ad 0 1) (ad 0 3) (ad 0 4) (ad 0 5) (ad 0 6) (ad 0 7) (sc 2) (sc 3) (sc 5) (sc 4) (sc 6) (ad 0 2) tm tk tg (nI x) (hP.at (r := 0) (j := 0) rfl) (hP.at (r := 0) (j := 1) rfl) (hP.at (r := 0) (j := 2) rfl) hT.1 hT.2) (fun E φ' h => h.2.2 (cntX_0 h1 h2)) (fun v φ' h => ?_)
  obtain ⟨-, x1, hx1, hxlo, hxhi, rfl, hp9⟩ := h
  have ix1 : x1 = x := jI_inj hx1.symm (by omega) (by omega)
  subst ix1
  exact ⟨rfl, ad, rfl, by rw [hp9]; exact yp_clear hP⟩
set_option maxHeartbeats 1000000 in
theorem ys_rows (l : Launch) (hfl : l.stackTraces = false) (D : va_G) (cA : Nat → ClassId) (ga : Nat → Nat → Nat) (φ : hpM) (sz : Nat) (az : Nat → Nat) (tn tk tm : Nat) (tg sc : Nat → Nat) (ar : Nat → Nat → Nat) (w : Nat → Nat → Nat → Nat) (ez o oi : Nat → Nat → Nat) (x : Nat) (hY : YW cA ga az tk tm tg sc ar w ez o φ) (hI : LI tn sc ar w ez oi) (hT : TY tk tg) (h1 : 1 ≤ x) (h2 : x ≤ 2000) : hM l yX8_rows cX8_rows 3 (some .int) { frames := 14, cells := 1, slots := 6, locals := 560 } [.ref (az 0), .int (nI x)] D cA ga φ sz (fun v φ' => v = some (.int (rwR (fiF 7 tg tk 4 0) x)) ∧ YW cA ga az 0 (if tk = 0 then tm else 1) tg sc ar w ez o φ') 1 6 := by
  obtain ⟨ad, rfl, hP⟩ := hY
  have hl1 := hI.l1
  refine hMX.ok (c_rows l hfl D cA ga φ sz (ad 0 0) (ad 0 1) (ad 0 3) (ad 0 4) (ad 0 5) (ad 0 6) (ad 0 7) (sc 2) (sc 3) (sc 5) (sc 4) (sc 6) (ad 0 2) tm tk tg (nI x) (hP.at (r := 0) (j := 0) rfl) (hP.at (r := 0) (j := 1) rfl) (hP.at (r := 0) (j := 2) rfl) hT.1 hT.2) (fun E φ' h => h.2.2 (rowsX_0 h1 h2)) (fun v φ' h => ?_)
  obtain ⟨-, x1, hx1, hxlo, hxhi, rfl, hp9⟩ := h
  have ix1 : x1 = x := jI_inj hx1.symm (by omega) (by omega)
  subst ix1
  exact ⟨rfl, ad, rfl, by rw [hp9]; exact yp_clear hP⟩
set_option maxHeartbeats 1000000 in
theorem ys_letter (l : Launch) (hfl : l.stackTraces = false) (D : va_G) (cA : Nat → ClassId) (ga : Nat → Nat → Nat) (φ : hpM) (sz : Nat) (az : Nat → Nat) (tn tk tm : Nat) (tg sc : Nat → Nat) (ar : Nat → Nat → Nat) (w : Nat → Nat → Nat → Nat) (ez o oi : Nat → Nat → Nat) (x : Nat) (hY : YW cA ga az tk tm tg sc ar w ez o φ) (hI : LI tn sc ar w ez oi) (hT : TY tk tg) (hk : tk < 7) (h1 : 97 ≤ x) (h2 : x ≤ 122) : hM l yX8_letter cX8_letter 2 (some .int) { frames := 11, cells := 2, slots := 12, locals := 380 } [.ref (az 0), .int (nI x)] D cA ga φ sz (fun v φ' => v = some (.int (nI (tk + 1))) ∧ YW cA ga az (tk + 1) tm (va_up tg tk x) sc ar w ez o φ') 2 12 := by
  obtain ⟨ad, rfl, hP⟩ := hY
  have hl1 := hI.l1
  refine hMX.ok (c_letter l hfl D cA ga φ sz (ad 0 0) (ad 0 1) (ad 0 3) (ad 0 4) (ad 0 5) (ad 0 6) (ad 0 7) (sc 2) (sc 3) (sc 5) (sc 4) (sc 6) (ad 0 2) tm tk tg (nI x) (hP.at (r := 0) (j := 0) rfl) (hP.at (r := 0) (j := 1) rfl) (hP.at (r := 0) (j := 2) rfl) hT.1) (fun E φ' h => h.2.2 (letterX_00 hk h1 h2)) (fun v φ' h => ?_)
  obtain ⟨-, x1, hx1, hxlo, hxhi, rfl, hp9⟩ := h
  have ix1 : x1 = x := jI_inj hx1.symm (by omega) (by omega)
  subst ix1
  exact ⟨rfl, ad, rfl, by rw [hp9]; exact yp_letter hP x1⟩
set_option maxHeartbeats 1000000 in
theorem ys_lot (l : Launch) (hfl : l.stackTraces = false) (D : va_G) (cA : Nat → ClassId) (ga : Nat → Nat → Nat) (φ : hpM) (sz : Nat) (az : Nat → Nat) (tn tk tm : Nat) (tg sc : Nat → Nat) (ar : Nat → Nat → Nat) (w : Nat → Nat → Nat → Nat) (ez o oi : Nat → Nat → Nat) (x : Nat) (hY : YW cA ga az tk tm tg sc ar w ez o φ) (hI : LI tn sc ar w ez oi) (hT : TY tk tg) (hk : sc 2 < 10) (h1 : 1 ≤ x) (h2 : x ≤ 5000) : hM l yX8_lot cX8_lot 3 (some .int) { frames := 14, cells := 3, slots := 14, locals := 560 } [.ref (az 0), .int (nI x)] D cA ga φ sz (fun v φ' => (fiF 0 tg tk 4 0 = none ∧ v = some (.int (-1)) ∧ YW cA ga az 0 (if tk = 0 then tm else 1) tg sc ar w ez o φ') ∨ (∃ fu : Nat, fiF 0 tg tk 4 0 = some fu ∧ v = some (.int (nI (sc 2))) ∧ YW cA ga az 0 (if tk = 0 then tm else 1) tg (va_up sc 2 (sc 2 + 1)) (va_up (va_up ar 1 (va_up (ar 1) (sc 2) fu)) 2 (va_up (ar 2) (sc 2) x)) w ez o φ')) 3 14 := by
  obtain ⟨ad, rfl, hP⟩ := hY
  have hl1 := hI.l1
  refine hMX.ok (c_lot l hfl D cA ga φ sz (ad 0 0) (ad 0 1) (ad 0 3) (ad 0 4) (ad 0 5) (ad 0 6) (ad 0 7) (sc 2) (sc 3) (sc 5) (sc 4) (sc 6) (ad 0 2) tm tk tg (ad 1) (nI x) (hP.at (r := 0) (j := 0) rfl) (hP.at (r := 0) (j := 1) rfl) (hP.at (r := 0) (j := 2) rfl) (hP.at (r := 0) (j := 3) rfl) hT.1 hT.2 hI.l1.1) (fun E φ' h => h.2.2 (lotX_00 hk h1 h2)) (fun v φ' h => ?_)
  obtain ⟨-, x1, hx1, hxlo, hxhi, hw9⟩ := h
  have ix1 : x1 = x := jI_inj hx1.symm (by omega) (by omega)
  subst ix1
  rcases hw9 with ⟨hno, rfl, hp9⟩ | ⟨fu, q, hso, hq, rfl, hp9⟩
  · exact Or.inl ⟨hno, rfl, ad, rfl, by rw [hp9]; exact yp_clear hP⟩
  · exact Or.inr ⟨fu, hso, rfl, va_up ad 1 (va_up (ad 1) (sc 2) q), rfl, by rw [hp9]; exact yp_lot hP fu x1 q hq⟩
set_option maxHeartbeats 1000000 in
theorem ys_cone (l : Launch) (hfl : l.stackTraces = false) (D : va_G) (cA : Nat → ClassId) (ga : Nat → Nat → Nat) (φ : hpM) (sz : Nat) (az : Nat → Nat) (tn tk tm : Nat) (tg sc : Nat → Nat) (ar : Nat → Nat → Nat) (w : Nat → Nat → Nat → Nat) (ez o oi : Nat → Nat → Nat) (x y t : Nat) (hY : YW cA ga az tk tm tg sc ar w ez o φ) (hI : LI tn sc ar w ez oi) (hT : TY tk tg) (hx : x < sc 2) (h1 : 10 ≤ y) (h2 : y ≤ 500) (ht : t ≤ 5) (hk : sc 3 < 12) (hg : y ≤ ar 2 x) : hM l yX8_cone cX8_cone 5 (some .int) { frames := 10, cells := 9, slots := 55, locals := 320 } [.ref (az 0), .int (nI x), .int (nI y), .int (nI t)] D cA ga φ sz (fun v φ' => v = some (.int (nI (sc 3))) ∧ YW cA ga az tk tm tg (va_up sc 3 (sc 3 + 1)) (va_up (va_up ar 2 (va_up (ar 2) x (ar 2 x - y))) 3 (va_up (ar 3) (sc 3) (ar 1 x))) (va_up (va_up w 0 (va_up (w 0) (sc 3) (pfx (fun b => 1200 - 150 * b) zr 6))) 1 (va_up (w 1) (sc 3) (va_up (pfx (gB y t) zr 6) 0 (gB y t 0 + (y - smN (gB y t) 6))))) (va_up (va_up ez 1 (va_up (ez 1) (sc 3) 60)) 2 (va_up (ez 2) (sc 3) 0)) o φ') 9 55 := by
  obtain ⟨ad, rfl, hP⟩ := hY
  have hl1 := hI.l1
  refine hMX.ok (c_cone l hfl D cA ga φ sz (ad 0 0) (ad 0 1) (ad 0 3) (ad 0 4) (ad 0 5) (ad 0 6) (ad 0 7) (sc 2) (sc 3) (sc 5) (sc 4) (sc 6) (ad 1) (ad 2) (ar 1) (ar 2) (nI x) (nI y) (nI t) (hP.at (r := 0) (j := 0) rfl) (hP.at (r := 0) (j := 4) rfl) (hP.at (r := 0) (j := 3) rfl) hP.lt (fun i _ => hI.l2 i) hI.l1.1 hI.l1.2.1) (fun E φ' h => h.2.2 (coneX_00 hx (by omega) h1 h2 ht hk hg)) (fun v φ' h => ?_)
  obtain ⟨-, x1, z1, t1, hx1, hz1, ht1, hxn, hzlo, hzhi, hthi, hzg, hn12, rfl, q, q1, q2, hq, hq1, hq2, hqn, hp9⟩ := h
  have ix1 : x1 = x := jI_inj hx1.symm (by omega) (by omega)
  subst ix1
  have iz1 : z1 = y := jI_inj hz1.symm (by omega) (by omega)
  subst iz1
  have it1 : t1 = t := jI_inj ht1.symm (by omega) (by omega)
  subst it1
  exact ⟨rfl, va_up (va_up (va_up ad 2 (va_up (ad 2) (sc 3) q)) 3 (va_up (ad 3) (sc 3) q1)) 4 (va_up (ad 4) (sc 3) q2), rfl, by rw [hp9]; exact yp_cone hP x1 z1 t1 q q1 q2 hxn hq hq1 hq2 hqn (hI.l4 _ (Nat.le_refl _)).1 (hI.l4 _ (Nat.le_refl _)).2.1⟩
set_option maxHeartbeats 1000000 in
theorem ys_hand (l : Launch) (hfl : l.stackTraces = false) (D : va_G) (cA : Nat → ClassId) (ga : Nat → Nat → Nat) (φ : hpM) (sz : Nat) (az : Nat → Nat) (tn tk tm : Nat) (tg sc : Nat → Nat) (ar : Nat → Nat → Nat) (w : Nat → Nat → Nat → Nat) (ez o oi : Nat → Nat → Nat) (hY : YW cA ga az tk tm tg sc ar w ez o φ) (hI : LI tn sc ar w ez oi) (hT : TY tk tg) (hk : sc 5 < 6) : hM l yX8_hand cX8_hand 1 (some .int) { frames := 9, cells := 2, slots := 8, locals := 260 } [.ref (az 0)] D cA ga φ sz (fun v φ' => v = some (.int (nI (sc 5))) ∧ YW cA ga az tk tm tg (va_up sc 5 (sc 5 + 1)) ar w ez o φ') 2 8 := by
  obtain ⟨ad, rfl, hP⟩ := hY
  have hl1 := hI.l1
  refine hMX.ok (c_hand l hfl D cA ga φ sz (ad 0 0) (ad 0 1) (ad 0 3) (ad 0 4) (ad 0 5) (ad 0 6) (ad 0 7) (sc 2) (sc 3) (sc 5) (sc 4) (sc 6) (ad 5) (hP.at (r := 0) (j := 0) rfl) (hP.at (r := 0) (j := 5) rfl) hI.l1.2.2.2) (fun E φ' h => h.2.2 (by rw [handX, if_pos hk])) (fun v φ' h => ?_)
  obtain ⟨-, hn6, rfl, q, hq, hp9⟩ := h
  exact ⟨rfl, va_up ad 5 (va_up (ad 5) (sc 5) q), rfl, by rw [hp9]; exact yp_hand hP q hq (hI.l7.2 _ (Nat.le_refl _)).1 (hI.l7.2 _ (Nat.le_refl _)).2⟩
set_option maxHeartbeats 1000000 in
theorem ys_cycle (l : Launch) (hfl : l.stackTraces = false) (D : va_G) (cA : Nat → ClassId) (ga : Nat → Nat → Nat) (φ : hpM) (sz : Nat) (az : Nat → Nat) (tn tk tm : Nat) (tg sc : Nat → Nat) (ar : Nat → Nat → Nat) (w : Nat → Nat → Nat → Nat) (ez o oi : Nat → Nat → Nat) (x z : Nat) (hY : YW cA ga az tk tm tg sc ar w ez o φ) (hI : LI tn sc ar w ez oi) (hT : TY tk tg) (hx : x < sc 3) (hz : z < sc 5) (ha : ar 12 z + fAir (ar 3 x) ≤ 30) (hd : ez 2 x = 0) (hc : ar 7 x < 12) : hM l yX8_cycle cX8_cycle 5 (some .int) { frames := 10, cells := 8, slots := 48, locals := 320 } [.ref (az 0), .int (nI x), .int (nI z)] D cA ga φ sz (fun v φ' => v = some (.int (nI (shA (ar 3 x) (w 0 x 0)))) ∧ YW cA ga az tk tm tg sc (va_up (va_up (va_up ar 7 (va_up (ar 7) x (ar 7 x + 1))) 12 (va_up (ar 12) z (ar 12 z + fAir (ar 3 x)))) 13 (va_up (ar 13) z (ar 13 z + fAir (ar 3 x)))) (va_up w 0 (va_up (w 0) x (shP (ar 3 x) (w 0 x) 6))) (va_up ez 1 (va_up (ez 1) x (shL (ar 3 x) (ez 1 x)))) o φ') 8 48 := by
  obtain ⟨ad, rfl, hP⟩ := hY
  have hl1 := hI.l1
  refine hMX.ok (c_cycle l hfl D cA ga φ sz (ad 0 0) (ad 0 1) (ad 0 3) (ad 0 4) (ad 0 5) (ad 0 6) (ad 0 7) (sc 2) (sc 3) (sc 5) (sc 4) (sc 6) (ad 2) (ad 3) (ad 4) (ar 3) (ez 1) (ar 7) (ar 9) (ad 6) (ez 2) (w 0) (w 1) (ad 5) (ar 12) (ar 13) (nI x) (nI z) (hP.at (r := 0) (j := 0) rfl) (hP.at (r := 0) (j := 4) rfl) (hP.at (r := 0) (j := 5) rfl) hP.cn hI.hcb hI.l1.2.1 hP.ha hI.l1.2.2.2 (fun i _ => (hI.l7.1 i).1)) (fun E φ' h => h.2.2 (cycleX_00 hx (by omega) hz (by omega) ha hd hc)) (fun v φ' h => ?_)
  obtain ⟨-, x1, z1, hx1, hz1, hxn, hzn, hair, hd0, hc12, rfl, hp9⟩ := h
  have ix1 : x1 = x := jI_inj hx1.symm (by omega) (by omega)
  subst ix1
  have iz1 : z1 = z := jI_inj hz1.symm (by omega) (by omega)
  subst iz1
  exact ⟨rfl, ad, rfl, by rw [hp9]; exact yp_cycle hP x1 z1 hxn hzn⟩
set_option maxHeartbeats 1000000 in
theorem ys_block (l : Launch) (hfl : l.stackTraces = false) (D : va_G) (cA : Nat → ClassId) (ga : Nat → Nat → Nat) (φ : hpM) (sz : Nat) (az : Nat → Nat) (tn tk tm : Nat) (tg sc : Nat → Nat) (ar : Nat → Nat → Nat) (w : Nat → Nat → Nat → Nat) (ez o oi : Nat → Nat → Nat) (x z : Nat) (hY : YW cA ga az tk tm tg sc ar w ez o φ) (hI : LI tn sc ar w ez oi) (hT : TY tk tg) (hk : sc 4 < 8) (h1 : 300 ≤ x) (h2 : x ≤ 700) (h3 : 1 ≤ z) (h4 : z ≤ 6) : hM l yX8_block cX8_block 3 (some .int) { frames := 9, cells := 4, slots := 20, locals := 260 } [.ref (az 0), .int (nI x), .int (nI z)] D cA ga φ sz (fun v φ' => v = some (.int (nI (sc 4))) ∧ YW cA ga az tk tm tg (va_up sc 4 (sc 4 + 1)) (va_up (va_up ar 10 (va_up (ar 10) (sc 4) x)) 11 (va_up (ar 11) (sc 4) z)) w ez o φ') 4 20 := by
  obtain ⟨ad, rfl, hP⟩ := hY
  have hl1 := hI.l1
  refine hMX.ok (c_block l hfl D cA ga φ sz (ad 0 0) (ad 0 1) (ad 0 3) (ad 0 4) (ad 0 5) (ad 0 6) (ad 0 7) (sc 2) (sc 3) (sc 5) (sc 4) (sc 6) (ad 6) (nI x) (nI z) (hP.at (r := 0) (j := 0) rfl) (hP.at (r := 0) (j := 6) rfl) hI.l1.2.2.1) (fun E φ' h => h.2.2 (blockX_00 hk h1 h2 h3 h4)) (fun v φ' h => ?_)
  obtain ⟨-, x1, z1, hx1, hz1, hxlo, hxhi, hzlo, hzhi, hn8, rfl, q, hq, hp9⟩ := h
  have ix1 : x1 = x := jI_inj hx1.symm (by omega) (by omega)
  subst ix1
  have iz1 : z1 = z := jI_inj hz1.symm (by omega) (by omega)
  subst iz1
  exact ⟨rfl, va_up ad 6 (va_up (ad 6) (sc 4) q), rfl, by rw [hp9]; exact yp_block hP x1 z1 q hq hI.hdr⟩
set_option maxHeartbeats 1000000 in
theorem ys_draw (l : Launch) (hfl : l.stackTraces = false) (D : va_G) (cA : Nat → ClassId) (ga : Nat → Nat → Nat) (φ : hpM) (sz : Nat) (az : Nat → Nat) (tn tk tm : Nat) (tg sc : Nat → Nat) (ar : Nat → Nat → Nat) (w : Nat → Nat → Nat → Nat) (ez o oi : Nat → Nat → Nat) (x z : Nat) (hY : YW cA ga az tk tm tg sc ar w ez o φ) (hI : LI tn sc ar w ez oi) (hT : TY tk tg) (hx : x < sc 3) (hz : z < sc 4) : hM l yX8_draw cX8_draw 6 (some .int) { frames := 12, cells := 4, slots := 24, locals := 440 } [.ref (az 0), .int (nI x), .int (nI z)] D cA ga φ sz (fun v φ' => v = some (.int (nI (refR (ar 3 x) (ez 1 x) (w 0 x) (w 1 x) (bW (ar 10 z) (ar 11 z))))) ∧ (refR (ar 3 x) (ez 1 x) (w 0 x) (w 1 x) (bW (ar 10 z) (ar 11 z)) ≠ 0 → φ' = φ) ∧ (refR (ar 3 x) (ez 1 x) (w 0 x) (w 1 x) (bW (ar 10 z) (ar 11 z)) = 0 → YW cA ga az tk tm tg sc ar (va_up w 0 (va_up (w 0) x (pfx (bW (ar 10 z) (ar 11 z)) (w 0 x) 6))) (va_up ez 2 (va_up (ez 2) x (z + 1))) o φ')) 4 24 := by
  obtain ⟨ad, rfl, hP⟩ := hY
  have hl1 := hI.l1
  refine hMX.ok (c_draw l hfl D cA ga φ sz (ad 0 0) (ad 0 1) (ad 0 3) (ad 0 4) (ad 0 5) (ad 0 6) (ad 0 7) (sc 2) (sc 3) (sc 5) (sc 4) (sc 6) (ad 2) (ad 3) (ad 4) (ar 3) (ez 1) (ar 7) (ar 9) (ad 6) (ez 2) (w 0) (w 1) (ar 10) (ar 11) (nI x) (nI z) (hP.at (r := 0) (j := 0) rfl) (hP.at (r := 0) (j := 4) rfl) (hP.at (r := 0) (j := 6) rfl) hP.cn hI.hcb hI.l1.2.1 hP.bl hI.hbb hI.l1.2.2.1) (fun E φ' h => h.2.2 (drawX_0 hx (by omega) hz (by omega))) (fun v φ' h => ?_)
  obtain ⟨-, x1, z1, hx1, hz1, hxn, hzn, rfl, hp9⟩ := h
  have ix1 : x1 = x := jI_inj hx1.symm (by omega) (by omega)
  subst ix1
  have iz1 : z1 = z := jI_inj hz1.symm (by omega) (by omega)
  subst iz1
  exact ⟨rfl, fun h0 => by rw [hp9, if_neg h0], fun h0 => ⟨ad, rfl, by rw [hp9, if_pos h0]; exact yp_draw hP x1 z1 _ hxn hzn⟩⟩
set_option maxHeartbeats 1000000 in
theorem ys_trim (l : Launch) (hfl : l.stackTraces = false) (D : va_G) (cA : Nat → ClassId) (ga : Nat → Nat → Nat) (φ : hpM) (sz : Nat) (az : Nat → Nat) (tn tk tm : Nat) (tg sc : Nat → Nat) (ar : Nat → Nat → Nat) (w : Nat → Nat → Nat → Nat) (ez o oi : Nat → Nat → Nat) (x : Nat) (hY : YW cA ga az tk tm tg sc ar w ez o φ) (hI : LI tn sc ar w ez oi) (hT : TY tk tg) (hx : x < sc 3) (ht : ar 9 x = 0) (h200 : tn ≤ 200) : hM l yX8_trim cX8_trim 4 (some .boolean) { frames := 14, cells := 3, slots := 18, locals := 560 } [.ref (az 0), .int (nI x)] D cA ga φ sz (fun v φ' => v = some (.int (nI (trR (fiF 4 tg tk 3 0) (sc 6)))) ∧ YW cA ga az 0 (if tk = 0 then tm else 1) tg sc (va_up ar 9 (va_up (ar 9) x (trR (fiF 4 tg tk 3 0) (sc 6)))) w ez o φ') 3 18 := by
  obtain ⟨ad, rfl, hP⟩ := hY
  have hl1 := hI.l1
  refine hMX.ok (c_trim l hfl D cA ga φ sz (ad 0 0) (ad 0 1) (ad 0 3) (ad 0 4) (ad 0 5) (ad 0 6) (ad 0 7) (sc 2) (sc 3) (sc 5) (sc 4) (sc 6) (ad 0 2) tm tk tg (ad 2) (ad 3) (ad 4) (ar 3) (ez 1) (ar 7) (ar 9) (ad 6) (ez 2) (w 0) (w 1) (nI x) (hP.at (r := 0) (j := 0) rfl) (hP.at (r := 0) (j := 1) rfl) (hP.at (r := 0) (j := 2) rfl) (hP.at (r := 0) (j := 4) rfl) hP.cn hI.hcb hI.l1.2.1 hT.1 hT.2 (by have := hI.l9.1; omega)) (fun E φ' h => h.2.2 (trimX_00 hx (by omega) ht)) (fun v φ' h => ?_)
  obtain ⟨-, x1, hx1, hxn, htr0, rfl, hp9⟩ := h
  have ix1 : x1 = x := jI_inj hx1.symm (by omega) (by omega)
  subst ix1
  exact ⟨rfl, ad, rfl, by rw [hp9]; exact yp_trim hP x1 _ hxn⟩
set_option maxHeartbeats 1000000 in
theorem ys_pass (l : Launch) (hfl : l.stackTraces = false) (D : va_G) (cA : Nat → ClassId) (ga : Nat → Nat → Nat) (φ : hpM) (sz : Nat) (az : Nat → Nat) (tn tk tm : Nat) (tg sc : Nat → Nat) (ar : Nat → Nat → Nat) (w : Nat → Nat → Nat → Nat) (ez o oi : Nat → Nat → Nat) (x : Nat) (hY : YW cA ga az tk tm tg sc ar w ez o φ) (hI : LI tn sc ar w ez oi) (hT : TY tk tg) (h1 : 1 ≤ x) (h2 : x ≤ 30) (h200 : tn ≤ 200) : hM l yX8_pass cX8_pass 6 (some .int) { frames := 9, cells := 1, slots := 6, locals := 260 } [.ref (az 0), .int (nI x)] D cA ga φ sz (fun v φ' => v = some (.int (nI ((sc 6 + x) / 10))) ∧ YW cA ga az tk tm tg (va_up sc 6 (sc 6 + x)) (va_up ar 12 (pfx zr (ar 12) 6)) w ez o φ') 1 6 := by
  obtain ⟨ad, rfl, hP⟩ := hY
  have hl1 := hI.l1
  refine hMX.ok (c_pass l hfl D cA ga φ sz (ad 0 0) (ad 0 1) (ad 0 3) (ad 0 4) (ad 0 5) (ad 0 6) (ad 0 7) (sc 2) (sc 3) (sc 5) (sc 4) (sc 6) (ad 5) (ar 12) (ar 13) (nI x) (hP.at (r := 0) (j := 0) rfl) (hP.at (r := 0) (j := 5) rfl) hP.ha hP.hai (by have := hI.l9.1; omega)) (fun E φ' h => h.2.2 (passX_0 h1 h2)) (fun v φ' h => ?_)
  obtain ⟨-, x1, hx1, hxlo, hxhi, rfl, hp9⟩ := h
  have ix1 : x1 = x := jI_inj hx1.symm (by omega) (by omega)
  subst ix1
  exact ⟨rfl, ad, rfl, by rw [hp9]; exact yp_pass hP x1 hI.l1.2.2.2⟩
set_option maxHeartbeats 1000000 in
theorem ys_measure (l : Launch) (hfl : l.stackTraces = false) (D : va_G) (cA : Nat → ClassId) (ga : Nat → Nat → Nat) (φ : hpM) (sz : Nat) (az : Nat → Nat) (tn tk tm : Nat) (tg sc : Nat → Nat) (ar : Nat → Nat → Nat) (w : Nat → Nat → Nat → Nat) (ez o oi : Nat → Nat → Nat) (x z : Nat) (hY : YW cA ga az tk tm tg sc ar w ez o φ) (hI : LI tn sc ar w ez oi) (hT : TY tk tg) (h1 : x < 8) (h2 : z ≤ 200) : hM l yX8_measure cX8_measure 3 (some .int) { frames := 9, cells := 2, slots := 12, locals := 260 } [.ref (az 0), .int (nI x), .int (nI z)] D cA ga φ sz (fun v φ' => v = some (.int (nI (smN (va_up (ar 14) x z) 8 * 785 / 1000))) ∧ YW cA ga az tk tm tg sc (va_up ar 14 (va_up (ar 14) x z)) w ez o φ') 2 12 := by
  obtain ⟨ad, rfl, hP⟩ := hY
  have hl1 := hI.l1
  refine hMX.ok (c_measure l hfl D cA ga φ sz (ad 0 0) (ad 0 1) (ad 0 3) (ad 0 4) (ad 0 5) (ad 0 6) (ad 0 7) (sc 2) (sc 3) (sc 5) (sc 4) (sc 6) (ad 0 8) (ar 14) (nI x) (nI z) (hP.at (r := 0) (j := 0) rfl) (hP.at (r := 0) (j := 7) rfl) (hP.at (r := 0) (j := 8) rfl) hI.l8) (fun E φ' h => h.2.2 (measX_0 h1 h2)) (fun v φ' h => ?_)
  obtain ⟨-, x1, z1, hx1, hz1, hxn, hz2, rfl, hp9⟩ := h
  have ix1 : x1 = x := jI_inj hx1.symm (by omega) (by omega)
  subst ix1
  have iz1 : z1 = z := jI_inj hz1.symm (by omega) (by omega)
  subst iz1
  exact ⟨rfl, ad, rfl, by rw [hp9]; exact yp_measure hP x1 z1⟩
set_option maxHeartbeats 1000000 in
theorem yr_letter (l : Launch) (hfl : l.stackTraces = false) (D : va_G) (cA : Nat → ClassId) (ga : Nat → Nat → Nat) (φ : hpM) (sz : Nat) (az : Nat → Nat) (tn tk tm : Nat) (tg sc : Nat → Nat) (ar : Nat → Nat → Nat) (w : Nat → Nat → Nat → Nat) (ez o oi : Nat → Nat → Nat) (x : Int32) (hY : YW cA ga az tk tm tg sc ar w ez o φ) (hI : LI tn sc ar w ez oi) (hT : TY tk tg) (h200 : tn ≤ 200) (kx : Nat) (hz : letterX tk x = kx) (hk0 : kx ≠ 0) : hMX l yX8_letter cX8_letter 2 (some .int) { frames := 11, cells := 2, slots := 12, locals := 380 } [.ref (az 0), .int x] D cA ga φ sz (fun _ _ => False) (fun E φ' => φ' = φ ∧ E = exE kx) 2 12 := by
  obtain ⟨ad, rfl, hP⟩ := hY
  refine hMX.mono (c_letter l hfl D cA ga φ sz (ad 0 0) (ad 0 1) (ad 0 3) (ad 0 4) (ad 0 5) (ad 0 6) (ad 0 7) (sc 2) (sc 3) (sc 5) (sc 4) (sc 6) (ad 0 2) tm tk tg (x) (hP.at (r := 0) (j := 0) rfl) (hP.at (r := 0) (j := 1) rfl) (hP.at (r := 0) (j := 2) rfl) hT.1) (fun v φ' h => absurd (hz.symm.trans h.1) hk0) (fun E φ' h => ⟨h.1, by rw [← hz]; exact h.2.1⟩)
set_option maxHeartbeats 1000000 in
theorem yr_lot (l : Launch) (hfl : l.stackTraces = false) (D : va_G) (cA : Nat → ClassId) (ga : Nat → Nat → Nat) (φ : hpM) (sz : Nat) (az : Nat → Nat) (tn tk tm : Nat) (tg sc : Nat → Nat) (ar : Nat → Nat → Nat) (w : Nat → Nat → Nat → Nat) (ez o oi : Nat → Nat → Nat) (x : Int32) (hY : YW cA ga az tk tm tg sc ar w ez o φ) (hI : LI tn sc ar w ez oi) (hT : TY tk tg) (h200 : tn ≤ 200) (kx : Nat) (hz : lotX (sc 2) x = kx) (hk0 : kx ≠ 0) : hMX l yX8_lot cX8_lot 3 (some .int) { frames := 14, cells := 3, slots := 14, locals := 560 } [.ref (az 0), .int x] D cA ga φ sz (fun _ _ => False) (fun E φ' => φ' = φ ∧ E = exE kx) 3 14 := by
  obtain ⟨ad, rfl, hP⟩ := hY
  refine hMX.mono (c_lot l hfl D cA ga φ sz (ad 0 0) (ad 0 1) (ad 0 3) (ad 0 4) (ad 0 5) (ad 0 6) (ad 0 7) (sc 2) (sc 3) (sc 5) (sc 4) (sc 6) (ad 0 2) tm tk tg (ad 1) (x) (hP.at (r := 0) (j := 0) rfl) (hP.at (r := 0) (j := 1) rfl) (hP.at (r := 0) (j := 2) rfl) (hP.at (r := 0) (j := 3) rfl) hT.1 hT.2 hI.l1.1) (fun v φ' h => absurd (hz.symm.trans h.1) hk0) (fun E φ' h => ⟨h.1, by rw [← hz]; exact h.2.1⟩)
set_option maxHeartbeats 1000000 in
theorem yr_cone (l : Launch) (hfl : l.stackTraces = false) (D : va_G) (cA : Nat → ClassId) (ga : Nat → Nat → Nat) (φ : hpM) (sz : Nat) (az : Nat → Nat) (tn tk tm : Nat) (tg sc : Nat → Nat) (ar : Nat → Nat → Nat) (w : Nat → Nat → Nat → Nat) (ez o oi : Nat → Nat → Nat) (x z t : Int32) (hY : YW cA ga az tk tm tg sc ar w ez o φ) (hI : LI tn sc ar w ez oi) (hT : TY tk tg) (h200 : tn ≤ 200) (kx : Nat) (hz : coneX (sc 2) (sc 3) (ar 2) x z t = kx) (hk0 : kx ≠ 0) : hMX l yX8_cone cX8_cone 5 (some .int) { frames := 10, cells := 9, slots := 55, locals := 320 } [.ref (az 0), .int x, .int z, .int t] D cA ga φ sz (fun _ _ => False) (fun E φ' => φ' = φ ∧ E = exE kx) 9 55 := by
  obtain ⟨ad, rfl, hP⟩ := hY
  refine hMX.mono (c_cone l hfl D cA ga φ sz (ad 0 0) (ad 0 1) (ad 0 3) (ad 0 4) (ad 0 5) (ad 0 6) (ad 0 7) (sc 2) (sc 3) (sc 5) (sc 4) (sc 6) (ad 1) (ad 2) (ar 1) (ar 2) (x) (z) (t) (hP.at (r := 0) (j := 0) rfl) (hP.at (r := 0) (j := 4) rfl) (hP.at (r := 0) (j := 3) rfl) hP.lt (fun i _ => hI.l2 i) hI.l1.1 hI.l1.2.1) (fun v φ' h => absurd (hz.symm.trans h.1) hk0) (fun E φ' h => ⟨h.1, by rw [← hz]; exact h.2.1⟩)
set_option maxHeartbeats 1000000 in
theorem yr_hand (l : Launch) (hfl : l.stackTraces = false) (D : va_G) (cA : Nat → ClassId) (ga : Nat → Nat → Nat) (φ : hpM) (sz : Nat) (az : Nat → Nat) (tn tk tm : Nat) (tg sc : Nat → Nat) (ar : Nat → Nat → Nat) (w : Nat → Nat → Nat → Nat) (ez o oi : Nat → Nat → Nat) (hY : YW cA ga az tk tm tg sc ar w ez o φ) (hI : LI tn sc ar w ez oi) (hT : TY tk tg) (h200 : tn ≤ 200) (kx : Nat) (hz : handX (sc 5) = kx) (hk0 : kx ≠ 0) : hMX l yX8_hand cX8_hand 1 (some .int) { frames := 9, cells := 2, slots := 8, locals := 260 } [.ref (az 0)] D cA ga φ sz (fun _ _ => False) (fun E φ' => φ' = φ ∧ E = exE kx) 2 8 := by
  obtain ⟨ad, rfl, hP⟩ := hY
  refine hMX.mono (c_hand l hfl D cA ga φ sz (ad 0 0) (ad 0 1) (ad 0 3) (ad 0 4) (ad 0 5) (ad 0 6) (ad 0 7) (sc 2) (sc 3) (sc 5) (sc 4) (sc 6) (ad 5) (hP.at (r := 0) (j := 0) rfl) (hP.at (r := 0) (j := 5) rfl) hI.l1.2.2.2) (fun v φ' h => absurd (hz.symm.trans h.1) hk0) (fun E φ' h => ⟨h.1, by rw [← hz]; exact h.2.1⟩)
set_option maxHeartbeats 1000000 in
theorem yr_cycle (l : Launch) (hfl : l.stackTraces = false) (D : va_G) (cA : Nat → ClassId) (ga : Nat → Nat → Nat) (φ : hpM) (sz : Nat) (az : Nat → Nat) (tn tk tm : Nat) (tg sc : Nat → Nat) (ar : Nat → Nat → Nat) (w : Nat → Nat → Nat → Nat) (ez o oi : Nat → Nat → Nat) (x z : Int32) (hY : YW cA ga az tk tm tg sc ar w ez o φ) (hI : LI tn sc ar w ez oi) (hT : TY tk tg) (h200 : tn ≤ 200) (kx : Nat) (hz : cycleX (sc 3) (sc 5) (ar 3) (ar 7) (ar 12) (ez 2) x z = kx) (hk0 : kx ≠ 0) : hMX l yX8_cycle cX8_cycle 5 (some .int) { frames := 10, cells := 8, slots := 48, locals := 320 } [.ref (az 0), .int x, .int z] D cA ga φ sz (fun _ _ => False) (fun E φ' => φ' = φ ∧ E = exE kx) 8 48 := by
  obtain ⟨ad, rfl, hP⟩ := hY
  refine hMX.mono (c_cycle l hfl D cA ga φ sz (ad 0 0) (ad 0 1) (ad 0 3) (ad 0 4) (ad 0 5) (ad 0 6) (ad 0 7) (sc 2) (sc 3) (sc 5) (sc 4) (sc 6) (ad 2) (ad 3) (ad 4) (ar 3) (ez 1) (ar 7) (ar 9) (ad 6) (ez 2) (w 0) (w 1) (ad 5) (ar 12) (ar 13) (x) (z) (hP.at (r := 0) (j := 0) rfl) (hP.at (r := 0) (j := 4) rfl) (hP.at (r := 0) (j := 5) rfl) hP.cn hI.hcb hI.l1.2.1 hP.ha hI.l1.2.2.2 (fun i _ => (hI.l7.1 i).1)) (fun v φ' h => absurd (hz.symm.trans h.1) hk0) (fun E φ' h => ⟨h.1, by rw [← hz]; exact h.2.1⟩)
set_option maxHeartbeats 1000000 in
theorem yr_block (l : Launch) (hfl : l.stackTraces = false) (D : va_G) (cA : Nat → ClassId) (ga : Nat → Nat → Nat) (φ : hpM) (sz : Nat) (az : Nat → Nat) (tn tk tm : Nat) (tg sc : Nat → Nat) (ar : Nat → Nat → Nat) (w : Nat → Nat → Nat → Nat) (ez o oi : Nat → Nat → Nat) (x z : Int32) (hY : YW cA ga az tk tm tg sc ar w ez o φ) (hI : LI tn sc ar w ez oi) (hT : TY tk tg) (h200 : tn ≤ 200) (kx : Nat) (hz : blockX (sc 4) x z = kx) (hk0 : kx ≠ 0) : hMX l yX8_block cX8_block 3 (some .int) { frames := 9, cells := 4, slots := 20, locals := 260 } [.ref (az 0), .int x, .int z] D cA ga φ sz (fun _ _ => False) (fun E φ' => φ' = φ ∧ E = exE kx) 4 20 := by
  obtain ⟨ad, rfl, hP⟩ := hY
  refine hMX.mono (c_block l hfl D cA ga φ sz (ad 0 0) (ad 0 1) (ad 0 3) (ad 0 4) (ad 0 5) (ad 0 6) (ad 0 7) (sc 2) (sc 3) (sc 5) (sc 4) (sc 6) (ad 6) (x) (z) (hP.at (r := 0) (j := 0) rfl) (hP.at (r := 0) (j := 6) rfl) hI.l1.2.2.1) (fun v φ' h => absurd (hz.symm.trans h.1) hk0) (fun E φ' h => ⟨h.1, by rw [← hz]; exact h.2.1⟩)
set_option maxHeartbeats 1000000 in
theorem yr_draw (l : Launch) (hfl : l.stackTraces = false) (D : va_G) (cA : Nat → ClassId) (ga : Nat → Nat → Nat) (φ : hpM) (sz : Nat) (az : Nat → Nat) (tn tk tm : Nat) (tg sc : Nat → Nat) (ar : Nat → Nat → Nat) (w : Nat → Nat → Nat → Nat) (ez o oi : Nat → Nat → Nat) (x z : Int32) (hY : YW cA ga az tk tm tg sc ar w ez o φ) (hI : LI tn sc ar w ez oi) (hT : TY tk tg) (h200 : tn ≤ 200) (kx : Nat) (hz : drawX (sc 3) (sc 4) x z = kx) (hk0 : kx ≠ 0) : hMX l yX8_draw cX8_draw 6 (some .int) { frames := 12, cells := 4, slots := 24, locals := 440 } [.ref (az 0), .int x, .int z] D cA ga φ sz (fun _ _ => False) (fun E φ' => φ' = φ ∧ E = exE kx) 4 24 := by
  obtain ⟨ad, rfl, hP⟩ := hY
  refine hMX.mono (c_draw l hfl D cA ga φ sz (ad 0 0) (ad 0 1) (ad 0 3) (ad 0 4) (ad 0 5) (ad 0 6) (ad 0 7) (sc 2) (sc 3) (sc 5) (sc 4) (sc 6) (ad 2) (ad 3) (ad 4) (ar 3) (ez 1) (ar 7) (ar 9) (ad 6) (ez 2) (w 0) (w 1) (ar 10) (ar 11) (x) (z) (hP.at (r := 0) (j := 0) rfl) (hP.at (r := 0) (j := 4) rfl) (hP.at (r := 0) (j := 6) rfl) hP.cn hI.hcb hI.l1.2.1 hP.bl hI.hbb hI.l1.2.2.1) (fun v φ' h => absurd (hz.symm.trans h.1) hk0) (fun E φ' h => ⟨h.1, by rw [← hz]; exact h.2.1⟩)
set_option maxHeartbeats 1000000 in
theorem yr_trim (l : Launch) (hfl : l.stackTraces = false) (D : va_G) (cA : Nat → ClassId) (ga : Nat → Nat → Nat) (φ : hpM) (sz : Nat) (az : Nat → Nat) (tn tk tm : Nat) (tg sc : Nat → Nat) (ar : Nat → Nat → Nat) (w : Nat → Nat → Nat → Nat) (ez o oi : Nat → Nat → Nat) (x : Int32) (hY : YW cA ga az tk tm tg sc ar w ez o φ) (hI : LI tn sc ar w ez oi) (hT : TY tk tg) (h200 : tn ≤ 200) (kx : Nat) (hz : trimX (sc 3) (ar 9) x = kx) (hk0 : kx ≠ 0) : hMX l yX8_trim cX8_trim 4 (some .boolean) { frames := 14, cells := 3, slots := 18, locals := 560 } [.ref (az 0), .int x] D cA ga φ sz (fun _ _ => False) (fun E φ' => φ' = φ ∧ E = exE kx) 3 18 := by
  obtain ⟨ad, rfl, hP⟩ := hY
  refine hMX.mono (c_trim l hfl D cA ga φ sz (ad 0 0) (ad 0 1) (ad 0 3) (ad 0 4) (ad 0 5) (ad 0 6) (ad 0 7) (sc 2) (sc 3) (sc 5) (sc 4) (sc 6) (ad 0 2) tm tk tg (ad 2) (ad 3) (ad 4) (ar 3) (ez 1) (ar 7) (ar 9) (ad 6) (ez 2) (w 0) (w 1) (x) (hP.at (r := 0) (j := 0) rfl) (hP.at (r := 0) (j := 1) rfl) (hP.at (r := 0) (j := 2) rfl) (hP.at (r := 0) (j := 4) rfl) hP.cn hI.hcb hI.l1.2.1 hT.1 hT.2 (by have := hI.l9.1; omega)) (fun v φ' h => absurd (hz.symm.trans h.1) hk0) (fun E φ' h => ⟨h.1, by rw [← hz]; exact h.2.1⟩)
set_option maxHeartbeats 1000000 in
theorem yr_pass (l : Launch) (hfl : l.stackTraces = false) (D : va_G) (cA : Nat → ClassId) (ga : Nat → Nat → Nat) (φ : hpM) (sz : Nat) (az : Nat → Nat) (tn tk tm : Nat) (tg sc : Nat → Nat) (ar : Nat → Nat → Nat) (w : Nat → Nat → Nat → Nat) (ez o oi : Nat → Nat → Nat) (x : Int32) (hY : YW cA ga az tk tm tg sc ar w ez o φ) (hI : LI tn sc ar w ez oi) (hT : TY tk tg) (h200 : tn ≤ 200) (kx : Nat) (hz : passX x = kx) (hk0 : kx ≠ 0) : hMX l yX8_pass cX8_pass 6 (some .int) { frames := 9, cells := 1, slots := 6, locals := 260 } [.ref (az 0), .int x] D cA ga φ sz (fun _ _ => False) (fun E φ' => φ' = φ ∧ E = exE kx) 1 6 := by
  obtain ⟨ad, rfl, hP⟩ := hY
  refine hMX.mono (c_pass l hfl D cA ga φ sz (ad 0 0) (ad 0 1) (ad 0 3) (ad 0 4) (ad 0 5) (ad 0 6) (ad 0 7) (sc 2) (sc 3) (sc 5) (sc 4) (sc 6) (ad 5) (ar 12) (ar 13) (x) (hP.at (r := 0) (j := 0) rfl) (hP.at (r := 0) (j := 5) rfl) hP.ha hP.hai (by have := hI.l9.1; omega)) (fun v φ' h => absurd (hz.symm.trans h.1) hk0) (fun E φ' h => ⟨h.1, by rw [← hz]; exact h.2.1⟩)
set_option maxHeartbeats 1000000 in
theorem yr_about (l : Launch) (hfl : l.stackTraces = false) (D : va_G) (cA : Nat → ClassId) (ga : Nat → Nat → Nat) (φ : hpM) (sz : Nat) (az : Nat → Nat) (tn tk tm : Nat) (tg sc : Nat → Nat) (ar : Nat → Nat → Nat) (w : Nat → Nat → Nat → Nat) (ez o oi : Nat → Nat → Nat) (x z t : Int32) (hY : YW cA ga az tk tm tg sc ar w ez o φ) (hI : LI tn sc ar w ez oi) (hT : TY tk tg) (h200 : tn ≤ 200) (kx : Nat) (hz : aboutX (sc 3) x z t = kx) (hk0 : kx ≠ 0) : hMX l yX8_about cX8_about 5 (some .int) { frames := 10, cells := 5, slots := 30, locals := 320 } [.ref (az 0), .int x, .int z, .int t] D cA ga φ sz (fun _ _ => False) (fun E φ' => φ' = φ ∧ E = exE kx) 5 30 := by
  obtain ⟨ad, rfl, hP⟩ := hY
  refine hMX.mono (c_about l hfl D cA ga φ sz (ad 0 0) (ad 0 1) (ad 0 3) (ad 0 4) (ad 0 5) (ad 0 6) (ad 0 7) (sc 2) (sc 3) (sc 5) (sc 4) (sc 6) (ad 2) (ad 3) (ad 4) (ar 3) (ez 1) (ar 7) (ar 9) (ad 6) (ez 2) (w 0) (w 1) (x) (z) (t) (hP.at (r := 0) (j := 0) rfl) (hP.at (r := 0) (j := 4) rfl) hP.cn hI.hcb hI.l1.2.1) (fun v φ' h => absurd (hz.symm.trans h.1) hk0) (fun E φ' h => ⟨h.1, by rw [← hz]; exact h.2.1⟩)
set_option maxHeartbeats 1000000 in
theorem yr_widthAnew (l : Launch) (hfl : l.stackTraces = false) (D : va_G) (cA : Nat → ClassId) (ga : Nat → Nat → Nat) (φ : hpM) (sz : Nat) (az : Nat → Nat) (tn tk tm : Nat) (tg sc : Nat → Nat) (ar : Nat → Nat → Nat) (w : Nat → Nat → Nat → Nat) (ez o oi : Nat → Nat → Nat) (x z : Int32) (hY : YW cA ga az tk tm tg sc ar w ez o φ) (hI : LI tn sc ar w ez oi) (hT : TY tk tg) (h200 : tn ≤ 200) (kx : Nat) (hz : anewX (sc 3) x z = kx) (hk0 : kx ≠ 0) : hMX l yX8_widthAnew cX8_widthAnew 4 (some .int) { frames := 10, cells := 4, slots := 24, locals := 320 } [.ref (az 0), .int x, .int z] D cA ga φ sz (fun _ _ => False) (fun E φ' => φ' = φ ∧ E = exE kx) 4 24 := by
  obtain ⟨ad, rfl, hP⟩ := hY
  refine hMX.mono (c_widthAnew l hfl D cA ga φ sz (ad 0 0) (ad 0 1) (ad 0 3) (ad 0 4) (ad 0 5) (ad 0 6) (ad 0 7) (sc 2) (sc 3) (sc 5) (sc 4) (sc 6) (ad 2) (ad 3) (ad 4) (ar 3) (ez 1) (ar 7) (ar 9) (ad 6) (ez 2) (w 0) (w 1) (ar 10) (ar 11) (x) (z) (hP.at (r := 0) (j := 0) rfl) (hP.at (r := 0) (j := 4) rfl) hP.cn hI.hcb hI.l1.2.1 hP.bl hI.hbb hI.hdr) (fun v φ' h => absurd (hz.symm.trans h.1) hk0) (fun E φ' h => ⟨h.1, by rw [← hz]; exact h.2.1⟩)
set_option maxHeartbeats 1000000 in
theorem yr_brim (l : Launch) (hfl : l.stackTraces = false) (D : va_G) (cA : Nat → ClassId) (ga : Nat → Nat → Nat) (φ : hpM) (sz : Nat) (az : Nat → Nat) (tn tk tm : Nat) (tg sc : Nat → Nat) (ar : Nat → Nat → Nat) (w : Nat → Nat → Nat → Nat) (ez o oi : Nat → Nat → Nat) (x z : Int32) (hY : YW cA ga az tk tm tg sc ar w ez o φ) (hI : LI tn sc ar w ez oi) (hT : TY tk tg) (h200 : tn ≤ 200) (kx : Nat) (hz : brimX (sc 3) x z = kx) (hk0 : kx ≠ 0) : hMX l yX8_brim cX8_brim 5 (some .int) { frames := 10, cells := 3, slots := 18, locals := 320 } [.ref (az 0), .int x, .int z] D cA ga φ sz (fun _ _ => False) (fun E φ' => φ' = φ ∧ E = exE kx) 3 18 := by
  obtain ⟨ad, rfl, hP⟩ := hY
  refine hMX.mono (c_brim l hfl D cA ga φ sz (ad 0 0) (ad 0 1) (ad 0 3) (ad 0 4) (ad 0 5) (ad 0 6) (ad 0 7) (sc 2) (sc 3) (sc 5) (sc 4) (sc 6) (ad 2) (ad 3) (ad 4) (ar 3) (ez 1) (ar 7) (ar 9) (ad 6) (ez 2) (w 0) (w 1) (x) (z) (hP.at (r := 0) (j := 0) rfl) (hP.at (r := 0) (j := 4) rfl) hP.cn hI.hcb hI.l1.2.1 (fun i hi => by have := hI.wp hi (j := 0) (by decide); omega)) (fun v φ' h => absurd (hz.symm.trans h.1) hk0) (fun E φ' h => ⟨h.1, by rw [← hz]; exact h.2.1⟩)
set_option maxHeartbeats 1000000 in
theorem yr_count (l : Launch) (hfl : l.stackTraces = false) (D : va_G) (cA : Nat → ClassId) (ga : Nat → Nat → Nat) (φ : hpM) (sz : Nat) (az : Nat → Nat) (tn tk tm : Nat) (tg sc : Nat → Nat) (ar : Nat → Nat → Nat) (w : Nat → Nat → Nat → Nat) (ez o oi : Nat → Nat → Nat) (x : Int32) (hY : YW cA ga az tk tm tg sc ar w ez o φ) (hI : LI tn sc ar w ez oi) (hT : TY tk tg) (h200 : tn ≤ 200) (kx : Nat) (hz : cntX x = kx) (hk0 : kx ≠ 0) : hMX l yX8_count cX8_count 3 (some .int) { frames := 14, cells := 1, slots := 6, locals := 560 } [.ref (az 0), .int x] D cA ga φ sz (fun _ _ => False) (fun E φ' => φ' = φ ∧ E = exE kx) 1 6 := by
  obtain ⟨ad, rfl, hP⟩ := hY
  refine hMX.mono (c_count l hfl D cA ga φ sz (ad 0 0) (ad 0 1) (ad 0 3) (ad 0 4) (ad 0 5) (ad 0 6) (ad 0 7) (sc 2) (sc 3) (sc 5) (sc 4) (sc 6) (ad 0 2) tm tk tg (x) (hP.at (r := 0) (j := 0) rfl) (hP.at (r := 0) (j := 1) rfl) (hP.at (r := 0) (j := 2) rfl) hT.1 hT.2) (fun v φ' h => absurd (hz.symm.trans h.1) hk0) (fun E φ' h => ⟨h.1, by rw [← hz]; exact h.2.1⟩)
set_option maxHeartbeats 1000000 in
theorem yr_countAnew (l : Launch) (hfl : l.stackTraces = false) (D : va_G) (cA : Nat → ClassId) (ga : Nat → Nat → Nat) (φ : hpM) (sz : Nat) (az : Nat → Nat) (tn tk tm : Nat) (tg sc : Nat → Nat) (ar : Nat → Nat → Nat) (w : Nat → Nat → Nat → Nat) (ez o oi : Nat → Nat → Nat) (x : Int32) (hY : YW cA ga az tk tm tg sc ar w ez o φ) (hI : LI tn sc ar w ez oi) (hT : TY tk tg) (h200 : tn ≤ 200) (kx : Nat) (hz : cntX x = kx) (hk0 : kx ≠ 0) : hMX l yX8_countAnew cX8_countAnew 3 (some .int) { frames := 14, cells := 1, slots := 6, locals := 560 } [.ref (az 0), .int x] D cA ga φ sz (fun _ _ => False) (fun E φ' => φ' = φ ∧ E = exE kx) 1 6 := by
  obtain ⟨ad, rfl, hP⟩ := hY
  refine hMX.mono (c_countAnew l hfl D cA ga φ sz (ad 0 0) (ad 0 1) (ad 0 3) (ad 0 4) (ad 0 5) (ad 0 6) (ad 0 7) (sc 2) (sc 3) (sc 5) (sc 4) (sc 6) (ad 0 2) tm tk tg (x) (hP.at (r := 0) (j := 0) rfl) (hP.at (r := 0) (j := 1) rfl) (hP.at (r := 0) (j := 2) rfl) hT.1 hT.2) (fun v φ' h => absurd (hz.symm.trans h.1) hk0) (fun E φ' h => ⟨h.1, by rw [← hz]; exact h.2.1⟩)
set_option maxHeartbeats 1000000 in
theorem yr_rows (l : Launch) (hfl : l.stackTraces = false) (D : va_G) (cA : Nat → ClassId) (ga : Nat → Nat → Nat) (φ : hpM) (sz : Nat) (az : Nat → Nat) (tn tk tm : Nat) (tg sc : Nat → Nat) (ar : Nat → Nat → Nat) (w : Nat → Nat → Nat → Nat) (ez o oi : Nat → Nat → Nat) (x : Int32) (hY : YW cA ga az tk tm tg sc ar w ez o φ) (hI : LI tn sc ar w ez oi) (hT : TY tk tg) (h200 : tn ≤ 200) (kx : Nat) (hz : rowsX x = kx) (hk0 : kx ≠ 0) : hMX l yX8_rows cX8_rows 3 (some .int) { frames := 14, cells := 1, slots := 6, locals := 560 } [.ref (az 0), .int x] D cA ga φ sz (fun _ _ => False) (fun E φ' => φ' = φ ∧ E = exE kx) 1 6 := by
  obtain ⟨ad, rfl, hP⟩ := hY
  refine hMX.mono (c_rows l hfl D cA ga φ sz (ad 0 0) (ad 0 1) (ad 0 3) (ad 0 4) (ad 0 5) (ad 0 6) (ad 0 7) (sc 2) (sc 3) (sc 5) (sc 4) (sc 6) (ad 0 2) tm tk tg (x) (hP.at (r := 0) (j := 0) rfl) (hP.at (r := 0) (j := 1) rfl) (hP.at (r := 0) (j := 2) rfl) hT.1 hT.2) (fun v φ' h => absurd (hz.symm.trans h.1) hk0) (fun E φ' h => ⟨h.1, by rw [← hz]; exact h.2.1⟩)
set_option maxHeartbeats 1000000 in
theorem yr_measure (l : Launch) (hfl : l.stackTraces = false) (D : va_G) (cA : Nat → ClassId) (ga : Nat → Nat → Nat) (φ : hpM) (sz : Nat) (az : Nat → Nat) (tn tk tm : Nat) (tg sc : Nat → Nat) (ar : Nat → Nat → Nat) (w : Nat → Nat → Nat → Nat) (ez o oi : Nat → Nat → Nat) (x z : Int32) (hY : YW cA ga az tk tm tg sc ar w ez o φ) (hI : LI tn sc ar w ez oi) (hT : TY tk tg) (h200 : tn ≤ 200) (kx : Nat) (hz : measX x z = kx) (hk0 : kx ≠ 0) : hMX l yX8_measure cX8_measure 3 (some .int) { frames := 9, cells := 2, slots := 12, locals := 260 } [.ref (az 0), .int x, .int z] D cA ga φ sz (fun _ _ => False) (fun E φ' => φ' = φ ∧ E = exE kx) 2 12 := by
  obtain ⟨ad, rfl, hP⟩ := hY
  refine hMX.mono (c_measure l hfl D cA ga φ sz (ad 0 0) (ad 0 1) (ad 0 3) (ad 0 4) (ad 0 5) (ad 0 6) (ad 0 7) (sc 2) (sc 3) (sc 5) (sc 4) (sc 6) (ad 0 8) (ar 14) (x) (z) (hP.at (r := 0) (j := 0) rfl) (hP.at (r := 0) (j := 7) rfl) (hP.at (r := 0) (j := 8) rfl) hI.l8) (fun v φ' h => absurd (hz.symm.trans h.1) hk0) (fun E φ' h => ⟨h.1, by rw [← hz]; exact h.2.1⟩)
set_option maxHeartbeats 1000000 in
theorem yr_fits (l : Launch) (hfl : l.stackTraces = false) (D : va_G) (cA : Nat → ClassId) (ga : Nat → Nat → Nat) (φ : hpM) (sz : Nat) (az : Nat → Nat) (tn tk tm : Nat) (tg sc : Nat → Nat) (ar : Nat → Nat → Nat) (w : Nat → Nat → Nat → Nat) (ez o oi : Nat → Nat → Nat) (x : Int32) (hY : YW cA ga az tk tm tg sc ar w ez o φ) (hI : LI tn sc ar w ez oi) (hT : TY tk tg) (h200 : tn ≤ 200) (kx : Nat) (hz : inX (sc 3) x = kx) (hk0 : kx ≠ 0) : hMX l yX8_fits cX8_fits 3 (some .boolean) { frames := 10, cells := 2, slots := 12, locals := 320 } [.ref (az 0), .int x] D cA ga φ sz (fun _ _ => False) (fun E φ' => φ' = φ ∧ E = exE kx) 2 12 := by
  obtain ⟨ad, rfl, hP⟩ := hY
  refine hMX.mono (c_fits l hfl D cA ga φ sz (ad 0 0) (ad 0 1) (ad 0 3) (ad 0 4) (ad 0 5) (ad 0 6) (ad 0 7) (sc 2) (sc 3) (sc 5) (sc 4) (sc 6) (ad 2) (ad 3) (ad 4) (ar 3) (ez 1) (ar 7) (ar 9) (ad 6) (ez 2) (w 0) (w 1) (ad 0 8) (ar 14) (x) (hP.at (r := 0) (j := 0) rfl) (hP.at (r := 0) (j := 4) rfl) (hP.at (r := 0) (j := 7) rfl) (hP.at (r := 0) (j := 8) rfl) hP.cn hI.hcb hI.l1.2.1 hI.l8) (fun v φ' h => absurd (hz.symm.trans h.1) hk0) (fun E φ' h => ⟨h.1, by rw [← hz]; exact h.2.1⟩)
set_option maxHeartbeats 1000000 in
theorem yr_size (l : Launch) (hfl : l.stackTraces = false) (D : va_G) (cA : Nat → ClassId) (ga : Nat → Nat → Nat) (φ : hpM) (sz : Nat) (az : Nat → Nat) (tn tk tm : Nat) (tg sc : Nat → Nat) (ar : Nat → Nat → Nat) (w : Nat → Nat → Nat → Nat) (ez o oi : Nat → Nat → Nat) (x : Int32) (hY : YW cA ga az tk tm tg sc ar w ez o φ) (hI : LI tn sc ar w ez oi) (hT : TY tk tg) (h200 : tn ≤ 200) (kx : Nat) (hz : inX 4 x = kx) (hk0 : kx ≠ 0) : hMX l yX8_size cX8_size 2 (some .int) { frames := 10, cells := 2, slots := 12, locals := 320 } [.ref (az 0), .int x] D cA ga φ sz (fun _ _ => False) (fun E φ' => φ' = φ ∧ E = exE kx) 2 12 := by
  obtain ⟨ad, rfl, hP⟩ := hY
  refine hMX.mono (c_size l hfl D cA ga φ sz (ad 0 0) (ad 0 1) (ad 0 3) (ad 0 4) (ad 0 5) (ad 0 6) (ad 0 7) (sc 2) (sc 3) (sc 5) (sc 4) (sc 6) (ad 0 8) (ar 14) (x) (hP.at (r := 0) (j := 0) rfl) (hP.at (r := 0) (j := 7) rfl) (hP.at (r := 0) (j := 8) rfl) hI.l8) (fun v φ' h => absurd (hz.symm.trans h.1) hk0) (fun E φ' h => ⟨h.1, by rw [← hz]; exact h.2.1⟩)
set_option maxHeartbeats 1000000 in
theorem yr_air (l : Launch) (hfl : l.stackTraces = false) (D : va_G) (cA : Nat → ClassId) (ga : Nat → Nat → Nat) (φ : hpM) (sz : Nat) (az : Nat → Nat) (tn tk tm : Nat) (tg sc : Nat → Nat) (ar : Nat → Nat → Nat) (w : Nat → Nat → Nat → Nat) (ez o oi : Nat → Nat → Nat) (x z : Int32) (hY : YW cA ga az tk tm tg sc ar w ez o φ) (hI : LI tn sc ar w ez oi) (hT : TY tk tg) (h200 : tn ≤ 200) (kx : Nat) (hz : inX (sc 5) x = kx) (hk0 : kx ≠ 0) : hMX l yX8_air cX8_air 4 (some .int) { frames := 10, cells := 2, slots := 12, locals := 320 } [.ref (az 0), .int x, .int z] D cA ga φ sz (fun _ _ => False) (fun E φ' => φ' = φ ∧ E = exE kx) 2 12 := by
  obtain ⟨ad, rfl, hP⟩ := hY
  refine hMX.mono (c_air l hfl D cA ga φ sz (ad 0 0) (ad 0 1) (ad 0 3) (ad 0 4) (ad 0 5) (ad 0 6) (ad 0 7) (sc 2) (sc 3) (sc 5) (sc 4) (sc 6) (ad 5) (ar 12) (ar 13) (x) (z) (hP.at (r := 0) (j := 0) rfl) (hP.at (r := 0) (j := 5) rfl) hP.ha hI.l1.2.2.2) (fun v φ' h => absurd (hz.symm.trans h.1) hk0) (fun E φ' h => ⟨h.1, by rw [← hz]; exact h.2.1⟩)
set_option maxHeartbeats 1000000 in
theorem yr_grams (l : Launch) (hfl : l.stackTraces = false) (D : va_G) (cA : Nat → ClassId) (ga : Nat → Nat → Nat) (φ : hpM) (sz : Nat) (az : Nat → Nat) (tn tk tm : Nat) (tg sc : Nat → Nat) (ar : Nat → Nat → Nat) (w : Nat → Nat → Nat → Nat) (ez o oi : Nat → Nat → Nat) (x : Int32) (hY : YW cA ga az tk tm tg sc ar w ez o φ) (hI : LI tn sc ar w ez oi) (hT : TY tk tg) (h200 : tn ≤ 200) (kx : Nat) (hz : inX (sc 2) x = kx) (hk0 : kx ≠ 0) : hMX l yX8_grams cX8_grams 2 (some .int) { frames := 10, cells := 2, slots := 12, locals := 320 } [.ref (az 0), .int x] D cA ga φ sz (fun _ _ => False) (fun E φ' => φ' = φ ∧ E = exE kx) 2 12 := by
  obtain ⟨ad, rfl, hP⟩ := hY
  refine hMX.mono (c_grams l hfl D cA ga φ sz (ad 0 0) (ad 0 1) (ad 0 3) (ad 0 4) (ad 0 5) (ad 0 6) (ad 0 7) (sc 2) (sc 3) (sc 5) (sc 4) (sc 6) (ad 1) (ar 1) (ar 2) (x) (hP.at (r := 0) (j := 0) rfl) (hP.at (r := 0) (j := 3) rfl) hP.lt hI.l1.1) (fun v φ' h => absurd (hz.symm.trans h.1) hk0) (fun E φ' h => ⟨h.1, by rw [← hz]; exact h.2.1⟩)
