set_option maxHeartbeats 4000000 in
set_option maxRecDepth 100000 in
/-- Head() -/
theorem c_X5_init (l : Launch) (D : va_G) (cA : Nat → ClassId) (ga : Nat → Nat → Nat) (φ : hpM) (sz : Nat) (h0 : Nat) (f0 : φ h0 = some (.inr (9, [.null]))) : hM l yX5_init cX5_init 1 none { frames := 8, cells := 1, slots := 8, locals := 200 } [.ref h0] D cA ga φ sz (fun v φ' => v = none ∧ ∃ q, φ q = none ∧ φ' = ups (ups φ q (.inl (cA 1, 8, .inl (fun j => nI (zr j))))) h0 (.inr (9, [.ref q]))) 1 8 := by
  refine hM.of (by decide) (Nat.le_of_ble_eq_true rfl) rfl ?_
  intro p e s m args below meth c ls H locs S hr hlocks hnm hsz hHz hH hK hX hS hA hl
  refine lv_aload_n (pc := 0) S.1 S.2.1 dX5_init_0 rfl (lv_at hl 0 rfl) ?_
  refine W.objInit S.1 S.2.1 S.2.2.2.1 (S.2.2.2.2 _ tw_82) (S.2.2.2.2 _ tw_34) (S.2.2.2.2 _ tw_35) rfl (by rw [S.2.2.1]; exact hl.1) rfl dX5_init_1 (Nat.le_of_ble_eq_true rfl) (Nat.le_of_ble_eq_true rfl) ?_
  refine W.eq (g2 := F0 m 4 ls []) rfl ?_
  refine lv_aload_n (pc := 4) S.1 S.2.1 dX5_init_4 rfl (lv_at hl 0 rfl) ?_
  refine lv_bipush (pc := 5) (v := nI 8) S.1 S.2.1 dX5_init_5 (by decide) ?_
  refine hv_newa (pc := 7) (atype := .int) (a0 := (8, .inl (fun j => nI (zr j)))) (N' := 8) S tw_87 (ty := .int) rfl hK 1 rfl hH hS hA (fun _ => rfl) (by decide) (by decide) (Nat.le_of_ble_eq_true rfl) (Nat.le_of_ble_eq_true rfl) (Nat.le_of_ble_eq_true rfl) dX5_init_7 (fun q_1 H hq_q_1 hH hS => ?_)
  replace hH := nup (e := .inl (cA 1, 8, .inl (fun j => nI (zr j)))) hH
  obtain ⟨φ_2, hφ_2, fa_φ_2, fr_φ_2, hH⟩ := hH
  have f_3 := fr_φ_2 _ _ (hp_nf f0 hq_q_1) f0
  refine hv_putF (pc := 9) (ty := .array (.int)) (C := RX5) (T := TX5) (N := 1) (ref := RX5) S uwX5 tyX5 tyX5_ok nmX5 hK hH hS f_3 rfl 0 (by decide) tw_83 (fun _ h9 => h9) rfl hnm rfl (by decide +kernel) rfl rfl (Nat.le_of_ble_eq_true rfl) dX5_init_9 (fun H locs hH hS => ?_)
  replace hH := nup (e := .inr (9, [.ref q_1])) hH
  obtain ⟨φ_4, hφ_4, fa_φ_4, fr_φ_4, hH⟩ := hH
  have f_5 := fr_φ_4 _ _ (hp_ne fa_φ_2 f_3 (by intro h; first | (cases h; done) | (simp at h; done))) fa_φ_2
  exact hv_vret (pc := 12) S hr hlocks hH hS (⟨rfl, q_1, hq_q_1, by rw [hφ_4, hφ_2]⟩) (Nat.le_of_ble_eq_true rfl) (Nat.le_of_ble_eq_true rfl) dX5_init_12

set_option maxHeartbeats 4000000 in
set_option maxRecDepth 100000 in
/-- Head.setRadius(radius, length) -/
theorem c_X5_setRadius (l : Launch) (D : va_G) (cA : Nat → ClassId) (ga : Nat → Nat → Nat) (φ : hpM) (sz : Nat) (h0 q i len : Nat) (g : Nat → Nat) (f0 : φ h0 = some (.inr (9, [.ref q]))) (f1 : φ q = some (.inl (cA 1, 8, .inl (fun j => nI (g j))))) (hi : i < 8) : hM l yX5_setRadius cX5_setRadius 3 none { frames := 8, cells := 0, slots := 0, locals := 200 } [.ref h0, .int (nI i), .int (nI len)] D cA ga φ sz (fun v φ' => v = none ∧ φ' = ups φ q (.inl (cA 1, 8, .inl (fun j => nI ((va_up g i len) j))))) 0 0 := by
  refine hM.of (by decide) (Nat.le_of_ble_eq_true rfl) rfl ?_
  intro p e s m args below meth c ls H locs S hr hlocks hnm hsz hHz hH hK hX hS hA hl
  refine lv_iload_n (pc := 0) S.1 S.2.1 dX5_setRadius_0 rfl (lv_at hl 1 rfl) ?_
  refine hv_if_lt (pc := 1) (tgt := 20) (a := i) S.1 S.2.1 (by omega) dX5_setRadius_1 (by decide) (fun c_1 => ?_) (fun c_1 => ?_)
  · skip
    exact c_1.elim
  · skip
    refine lv_iload_n (pc := 4) S.1 S.2.1 dX5_setRadius_4 rfl (lv_at hl 1 rfl) ?_
    refine lv_aload_n (pc := 5) S.1 S.2.1 dX5_setRadius_5 rfl (lv_at hl 0 rfl) ?_
    refine hv_get (pc := 6) (C := RX5) (T := TX5) (N := 1) (ref := RX5) S uwX5 hK hH f0 rfl 0 (by decide) tw_83 (fun _ h9 => h9) rfl dX5_setRadius_6 ?_
    refine hv_alen (pc := 9) (v := nI 8) S hK hH 1 f1 rfl rfl dX5_setRadius_9 ?_
    refine hv_icmp_ge (pc := 10) (tgt := 20) (a := i) (b := 8) S.1 S.2.1 (by omega) (by omega) dX5_setRadius_10 (by decide) (fun c_2 => ?_) (fun c_2 => ?_)
    · skip
      exact absurd c_2 (by omega)
    · skip
      refine lv_aload_n (pc := 13) S.1 S.2.1 dX5_setRadius_13 rfl (lv_at hl 0 rfl) ?_
      refine hv_get (pc := 14) (C := RX5) (T := TX5) (N := 1) (ref := RX5) S uwX5 hK hH f0 rfl 0 (by decide) tw_83 (fun _ h9 => h9) rfl dX5_setRadius_14 ?_
      refine lv_iload_n (pc := 17) S.1 S.2.1 dX5_setRadius_17 rfl (lv_at hl 1 rfl) ?_
      refine lv_iload_n (pc := 18) S.1 S.2.1 dX5_setRadius_18 rfl (lv_at hl 2 rfl) ?_
      refine hv_iast (pc := 19) S hK hH hS 1 f1 rfl (vp_in_nI (by omega) (by omega)) dX5_setRadius_19 (fun H locs hH hS => ?_)
      rw [hv_upd (by omega)] at hH
      replace hH := nup (e := .inl (cA 1, 8, .inl (fun j => nI ((va_up g i len) j)))) hH
      obtain ⟨φ_3, hφ_3, fa_φ_3, fr_φ_3, hH⟩ := hH
      have f_4 := fr_φ_3 _ _ (hp_ne f0 f1 (by intro h; first | (cases h; done) | (simp at h; done))) f0
      exact hv_vret (pc := 20) S hr hlocks hH hS (⟨rfl, by rw [hφ_3]⟩) (Nat.le_of_ble_eq_true rfl) (Nat.le_of_ble_eq_true rfl) dX5_setRadius_20

set_option maxHeartbeats 4000000 in
set_option maxRecDepth 100000 in
/-- Head.around() -/
theorem c_X5_around (l : Launch) (D : va_G) (cA : Nat → ClassId) (ga : Nat → Nat → Nat) (φ : hpM) (sz : Nat) (h0 q : Nat) (g : Nat → Nat) (f0 : φ h0 = some (.inr (9, [.ref q]))) (f1 : φ q = some (.inl (cA 1, 8, .inl (fun j => nI (g j))))) (hg8 : smN g 8 ≤ 1600) : hM l yX5_around cX5_around 6 (some .int) { frames := 8, cells := 0, slots := 0, locals := 200 } [.ref h0] D cA ga φ sz (fun v φ' => v = some (.int (nI (smN g 8 * 785 / 1000))) ∧ φ' = φ) 0 0 := by
  refine hM.of (by decide) (Nat.le_of_ble_eq_true rfl) rfl ?_
  intro p e s m args below meth c ls H locs S hr hlocks hnm hsz hHz hH hK hX hS hA hl
  refine lv_iconst (pc := 0) (v := nI 0) S.1 S.2.1 dX5_around_0 (by decide) ?_
  refine lv_istore_n (pc := 1) (lv' := [(1, .int (nI 0)), (0, .ref h0)]) S.1 S.2.1 dX5_around_1 rfl hl (by decide) rfl (fun ls hl => ?_)
  refine lv_aload_n (pc := 2) S.1 S.2.1 dX5_around_2 rfl (lv_at hl 1 rfl) ?_
  refine hv_get (pc := 3) (C := RX5) (T := TX5) (N := 1) (ref := RX5) S uwX5 hK hH f0 rfl 0 (by decide) tw_83 (fun _ h9 => h9) rfl dX5_around_3 ?_
  refine lv_astore_n (pc := 6) (lv' := [(2, .ref q), (1, .int (nI 0)), (0, .ref h0)]) S.1 S.2.1 dX5_around_6 rfl hl (by decide) rfl (fun ls hl => ?_)
  refine lv_aload_n (pc := 7) S.1 S.2.1 dX5_around_7 rfl (lv_at hl 0 rfl) ?_
  refine hv_alen (pc := 8) (v := nI 8) S hK hH 1 f1 rfl rfl dX5_around_8 ?_
  refine lv_istore_n (pc := 9) (lv' := [(3, .int (nI 8)), (2, .ref q), (1, .int (nI 0)), (0, .ref h0)]) S.1 S.2.1 dX5_around_9 rfl hl (by decide) rfl (fun ls hl => ?_)
  refine lv_iconst (pc := 10) (v := nI 0) S.1 S.2.1 dX5_around_10 (by decide) ?_
  refine lv_istore (pc := 11) (lv' := [(4, .int (nI 0)), (3, .int (nI 8)), (2, .ref q), (1, .int (nI 0)), (0, .ref h0)]) S.1 S.2.1 dX5_around_11 hl (by decide) rfl (fun ls hl => ?_)
  have hg : ∃ (n i : Nat), (i + n = 8) ∧ lv_has ls 6 [(0, .ref h0), (1, .int (nI (smN g i))), (2, .ref q), (3, .int (nI 8)), (4, .int (nI i))] := ⟨8, 0, rfl, lv_sub hl [4, 3, 2, 1, 0] rfl⟩
  clear hl
  try clear hHz
  obtain ⟨n, i, hi, hl⟩ := hg
  induction n generalizing ls H locs i with
  | zero =>
    obtain rfl : i = 8 := by omega
    refine lv_iload (pc := 13) S.1 S.2.1 dX5_around_13 (lv_at hl 4 rfl) ?_
    refine lv_iload_n (pc := 15) S.1 S.2.1 dX5_around_15 rfl (lv_at hl 3 rfl) ?_
    refine hv_icmp_ge (pc := 16) (tgt := 36) (a := 8) (b := 8) S.1 S.2.1 (by omega) (by omega) dX5_around_16 (by decide) (fun c_1 => ?_) (fun c_1 => ?_)
    · skip
      refine lv_iload_n (pc := 36) S.1 S.2.1 dX5_around_36 rfl (lv_at hl 1 rfl) ?_
      refine lv_sipush (pc := 37) (v := nI 785) S.1 S.2.1 dX5_around_37 (by decide) ?_
      refine lv_imul (pc := 40) S.1 S.2.1 dX5_around_40 ?_
      refine hv_ti (y := nI ((smN g 8) * 785)) (pk_mul _ _) ?_
      refine lv_sipush (pc := 41) (v := nI 1000) S.1 S.2.1 dX5_around_41 (by decide) ?_
      refine lv_idiv (pc := 44) S.1 S.2.1 dX5_around_44 (by decide) ?_
      refine hv_ti (y := nI (((smN g 8) * 785) / 1000)) (pk_div (by omega) (by omega) (by omega)) ?_
      exact hv_ret (pc := 45) (v := nI (((smN g 8) * 785) / 1000)) S hr rfl hlocks hH hS (⟨rfl, rfl⟩) (Nat.le_of_ble_eq_true rfl) (Nat.le_of_ble_eq_true rfl) dX5_around_45
    · skip
      exact absurd c_1 (by omega)
  | succ n ih =>
    refine lv_iload (pc := 13) S.1 S.2.1 dX5_around_13 (lv_at hl 4 rfl) ?_
    refine lv_iload_n (pc := 15) S.1 S.2.1 dX5_around_15 rfl (lv_at hl 3 rfl) ?_
    refine hv_icmp_ge (pc := 16) (tgt := 36) (a := i) (b := 8) S.1 S.2.1 (by omega) (by omega) dX5_around_16 (by decide) (fun c_2 => ?_) (fun c_2 => ?_)
    · skip
      exact absurd c_2 (by omega)
    · skip
      refine lv_aload_n (pc := 19) S.1 S.2.1 dX5_around_19 rfl (lv_at hl 2 rfl) ?_
      refine lv_iload (pc := 20) S.1 S.2.1 dX5_around_20 (lv_at hl 4 rfl) ?_
      refine hv_iald (pc := 22) S hK hH 1 f1 rfl (vp_in_nI (by omega) (by omega)) dX5_around_22 ?_
      refine hv_ti (y := nI (g i)) (hv_ld (by omega)) ?_
      refine lv_istore (pc := 23) (lv' := [(5, .int (nI (g i))), (0, .ref h0), (1, .int (nI (smN g i))), (2, .ref q), (3, .int (nI 8)), (4, .int (nI i))]) S.1 S.2.1 dX5_around_23 hl (by decide) rfl (fun ls hl => ?_)
      refine lv_iload_n (pc := 25) S.1 S.2.1 dX5_around_25 rfl (lv_at hl 2 rfl) ?_
      refine lv_iload (pc := 26) S.1 S.2.1 dX5_around_26 (lv_at hl 0 rfl) ?_
      refine lv_iadd (pc := 28) S.1 S.2.1 dX5_around_28 ?_
      refine hv_ti (y := nI ((smN g i) + (g i))) (nI_add _ _) ?_
      refine lv_istore_n (pc := 29) (lv' := [(1, .int (nI ((smN g i) + (g i)))), (5, .int (nI (g i))), (0, .ref h0), (2, .ref q), (3, .int (nI 8)), (4, .int (nI i))]) S.1 S.2.1 dX5_around_29 rfl hl (by decide) rfl (fun ls hl => ?_)
      refine lv_iinc (pc := 30) (v := nI (i + 1)) (lv' := [(4, .int (nI (i + 1))), (1, .int (nI ((smN g i) + (g i)))), (5, .int (nI (g i))), (0, .ref h0), (2, .ref q), (3, .int (nI 8))]) S.1 S.2.1 dX5_around_30 hl (k := 5) rfl (by first | rfl | exact nI_add _ _) (by decide) rfl (fun ls hl => ?_)
      refine lv_goto (pc := 33) (tgt := 13) S.1 S.2.1 dX5_around_33 (by decide) ?_
      have hi2 : (i + 1) + n = 8 := by omega
      have hl2 : lv_has ls 6 [(0, .ref h0), (1, .int (nI (smN g (i + 1)))), (2, .ref q), (3, .int (nI 8)), (4, .int (nI (i + 1)))] := lv_sub hl [3, 1, 4, 5, 0] rfl
      apply ih (i := i + 1) <;> assumption

/-- the gain of a row; the stitches of row j + 1, and of all rows up to it -/
def gN (k r : Nat) : Nat := if sLes k = 0 then sGai k else sGai k - r / 3
def sN (k : Nat) : Nat → Nat
  | 0 => 6
  | j + 1 => sN k j + gN k (j + 2)
def tN (k : Nat) : Nat → Nat
  | 0 => 6
  | j + 1 => tN k j + sN k (j + 1)
theorem sGai_le (k : Nat) : sGai k ≤ 9 := by
  match k with
  | 0 | 1 | 2 | 3 => decide
  | k + 4 => exact Nat.zero_le _
theorem sLes_le (k : Nat) : sLes k ≤ 1 := by
  match k with
  | 0 | 1 | 2 | 3 => decide
  | k + 4 => exact Nat.zero_le _
theorem gN_le (k r : Nat) : gN k r ≤ 9 := by
  have := sGai_le k
  unfold gN
  split <;> omega
theorem sN_le (k : Nat) : ∀ j, sN k j ≤ 6 + 9 * j
  | 0 => Nat.le_refl _
  | j + 1 => by have := sN_le k j; have := gN_le k (j + 2); simp only [sN]; omega
theorem hv_max0 {a b : Nat} (ha : a < 2 ^ 30) (hb : b < 2 ^ 30) : (if nI 0 < nI a - nI b then nI a - nI b else nI 0) = nI (a - b) := by
  by_cases h : b ≤ a
  · rw [pk_sub h]
    by_cases h2 : a = b
    · subst h2; rw [Nat.sub_self]; rfl
    · rw [if_pos (nI_lt (by omega) (by omega))]
  · have hn : nI a - nI b < 0 := pk_sneg (by omega) (by omega)
    rw [if_neg (fun z => by have z2 : (0 : Int32) < nI a - nI b := z; rw [Int32.lt_iff_toInt_lt] at hn z2; omega), show a - b = 0 by omega]
set_option maxHeartbeats 4000000 in
set_option maxRecDepth 100000 in
/-- Spiral.gainOf(row) -/
theorem c_X7_gainOf (l : Launch) (D : va_G) (cA : Nat → ClassId) (ga : Nat → Nat → Nat) (φ : hpM) (sz : Nat) (k x : Nat) (hk : k < 4) (hx : x < 2 ^ 30) : hM l yX7_gainOf cX7_gainOf 2 (some .int) { frames := 8, cells := 0, slots := 0, locals := 200 } [.ref (ga 2 k), .int (nI x)] D cA ga φ sz (fun v φ' => v = some (.int (nI (gN k x))) ∧ φ' = φ) 0 0 := by
  refine hM.of (by decide) (Nat.le_of_ble_eq_true rfl) rfl ?_
  intro p e s m args below meth c ls H locs S hr hlocks hnm hsz hHz hH hK hX hS hA hl
  have hl1 := sLes_le k
  have hg1 := sGai_le k
  refine lv_aload_n (pc := 0) S.1 S.2.1 dX7_gainOf_0 rfl (lv_at hl 0 rfl) ?_
  refine va_getX (pc := 1) (i := k) (ref := RX7) (index := 45) S.1 S.2.1 hX.spi_less hk hS S.2.2.2.1 (S.2.2.2.2 _ tw_943) (fun _ h9 => h9) dX7_gainOf_1 ?_
  refine hv_if_eq (pc := 4) (tgt := 22) (a := sLes k) S.1 S.2.1 (by omega) dX7_gainOf_4 (by decide) (fun c_1 => ?_) (fun c_1 => ?_)
  · skip
    refine lv_aload_n (pc := 22) S.1 S.2.1 dX7_gainOf_22 rfl (lv_at hl 0 rfl) ?_
    refine va_getX (pc := 23) (i := k) (ref := RX7) (index := 41) S.1 S.2.1 hX.spi_gain hk hS S.2.2.2.1 (S.2.2.2.2 _ tw_944) (fun _ h9 => h9) dX7_gainOf_23 ?_
    exact hv_ret (pc := 26) (v := nI (sGai k)) S hr rfl hlocks hH hS (⟨by rw [gN, if_pos c_1], rfl⟩) (Nat.le_of_ble_eq_true rfl) (Nat.le_of_ble_eq_true rfl) dX7_gainOf_26
  · skip
    refine lv_iconst (pc := 7) (v := nI 0) S.1 S.2.1 dX7_gainOf_7 (by decide) ?_
    refine lv_aload_n (pc := 8) S.1 S.2.1 dX7_gainOf_8 rfl (lv_at hl 0 rfl) ?_
    refine va_getX (pc := 9) (i := k) (ref := RX7) (index := 41) S.1 S.2.1 hX.spi_gain hk hS S.2.2.2.1 (S.2.2.2.2 _ tw_944) (fun _ h9 => h9) dX7_gainOf_9 ?_
    refine lv_iload_n (pc := 12) S.1 S.2.1 dX7_gainOf_12 rfl (lv_at hl 1 rfl) ?_
    refine lv_iconst (pc := 13) (v := nI 3) S.1 S.2.1 dX7_gainOf_13 (by decide) ?_
    refine lv_idiv (pc := 14) S.1 S.2.1 dX7_gainOf_14 (by decide) ?_
    refine hv_ti (y := nI (x / 3)) (pk_div (by omega) (by omega) (by omega)) ?_
    refine lv_isub (pc := 15) S.1 S.2.1 dX7_gainOf_15 ?_
    refine va_mmax (pc := 16) S.1 S.2.1 (by rw [S.2.2.1]; exact hl.1.symm) S.2.2.2.1 (S.2.2.2.2 _ tw_835) (S.2.2.2.2 _ tw_316) (S.2.2.2.2 _ tw_14) (S.2.2.2.2 _ tw_317) (Nat.le_of_ble_eq_true rfl) (Nat.le_of_ble_eq_true rfl) (Nat.le_of_ble_eq_true rfl) (Nat.le_of_ble_eq_true rfl) dX7_gainOf_16 ?_
    refine hv_ti (y := nI (sGai k - x / 3)) (hv_max0 (by omega) (by omega)) ?_
    refine lv_goto (pc := 19) (tgt := 26) S.1 S.2.1 dX7_gainOf_19 (by decide) ?_
    exact hv_ret (pc := 26) (v := nI (sGai k - x / 3)) S hr rfl hlocks hH hS (⟨by rw [gN, if_neg c_1], rfl⟩) (Nat.le_of_ble_eq_true rfl) (Nat.le_of_ble_eq_true rfl) dX7_gainOf_26

set_option maxHeartbeats 4000000 in
set_option maxRecDepth 100000 in
/-- Spiral.stitchesRowByRow(rows) -/
theorem c_X7_stitchesRowByRow (l : Launch) (D : va_G) (cA : Nat → ClassId) (ga : Nat → Nat → Nat) (φ : hpM) (sz : Nat) (k x : Nat) (hk : k < 4) (hx : x ≤ 100) (hx1 : 1 ≤ x) : hM l yX7_stitchesRowByRow cX7_stitchesRowByRow 5 (some .int) { frames := 9, cells := 0, slots := 0, locals := 260 } [.ref (ga 2 k), .int (nI x)] D cA ga φ sz (fun v φ' => v = some (.int (nI (tN k (x - 1)))) ∧ φ' = φ) 0 0 := by
  refine hM.of (by decide) (Nat.le_of_ble_eq_true rfl) rfl ?_
  intro p e s m args below meth c ls H locs S hr hlocks hnm hsz hHz hH hK hX hS hA hl
  refine lv_bipush (pc := 0) (v := nI 6) S.1 S.2.1 dX7_stitchesRowByRow_0 (by decide) ?_
  refine lv_istore_n (pc := 2) (lv' := [(2, .int (nI 6)), (0, .ref (ga 2 k)), (1, .int (nI x))]) S.1 S.2.1 dX7_stitchesRowByRow_2 rfl hl (by decide) rfl (fun ls hl => ?_)
  refine lv_bipush (pc := 3) (v := nI 6) S.1 S.2.1 dX7_stitchesRowByRow_3 (by decide) ?_
  refine lv_istore_n (pc := 5) (lv' := [(3, .int (nI 6)), (2, .int (nI 6)), (0, .ref (ga 2 k)), (1, .int (nI x))]) S.1 S.2.1 dX7_stitchesRowByRow_5 rfl hl (by decide) rfl (fun ls hl => ?_)
  refine lv_iconst (pc := 6) (v := nI 2) S.1 S.2.1 dX7_stitchesRowByRow_6 (by decide) ?_
  refine lv_istore (pc := 7) (lv' := [(4, .int (nI 2)), (3, .int (nI 6)), (2, .int (nI 6)), (0, .ref (ga 2 k)), (1, .int (nI x))]) S.1 S.2.1 dX7_stitchesRowByRow_7 hl (by decide) rfl (fun ls hl => ?_)
  have hg : ∃ (n i : Nat), (i + 1 + n = x) ∧ lv_has ls 5 [(0, .ref (ga 2 k)), (1, .int (nI x)), (2, .int (nI (sN k i))), (3, .int (nI (tN k i))), (4, .int (nI (i + 2)))] := ⟨x - 1, 0, by omega, lv_sub hl [3, 4, 2, 1, 0] rfl⟩
  clear hl
  try clear hHz
  obtain ⟨n, i, hi, hl⟩ := hg
  induction n generalizing ls H locs i with
  | zero =>
    obtain rfl : x = i + 1 := by omega
    refine lv_iload (pc := 9) S.1 S.2.1 dX7_stitchesRowByRow_9 (lv_at hl 4 rfl) ?_
    refine lv_iload_n (pc := 11) S.1 S.2.1 dX7_stitchesRowByRow_11 rfl (lv_at hl 1 rfl) ?_
    refine hv_icmp_gt (pc := 12) (tgt := 34) (a := i + 2) (b := i + 1) S.1 S.2.1 (by omega) (by omega) dX7_stitchesRowByRow_12 (by decide) (fun c_1 => ?_) (fun c_1 => ?_)
    · skip
      refine lv_iload_n (pc := 34) S.1 S.2.1 dX7_stitchesRowByRow_34 rfl (lv_at hl 3 rfl) ?_
      exact hv_ret (pc := 35) (v := nI (tN k i)) S hr rfl hlocks hH hS (⟨by rw [Nat.add_sub_cancel], rfl⟩) (Nat.le_of_ble_eq_true rfl) (Nat.le_of_ble_eq_true rfl) dX7_stitchesRowByRow_35
    · skip
      exact absurd c_1 (by omega)
  | succ n ih =>
    refine lv_iload (pc := 9) S.1 S.2.1 dX7_stitchesRowByRow_9 (lv_at hl 4 rfl) ?_
    refine lv_iload_n (pc := 11) S.1 S.2.1 dX7_stitchesRowByRow_11 rfl (lv_at hl 1 rfl) ?_
    refine hv_icmp_gt (pc := 12) (tgt := 34) (a := i + 2) (b := x) S.1 S.2.1 (by omega) (by omega) dX7_stitchesRowByRow_12 (by decide) (fun c_2 => ?_) (fun c_2 => ?_)
    · skip
      exact absurd c_2 (by omega)
    · skip
      refine lv_iload_n (pc := 15) S.1 S.2.1 dX7_stitchesRowByRow_15 rfl (lv_at hl 2 rfl) ?_
      refine lv_aload_n (pc := 16) S.1 S.2.1 dX7_stitchesRowByRow_16 rfl (lv_at hl 0 rfl) ?_
      refine lv_iload (pc := 17) S.1 S.2.1 dX7_stitchesRowByRow_17 (lv_at hl 4 rfl) ?_
      refine hv_call (pc := 19) (va_runV (As := [.int (nI (i + 2))]) (rest := [.int (nI (sN k i))]) S (c_X7_gainOf l D cA ga φ H.size k (i + 2) hk (by omega)) (cwV 1 S.2.2.2.2 (gV tw_831 tw_833 sw_26 tw_27 tw_834) rfl rfl rfl (by decide +kernel) ⟨Nat.le_of_ble_eq_true rfl, Nat.le_of_ble_eq_true rfl⟩) (pre0_V hH hK hX hS hA (o_recv (hX.spiO k hk) hS)) rfl rfl hl.1 rfl (lv_room (Nat.le_of_ble_eq_true rfl)) dX7_stitchesRowByRow_19 ⟨Nat.le_of_ble_eq_true rfl, Nat.le_of_ble_eq_true rfl⟩) hS (af_le hH hS hA) (fun v_3 φ_4 H locs hw_v_3 hH hS => ?_)
      obtain ⟨rfl, hqv_3⟩ := hw_v_3
      rw [hqv_3] at hH
      refine lv_iadd (pc := 22) S.1 S.2.1 dX7_stitchesRowByRow_22 ?_
      refine hv_ti (y := nI ((sN k i) + (gN k (i + 2)))) (nI_add _ _) ?_
      refine lv_istore_n (pc := 23) (lv' := [(2, .int (nI ((sN k i) + (gN k (i + 2))))), (0, .ref (ga 2 k)), (1, .int (nI x)), (3, .int (nI (tN k i))), (4, .int (nI (i + 2)))]) S.1 S.2.1 dX7_stitchesRowByRow_23 rfl hl (by decide) rfl (fun ls hl => ?_)
      refine lv_iload_n (pc := 24) S.1 S.2.1 dX7_stitchesRowByRow_24 rfl (lv_at hl 3 rfl) ?_
      refine lv_iload_n (pc := 25) S.1 S.2.1 dX7_stitchesRowByRow_25 rfl (lv_at hl 0 rfl) ?_
      refine lv_iadd (pc := 26) S.1 S.2.1 dX7_stitchesRowByRow_26 ?_
      refine hv_ti (y := nI ((tN k i) + ((sN k i) + (gN k (i + 2))))) (nI_add _ _) ?_
      refine lv_istore_n (pc := 27) (lv' := [(3, .int (nI ((tN k i) + ((sN k i) + (gN k (i + 2)))))), (2, .int (nI ((sN k i) + (gN k (i + 2))))), (0, .ref (ga 2 k)), (1, .int (nI x)), (4, .int (nI (i + 2)))]) S.1 S.2.1 dX7_stitchesRowByRow_27 rfl hl (by decide) rfl (fun ls hl => ?_)
      refine lv_iinc (pc := 28) (v := nI (i + 2 + 1)) (lv' := [(4, .int (nI (i + 2 + 1))), (3, .int (nI ((tN k i) + ((sN k i) + (gN k (i + 2)))))), (2, .int (nI ((sN k i) + (gN k (i + 2))))), (0, .ref (ga 2 k)), (1, .int (nI x))]) S.1 S.2.1 dX7_stitchesRowByRow_28 hl (k := 4) rfl (by first | rfl | exact nI_add _ _) (by decide) rfl (fun ls hl => ?_)
      refine lv_goto (pc := 31) (tgt := 9) S.1 S.2.1 dX7_stitchesRowByRow_31 (by decide) ?_
      have hi2 : (i + 1) + 1 + n = x := by omega
      have hl2 : lv_has ls 5 [(0, .ref (ga 2 k)), (1, .int (nI x)), (2, .int (nI (sN k (i + 1)))), (3, .int (nI (tN k (i + 1)))), (4, .int (nI ((i + 1) + 2)))] := lv_sub hl [3, 4, 2, 1, 0] rfl
      apply ih (i := i + 1) <;> assumption

def adN (a b : Nat) : Nat := (b - 1) * (2 * a - b) / 2
def aoN (x : Nat) : Nat → Nat
  | 0 => 6 * x
  | j + 1 => aoN x j + adN x (min x (3 * (j + 1) - 1))
/-- at once is what row by row is -/
theorem ao_eq : ∀ k, k < 4 → ∀ x, x < 101 → 1 ≤ x → (if sLes k = 0 then 6 * x + sGai k * adN x x else aoN x (sGai k)) = tN k (x - 1) := by decide +kernel
set_option maxHeartbeats 4000000 in
set_option maxRecDepth 100000 in
/-- Spiral.addedByOneEach(rows, last) -/
theorem c_X7_addedByOneEach (l : Launch) (D : va_G) (cA : Nat → ClassId) (ga : Nat → Nat → Nat) (φ : hpM) (sz : Nat) (a b : Nat) (ha : a ≤ 100) (hb1 : 1 ≤ b) (hb : b ≤ a) : hM l yX7_addedByOneEach cX7_addedByOneEach 2 (some .int) { frames := 8, cells := 0, slots := 0, locals := 200 } [.int (nI a), .int (nI b)] D cA ga φ sz (fun v φ' => v = some (.int (nI (adN a b))) ∧ φ' = φ) 0 0 := by
  refine hM.of (by decide) (Nat.le_of_ble_eq_true rfl) rfl ?_
  intro p e s m args below meth c ls H locs S hr hlocks hnm hsz hHz hH hK hX hS hA hl
  have hm : (b - 1) * (2 * a - b) ≤ 100 * 200 := Nat.mul_le_mul (by omega) (by omega)
  refine lv_iload_n (pc := 0) S.1 S.2.1 dX7_addedByOneEach_0 rfl (lv_at hl 1 rfl) ?_
  refine lv_iconst (pc := 1) (v := nI 1) S.1 S.2.1 dX7_addedByOneEach_1 (by decide) ?_
  refine lv_isub (pc := 2) S.1 S.2.1 dX7_addedByOneEach_2 ?_
  refine hv_ti (y := nI (b - 1)) (pk_sub (by omega)) ?_
  refine lv_iconst (pc := 3) (v := nI 2) S.1 S.2.1 dX7_addedByOneEach_3 (by decide) ?_
  refine lv_iload_n (pc := 4) S.1 S.2.1 dX7_addedByOneEach_4 rfl (lv_at hl 0 rfl) ?_
  refine lv_imul (pc := 5) S.1 S.2.1 dX7_addedByOneEach_5 ?_
  refine hv_ti (y := nI (2 * a)) (pk_mul _ _) ?_
  refine lv_iload_n (pc := 6) S.1 S.2.1 dX7_addedByOneEach_6 rfl (lv_at hl 1 rfl) ?_
  refine lv_isub (pc := 7) S.1 S.2.1 dX7_addedByOneEach_7 ?_
  refine hv_ti (y := nI ((2 * a) - b)) (pk_sub (by omega)) ?_
  refine lv_imul (pc := 8) S.1 S.2.1 dX7_addedByOneEach_8 ?_
  refine hv_ti (y := nI ((b - 1) * ((2 * a) - b))) (pk_mul _ _) ?_
  refine lv_iconst (pc := 9) (v := nI 2) S.1 S.2.1 dX7_addedByOneEach_9 (by decide) ?_
  refine lv_idiv (pc := 10) S.1 S.2.1 dX7_addedByOneEach_10 (by decide) ?_
  refine hv_ti (y := nI (((b - 1) * ((2 * a) - b)) / 2)) (pk_div (by omega) (by omega) (by omega)) ?_
  exact hv_ret (pc := 11) (v := nI (((b - 1) * ((2 * a) - b)) / 2)) S hr rfl hlocks hH hS (⟨rfl, rfl⟩) (Nat.le_of_ble_eq_true rfl) (Nat.le_of_ble_eq_true rfl) dX7_addedByOneEach_11

theorem hv_min {a b : Nat} (ha : a < 2 ^ 31) (hb : b < 2 ^ 31) : (if nI b < nI a then nI b else nI a) = nI (min a b) := by
  by_cases h : b < a
  · rw [if_pos (nI_lt h ha), Nat.min_eq_right (by omega)]
  · rw [if_neg (nI_nlt (by omega) hb), Nat.min_eq_left (by omega)]
set_option maxHeartbeats 4000000 in
set_option maxRecDepth 100000 in
/-- Spiral.stitchesAtOnce(rows) -/
theorem c_X7_stitchesAtOnce (l : Launch) (D : va_G) (cA : Nat → ClassId) (ga : Nat → Nat → Nat) (φ : hpM) (sz : Nat) (k x : Nat) (hk : k < 4) (hx : x ≤ 100) (hx1 : 1 ≤ x) : hM l yX7_stitchesAtOnce cX7_stitchesAtOnce 4 (some .int) { frames := 9, cells := 0, slots := 0, locals := 260 } [.ref (ga 2 k), .int (nI x)] D cA ga φ sz (fun v φ' => v = some (.int (nI (tN k (x - 1)))) ∧ φ' = φ) 0 0 := by
  refine hM.of (by decide) (Nat.le_of_ble_eq_true rfl) rfl ?_
  intro p e s m args below meth c ls H locs S hr hlocks hnm hsz hHz hH hK hX hS hA hl
  have hl1 := sLes_le k
  have hg1 := sGai_le k
  have hao := ao_eq k hk x (by omega) hx1
  refine lv_aload_n (pc := 0) S.1 S.2.1 dX7_stitchesAtOnce_0 rfl (lv_at hl 0 rfl) ?_
  refine va_getX (pc := 1) (i := k) (ref := RX7) (index := 45) S.1 S.2.1 hX.spi_less hk hS S.2.2.2.1 (S.2.2.2.2 _ tw_943) (fun _ h9 => h9) dX7_stitchesAtOnce_1 ?_
  refine hv_if_ne (pc := 4) (tgt := 23) (a := sLes k) S.1 S.2.1 (by omega) dX7_stitchesAtOnce_4 (by decide) (fun c_1 => ?_) (fun c_1 => ?_)
  · skip
    refine lv_bipush (pc := 23) (v := nI 6) S.1 S.2.1 dX7_stitchesAtOnce_23 (by decide) ?_
    refine lv_iload_n (pc := 25) S.1 S.2.1 dX7_stitchesAtOnce_25 rfl (lv_at hl 1 rfl) ?_
    refine lv_imul (pc := 26) S.1 S.2.1 dX7_stitchesAtOnce_26 ?_
    refine hv_ti (y := nI (6 * x)) (pk_mul _ _) ?_
    refine lv_istore_n (pc := 27) (lv' := [(2, .int (nI (6 * x))), (0, .ref (ga 2 k)), (1, .int (nI x))]) S.1 S.2.1 dX7_stitchesAtOnce_27 rfl hl (by decide) rfl (fun ls hl => ?_)
    refine lv_iconst (pc := 28) (v := nI 1) S.1 S.2.1 dX7_stitchesAtOnce_28 (by decide) ?_
    refine lv_istore_n (pc := 29) (lv' := [(3, .int (nI 1)), (2, .int (nI (6 * x))), (0, .ref (ga 2 k)), (1, .int (nI x))]) S.1 S.2.1 dX7_stitchesAtOnce_29 rfl hl (by decide) rfl (fun ls hl => ?_)
    have hg : ∃ (n i : Nat), (i + n = sGai k) ∧ lv_has ls 4 [(0, .ref (ga 2 k)), (1, .int (nI x)), (2, .int (nI (aoN x i))), (3, .int (nI (i + 1)))] := ⟨sGai k, 0, by omega, lv_sub hl [2, 3, 1, 0] rfl⟩
    clear hl
    try clear hHz
    obtain ⟨n, i, hi, hl⟩ := hg
    induction n generalizing ls H locs i with
    | zero =>
      refine lv_iload_n (pc := 30) S.1 S.2.1 dX7_stitchesAtOnce_30 rfl (lv_at hl 3 rfl) ?_
      refine lv_aload_n (pc := 31) S.1 S.2.1 dX7_stitchesAtOnce_31 rfl (lv_at hl 0 rfl) ?_
      refine va_getX (pc := 32) (i := k) (ref := RX7) (index := 41) S.1 S.2.1 hX.spi_gain hk hS S.2.2.2.1 (S.2.2.2.2 _ tw_944) (fun _ h9 => h9) dX7_stitchesAtOnce_32 ?_
      refine hv_icmp_gt (pc := 35) (tgt := 60) (a := i + 1) (b := sGai k) S.1 S.2.1 (by omega) (by omega) dX7_stitchesAtOnce_35 (by decide) (fun c_2 => ?_) (fun c_2 => ?_)
      · skip
        refine lv_iload_n (pc := 60) S.1 S.2.1 dX7_stitchesAtOnce_60 rfl (lv_at hl 2 rfl) ?_
        exact hv_ret (pc := 61) (v := nI (aoN x i)) S hr rfl hlocks hH hS (⟨by rw [if_neg c_1] at hao; rw [← hao, show i = sGai k by omega], rfl⟩) (Nat.le_of_ble_eq_true rfl) (Nat.le_of_ble_eq_true rfl) dX7_stitchesAtOnce_61
      · skip
        exact absurd c_2 (by omega)
    | succ n ih =>
      refine lv_iload_n (pc := 30) S.1 S.2.1 dX7_stitchesAtOnce_30 rfl (lv_at hl 3 rfl) ?_
      refine lv_aload_n (pc := 31) S.1 S.2.1 dX7_stitchesAtOnce_31 rfl (lv_at hl 0 rfl) ?_
      refine va_getX (pc := 32) (i := k) (ref := RX7) (index := 41) S.1 S.2.1 hX.spi_gain hk hS S.2.2.2.1 (S.2.2.2.2 _ tw_944) (fun _ h9 => h9) dX7_stitchesAtOnce_32 ?_
      refine hv_icmp_gt (pc := 35) (tgt := 60) (a := i + 1) (b := sGai k) S.1 S.2.1 (by omega) (by omega) dX7_stitchesAtOnce_35 (by decide) (fun c_3 => ?_) (fun c_3 => ?_)
      · skip
        exact absurd c_3 (by omega)
      · skip
        refine lv_iload_n (pc := 38) S.1 S.2.1 dX7_stitchesAtOnce_38 rfl (lv_at hl 2 rfl) ?_
        refine lv_iload_n (pc := 39) S.1 S.2.1 dX7_stitchesAtOnce_39 rfl (lv_at hl 1 rfl) ?_
        refine lv_iload_n (pc := 40) S.1 S.2.1 dX7_stitchesAtOnce_40 rfl (lv_at hl 1 rfl) ?_
        refine lv_iconst (pc := 41) (v := nI 3) S.1 S.2.1 dX7_stitchesAtOnce_41 (by decide) ?_
        refine lv_iload_n (pc := 42) S.1 S.2.1 dX7_stitchesAtOnce_42 rfl (lv_at hl 3 rfl) ?_
        refine lv_imul (pc := 43) S.1 S.2.1 dX7_stitchesAtOnce_43 ?_
        refine hv_ti (y := nI (3 * (i + 1))) (pk_mul _ _) ?_
        refine lv_iconst (pc := 44) (v := nI 1) S.1 S.2.1 dX7_stitchesAtOnce_44 (by decide) ?_
        refine lv_isub (pc := 45) S.1 S.2.1 dX7_stitchesAtOnce_45 ?_
        refine hv_ti (y := nI ((3 * (i + 1)) - 1)) (pk_sub (by omega)) ?_
        refine va_mmin (pc := 46) S.1 S.2.1 (by rw [S.2.2.1]; exact hl.1.symm) S.2.2.2.1 (S.2.2.2.2 _ tw_847) (S.2.2.2.2 _ tw_334) (S.2.2.2.2 _ tw_14) (S.2.2.2.2 _ tw_335) (Nat.le_of_ble_eq_true rfl) (Nat.le_of_ble_eq_true rfl) (Nat.le_of_ble_eq_true rfl) (Nat.le_of_ble_eq_true rfl) dX7_stitchesAtOnce_46 ?_
        refine hv_ti (y := nI (min x (3 * (i + 1) - 1))) (hv_min (by omega) (by omega)) ?_
        refine hv_call (pc := 49) (va_runS (As := [.int (nI x), .int (nI (min x (3 * (i + 1) - 1)))]) (rest := [.int (nI (aoN x i))]) S (c_X7_addedByOneEach l D cA ga φ H.size x (min x (3 * (i + 1) - 1)) hx (by omega) (by omega)) (va_cwS 2 S.2.2.2.2 (gS tw_844 tw_845 tw_27 tw_846) rfl rfl rfl (by decide +kernel) ⟨Nat.le_of_ble_eq_true rfl, Nat.le_of_ble_eq_true rfl⟩) (pre0_S hH hK hX hS hA) rfl rfl hl.1 rfl (lv_room (Nat.le_of_ble_eq_true rfl)) dX7_stitchesAtOnce_49 ⟨Nat.le_of_ble_eq_true rfl, Nat.le_of_ble_eq_true rfl⟩) hS (af_le hH hS hA) (fun v_4 φ_5 H locs hw_v_4 hH hS => ?_)
        obtain ⟨rfl, hqv_4⟩ := hw_v_4
        rw [hqv_4] at hH
        refine lv_iadd (pc := 52) S.1 S.2.1 dX7_stitchesAtOnce_52 ?_
        refine hv_ti (y := nI ((aoN x i) + (adN x (min x (3 * (i + 1) - 1))))) (nI_add _ _) ?_
        refine lv_istore_n (pc := 53) (lv' := [(2, .int (nI ((aoN x i) + (adN x (min x (3 * (i + 1) - 1)))))), (0, .ref (ga 2 k)), (1, .int (nI x)), (3, .int (nI (i + 1)))]) S.1 S.2.1 dX7_stitchesAtOnce_53 rfl hl (by decide) rfl (fun ls hl => ?_)
        refine lv_iinc (pc := 54) (v := nI (i + 1 + 1)) (lv' := [(3, .int (nI (i + 1 + 1))), (2, .int (nI ((aoN x i) + (adN x (min x (3 * (i + 1) - 1)))))), (0, .ref (ga 2 k)), (1, .int (nI x))]) S.1 S.2.1 dX7_stitchesAtOnce_54 hl (k := 3) rfl (by first | rfl | exact nI_add _ _) (by decide) rfl (fun ls hl => ?_)
        refine lv_goto (pc := 57) (tgt := 30) S.1 S.2.1 dX7_stitchesAtOnce_57 (by decide) ?_
        have hi2 : (i + 1) + n = sGai k := by omega
        have hl2 : lv_has ls 4 [(0, .ref (ga 2 k)), (1, .int (nI x)), (2, .int (nI (aoN x (i + 1)))), (3, .int (nI ((i + 1) + 1)))] := lv_sub hl [2, 3, 1, 0] rfl
        apply ih (i := i + 1) <;> assumption
  · skip
    refine lv_bipush (pc := 7) (v := nI 6) S.1 S.2.1 dX7_stitchesAtOnce_7 (by decide) ?_
    refine lv_iload_n (pc := 9) S.1 S.2.1 dX7_stitchesAtOnce_9 rfl (lv_at hl 1 rfl) ?_
    refine lv_imul (pc := 10) S.1 S.2.1 dX7_stitchesAtOnce_10 ?_
    refine hv_ti (y := nI (6 * x)) (pk_mul _ _) ?_
    refine lv_aload_n (pc := 11) S.1 S.2.1 dX7_stitchesAtOnce_11 rfl (lv_at hl 0 rfl) ?_
    refine va_getX (pc := 12) (i := k) (ref := RX7) (index := 41) S.1 S.2.1 hX.spi_gain hk hS S.2.2.2.1 (S.2.2.2.2 _ tw_944) (fun _ h9 => h9) dX7_stitchesAtOnce_12 ?_
    refine lv_iload_n (pc := 15) S.1 S.2.1 dX7_stitchesAtOnce_15 rfl (lv_at hl 1 rfl) ?_
    refine lv_iload_n (pc := 16) S.1 S.2.1 dX7_stitchesAtOnce_16 rfl (lv_at hl 1 rfl) ?_
    refine hv_call (pc := 17) (va_runS (As := [.int (nI x), .int (nI x)]) (rest := [.int (nI (sGai k)), .int (nI (6 * x))]) S (c_X7_addedByOneEach l D cA ga φ H.size x x hx hx1 (Nat.le_refl _)) (va_cwS 2 S.2.2.2.2 (gS tw_844 tw_845 tw_27 tw_846) rfl rfl rfl (by decide +kernel) ⟨Nat.le_of_ble_eq_true rfl, Nat.le_of_ble_eq_true rfl⟩) (pre0_S hH hK hX hS hA) rfl rfl hl.1 rfl (lv_room (Nat.le_of_ble_eq_true rfl)) dX7_stitchesAtOnce_17 ⟨Nat.le_of_ble_eq_true rfl, Nat.le_of_ble_eq_true rfl⟩) hS (af_le hH hS hA) (fun v_6 φ_7 H locs hw_v_6 hH hS => ?_)
    obtain ⟨rfl, hqv_6⟩ := hw_v_6
    rw [hqv_6] at hH
    refine lv_imul (pc := 20) S.1 S.2.1 dX7_stitchesAtOnce_20 ?_
    refine hv_ti (y := nI ((sGai k) * (adN x x))) (pk_mul _ _) ?_
    refine lv_iadd (pc := 21) S.1 S.2.1 dX7_stitchesAtOnce_21 ?_
    refine hv_ti (y := nI ((6 * x) + ((sGai k) * (adN x x)))) (nI_add _ _) ?_
    exact hv_ret (pc := 22) (v := nI ((6 * x) + ((sGai k) * (adN x x)))) S hr rfl hlocks hH hS (⟨by rw [if_pos c_1] at hao; rw [← hao], rfl⟩) (Nat.le_of_ble_eq_true rfl) (Nat.le_of_ble_eq_true rfl) dX7_stitchesAtOnce_22

/-- how many rows are needed: the first from j on with enough stitches -/
def rcF (k st : Nat) : Nat → Nat → Option Nat
  | 0, _ => none
  | n + 1, j => if st ≤ sN k j then some (j + 1) else rcF k st n (j + 1)
def rcI (o : Option Nat) : Int32 := match o with
  | some r => nI r
  | none => -1
set_option maxHeartbeats 4000000 in
set_option maxRecDepth 100000 in
/-- Spiral.rowsToClose(stitches) -/
theorem c_X7_rowsToClose (l : Launch) (D : va_G) (cA : Nat → ClassId) (ga : Nat → Nat → Nat) (φ : hpM) (sz : Nat) (k x : Nat) (hk : k < 4) (hx : x ≤ 2000) : hM l yX7_rowsToClose cX7_rowsToClose 4 (some .int) { frames := 9, cells := 0, slots := 0, locals := 260 } [.ref (ga 2 k), .int (nI x)] D cA ga φ sz (fun v φ' => v = some (.int (rcI (rcF k x 1000 0))) ∧ φ' = φ) 0 0 := by
  refine hM.of (by decide) (Nat.le_of_ble_eq_true rfl) rfl ?_
  intro p e s m args below meth c ls H locs S hr hlocks hnm hsz hHz hH hK hX hS hA hl
  refine lv_bipush (pc := 0) (v := nI 6) S.1 S.2.1 dX7_rowsToClose_0 (by decide) ?_
  refine lv_istore_n (pc := 2) (lv' := [(2, .int (nI 6)), (0, .ref (ga 2 k)), (1, .int (nI x))]) S.1 S.2.1 dX7_rowsToClose_2 rfl hl (by decide) rfl (fun ls hl => ?_)
  refine lv_iconst (pc := 3) (v := nI 1) S.1 S.2.1 dX7_rowsToClose_3 (by decide) ?_
  refine lv_istore_n (pc := 4) (lv' := [(3, .int (nI 1)), (2, .int (nI 6)), (0, .ref (ga 2 k)), (1, .int (nI x))]) S.1 S.2.1 dX7_rowsToClose_4 rfl hl (by decide) rfl (fun ls hl => ?_)
  have hg : ∃ (n i : Nat), (i + n = 1000 ∧ rcF k x 1000 0 = rcF k x n i) ∧ lv_has ls 4 [(0, .ref (ga 2 k)), (1, .int (nI x)), (2, .int (nI (sN k i))), (3, .int (nI (i + 1)))] := ⟨1000, 0, ⟨rfl, rfl⟩, lv_sub hl [2, 3, 1, 0] rfl⟩
  clear hl
  try clear hHz
  obtain ⟨n, i, hi, hl⟩ := hg
  induction n generalizing ls H locs i with
  | zero =>
    obtain ⟨hi, hrc⟩ := hi
    refine lv_iload_n (pc := 5) S.1 S.2.1 dX7_rowsToClose_5 rfl (lv_at hl 3 rfl) ?_
    refine lv_sipush (pc := 6) (v := nI 1000) S.1 S.2.1 dX7_rowsToClose_6 (by decide) ?_
    refine hv_icmp_gt (pc := 9) (tgt := 35) (a := i + 1) (b := 1000) S.1 S.2.1 (by omega) (by omega) dX7_rowsToClose_9 (by decide) (fun c_1 => ?_) (fun c_1 => ?_)
    · skip
      refine lv_iconst (pc := 35) (v := -1) S.1 S.2.1 dX7_rowsToClose_35 (by decide) ?_
      exact hv_ret (pc := 36) (v := (-1 : Int32)) S hr rfl hlocks hH hS (⟨by rw [hrc]; rfl, rfl⟩) (Nat.le_of_ble_eq_true rfl) (Nat.le_of_ble_eq_true rfl) dX7_rowsToClose_36
    · skip
      exact absurd c_1 (by omega)
  | succ n ih =>
    obtain ⟨hi, hrc⟩ := hi
    have hsn := sN_le k i
    refine lv_iload_n (pc := 5) S.1 S.2.1 dX7_rowsToClose_5 rfl (lv_at hl 3 rfl) ?_
    refine lv_sipush (pc := 6) (v := nI 1000) S.1 S.2.1 dX7_rowsToClose_6 (by decide) ?_
    refine hv_icmp_gt (pc := 9) (tgt := 35) (a := i + 1) (b := 1000) S.1 S.2.1 (by omega) (by omega) dX7_rowsToClose_9 (by decide) (fun c_2 => ?_) (fun c_2 => ?_)
    · skip
      exact absurd c_2 (by omega)
    · skip
      refine lv_iload_n (pc := 12) S.1 S.2.1 dX7_rowsToClose_12 rfl (lv_at hl 2 rfl) ?_
      refine lv_iload_n (pc := 13) S.1 S.2.1 dX7_rowsToClose_13 rfl (lv_at hl 1 rfl) ?_
      refine hv_icmp_lt (pc := 14) (tgt := 19) (a := sN k i) (b := x) S.1 S.2.1 (by omega) (by omega) dX7_rowsToClose_14 (by decide) (fun c_3 => ?_) (fun c_3 => ?_)
      · skip
        refine lv_iload_n (pc := 19) S.1 S.2.1 dX7_rowsToClose_19 rfl (lv_at hl 2 rfl) ?_
        refine lv_aload_n (pc := 20) S.1 S.2.1 dX7_rowsToClose_20 rfl (lv_at hl 0 rfl) ?_
        refine lv_iload_n (pc := 21) S.1 S.2.1 dX7_rowsToClose_21 rfl (lv_at hl 3 rfl) ?_
        refine lv_iconst (pc := 22) (v := nI 1) S.1 S.2.1 dX7_rowsToClose_22 (by decide) ?_
        refine lv_iadd (pc := 23) S.1 S.2.1 dX7_rowsToClose_23 ?_
        refine hv_ti (y := nI ((i + 1) + 1)) (nI_add _ _) ?_
        refine hv_call (pc := 24) (va_runV (As := [.int (nI ((i + 1) + 1))]) (rest := [.int (nI (sN k i))]) S (c_X7_gainOf l D cA ga φ H.size k (i + 1 + 1) hk (by omega)) (cwV 1 S.2.2.2.2 (gV tw_831 tw_833 sw_26 tw_27 tw_834) rfl rfl rfl (by decide +kernel) ⟨Nat.le_of_ble_eq_true rfl, Nat.le_of_ble_eq_true rfl⟩) (pre0_V hH hK hX hS hA (o_recv (hX.spiO k hk) hS)) rfl rfl hl.1 rfl (lv_room (Nat.le_of_ble_eq_true rfl)) dX7_rowsToClose_24 ⟨Nat.le_of_ble_eq_true rfl, Nat.le_of_ble_eq_true rfl⟩) hS (af_le hH hS hA) (fun v_4 φ_5 H locs hw_v_4 hH hS => ?_)
        obtain ⟨rfl, hqv_4⟩ := hw_v_4
        rw [hqv_4] at hH
        refine lv_iadd (pc := 27) S.1 S.2.1 dX7_rowsToClose_27 ?_
        refine hv_ti (y := nI ((sN k i) + (gN k (i + 1 + 1)))) (nI_add _ _) ?_
        refine lv_istore_n (pc := 28) (lv' := [(2, .int (nI ((sN k i) + (gN k (i + 1 + 1))))), (0, .ref (ga 2 k)), (1, .int (nI x)), (3, .int (nI (i + 1)))]) S.1 S.2.1 dX7_rowsToClose_28 rfl hl (by decide) rfl (fun ls hl => ?_)
        refine lv_iinc (pc := 29) (v := nI (i + 1 + 1)) (lv' := [(3, .int (nI (i + 1 + 1))), (2, .int (nI ((sN k i) + (gN k (i + 1 + 1))))), (0, .ref (ga 2 k)), (1, .int (nI x))]) S.1 S.2.1 dX7_rowsToClose_29 hl (k := 3) rfl (by first | rfl | exact nI_add _ _) (by decide) rfl (fun ls hl => ?_)
        refine lv_goto (pc := 32) (tgt := 5) S.1 S.2.1 dX7_rowsToClose_32 (by decide) ?_
        have hi2 : (i + 1) + n = 1000 ∧ rcF k x 1000 0 = rcF k x n (i + 1) := ⟨by omega, by rw [hrc, rcF, if_neg (by omega)]⟩
        have hl2 : lv_has ls 4 [(0, .ref (ga 2 k)), (1, .int (nI x)), (2, .int (nI (sN k (i + 1)))), (3, .int (nI ((i + 1) + 1)))] := lv_sub hl [2, 3, 1, 0] rfl
        apply ih (i := i + 1) <;> assumption
      · skip
        refine lv_iload_n (pc := 17) S.1 S.2.1 dX7_rowsToClose_17 rfl (lv_at hl 3 rfl) ?_
        exact hv_ret (pc := 18) (v := nI (i + 1)) S hr rfl hlocks hH hS (⟨by rw [hrc, rcF, if_pos (by omega)]; rfl, rfl⟩) (Nat.le_of_ble_eq_true rfl) (Nat.le_of_ble_eq_true rfl) dX7_rowsToClose_18
