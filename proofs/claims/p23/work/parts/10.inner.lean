/-- how wide a block is at a band -/
def bW (a d b : Nat) : Nat := max 50 (a - a / 10 * (b + 1 - d))
/-- max(0, b - d + 1) -/
theorem hv_maxsub {b d : Nat} (hb : b < 2 ^ 30) (hd : d < 2 ^ 30) : (if nI 0 < nI b - nI d + nI 1 then nI b - nI d + nI 1 else nI 0) = nI (b + 1 - d) := by
  by_cases h : d ≤ b
  · rw [pk_sub h, nI_add, if_pos (nI_lt (by omega) (by omega))]
    congr 1; omega
  · have e : nI b - nI d + nI 1 = nI (b + 1) - nI d := by rw [← nI_add]; simp only [Int32.sub_eq_add_neg]; ac_rfl
    by_cases h2 : d = b + 1
    · subst h2
      rw [e, pk_sub (Nat.le_refl _), Nat.sub_self]
      rfl
    · have hn : nI (b + 1) - nI d < 0 := pk_sneg (by omega) (by omega)
      rw [e, if_neg (fun z => by have z2 : (0 : Int32) < nI (b + 1) - nI d := z; rw [Int32.lt_iff_toInt_lt] at hn z2; omega)]
      rw [show b + 1 - d = 0 by omega]
theorem bW_mul {a b d : Nat} (hb : b < 6) : a / 10 * (b + 1 - d) ≤ a / 10 * 6 := Nat.mul_le_mul_left _ (by omega)
theorem hv_bw {a d b : Nat} (ha : a ≤ 700) (hb : b < 6) : (if nI 50 < nI (a - a / 10 * (b + 1 - d)) then nI (a - a / 10 * (b + 1 - d)) else nI 50) = nI (bW a d b) := by
  have h1 := bW_mul (a := a) (d := d) hb
  unfold bW
  by_cases h : 50 < a - a / 10 * (b + 1 - d)
  · rw [if_pos (nI_lt h (by omega)), Nat.max_eq_right (by omega)]
  · rw [if_neg (nI_nlt (by omega) (by omega)), Nat.max_eq_left (by omega)]
set_option maxHeartbeats 4000000 in
set_option maxRecDepth 100000 in
/-- Block(size, depth) -/
theorem c_X0_init (l : Launch) (D : va_G) (cA : Nat → ClassId) (ga : Nat → Nat → Nat) (φ : hpM) (sz : Nat) (h0 a d : Nat) (f0 : φ h0 = some (.inr (4, [.int (nI 0), .int (nI 0)]))) : hM l yX0_init cX0_init 3 none { frames := 8, cells := 0, slots := 0, locals := 200 } [.ref h0, .int (nI a), .int (nI d)] D cA ga φ sz (fun v φ' => v = none ∧ φ' = ups φ h0 (.inr (4, [.int (nI a), .int (nI d)]))) 0 0 := by
  refine hM.of (by decide) (Nat.le_of_ble_eq_true rfl) rfl ?_
  intro p e s m args below meth c ls H locs S hr hlocks hnm hsz hHz hH hK hX hS hA hl
  refine lv_aload_n (pc := 0) S.1 S.2.1 dX0_init_0 rfl (lv_at hl 0 rfl) ?_
  refine W.objInit S.1 S.2.1 S.2.2.2.1 (S.2.2.2.2 _ tw_736) (S.2.2.2.2 _ tw_34) (S.2.2.2.2 _ tw_35) rfl (by rw [S.2.2.1]; exact hl.1) rfl dX0_init_1 (Nat.le_of_ble_eq_true rfl) (Nat.le_of_ble_eq_true rfl) ?_
  refine W.eq (g2 := F0 m 4 ls []) rfl ?_
  refine lv_aload_n (pc := 4) S.1 S.2.1 dX0_init_4 rfl (lv_at hl 0 rfl) ?_
  refine lv_iload_n (pc := 5) S.1 S.2.1 dX0_init_5 rfl (lv_at hl 1 rfl) ?_
  refine hv_putF (pc := 6) (ty := .int) (C := RX0) (T := TX0) (N := 2) (ref := RX0) S uwX0 tyX0 tyX0_ok nmX0 hK hH hS f0 rfl 0 (by decide) tw_737 (fun _ h9 => h9) rfl hnm rfl (by decide +kernel) rfl rfl (Nat.le_of_ble_eq_true rfl) dX0_init_6 (fun H locs hH hS => ?_)
  replace hH := nup (e := .inr (4, [.int (nI a), .int (nI 0)])) hH
  obtain ⟨φ_1, hφ_1, fa_φ_1, fr_φ_1, hH⟩ := hH
  refine lv_aload_n (pc := 9) S.1 S.2.1 dX0_init_9 rfl (lv_at hl 0 rfl) ?_
  refine lv_iload_n (pc := 10) S.1 S.2.1 dX0_init_10 rfl (lv_at hl 2 rfl) ?_
  refine hv_putF (pc := 11) (ty := .int) (C := RX0) (T := TX0) (N := 2) (ref := RX0) S uwX0 tyX0 tyX0_ok nmX0 hK hH hS fa_φ_1 rfl 1 (by decide) tw_738 (fun _ h9 => h9) rfl hnm rfl (by decide +kernel) rfl rfl (Nat.le_of_ble_eq_true rfl) dX0_init_11 (fun H locs hH hS => ?_)
  replace hH := nup (e := .inr (4, [.int (nI a), .int (nI d)])) hH
  obtain ⟨φ_2, hφ_2, fa_φ_2, fr_φ_2, hH⟩ := hH
  exact hv_vret (pc := 14) S hr hlocks hH hS (⟨rfl, by rw [hφ_2, hφ_1, ups_ups]⟩) (Nat.le_of_ble_eq_true rfl) (Nat.le_of_ble_eq_true rfl) dX0_init_14

set_option maxHeartbeats 4000000 in
set_option maxRecDepth 100000 in
/-- Block.widthFor(band) -/
theorem c_X0_widthFor (l : Launch) (D : va_G) (cA : Nat → ClassId) (ga : Nat → Nat → Nat) (φ : hpM) (sz : Nat) (h0 a d b : Nat) (f0 : φ h0 = some (.inr (4, [.int (nI a), .int (nI d)]))) (ha : a ≤ 700) (hd : d ≤ 6) (hb : b < 6) : hM l yX0_widthFor cX0_widthFor 3 (some .int) { frames := 8, cells := 0, slots := 0, locals := 200 } [.ref h0, .int (nI b)] D cA ga φ sz (fun v φ' => v = some (.int (nI (bW a d b))) ∧ φ' = φ) 0 0 := by
  refine hM.of (by decide) (Nat.le_of_ble_eq_true rfl) rfl ?_
  intro p e s m args below meth c ls H locs S hr hlocks hnm hsz hHz hH hK hX hS hA hl
  have hbm := bW_mul (a := a) (d := d) hb
  refine lv_iconst (pc := 0) (v := nI 0) S.1 S.2.1 dX0_widthFor_0 (by decide) ?_
  refine lv_iload_n (pc := 1) S.1 S.2.1 dX0_widthFor_1 rfl (lv_at hl 1 rfl) ?_
  refine lv_aload_n (pc := 2) S.1 S.2.1 dX0_widthFor_2 rfl (lv_at hl 0 rfl) ?_
  refine hv_get (pc := 3) (C := RX0) (T := TX0) (N := 2) (ref := RX0) S uwX0 hK hH f0 rfl 1 (by decide) tw_738 (fun _ h9 => h9) rfl dX0_widthFor_3 ?_
  refine lv_isub (pc := 6) S.1 S.2.1 dX0_widthFor_6 ?_
  refine lv_iconst (pc := 7) (v := nI 1) S.1 S.2.1 dX0_widthFor_7 (by decide) ?_
  refine lv_iadd (pc := 8) S.1 S.2.1 dX0_widthFor_8 ?_
  refine va_mmax (pc := 9) S.1 S.2.1 (by rw [S.2.2.1]; exact hl.1.symm) S.2.2.2.1 (S.2.2.2.2 _ tw_766) (S.2.2.2.2 _ tw_316) (S.2.2.2.2 _ tw_14) (S.2.2.2.2 _ tw_317) (Nat.le_of_ble_eq_true rfl) (Nat.le_of_ble_eq_true rfl) (Nat.le_of_ble_eq_true rfl) (Nat.le_of_ble_eq_true rfl) dX0_widthFor_9 ?_
  refine hv_ti (y := nI (b + 1 - d)) (hv_maxsub (by omega) (by omega)) ?_
  refine lv_istore_n (pc := 12) (lv' := [(2, .int (nI (b + 1 - d))), (0, .ref h0), (1, .int (nI b))]) S.1 S.2.1 dX0_widthFor_12 rfl hl (by decide) rfl (fun ls hl => ?_)
  refine lv_bipush (pc := 13) (v := nI 50) S.1 S.2.1 dX0_widthFor_13 (by decide) ?_
  refine lv_aload_n (pc := 15) S.1 S.2.1 dX0_widthFor_15 rfl (lv_at hl 1 rfl) ?_
  refine hv_get (pc := 16) (C := RX0) (T := TX0) (N := 2) (ref := RX0) S uwX0 hK hH f0 rfl 0 (by decide) tw_737 (fun _ h9 => h9) rfl dX0_widthFor_16 ?_
  refine lv_aload_n (pc := 19) S.1 S.2.1 dX0_widthFor_19 rfl (lv_at hl 1 rfl) ?_
  refine hv_get (pc := 20) (C := RX0) (T := TX0) (N := 2) (ref := RX0) S uwX0 hK hH f0 rfl 0 (by decide) tw_737 (fun _ h9 => h9) rfl dX0_widthFor_20 ?_
  refine lv_bipush (pc := 23) (v := nI 10) S.1 S.2.1 dX0_widthFor_23 (by decide) ?_
  refine lv_idiv (pc := 25) S.1 S.2.1 dX0_widthFor_25 (by decide) ?_
  refine hv_ti (y := nI (a / 10)) (pk_div (by omega) (by omega) (by omega)) ?_
  refine lv_iload_n (pc := 26) S.1 S.2.1 dX0_widthFor_26 rfl (lv_at hl 0 rfl) ?_
  refine lv_imul (pc := 27) S.1 S.2.1 dX0_widthFor_27 ?_
  refine hv_ti (y := nI ((a / 10) * (b + 1 - d))) (pk_mul _ _) ?_
  refine lv_isub (pc := 28) S.1 S.2.1 dX0_widthFor_28 ?_
  refine hv_ti (y := nI (a - ((a / 10) * (b + 1 - d)))) (pk_sub (by omega)) ?_
  refine va_mmax (pc := 29) S.1 S.2.1 (by rw [S.2.2.1]; exact hl.1.symm) S.2.2.2.1 (S.2.2.2.2 _ tw_766) (S.2.2.2.2 _ tw_316) (S.2.2.2.2 _ tw_14) (S.2.2.2.2 _ tw_317) (Nat.le_of_ble_eq_true rfl) (Nat.le_of_ble_eq_true rfl) (Nat.le_of_ble_eq_true rfl) (Nat.le_of_ble_eq_true rfl) dX0_widthFor_29 ?_
  refine hv_ti (y := nI (bW a d b)) (hv_bw ha hb) ?_
  exact hv_ret (pc := 32) (v := nI (bW a d b)) S hr rfl hlocks hH hS (⟨rfl, rfl⟩) (Nat.le_of_ble_eq_true rfl) (Nat.le_of_ble_eq_true rfl) dX0_widthFor_32

theorem fAcr_le (k : Nat) : fAcr k ≤ 10 := by
  match k with
  | 0 | 1 | 2 | 3 => decide
  | k + 4 => exact Nat.zero_le _
theorem fAlo_le (k : Nat) : fAlo k ≤ 9 := by
  match k with
  | 0 | 1 | 2 | 3 => decide
  | k + 4 => exact Nat.zero_le _
theorem fStr_le (k : Nat) : fStr k ≤ 35 := by
  match k with
  | 0 | 1 | 2 | 3 => decide
  | k + 4 => exact Nat.zero_le _
theorem fAir_le (k : Nat) : fAir k ≤ 12 := by
  match k with
  | 0 | 1 | 2 | 3 => decide
  | k + 4 => exact Nat.zero_le _
theorem fPro_le (k : Nat) : fPro k ≤ 2147483647 := by
  match k with
  | 0 | 1 | 2 => decide
  | k + 3 => exact Nat.zero_le _
/-- what is left of a width, of a height, behind a cycle -/
def shA (k w : Nat) : Nat := w * (100 - fAcr k) / 100
def shL (k w : Nat) : Nat := w * (100 - fAlo k) / 100
set_option maxHeartbeats 4000000 in
set_option maxRecDepth 100000 in
/-- Fur.shrunkAcross(width) -/
theorem c_X3_shrunkAcross (l : Launch) (D : va_G) (cA : Nat → ClassId) (ga : Nat → Nat → Nat) (φ : hpM) (sz : Nat) (k w : Nat) (hk : k < 4) (hw : w ≤ 1200) : hN l yX3_shrunkAcross cX3_shrunkAcross 2 (some .int) { frames := 8, cells := 0, slots := 0, locals := 200 } [.ref (ga 0 k), .int (nI w)] D cA ga φ sz (fun v φ' => v = some (.int (nI (shA k w))) ∧ φ' = φ) 0 0 := by
  refine hN.of (by decide) (Nat.le_of_ble_eq_true rfl) rfl ?_
  intro p e s m args below meth c ls H locs S hr hlocks hnm hsz hHz hH hK hX hS hA hl
  have hf := fAcr_le k
  have hm : w * (100 - fAcr k) ≤ 1200 * 100 := Nat.mul_le_mul hw (by omega)
  refine lv_iload_n (pc := 0) S.1 S.2.1 dX3_shrunkAcross_0 rfl (lv_at hl 1 rfl) ?_
  refine lv_bipush (pc := 1) (v := nI 100) S.1 S.2.1 dX3_shrunkAcross_1 (by decide) ?_
  refine lv_aload_n (pc := 3) S.1 S.2.1 dX3_shrunkAcross_3 rfl (lv_at hl 0 rfl) ?_
  refine va_getX (pc := 4) (i := k) (ref := RX3) (index := 39) S.1 S.2.1 hX.fur_lessAcross hk hS S.2.2.2.1 (S.2.2.2.2 _ tw_937) (fun _ h9 => h9) dX3_shrunkAcross_4 ?_
  refine lv_isub (pc := 7) S.1 S.2.1 dX3_shrunkAcross_7 ?_
  refine hv_ti (y := nI (100 - (fAcr k))) (pk_sub (by omega)) ?_
  refine lv_imul (pc := 8) S.1 S.2.1 dX3_shrunkAcross_8 ?_
  refine hv_ti (y := nI (w * (100 - (fAcr k)))) (pk_mul _ _) ?_
  refine lv_bipush (pc := 9) (v := nI 100) S.1 S.2.1 dX3_shrunkAcross_9 (by decide) ?_
  refine lv_idiv (pc := 11) S.1 S.2.1 dX3_shrunkAcross_11 (by decide) ?_
  refine hv_ti (y := nI ((w * (100 - (fAcr k))) / 100)) (pk_div (by omega) (by omega) (by omega)) ?_
  exact hv_ret (pc := 12) (v := nI ((w * (100 - (fAcr k))) / 100)) S hr rfl hlocks hH hS (⟨rfl, rfl⟩) (Nat.le_of_ble_eq_true rfl) (Nat.le_of_ble_eq_true rfl) dX3_shrunkAcross_12

set_option maxHeartbeats 4000000 in
set_option maxRecDepth 100000 in
/-- Fur.shrunkAlong(width) -/
theorem c_X3_shrunkAlong (l : Launch) (D : va_G) (cA : Nat → ClassId) (ga : Nat → Nat → Nat) (φ : hpM) (sz : Nat) (k w : Nat) (hk : k < 4) (hw : w ≤ 1200) : hN l yX3_shrunkAlong cX3_shrunkAlong 2 (some .int) { frames := 8, cells := 0, slots := 0, locals := 200 } [.ref (ga 0 k), .int (nI w)] D cA ga φ sz (fun v φ' => v = some (.int (nI (shL k w))) ∧ φ' = φ) 0 0 := by
  refine hN.of (by decide) (Nat.le_of_ble_eq_true rfl) rfl ?_
  intro p e s m args below meth c ls H locs S hr hlocks hnm hsz hHz hH hK hX hS hA hl
  have hf := fAlo_le k
  have hm : w * (100 - fAlo k) ≤ 1200 * 100 := Nat.mul_le_mul hw (by omega)
  refine lv_iload_n (pc := 0) S.1 S.2.1 dX3_shrunkAlong_0 rfl (lv_at hl 1 rfl) ?_
  refine lv_bipush (pc := 1) (v := nI 100) S.1 S.2.1 dX3_shrunkAlong_1 (by decide) ?_
  refine lv_aload_n (pc := 3) S.1 S.2.1 dX3_shrunkAlong_3 rfl (lv_at hl 0 rfl) ?_
  refine va_getX (pc := 4) (i := k) (ref := RX3) (index := 43) S.1 S.2.1 hX.fur_lessAlong hk hS S.2.2.2.1 (S.2.2.2.2 _ tw_938) (fun _ h9 => h9) dX3_shrunkAlong_4 ?_
  refine lv_isub (pc := 7) S.1 S.2.1 dX3_shrunkAlong_7 ?_
  refine hv_ti (y := nI (100 - (fAlo k))) (pk_sub (by omega)) ?_
  refine lv_imul (pc := 8) S.1 S.2.1 dX3_shrunkAlong_8 ?_
  refine hv_ti (y := nI (w * (100 - (fAlo k)))) (pk_mul _ _) ?_
  refine lv_bipush (pc := 9) (v := nI 100) S.1 S.2.1 dX3_shrunkAlong_9 (by decide) ?_
  refine lv_idiv (pc := 11) S.1 S.2.1 dX3_shrunkAlong_11 (by decide) ?_
  refine hv_ti (y := nI ((w * (100 - (fAlo k))) / 100)) (pk_div (by omega) (by omega) (by omega)) ?_
  exact hv_ret (pc := 12) (v := nI ((w * (100 - (fAlo k))) / 100)) S hr rfl hlocks hH hS (⟨rfl, rfl⟩) (Nat.le_of_ble_eq_true rfl) (Nat.le_of_ble_eq_true rfl) dX3_shrunkAlong_12

set_option maxHeartbeats 4000000 in
set_option maxRecDepth 100000 in
/-- Feather.isAllowedIn(year) -/
theorem c_X2_isAllowedIn (l : Launch) (D : va_G) (cA : Nat → ClassId) (ga : Nat → Nat → Nat) (φ : hpM) (sz : Nat) (k y : Nat) (hk : k < 3) (hy : y < 2 ^ 30) : hN l yX2_isAllowedIn cX2_isAllowedIn 2 (some .boolean) { frames := 8, cells := 0, slots := 0, locals := 200 } [.ref (ga 1 k), .int (nI y)] D cA ga φ sz (fun v φ' => v = some (.int (nI (if y < fPro k then 1 else 0))) ∧ φ' = φ) 0 0 := by
  refine hN.of (by decide) (Nat.le_of_ble_eq_true rfl) rfl ?_
  intro p e s m args below meth c ls H locs S hr hlocks hnm hsz hHz hH hK hX hS hA hl
  have hf := fPro_le k
  refine lv_iload_n (pc := 0) S.1 S.2.1 dX2_isAllowedIn_0 rfl (lv_at hl 1 rfl) ?_
  refine lv_aload_n (pc := 1) S.1 S.2.1 dX2_isAllowedIn_1 rfl (lv_at hl 0 rfl) ?_
  refine va_getX (pc := 2) (i := k) (ref := RX2) (index := 36) S.1 S.2.1 hX.fea_pro hk hS S.2.2.2.1 (S.2.2.2.2 _ tw_941) (fun _ h9 => h9) dX2_isAllowedIn_2 ?_
  refine hv_icmp_ge (pc := 5) (tgt := 12) (a := y) (b := fPro k) S.1 S.2.1 (by omega) (by omega) dX2_isAllowedIn_5 (by decide) (fun c_1 => ?_) (fun c_1 => ?_)
  · skip
    refine lv_iconst (pc := 12) (v := nI 0) S.1 S.2.1 dX2_isAllowedIn_12 (by decide) ?_
    exact hv_ret (pc := 13) (v := nI 0) S hr rfl hlocks hH hS (⟨by rw [if_neg (by omega)], rfl⟩) (Nat.le_of_ble_eq_true rfl) (Nat.le_of_ble_eq_true rfl) dX2_isAllowedIn_13
  · skip
    refine lv_iconst (pc := 8) (v := nI 1) S.1 S.2.1 dX2_isAllowedIn_8 (by decide) ?_
    refine lv_goto (pc := 9) (tgt := 13) S.1 S.2.1 dX2_isAllowedIn_9 (by decide) ?_
    exact hv_ret (pc := 13) (v := nI 1) S hr rfl hlocks hH hS (⟨by rw [if_pos (by omega)], rfl⟩) (Nat.le_of_ble_eq_true rfl) (Nat.le_of_ble_eq_true rfl) dX2_isAllowedIn_13

set_option maxHeartbeats 4000000 in
set_option maxRecDepth 100000 in
/-- Hand() -/
theorem c_X4_init (l : Launch) (D : va_G) (cA : Nat → ClassId) (ga : Nat → Nat → Nat) (φ : hpM) (sz : Nat) (h0 : Nat) (f0 : φ h0 = some (.inr (8, [.int (nI 0), .int (nI 0)]))) : hM l yX4_init cX4_init 1 none { frames := 8, cells := 0, slots := 0, locals := 200 } [.ref h0] D cA ga φ sz (fun v φ' => v = none ∧ φ' = ups φ h0 (.inr (8, [.int (nI 0), .int (nI 0)]))) 0 0 := by
  refine hM.of (by decide) (Nat.le_of_ble_eq_true rfl) rfl ?_
  intro p e s m args below meth c ls H locs S hr hlocks hnm hsz hHz hH hK hX hS hA hl
  refine lv_aload_n (pc := 0) S.1 S.2.1 dX4_init_0 rfl (lv_at hl 0 rfl) ?_
  refine W.objInit S.1 S.2.1 S.2.2.2.1 (S.2.2.2.2 _ tw_695) (S.2.2.2.2 _ tw_34) (S.2.2.2.2 _ tw_35) rfl (by rw [S.2.2.1]; exact hl.1) rfl dX4_init_1 (Nat.le_of_ble_eq_true rfl) (Nat.le_of_ble_eq_true rfl) ?_
  refine W.eq (g2 := F0 m 4 ls []) rfl ?_
  refine lv_aload_n (pc := 4) S.1 S.2.1 dX4_init_4 rfl (lv_at hl 0 rfl) ?_
  refine lv_iconst (pc := 5) (v := nI 0) S.1 S.2.1 dX4_init_5 (by decide) ?_
  refine hv_put (pc := 6) (ty := .int) (C := RX4) (T := TX4) (N := 2) (ref := RX4) S uwX4 tyX4 tyX4_ok nmX4 hK hH hS f0 rfl 0 (by decide) tw_696 (fun _ h9 => h9) rfl (by decide +kernel) rfl rfl (Nat.le_of_ble_eq_true rfl) dX4_init_6 (fun H locs hH hS => ?_)
  replace hH := nup (e := .inr (8, [.int (nI 0), .int (nI 0)])) hH
  obtain ⟨φ_1, hφ_1, fa_φ_1, fr_φ_1, hH⟩ := hH
  refine lv_aload_n (pc := 9) S.1 S.2.1 dX4_init_9 rfl (lv_at hl 0 rfl) ?_
  refine lv_iconst (pc := 10) (v := nI 0) S.1 S.2.1 dX4_init_10 (by decide) ?_
  refine hv_put (pc := 11) (ty := .int) (C := RX4) (T := TX4) (N := 2) (ref := RX4) S uwX4 tyX4 tyX4_ok nmX4 hK hH hS fa_φ_1 rfl 1 (by decide) tw_698 (fun _ h9 => h9) rfl (by decide +kernel) rfl rfl (Nat.le_of_ble_eq_true rfl) dX4_init_11 (fun H locs hH hS => ?_)
  replace hH := nup (e := .inr (8, [.int (nI 0), .int (nI 0)])) hH
  obtain ⟨φ_2, hφ_2, fa_φ_2, fr_φ_2, hH⟩ := hH
  exact hv_vret (pc := 14) S hr hlocks hH hS (⟨rfl, by rw [hφ_2, hφ_1, ups_ups]⟩) (Nat.le_of_ble_eq_true rfl) (Nat.le_of_ble_eq_true rfl) dX4_init_14

set_option maxHeartbeats 4000000 in
set_option maxRecDepth 100000 in
/-- Hand.breathe(air) -/
theorem c_X4_breathe (l : Launch) (D : va_G) (cA : Nat → ClassId) (ga : Nat → Nat → Nat) (φ : hpM) (sz : Nat) (h0 a b k : Nat) (f0 : φ h0 = some (.inr (8, [.int (nI a), .int (nI b)]))) : hM l yX4_breathe cX4_breathe 2 none { frames := 8, cells := 0, slots := 0, locals := 200 } [.ref h0, .int (nI k)] D cA ga φ sz (fun v φ' => v = none ∧ φ' = ups φ h0 (.inr (8, [.int (nI (a + k)), .int (nI (b + k))]))) 0 0 := by
  refine hM.of (by decide) (Nat.le_of_ble_eq_true rfl) rfl ?_
  intro p e s m args below meth c ls H locs S hr hlocks hnm hsz hHz hH hK hX hS hA hl
  refine lv_aload_n (pc := 0) S.1 S.2.1 dX4_breathe_0 rfl (lv_at hl 0 rfl) ?_
  refine lv_dup (pc := 1) S.1 S.2.1 dX4_breathe_1 rfl ?_
  refine hv_get (pc := 2) (C := RX4) (T := TX4) (N := 2) (ref := RX4) S uwX4 hK hH f0 rfl 0 (by decide) tw_696 (fun _ h9 => h9) rfl dX4_breathe_2 ?_
  refine lv_iload_n (pc := 5) S.1 S.2.1 dX4_breathe_5 rfl (lv_at hl 1 rfl) ?_
  refine lv_iadd (pc := 6) S.1 S.2.1 dX4_breathe_6 ?_
  refine hv_ti (y := nI (a + k)) (nI_add _ _) ?_
  refine hv_put (pc := 7) (ty := .int) (C := RX4) (T := TX4) (N := 2) (ref := RX4) S uwX4 tyX4 tyX4_ok nmX4 hK hH hS f0 rfl 0 (by decide) tw_696 (fun _ h9 => h9) rfl (by decide +kernel) rfl rfl (Nat.le_of_ble_eq_true rfl) dX4_breathe_7 (fun H locs hH hS => ?_)
  replace hH := nup (e := .inr (8, [.int (nI (a + k)), .int (nI b)])) hH
  obtain ⟨φ_1, hφ_1, fa_φ_1, fr_φ_1, hH⟩ := hH
  refine lv_aload_n (pc := 10) S.1 S.2.1 dX4_breathe_10 rfl (lv_at hl 0 rfl) ?_
  refine lv_dup (pc := 11) S.1 S.2.1 dX4_breathe_11 rfl ?_
  refine hv_get (pc := 12) (C := RX4) (T := TX4) (N := 2) (ref := RX4) S uwX4 hK hH fa_φ_1 rfl 1 (by decide) tw_698 (fun _ h9 => h9) rfl dX4_breathe_12 ?_
  refine lv_iload_n (pc := 15) S.1 S.2.1 dX4_breathe_15 rfl (lv_at hl 1 rfl) ?_
  refine lv_iadd (pc := 16) S.1 S.2.1 dX4_breathe_16 ?_
  refine hv_ti (y := nI (b + k)) (nI_add _ _) ?_
  refine hv_put (pc := 17) (ty := .int) (C := RX4) (T := TX4) (N := 2) (ref := RX4) S uwX4 tyX4 tyX4_ok nmX4 hK hH hS fa_φ_1 rfl 1 (by decide) tw_698 (fun _ h9 => h9) rfl (by decide +kernel) rfl rfl (Nat.le_of_ble_eq_true rfl) dX4_breathe_17 (fun H locs hH hS => ?_)
  replace hH := nup (e := .inr (8, [.int (nI (a + k)), .int (nI (b + k))])) hH
  obtain ⟨φ_2, hφ_2, fa_φ_2, fr_φ_2, hH⟩ := hH
  exact hv_vret (pc := 20) S hr hlocks hH hS (⟨rfl, by rw [hφ_2, hφ_1, ups_ups]⟩) (Nat.le_of_ble_eq_true rfl) (Nat.le_of_ble_eq_true rfl) dX4_breathe_20

set_option maxHeartbeats 4000000 in
set_option maxRecDepth 100000 in
/-- Lot(fur, grams) -/
theorem c_X6_init (l : Launch) (D : va_G) (cA : Nat → ClassId) (ga : Nat → Nat → Nat) (φ : hpM) (sz : Nat) (h0 k g : Nat) (f0 : φ h0 = some (.inr (10, [.null, .int (nI 0)]))) : hM l yX6_init cX6_init 3 none { frames := 8, cells := 0, slots := 0, locals := 200 } [.ref h0, .ref (ga 0 k), .int (nI g)] D cA ga φ sz (fun v φ' => v = none ∧ φ' = ups φ h0 (.inr (10, [.ref (ga 0 k), .int (nI g)]))) 0 0 := by
  refine hM.of (by decide) (Nat.le_of_ble_eq_true rfl) rfl ?_
  intro p e s m args below meth c ls H locs S hr hlocks hnm hsz hHz hH hK hX hS hA hl
  refine lv_aload_n (pc := 0) S.1 S.2.1 dX6_init_0 rfl (lv_at hl 0 rfl) ?_
  refine W.objInit S.1 S.2.1 S.2.2.2.1 (S.2.2.2.2 _ tw_635) (S.2.2.2.2 _ tw_34) (S.2.2.2.2 _ tw_35) rfl (by rw [S.2.2.1]; exact hl.1) rfl dX6_init_1 (Nat.le_of_ble_eq_true rfl) (Nat.le_of_ble_eq_true rfl) ?_
  refine W.eq (g2 := F0 m 4 ls []) rfl ?_
  refine lv_aload_n (pc := 4) S.1 S.2.1 dX6_init_4 rfl (lv_at hl 0 rfl) ?_
  refine lv_aload_n (pc := 5) S.1 S.2.1 dX6_init_5 rfl (lv_at hl 1 rfl) ?_
  refine hv_putF (pc := 6) (ty := .object "HatbandYard$Fur") (C := RX6) (T := TX6) (N := 2) (ref := RX6) S uwX6 tyX6 tyX6_ok nmX6 hK hH hS f0 rfl 0 (by decide) tw_636 (fun _ h9 => h9) rfl hnm rfl (by decide +kernel) rfl rfl (Nat.le_of_ble_eq_true rfl) dX6_init_6 (fun H locs hH hS => ?_)
  replace hH := nup (e := .inr (10, [.ref (ga 0 k), .int (nI 0)])) hH
  obtain ⟨φ_1, hφ_1, fa_φ_1, fr_φ_1, hH⟩ := hH
  refine lv_aload_n (pc := 9) S.1 S.2.1 dX6_init_9 rfl (lv_at hl 0 rfl) ?_
  refine lv_iload_n (pc := 10) S.1 S.2.1 dX6_init_10 rfl (lv_at hl 2 rfl) ?_
  refine hv_put (pc := 11) (ty := .int) (C := RX6) (T := TX6) (N := 2) (ref := RX6) S uwX6 tyX6 tyX6_ok nmX6 hK hH hS fa_φ_1 rfl 1 (by decide) tw_638 (fun _ h9 => h9) rfl (by decide +kernel) rfl rfl (Nat.le_of_ble_eq_true rfl) dX6_init_11 (fun H locs hH hS => ?_)
  replace hH := nup (e := .inr (10, [.ref (ga 0 k), .int (nI g)])) hH
  obtain ⟨φ_2, hφ_2, fa_φ_2, fr_φ_2, hH⟩ := hH
  exact hv_vret (pc := 14) S hr hlocks hH hS (⟨rfl, by rw [hφ_2, hφ_1, ups_ups]⟩) (Nat.le_of_ble_eq_true rfl) (Nat.le_of_ble_eq_true rfl) dX6_init_14
