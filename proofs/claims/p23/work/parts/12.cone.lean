set_option maxHeartbeats 4000000 in
set_option maxRecDepth 100000 in
/-- Cone.partOf(band, taper) -/
theorem c_X1_partOf (l : Launch) (D : va_G) (cA : Nat → ClassId) (ga : Nat → Nat → Nat) (φ : hpM) (sz : Nat) (b t : Nat) : hM l yX1_partOf cX1_partOf 2 (some .int) { frames := 8, cells := 0, slots := 0, locals := 200 } [.int (nI b), .int (nI t)] D cA ga φ sz (fun v φ' => v = some (.int (nI (10 + t * b))) ∧ φ' = φ) 0 0 := by
  refine hM.of (by decide) (Nat.le_of_ble_eq_true rfl) rfl ?_
  intro p e s m args below meth c ls H locs S hr hlocks hnm hsz hHz hH hK hX hS hA hl
  refine lv_bipush (pc := 0) (v := nI 10) S.1 S.2.1 dX1_partOf_0 (by decide) ?_
  refine lv_iload_n (pc := 2) S.1 S.2.1 dX1_partOf_2 rfl (lv_at hl 1 rfl) ?_
  refine lv_iload_n (pc := 3) S.1 S.2.1 dX1_partOf_3 rfl (lv_at hl 0 rfl) ?_
  refine lv_imul (pc := 4) S.1 S.2.1 dX1_partOf_4 ?_
  refine hv_ti (y := nI (t * b)) (pk_mul _ _) ?_
  refine lv_iadd (pc := 5) S.1 S.2.1 dX1_partOf_5 ?_
  refine hv_ti (y := nI (10 + (t * b))) (nI_add _ _) ?_
  exact hv_ret (pc := 6) (v := nI (10 + (t * b))) S hr rfl hlocks hH hS (⟨rfl, rfl⟩) (Nat.le_of_ble_eq_true rfl) (Nat.le_of_ble_eq_true rfl) dX1_partOf_6

set_option maxHeartbeats 4000000 in
set_option maxRecDepth 100000 in
/-- Cone.widthFormed(band) -/
theorem c_X1_widthFormed (l : Launch) (D : va_G) (cA : Nat → ClassId) (ga : Nat → Nat → Nat) (φ : hpM) (sz : Nat) (b : Nat) (hb : b < 6) : hM l yX1_widthFormed cX1_widthFormed 1 (some .int) { frames := 8, cells := 0, slots := 0, locals := 200 } [.int (nI b)] D cA ga φ sz (fun v φ' => v = some (.int (nI (1200 - 150 * b))) ∧ φ' = φ) 0 0 := by
  refine hM.of (by decide) (Nat.le_of_ble_eq_true rfl) rfl ?_
  intro p e s m args below meth c ls H locs S hr hlocks hnm hsz hHz hH hK hX hS hA hl
  refine lv_sipush (pc := 0) (v := nI 1200) S.1 S.2.1 dX1_widthFormed_0 (by decide) ?_
  refine lv_sipush (pc := 3) (v := nI 150) S.1 S.2.1 dX1_widthFormed_3 (by decide) ?_
  refine lv_iload_n (pc := 6) S.1 S.2.1 dX1_widthFormed_6 rfl (lv_at hl 0 rfl) ?_
  refine lv_imul (pc := 7) S.1 S.2.1 dX1_widthFormed_7 ?_
  refine hv_ti (y := nI (150 * b)) (pk_mul _ _) ?_
  refine lv_isub (pc := 8) S.1 S.2.1 dX1_widthFormed_8 ?_
  refine hv_ti (y := nI (1200 - (150 * b))) (pk_sub (by omega)) ?_
  exact hv_ret (pc := 9) (v := nI (1200 - (150 * b))) S hr rfl hlocks hH hS (⟨rfl, rfl⟩) (Nat.le_of_ble_eq_true rfl) (Nat.le_of_ble_eq_true rfl) dX1_widthFormed_9

set_option maxHeartbeats 4000000 in
set_option maxRecDepth 100000 in
/-- Cone.widthOf(band) -/
theorem c_X1_widthOf (l : Launch) (D : va_G) (cA : Nat → ClassId) (ga : Nat → Nat → Nat) (φ : hpM) (sz : Nat) (h0 wq gq k ht cy tr : Nat) (lb : Value) (wf mf : Nat → Nat) (b : Nat) (f0 : φ h0 = some (.inr (5, [.ref (ga 0 k), .ref wq, .ref gq, .int (nI ht), .int (nI cy), lb, .int (nI tr)]))) (f1 : φ wq = some (.inl (cA 1, 6, .inl (fun j => nI (wf j))))) (f2 : φ gq = some (.inl (cA 1, 6, .inl (fun j => nI (mf j))))) (hb : b < 6) : hM l yX1_widthOf cX1_widthOf 2 (some .int) { frames := 8, cells := 0, slots := 0, locals := 200 } [.ref h0, .int (nI b)] D cA ga φ sz (fun v φ' => v = some (.int (nI (wf b))) ∧ φ' = φ) 0 0 := by
  refine hM.of (by decide) (Nat.le_of_ble_eq_true rfl) rfl ?_
  intro p e s m args below meth c ls H locs S hr hlocks hnm hsz hHz hH hK hX hS hA hl
  refine lv_iload_n (pc := 0) S.1 S.2.1 dX1_widthOf_0 rfl (lv_at hl 1 rfl) ?_
  refine hv_if_lt (pc := 1) (tgt := 13) (a := b) S.1 S.2.1 (by omega) dX1_widthOf_1 (by decide) (fun c_1 => ?_) (fun c_1 => ?_)
  · skip
    exact c_1.elim
  · skip
    refine lv_iload_n (pc := 4) S.1 S.2.1 dX1_widthOf_4 rfl (lv_at hl 1 rfl) ?_
    refine lv_aload_n (pc := 5) S.1 S.2.1 dX1_widthOf_5 rfl (lv_at hl 0 rfl) ?_
    refine hv_get (pc := 6) (C := RX1) (T := TX1) (N := 7) (ref := RX1) S uwX1 hK hH f0 rfl 1 (by decide) tw_662 (fun _ h9 => h9) rfl dX1_widthOf_6 ?_
    refine hv_alen (pc := 9) (v := nI 6) S hK hH 1 f1 rfl rfl dX1_widthOf_9 ?_
    refine hv_icmp_lt (pc := 10) (tgt := 17) (a := b) (b := 6) S.1 S.2.1 (by omega) (by omega) dX1_widthOf_10 (by decide) (fun c_2 => ?_) (fun c_2 => ?_)
    · skip
      refine lv_aload_n (pc := 17) S.1 S.2.1 dX1_widthOf_17 rfl (lv_at hl 0 rfl) ?_
      refine hv_get (pc := 18) (C := RX1) (T := TX1) (N := 7) (ref := RX1) S uwX1 hK hH f0 rfl 1 (by decide) tw_662 (fun _ h9 => h9) rfl dX1_widthOf_18 ?_
      refine lv_iload_n (pc := 21) S.1 S.2.1 dX1_widthOf_21 rfl (lv_at hl 1 rfl) ?_
      refine hv_iald (pc := 22) S hK hH 1 f1 rfl (vp_in_nI (by omega) (by omega)) dX1_widthOf_22 ?_
      refine hv_ti (y := nI (wf b)) (hv_ld (by omega)) ?_
      exact hv_ret (pc := 23) (v := nI (wf b)) S hr rfl hlocks hH hS (⟨rfl, rfl⟩) (Nat.le_of_ble_eq_true rfl) (Nat.le_of_ble_eq_true rfl) dX1_widthOf_23
    · skip
      exact absurd c_2 (by omega)

set_option maxHeartbeats 4000000 in
set_option maxRecDepth 100000 in
/-- Cone.gramsOf(band) -/
theorem c_X1_gramsOf (l : Launch) (D : va_G) (cA : Nat → ClassId) (ga : Nat → Nat → Nat) (φ : hpM) (sz : Nat) (h0 wq gq k ht cy tr : Nat) (lb : Value) (wf mf : Nat → Nat) (b : Nat) (f0 : φ h0 = some (.inr (5, [.ref (ga 0 k), .ref wq, .ref gq, .int (nI ht), .int (nI cy), lb, .int (nI tr)]))) (f1 : φ wq = some (.inl (cA 1, 6, .inl (fun j => nI (wf j))))) (f2 : φ gq = some (.inl (cA 1, 6, .inl (fun j => nI (mf j))))) (hb : b < 6) : hM l yX1_gramsOf cX1_gramsOf 2 (some .int) { frames := 8, cells := 0, slots := 0, locals := 200 } [.ref h0, .int (nI b)] D cA ga φ sz (fun v φ' => v = some (.int (nI (mf b))) ∧ φ' = φ) 0 0 := by
  refine hM.of (by decide) (Nat.le_of_ble_eq_true rfl) rfl ?_
  intro p e s m args below meth c ls H locs S hr hlocks hnm hsz hHz hH hK hX hS hA hl
  refine lv_iload_n (pc := 0) S.1 S.2.1 dX1_gramsOf_0 rfl (lv_at hl 1 rfl) ?_
  refine hv_if_lt (pc := 1) (tgt := 13) (a := b) S.1 S.2.1 (by omega) dX1_gramsOf_1 (by decide) (fun c_1 => ?_) (fun c_1 => ?_)
  · skip
    exact c_1.elim
  · skip
    refine lv_iload_n (pc := 4) S.1 S.2.1 dX1_gramsOf_4 rfl (lv_at hl 1 rfl) ?_
    refine lv_aload_n (pc := 5) S.1 S.2.1 dX1_gramsOf_5 rfl (lv_at hl 0 rfl) ?_
    refine hv_get (pc := 6) (C := RX1) (T := TX1) (N := 7) (ref := RX1) S uwX1 hK hH f0 rfl 2 (by decide) tw_663 (fun _ h9 => h9) rfl dX1_gramsOf_6 ?_
    refine hv_alen (pc := 9) (v := nI 6) S hK hH 1 f2 rfl rfl dX1_gramsOf_9 ?_
    refine hv_icmp_lt (pc := 10) (tgt := 17) (a := b) (b := 6) S.1 S.2.1 (by omega) (by omega) dX1_gramsOf_10 (by decide) (fun c_2 => ?_) (fun c_2 => ?_)
    · skip
      refine lv_aload_n (pc := 17) S.1 S.2.1 dX1_gramsOf_17 rfl (lv_at hl 0 rfl) ?_
      refine hv_get (pc := 18) (C := RX1) (T := TX1) (N := 7) (ref := RX1) S uwX1 hK hH f0 rfl 2 (by decide) tw_663 (fun _ h9 => h9) rfl dX1_gramsOf_18 ?_
      refine lv_iload_n (pc := 21) S.1 S.2.1 dX1_gramsOf_21 rfl (lv_at hl 1 rfl) ?_
      refine hv_iald (pc := 22) S hK hH 1 f2 rfl (vp_in_nI (by omega) (by omega)) dX1_gramsOf_22 ?_
      refine hv_ti (y := nI (mf b)) (hv_ld (by omega)) ?_
      exact hv_ret (pc := 23) (v := nI (mf b)) S hr rfl hlocks hH hS (⟨rfl, rfl⟩) (Nat.le_of_ble_eq_true rfl) (Nat.le_of_ble_eq_true rfl) dX1_gramsOf_23
    · skip
      exact absurd c_2 (by omega)

set_option maxHeartbeats 4000000 in
set_option maxRecDepth 100000 in
/-- Cone.thicknessOf(band) -/
theorem c_X1_thicknessOf (l : Launch) (D : va_G) (cA : Nat → ClassId) (ga : Nat → Nat → Nat) (φ : hpM) (sz : Nat) (h0 wq gq k ht cy tr : Nat) (lb : Value) (wf mf : Nat → Nat) (b : Nat) (f0 : φ h0 = some (.inr (5, [.ref (ga 0 k), .ref wq, .ref gq, .int (nI ht), .int (nI cy), lb, .int (nI tr)]))) (f1 : φ wq = some (.inl (cA 1, 6, .inl (fun j => nI (wf j))))) (f2 : φ gq = some (.inl (cA 1, 6, .inl (fun j => nI (mf j))))) (hk : k < 4) (hw : ∀ j, wf j ≤ 1200) (hh : ht ≤ 60) (hg : ∀ j, mf j ≤ 500) (hb : b < 6) : hM l yX1_thicknessOf cX1_thicknessOf 3 (some .int) { frames := 9, cells := 0, slots := 0, locals := 260 } [.ref h0, .int (nI b)] D cA ga φ sz (fun v φ' => v = some (.int (nI (mf b * 100000 / (wf b * ht)))) ∧ φ' = φ) 0 0 := by
  refine hM.of (by decide) (Nat.le_of_ble_eq_true rfl) rfl ?_
  intro p e s m args below meth c ls H locs S hr hlocks hnm hsz hHz hH hK hX hS hA hl
  have hw1 := hw b
  have hg1 := hg b
  have hm : wf b * ht ≤ 1200 * 60 := Nat.mul_le_mul hw1 hh
  refine lv_aload_n (pc := 0) S.1 S.2.1 dX1_thicknessOf_0 rfl (lv_at hl 0 rfl) ?_
  refine lv_iload_n (pc := 1) S.1 S.2.1 dX1_thicknessOf_1 rfl (lv_at hl 1 rfl) ?_
  refine hv_call (pc := 2) (va_runV (As := [.int (nI b)]) (rest := []) S (c_X1_widthOf l D cA ga φ H.size h0 wq gq k ht cy tr lb wf mf b f0 f1 f2 hb) (cwV 1 S.2.2.2.2 (gV tw_235 tw_224 sw_2 tw_23 tw_226) rfl rfl rfl (by decide +kernel) ⟨Nat.le_of_ble_eq_true rfl, Nat.le_of_ble_eq_true rfl⟩) (pre0_V hH hK hX hS hA (hH.recv hK f0 rfl)) rfl rfl hl.1 rfl (lv_room (Nat.le_of_ble_eq_true rfl)) dX1_thicknessOf_2 ⟨Nat.le_of_ble_eq_true rfl, Nat.le_of_ble_eq_true rfl⟩) hS (af_le hH hS hA) (fun v_1 φ_2 H locs hw_v_1 hH hS => ?_)
  obtain ⟨rfl, hqv_1⟩ := hw_v_1
  rw [hqv_1] at hH
  refine lv_aload_n (pc := 5) S.1 S.2.1 dX1_thicknessOf_5 rfl (lv_at hl 0 rfl) ?_
  refine hv_get (pc := 6) (C := RX1) (T := TX1) (N := 7) (ref := RX1) S uwX1 hK hH f0 rfl 3 (by decide) tw_664 (fun _ h9 => h9) rfl dX1_thicknessOf_6 ?_
  refine lv_imul (pc := 9) S.1 S.2.1 dX1_thicknessOf_9 ?_
  refine hv_ti (y := nI ((wf b) * ht)) (pk_mul _ _) ?_
  refine lv_istore_n (pc := 10) (lv' := [(2, .int (nI ((wf b) * ht))), (0, .ref h0), (1, .int (nI b))]) S.1 S.2.1 dX1_thicknessOf_10 rfl hl (by decide) rfl (fun ls hl => ?_)
  refine lv_iload_n (pc := 11) S.1 S.2.1 dX1_thicknessOf_11 rfl (lv_at hl 0 rfl) ?_
  refine hv_if_gt (pc := 12) (tgt := 19) (a := (wf b) * ht) S.1 S.2.1 (by omega) dX1_thicknessOf_12 (by decide) (fun c_3 => ?_) (fun c_3 => ?_)
  · skip
    refine lv_aload_n (pc := 19) S.1 S.2.1 dX1_thicknessOf_19 rfl (lv_at hl 1 rfl) ?_
    refine lv_iload_n (pc := 20) S.1 S.2.1 dX1_thicknessOf_20 rfl (lv_at hl 2 rfl) ?_
    refine hv_call (pc := 21) (va_runV (As := [.int (nI b)]) (rest := []) S (c_X1_gramsOf l D cA ga φ H.size h0 wq gq k ht cy tr lb wf mf b f0 f1 f2 hb) (cwV 1 S.2.2.2.2 (gV tw_236 tw_229 sw_3 tw_23 tw_230) rfl rfl rfl (by decide +kernel) ⟨Nat.le_of_ble_eq_true rfl, Nat.le_of_ble_eq_true rfl⟩) (pre0_V hH hK hX hS hA (hH.recv hK f0 rfl)) rfl rfl hl.1 rfl (lv_room (Nat.le_of_ble_eq_true rfl)) dX1_thicknessOf_21 ⟨Nat.le_of_ble_eq_true rfl, Nat.le_of_ble_eq_true rfl⟩) hS (af_le hH hS hA) (fun v_4 φ_5 H locs hw_v_4 hH hS => ?_)
    obtain ⟨rfl, hqv_4⟩ := hw_v_4
    rw [hqv_4] at hH
    have hne : ¬ nI (wf b * ht) = 0 := nI_ne0 c_3 (by omega)
    refine lv_ldc (pc := 24) (v := nI 100000) S.1 S.2.1 S.2.2.2.1 (S.2.2.2.2 _ tw_237) dX1_thicknessOf_24 ?_
    refine lv_imul (pc := 26) S.1 S.2.1 dX1_thicknessOf_26 ?_
    refine hv_ti (y := nI ((mf b) * 100000)) (pk_mul _ _) ?_
    refine lv_iload_n (pc := 27) S.1 S.2.1 dX1_thicknessOf_27 rfl (lv_at hl 0 rfl) ?_
    refine lv_idiv (pc := 28) S.1 S.2.1 dX1_thicknessOf_28 (by assumption) ?_
    refine hv_ti (y := nI (mf b * 100000 / (wf b * ht))) (pk_div (by omega) c_3 (by omega)) ?_
    exact hv_ret (pc := 29) (v := nI (mf b * 100000 / (wf b * ht))) S hr rfl hlocks hH hS (⟨rfl, rfl⟩) (Nat.le_of_ble_eq_true rfl) (Nat.le_of_ble_eq_true rfl) dX1_thicknessOf_29
  · skip
    refine lv_iconst (pc := 15) (v := nI 0) S.1 S.2.1 dX1_thicknessOf_15 (by decide) ?_
    refine lv_goto (pc := 16) (tgt := 29) S.1 S.2.1 dX1_thicknessOf_16 (by decide) ?_
    exact hv_ret (pc := 29) (v := nI 0) S hr rfl hlocks hH hS (⟨by rw [c_3, Nat.div_zero], rfl⟩) (Nat.le_of_ble_eq_true rfl) (Nat.le_of_ble_eq_true rfl) dX1_thicknessOf_29

/-- is a band from j on, of n bands, thinner than 40? -/
def hoF (wf mf : Nat → Nat) (ht : Nat) : Nat → Nat → Nat
  | 0, _ => 0
  | n + 1, j => if mf j * 100000 / (wf j * ht) < 40 then 1 else hoF wf mf ht n (j + 1)
set_option maxHeartbeats 4000000 in
set_option maxRecDepth 100000 in
/-- Cone.hasHole() -/
theorem c_X1_hasHole (l : Launch) (D : va_G) (cA : Nat → ClassId) (ga : Nat → Nat → Nat) (φ : hpM) (sz : Nat) (h0 wq gq k ht cy tr : Nat) (lb : Value) (wf mf : Nat → Nat) (f0 : φ h0 = some (.inr (5, [.ref (ga 0 k), .ref wq, .ref gq, .int (nI ht), .int (nI cy), lb, .int (nI tr)]))) (f1 : φ wq = some (.inl (cA 1, 6, .inl (fun j => nI (wf j))))) (f2 : φ gq = some (.inl (cA 1, 6, .inl (fun j => nI (mf j))))) (hk : k < 4) (hw : ∀ j, wf j ≤ 1200) (hh : ht ≤ 60) (hg : ∀ j, mf j ≤ 500) : hM l yX1_hasHole cX1_hasHole 2 (some .boolean) { frames := 10, cells := 0, slots := 0, locals := 320 } [.ref h0] D cA ga φ sz (fun v φ' => v = some (.int (nI (hoF wf mf ht 6 0))) ∧ φ' = φ) 0 0 := by
  refine hM.of (by decide) (Nat.le_of_ble_eq_true rfl) rfl ?_
  intro p e s m args below meth c ls H locs S hr hlocks hnm hsz hHz hH hK hX hS hA hl
  refine lv_iconst (pc := 0) (v := nI 0) S.1 S.2.1 dX1_hasHole_0 (by decide) ?_
  refine lv_istore_n (pc := 1) (lv' := [(1, .int (nI 0)), (0, .ref h0)]) S.1 S.2.1 dX1_hasHole_1 rfl hl (by decide) rfl (fun ls hl => ?_)
  have hg : ∃ (n i : Nat), (i + n = 6 ∧ hoF wf mf ht 6 0 = hoF wf mf ht n i) ∧ lv_has ls 2 [(0, .ref h0), (1, .int (nI i))] := ⟨6, 0, ⟨rfl, rfl⟩, lv_sub hl [1, 0] rfl⟩
  clear hl
  try clear hHz
  obtain ⟨n, i, hi, hl⟩ := hg
  induction n generalizing ls H locs i with
  | zero =>
    obtain ⟨hi, hrc⟩ := hi
    refine lv_iload_n (pc := 2) S.1 S.2.1 dX1_hasHole_2 rfl (lv_at hl 1 rfl) ?_
    refine lv_bipush (pc := 3) (v := nI 6) S.1 S.2.1 dX1_hasHole_3 (by decide) ?_
    refine hv_icmp_ge (pc := 5) (tgt := 26) (a := i) (b := 6) S.1 S.2.1 (by omega) (by omega) dX1_hasHole_5 (by decide) (fun c_1 => ?_) (fun c_1 => ?_)
    · skip
      refine lv_iconst (pc := 26) (v := nI 0) S.1 S.2.1 dX1_hasHole_26 (by decide) ?_
      exact hv_ret (pc := 27) (v := nI 0) S hr rfl hlocks hH hS (⟨by rw [hrc]; rfl, rfl⟩) (Nat.le_of_ble_eq_true rfl) (Nat.le_of_ble_eq_true rfl) dX1_hasHole_27
    · skip
      exact absurd c_1 (by omega)
  | succ n ih =>
    obtain ⟨hi, hrc⟩ := hi
    have hdv : mf i * 100000 / (wf i * ht) ≤ mf i * 100000 := Nat.div_le_self _ _
    have hg1 := hg i
    refine lv_iload_n (pc := 2) S.1 S.2.1 dX1_hasHole_2 rfl (lv_at hl 1 rfl) ?_
    refine lv_bipush (pc := 3) (v := nI 6) S.1 S.2.1 dX1_hasHole_3 (by decide) ?_
    refine hv_icmp_ge (pc := 5) (tgt := 26) (a := i) (b := 6) S.1 S.2.1 (by omega) (by omega) dX1_hasHole_5 (by decide) (fun c_2 => ?_) (fun c_2 => ?_)
    · skip
      exact absurd c_2 (by omega)
    · skip
      refine lv_aload_n (pc := 8) S.1 S.2.1 dX1_hasHole_8 rfl (lv_at hl 0 rfl) ?_
      refine lv_iload_n (pc := 9) S.1 S.2.1 dX1_hasHole_9 rfl (lv_at hl 1 rfl) ?_
      refine hv_call (pc := 10) (va_runV (As := [.int (nI i)]) (rest := []) S (c_X1_thicknessOf l D cA ga φ H.size h0 wq gq k ht cy tr lb wf mf i f0 f1 f2 hk hw hh hg (by omega)) (cwV 1 S.2.2.2.2 (gV tw_761 tw_233 sw_4 tw_23 tw_234) rfl rfl rfl (by decide +kernel) ⟨Nat.le_of_ble_eq_true rfl, Nat.le_of_ble_eq_true rfl⟩) (pre0_V hH hK hX hS hA (hH.recv hK f0 rfl)) rfl rfl hl.1 rfl (lv_room (Nat.le_of_ble_eq_true rfl)) dX1_hasHole_10 ⟨Nat.le_of_ble_eq_true rfl, Nat.le_of_ble_eq_true rfl⟩) hS (af_le hH hS hA) (fun v_3 φ_4 H locs hw_v_3 hH hS => ?_)
      obtain ⟨rfl, hqv_3⟩ := hw_v_3
      rw [hqv_3] at hH
      refine lv_bipush (pc := 13) (v := nI 40) S.1 S.2.1 dX1_hasHole_13 (by decide) ?_
      refine hv_icmp_ge (pc := 15) (tgt := 20) (a := mf i * 100000 / (wf i * ht)) (b := 40) S.1 S.2.1 (by omega) (by omega) dX1_hasHole_15 (by decide) (fun c_5 => ?_) (fun c_5 => ?_)
      · skip
        refine lv_iinc (pc := 20) (v := nI (i + 1)) (lv' := [(1, .int (nI (i + 1))), (0, .ref h0)]) S.1 S.2.1 dX1_hasHole_20 hl (k := 1) rfl (by first | rfl | exact nI_add _ _) (by decide) rfl (fun ls hl => ?_)
        refine lv_goto (pc := 23) (tgt := 2) S.1 S.2.1 dX1_hasHole_23 (by decide) ?_
        have hi2 : (i + 1) + n = 6 ∧ hoF wf mf ht 6 0 = hoF wf mf ht n (i + 1) := ⟨by omega, by rw [hrc, hoF, if_neg (by omega)]⟩
        have hl2 : lv_has ls 2 [(0, .ref h0), (1, .int (nI (i + 1)))] := lv_sub hl [1, 0] rfl
        apply ih (i := i + 1) <;> assumption
      · skip
        refine lv_iconst (pc := 18) (v := nI 1) S.1 S.2.1 dX1_hasHole_18 (by decide) ?_
        exact hv_ret (pc := 19) (v := nI 1) S hr rfl hlocks hH hS (⟨by rw [hrc, hoF, if_pos (by omega)], rfl⟩) (Nat.le_of_ble_eq_true rfl) (Nat.le_of_ble_eq_true rfl) dX1_hasHole_19

/-- does a band bear it? -/
def toN (k mo w : Nat) : Nat := if w = 0 then 1 else if fStr k < 100 * mo / w then 1 else 0
set_option maxHeartbeats 4000000 in
set_option maxRecDepth 100000 in
/-- Cone.isTornBy(more, width) -/
theorem c_X1_isTornBy (l : Launch) (D : va_G) (cA : Nat → ClassId) (ga : Nat → Nat → Nat) (φ : hpM) (sz : Nat) (h0 wq gq k ht cy tr : Nat) (lb : Value) (wf mf : Nat → Nat) (mo w : Nat) (f0 : φ h0 = some (.inr (5, [.ref (ga 0 k), .ref wq, .ref gq, .int (nI ht), .int (nI cy), lb, .int (nI tr)]))) (hk : k < 4) (hm : mo ≤ 700) (hw : w ≤ 1200) : hM l yX1_isTornBy cX1_isTornBy 3 (some .boolean) { frames := 8, cells := 0, slots := 0, locals := 200 } [.ref h0, .int (nI mo), .int (nI w)] D cA ga φ sz (fun v φ' => v = some (.int (nI (toN k mo w))) ∧ φ' = φ) 0 0 := by
  refine hM.of (by decide) (Nat.le_of_ble_eq_true rfl) rfl ?_
  intro p e s m args below meth c ls H locs S hr hlocks hnm hsz hHz hH hK hX hS hA hl
  have hdv : 100 * mo / w ≤ 100 * mo := Nat.div_le_self _ _
  have hs1 := fStr_le k
  refine lv_iload_n (pc := 0) S.1 S.2.1 dX1_isTornBy_0 rfl (lv_at hl 2 rfl) ?_
  refine hv_if_le (pc := 1) (tgt := 20) (a := w) S.1 S.2.1 (by omega) dX1_isTornBy_1 (by decide) (fun c_1 => ?_) (fun c_1 => ?_)
  · skip
    refine lv_iconst (pc := 20) (v := nI 1) S.1 S.2.1 dX1_isTornBy_20 (by decide) ?_
    refine lv_goto (pc := 21) (tgt := 25) S.1 S.2.1 dX1_isTornBy_21 (by decide) ?_
    exact hv_ret (pc := 25) (v := nI 1) S hr rfl hlocks hH hS (⟨by rw [toN, if_pos c_1], rfl⟩) (Nat.le_of_ble_eq_true rfl) (Nat.le_of_ble_eq_true rfl) dX1_isTornBy_25
  · skip
    have hne : ¬ nI w = 0 := nI_ne0 c_1 (by omega)
    refine lv_bipush (pc := 4) (v := nI 100) S.1 S.2.1 dX1_isTornBy_4 (by decide) ?_
    refine lv_iload_n (pc := 6) S.1 S.2.1 dX1_isTornBy_6 rfl (lv_at hl 1 rfl) ?_
    refine lv_imul (pc := 7) S.1 S.2.1 dX1_isTornBy_7 ?_
    refine hv_ti (y := nI (100 * mo)) (pk_mul _ _) ?_
    refine lv_iload_n (pc := 8) S.1 S.2.1 dX1_isTornBy_8 rfl (lv_at hl 2 rfl) ?_
    refine lv_idiv (pc := 9) S.1 S.2.1 dX1_isTornBy_9 (by assumption) ?_
    refine hv_ti (y := nI (100 * mo / w)) (pk_div (by omega) c_1 (by omega)) ?_
    refine lv_aload_n (pc := 10) S.1 S.2.1 dX1_isTornBy_10 rfl (lv_at hl 0 rfl) ?_
    refine hv_get (pc := 11) (C := RX1) (T := TX1) (N := 7) (ref := RX1) S uwX1 hK hH f0 rfl 0 (by decide) tw_660 (fun _ h9 => h9) rfl dX1_isTornBy_11 ?_
    refine hv_getXN (pc := 14) (i := k) (ref := RX3) (index := 76) (host := "HatbandYard") S hX.fur_strain hk hS (hX.nest _ (by decide +kernel)) (fun _ h9 => h9) dX1_isTornBy_14 ?_
    refine hv_icmp_le (pc := 17) (tgt := 24) (a := 100 * mo / w) (b := fStr k) S.1 S.2.1 (by omega) (by omega) dX1_isTornBy_17 (by decide) (fun c_2 => ?_) (fun c_2 => ?_)
    · skip
      refine lv_iconst (pc := 24) (v := nI 0) S.1 S.2.1 dX1_isTornBy_24 (by decide) ?_
      exact hv_ret (pc := 25) (v := nI 0) S hr rfl hlocks hH hS (⟨by rw [toN, if_neg (by omega), if_neg (by omega)], rfl⟩) (Nat.le_of_ble_eq_true rfl) (Nat.le_of_ble_eq_true rfl) dX1_isTornBy_25
    · skip
      refine lv_iconst (pc := 20) (v := nI 1) S.1 S.2.1 dX1_isTornBy_20 (by decide) ?_
      refine lv_goto (pc := 21) (tgt := 25) S.1 S.2.1 dX1_isTornBy_21 (by decide) ?_
      exact hv_ret (pc := 25) (v := nI 1) S hr rfl hlocks hH hS (⟨by rw [toN, if_neg (by omega), if_pos (by omega)], rfl⟩) (Nat.le_of_ble_eq_true rfl) (Nat.le_of_ble_eq_true rfl) dX1_isTornBy_25

/-- the widths of which the first i have had a cycle -/
def shP (k : Nat) (wf : Nat → Nat) (i : Nat) : Nat → Nat := fun j => if j < i then shA k (wf j) else wf j
theorem shP_0 (k : Nat) (wf : Nat → Nat) : shP k wf 0 = wf := by funext j; simp [shP]
theorem shP_at (k : Nat) (wf : Nat → Nat) (i : Nat) : shP k wf i i = wf i := by simp [shP]
theorem shP_up (k : Nat) (wf : Nat → Nat) (i : Nat) : va_up (shP k wf i) i (shA k (wf i)) = shP k wf (i + 1) := by
  funext j
  by_cases h : j = i
  · subst h; simp [va_up, shP]
  · by_cases h2 : j < i
    · simp [va_up, shP, h, h2, show j < i + 1 by omega]
    · simp [va_up, shP, h, h2, show ¬ j < i + 1 by omega]
set_option maxHeartbeats 4000000 in
set_option maxRecDepth 100000 in
/-- Cone.shrink() -/
theorem c_X1_shrink (l : Launch) (D : va_G) (cA : Nat → ClassId) (ga : Nat → Nat → Nat) (φ : hpM) (sz : Nat) (h0 wq gq k ht cy tr : Nat) (lb : Value) (wf mf : Nat → Nat) (f0 : φ h0 = some (.inr (5, [.ref (ga 0 k), .ref wq, .ref gq, .int (nI ht), .int (nI cy), lb, .int (nI tr)]))) (f1 : φ wq = some (.inl (cA 1, 6, .inl (fun j => nI (wf j))))) (f2 : φ gq = some (.inl (cA 1, 6, .inl (fun j => nI (mf j))))) (hk : k < 4) (hw : ∀ j, wf j ≤ 1200) (hh : ht ≤ 60) (hg : ∀ j, mf j ≤ 500) : hM l yX1_shrink cX1_shrink 2 none { frames := 9, cells := 0, slots := 0, locals := 260 } [.ref h0] D cA ga φ sz (fun v φ' => v = none ∧ φ' = ups (ups φ wq (.inl (cA 1, 6, .inl (fun j => nI ((shP k wf 6) j))))) h0 (.inr (5, [.ref (ga 0 k), .ref wq, .ref gq, .int (nI (shL k ht)), .int (nI (cy + 1)), lb, .int (nI tr)]))) 0 0 := by
  refine hM.of (by decide) (Nat.le_of_ble_eq_true rfl) rfl ?_
  intro p e s m args below meth c ls H locs S hr hlocks hnm hsz hHz hH hK hX hS hA hl
  refine lv_iconst (pc := 0) (v := nI 0) S.1 S.2.1 dX1_shrink_0 (by decide) ?_
  refine lv_istore_n (pc := 1) (lv' := [(1, .int (nI 0)), (0, .ref h0)]) S.1 S.2.1 dX1_shrink_1 rfl hl (by decide) rfl (fun ls hl => ?_)
  have hg : ∃ (n i : Nat) (φk_1 : hpM), ((i + n = 6) ∧ φk_1 = ups φ wq (.inl (cA 1, 6, .inl (fun j => nI ((shP k wf i) j)))) ∧ hp D (Af φ sz) φk_1 H) ∧ lv_has ls 2 [(0, .ref h0), (1, .int (nI i))] := ⟨6, 0, φ, ⟨rfl, by rw [shP_0]; exact ups_id f1, hH⟩, lv_sub hl [1, 0] rfl⟩
  clear hl hH
  try clear hHz
  obtain ⟨n, i, φk_1, hi, hl⟩ := hg
  induction n generalizing ls H locs i φk_1 with
  | zero =>
    obtain ⟨hi, hφk_1, hH⟩ := hi
    have f_2 : φk_1 h0 = some (.inr (5, [.ref (ga 0 k), .ref wq, .ref gq, .int (nI ht), .int (nI cy), lb, .int (nI tr)])) := by rw [hφk_1]; exact ups_n (hp_ne f0 f1 (by intro h; first | (cases h; done) | (simp at h; done))) f0
    have f_3 : φk_1 wq = some (.inl (cA 1, 6, .inl (fun j => nI ((shP k wf i) j)))) := by rw [hφk_1]; exact ups_s _ _ _
    obtain rfl : i = 6 := by omega
    refine lv_iload_n (pc := 2) S.1 S.2.1 dX1_shrink_2 rfl (lv_at hl 1 rfl) ?_
    refine lv_aload_n (pc := 3) S.1 S.2.1 dX1_shrink_3 rfl (lv_at hl 0 rfl) ?_
    refine hv_get (pc := 4) (C := RX1) (T := TX1) (N := 7) (ref := RX1) S uwX1 hK hH f_2 rfl 1 (by decide) tw_662 (fun _ h9 => h9) rfl dX1_shrink_4 ?_
    refine hv_alen (pc := 7) (v := nI 6) S hK hH 1 f_3 rfl rfl dX1_shrink_7 ?_
    refine hv_icmp_ge (pc := 8) (tgt := 36) (a := 6) (b := 6) S.1 S.2.1 (by omega) (by omega) dX1_shrink_8 (by decide) (fun c_4 => ?_) (fun c_4 => ?_)
    · skip
      refine lv_aload_n (pc := 36) S.1 S.2.1 dX1_shrink_36 rfl (lv_at hl 0 rfl) ?_
      refine lv_aload_n (pc := 37) S.1 S.2.1 dX1_shrink_37 rfl (lv_at hl 0 rfl) ?_
      refine hv_get (pc := 38) (C := RX1) (T := TX1) (N := 7) (ref := RX1) S uwX1 hK hH f_2 rfl 0 (by decide) tw_660 (fun _ h9 => h9) rfl dX1_shrink_38 ?_
      refine lv_aload_n (pc := 41) S.1 S.2.1 dX1_shrink_41 rfl (lv_at hl 0 rfl) ?_
      refine hv_get (pc := 42) (C := RX1) (T := TX1) (N := 7) (ref := RX1) S uwX1 hK hH f_2 rfl 3 (by decide) tw_664 (fun _ h9 => h9) rfl dX1_shrink_42 ?_
      refine hv_call (pc := 45) (va_runVNn (As := [.int (nI ht)]) (rest := [.ref h0]) S (c_X3_shrunkAlong l D cA ga φk_1 H.size k ht hk (by omega)) ⟨va_cnBn (host := "HatbandYard") 1 S.2.2.2.2 (gw tw_727) rfl rfl rfl (hX.nest _ (by decide +kernel)) (by decide +kernel) ⟨Nat.le_of_ble_eq_true rfl, Nat.le_of_ble_eq_true rfl⟩, S.2.2.2.2 _ tw_726, S.2.2.2.2 _ sw_13⟩ (pre0_V hH hK hX hS hA (o_recv (hX.furO k hk) hS)) rfl rfl hl.1 rfl (lv_room (Nat.le_of_ble_eq_true rfl)) dX1_shrink_45 ⟨Nat.le_of_ble_eq_true rfl, Nat.le_of_ble_eq_true rfl⟩) hS (af_le hH hS hA) (fun v_5 φ_6 H locs hw_v_5 hH hS => ?_)
      obtain ⟨rfl, hqv_5⟩ := hw_v_5
      rw [hqv_5] at hH
      refine hv_put (pc := 48) (ty := .int) (C := RX1) (T := TX1) (N := 7) (ref := RX1) S uwX1 tyX1 tyX1_ok nmX1 hK hH hS f_2 rfl 3 (by decide) tw_664 (fun _ h9 => h9) rfl (by decide +kernel) rfl rfl (Nat.le_of_ble_eq_true rfl) dX1_shrink_48 (fun H locs hH hS => ?_)
      replace hH := nup (e := .inr (5, [.ref (ga 0 k), .ref wq, .ref gq, .int (nI (shL k ht)), .int (nI cy), lb, .int (nI tr)])) hH
      obtain ⟨φ_7, hφ_7, fa_φ_7, fr_φ_7, hH⟩ := hH
      have f_8 := fr_φ_7 _ _ (hp_ne f_3 f_2 (by intro h; first | (cases h; done) | (simp at h; done))) f_3
      refine lv_aload_n (pc := 51) S.1 S.2.1 dX1_shrink_51 rfl (lv_at hl 0 rfl) ?_
      refine lv_dup (pc := 52) S.1 S.2.1 dX1_shrink_52 rfl ?_
      refine hv_get (pc := 53) (C := RX1) (T := TX1) (N := 7) (ref := RX1) S uwX1 hK hH fa_φ_7 rfl 4 (by decide) tw_666 (fun _ h9 => h9) rfl dX1_shrink_53 ?_
      refine lv_iconst (pc := 56) (v := nI 1) S.1 S.2.1 dX1_shrink_56 (by decide) ?_
      refine lv_iadd (pc := 57) S.1 S.2.1 dX1_shrink_57 ?_
      refine hv_ti (y := nI (cy + 1)) (nI_add _ _) ?_
      refine hv_put (pc := 58) (ty := .int) (C := RX1) (T := TX1) (N := 7) (ref := RX1) S uwX1 tyX1 tyX1_ok nmX1 hK hH hS fa_φ_7 rfl 4 (by decide) tw_666 (fun _ h9 => h9) rfl (by decide +kernel) rfl rfl (Nat.le_of_ble_eq_true rfl) dX1_shrink_58 (fun H locs hH hS => ?_)
      replace hH := nup (e := .inr (5, [.ref (ga 0 k), .ref wq, .ref gq, .int (nI (shL k ht)), .int (nI (cy + 1)), lb, .int (nI tr)])) hH
      obtain ⟨φ_9, hφ_9, fa_φ_9, fr_φ_9, hH⟩ := hH
      have f_10 := fr_φ_9 _ _ (hp_ne f_8 fa_φ_7 (by intro h; first | (cases h; done) | (simp at h; done))) f_8
      exact hv_vret (pc := 61) S hr hlocks hH hS (⟨rfl, by rw [hφ_9, hφ_7, hφk_1, ups_ups]⟩) (Nat.le_of_ble_eq_true rfl) (Nat.le_of_ble_eq_true rfl) dX1_shrink_61
    · skip
      exact absurd c_4 (by omega)
  | succ n ih =>
    obtain ⟨hi, hφk_1, hH⟩ := hi
    have f_11 : φk_1 h0 = some (.inr (5, [.ref (ga 0 k), .ref wq, .ref gq, .int (nI ht), .int (nI cy), lb, .int (nI tr)])) := by rw [hφk_1]; exact ups_n (hp_ne f0 f1 (by intro h; first | (cases h; done) | (simp at h; done))) f0
    have f_12 : φk_1 wq = some (.inl (cA 1, 6, .inl (fun j => nI ((shP k wf i) j)))) := by rw [hφk_1]; exact ups_s _ _ _
    refine lv_iload_n (pc := 2) S.1 S.2.1 dX1_shrink_2 rfl (lv_at hl 1 rfl) ?_
    refine lv_aload_n (pc := 3) S.1 S.2.1 dX1_shrink_3 rfl (lv_at hl 0 rfl) ?_
    refine hv_get (pc := 4) (C := RX1) (T := TX1) (N := 7) (ref := RX1) S uwX1 hK hH f_11 rfl 1 (by decide) tw_662 (fun _ h9 => h9) rfl dX1_shrink_4 ?_
    refine hv_alen (pc := 7) (v := nI 6) S hK hH 1 f_12 rfl rfl dX1_shrink_7 ?_
    refine hv_icmp_ge (pc := 8) (tgt := 36) (a := i) (b := 6) S.1 S.2.1 (by omega) (by omega) dX1_shrink_8 (by decide) (fun c_13 => ?_) (fun c_13 => ?_)
    · skip
      exact absurd c_13 (by omega)
    · skip
      refine lv_aload_n (pc := 11) S.1 S.2.1 dX1_shrink_11 rfl (lv_at hl 0 rfl) ?_
      refine hv_get (pc := 12) (C := RX1) (T := TX1) (N := 7) (ref := RX1) S uwX1 hK hH f_11 rfl 1 (by decide) tw_662 (fun _ h9 => h9) rfl dX1_shrink_12 ?_
      refine lv_iload_n (pc := 15) S.1 S.2.1 dX1_shrink_15 rfl (lv_at hl 1 rfl) ?_
      refine lv_aload_n (pc := 16) S.1 S.2.1 dX1_shrink_16 rfl (lv_at hl 0 rfl) ?_
      refine hv_get (pc := 17) (C := RX1) (T := TX1) (N := 7) (ref := RX1) S uwX1 hK hH f_11 rfl 0 (by decide) tw_660 (fun _ h9 => h9) rfl dX1_shrink_17 ?_
      refine lv_aload_n (pc := 20) S.1 S.2.1 dX1_shrink_20 rfl (lv_at hl 0 rfl) ?_
      refine hv_get (pc := 21) (C := RX1) (T := TX1) (N := 7) (ref := RX1) S uwX1 hK hH f_11 rfl 1 (by decide) tw_662 (fun _ h9 => h9) rfl dX1_shrink_21 ?_
      refine lv_iload_n (pc := 24) S.1 S.2.1 dX1_shrink_24 rfl (lv_at hl 1 rfl) ?_
      refine hv_iald (pc := 25) S hK hH 1 f_12 rfl (vp_in_nI (by omega) (by omega)) dX1_shrink_25 ?_
      refine hv_ti (y := nI ((shP k wf i) i)) (hv_ld (by omega)) ?_
      refine hv_ti (y := nI (wf i)) (by rw [shP_at]) ?_
      have hw1 := hw i
      refine hv_call (pc := 26) (va_runVNn (As := [.int (nI (wf i))]) (rest := [.int (nI i), .ref wq]) S (c_X3_shrunkAcross l D cA ga φk_1 H.size k (wf i) hk hw1) ⟨va_cnBn (host := "HatbandYard") 1 S.2.2.2.2 (gw tw_723) rfl rfl rfl (hX.nest _ (by decide +kernel)) (by decide +kernel) ⟨Nat.le_of_ble_eq_true rfl, Nat.le_of_ble_eq_true rfl⟩, S.2.2.2.2 _ tw_721, S.2.2.2.2 _ sw_12⟩ (pre0_V hH hK hX hS hA (o_recv (hX.furO k hk) hS)) rfl rfl hl.1 rfl (lv_room (Nat.le_of_ble_eq_true rfl)) dX1_shrink_26 ⟨Nat.le_of_ble_eq_true rfl, Nat.le_of_ble_eq_true rfl⟩) hS (af_le hH hS hA) (fun v_14 φ_15 H locs hw_v_14 hH hS => ?_)
      obtain ⟨rfl, hqv_14⟩ := hw_v_14
      rw [hqv_14] at hH
      refine hv_iast (pc := 29) S hK hH hS 1 f_12 rfl (vp_in_nI (by omega) (by omega)) dX1_shrink_29 (fun H locs hH hS => ?_)
      rw [hv_upd (by omega), shP_up] at hH
      replace hH := nup (e := .inl (cA 1, 6, .inl (fun j => nI ((shP k wf (i + 1)) j)))) hH
      obtain ⟨φ_16, hφ_16, fa_φ_16, fr_φ_16, hH⟩ := hH
      have f_17 := fr_φ_16 _ _ (hp_ne f_11 f_12 (by intro h; first | (cases h; done) | (simp at h; done))) f_11
      refine lv_iinc (pc := 30) (v := nI (i + 1)) (lv' := [(1, .int (nI (i + 1))), (0, .ref h0)]) S.1 S.2.1 dX1_shrink_30 hl (k := 1) rfl (by first | rfl | exact nI_add _ _) (by decide) rfl (fun ls hl => ?_)
      refine lv_goto (pc := 33) (tgt := 2) S.1 S.2.1 dX1_shrink_33 (by decide) ?_
      have hi2 : ((i + 1) + n = 6) ∧ φ_16 = ups φ wq (.inl (cA 1, 6, .inl (fun j => nI ((shP k wf (i + 1)) j)))) ∧ hp D (Af φ sz) φ_16 H := ⟨by omega, by rw [hφ_16, hφk_1, ups_ups], hH⟩
      have hl2 : lv_has ls 2 [(0, .ref h0), (1, .int (nI (i + 1)))] := lv_sub hl [1, 0] rfl
      apply ih (i := i + 1) (φk_1 := φ_16) <;> assumption

/-- a width behind c cycles -/
def wS (k : Nat) : Nat → Nat → Nat
  | 0, w => w
  | c + 1, w => shA k (wS k c w)
theorem shA_le (k w : Nat) : shA k w ≤ w := by
  unfold shA
  have h : w * (100 - fAcr k) ≤ w * 100 := Nat.mul_le_mul_left _ (by omega)
  omega
theorem shL_le (k w : Nat) : shL k w ≤ w := by
  unfold shL
  have h : w * (100 - fAlo k) ≤ w * 100 := Nat.mul_le_mul_left _ (by omega)
  omega
theorem wS_le (k : Nat) : ∀ c w, wS k c w ≤ w
  | 0, w => Nat.le_refl _
  | c + 1, w => Nat.le_trans (shA_le k _) (wS_le k c w)
theorem bW_le {a d b : Nat} (ha : a ≤ 700) : bW a d b ≤ 700 := by
  unfold bW
  rw [Nat.max_def]
  split <;> omega
def pfx (f g : Nat → Nat) (i : Nat) : Nat → Nat := fun j => if j < i then f j else g j
theorem pfx_0 (f g : Nat → Nat) : pfx f g 0 = g := by funext j; simp [pfx]
theorem pfx_lt {f g : Nat → Nat} {i j : Nat} (h : j < i) : pfx f g i j = f j := by simp [pfx, h]
theorem pfx_up (f g : Nat → Nat) (i : Nat) : va_up (pfx f g i) i (f i) = pfx f g (i + 1) := by
  funext j
  by_cases h : j = i
  · subst h; simp [va_up, pfx]
  · by_cases h2 : j < i
    · simp [va_up, pfx, h, h2, show j < i + 1 by omega]
    · simp [va_up, pfx, h, h2, show ¬ j < i + 1 by omega]
theorem ups_none {φ : hpM} {a b : Nat} {e : va_E} (h : ups φ a e b = none) : φ b = none ∧ b ≠ a := by
  by_cases hb : b = a
  · rw [hb, ups_s] at h; cases h
  · exact ⟨(ups_n hb rfl).symm.trans h, hb⟩
set_option maxHeartbeats 4000000 in
set_option maxRecDepth 100000 in
/-- Cone.widthFollowed(band), never drawn -/
theorem c_X1_widthFollowed0 (l : Launch) (D : va_G) (cA : Nat → ClassId) (ga : Nat → Nat → Nat) (φ : hpM) (sz : Nat) (h0 wq gq k ht cy tr : Nat) (wf mf : Nat → Nat) (b : Nat) (f0 : φ h0 = some (.inr (5, [.ref (ga 0 k), .ref wq, .ref gq, .int (nI ht), .int (nI cy), .null, .int (nI tr)]))) (hk : k < 4) (hcy : cy ≤ 12) (hb : b < 6) : hM l yX1_widthFollowed cX1_widthFollowed 4 (some .int) { frames := 9, cells := 0, slots := 0, locals := 260 } [.ref h0, .int (nI b)] D cA ga φ sz (fun v φ' => v = some (.int (nI (wS k cy (1200 - 150 * b)))) ∧ φ' = φ) 0 0 := by
  refine hM.of (by decide) (Nat.le_of_ble_eq_true rfl) rfl ?_
  intro p e s m args below meth c ls H locs S hr hlocks hnm hsz hHz hH hK hX hS hA hl
  refine lv_aload_n (pc := 0) S.1 S.2.1 dX1_widthFollowed_0 rfl (lv_at hl 0 rfl) ?_
  refine hv_get (pc := 1) (C := RX1) (T := TX1) (N := 7) (ref := RX1) S uwX1 hK hH f0 rfl 5 (by decide) tw_668 (fun _ h9 => h9) rfl dX1_widthFollowed_1 ?_
  refine lv_ifnullN (pc := 4) (tgt := 16) S.1 S.2.1 dX1_widthFollowed_4 (by decide) ?_
  refine lv_iload_n (pc := 16) S.1 S.2.1 dX1_widthFollowed_16 rfl (lv_at hl 1 rfl) ?_
  refine hv_call (pc := 17) (va_runS (As := [.int (nI b)]) (rest := []) S (c_X1_widthFormed l D cA ga φ H.size b hb) (va_cwS 1 S.2.2.2.2 (gS tw_657 tw_658 tw_23 tw_659) rfl rfl rfl (by decide +kernel) ⟨Nat.le_of_ble_eq_true rfl, Nat.le_of_ble_eq_true rfl⟩) (pre0_S hH hK hX hS hA) rfl rfl hl.1 rfl (lv_room (Nat.le_of_ble_eq_true rfl)) dX1_widthFollowed_17 ⟨Nat.le_of_ble_eq_true rfl, Nat.le_of_ble_eq_true rfl⟩) hS (af_le hH hS hA) (fun v_1 φ_2 H locs hw_v_1 hH hS => ?_)
  obtain ⟨rfl, hqv_1⟩ := hw_v_1
  rw [hqv_1] at hH
  refine lv_istore_n (pc := 20) (lv' := [(2, .int (nI (1200 - 150 * b))), (0, .ref h0), (1, .int (nI b))]) S.1 S.2.1 dX1_widthFollowed_20 rfl hl (by decide) rfl (fun ls hl => ?_)
  refine lv_iconst (pc := 21) (v := nI 0) S.1 S.2.1 dX1_widthFollowed_21 (by decide) ?_
  refine lv_istore_n (pc := 22) (lv' := [(3, .int (nI 0)), (2, .int (nI (1200 - 150 * b))), (0, .ref h0), (1, .int (nI b))]) S.1 S.2.1 dX1_widthFollowed_22 rfl hl (by decide) rfl (fun ls hl => ?_)
  have hg : ∃ (n i : Nat), (i + n = cy) ∧ lv_has ls 4 [(0, .ref h0), (1, .int (nI b)), (2, .int (nI (wS k i (1200 - 150 * b)))), (3, .int (nI i))] := ⟨cy, 0, by omega, lv_sub hl [2, 3, 1, 0] rfl⟩
  clear hl
  try clear hHz
  obtain ⟨n, i, hi, hl⟩ := hg
  induction n generalizing ls H locs i with
  | zero =>
    obtain rfl : i = cy := by omega
    refine lv_iload_n (pc := 23) S.1 S.2.1 dX1_widthFollowed_23 rfl (lv_at hl 3 rfl) ?_
    refine lv_aload_n (pc := 24) S.1 S.2.1 dX1_widthFollowed_24 rfl (lv_at hl 0 rfl) ?_
    refine hv_get (pc := 25) (C := RX1) (T := TX1) (N := 7) (ref := RX1) S uwX1 hK hH f0 rfl 4 (by decide) tw_666 (fun _ h9 => h9) rfl dX1_widthFollowed_25 ?_
    refine hv_icmp_ge (pc := 28) (tgt := 52) (a := i) (b := i) S.1 S.2.1 (by omega) (by omega) dX1_widthFollowed_28 (by decide) (fun c_3 => ?_) (fun c_3 => ?_)
    · skip
      refine lv_iload_n (pc := 52) S.1 S.2.1 dX1_widthFollowed_52 rfl (lv_at hl 2 rfl) ?_
      exact hv_ret (pc := 53) (v := nI (wS k i (1200 - 150 * b))) S hr rfl hlocks hH hS (⟨rfl, rfl⟩) (Nat.le_of_ble_eq_true rfl) (Nat.le_of_ble_eq_true rfl) dX1_widthFollowed_53
    · skip
      exact absurd c_3 (by omega)
  | succ n ih =>
    refine lv_iload_n (pc := 23) S.1 S.2.1 dX1_widthFollowed_23 rfl (lv_at hl 3 rfl) ?_
    refine lv_aload_n (pc := 24) S.1 S.2.1 dX1_widthFollowed_24 rfl (lv_at hl 0 rfl) ?_
    refine hv_get (pc := 25) (C := RX1) (T := TX1) (N := 7) (ref := RX1) S uwX1 hK hH f0 rfl 4 (by decide) tw_666 (fun _ h9 => h9) rfl dX1_widthFollowed_25 ?_
    refine hv_icmp_ge (pc := 28) (tgt := 52) (a := i) (b := cy) S.1 S.2.1 (by omega) (by omega) dX1_widthFollowed_28 (by decide) (fun c_4 => ?_) (fun c_4 => ?_)
    · skip
      exact absurd c_4 (by omega)
    · skip
      refine lv_iload_n (pc := 31) S.1 S.2.1 dX1_widthFollowed_31 rfl (lv_at hl 3 rfl) ?_
      refine lv_bipush (pc := 32) (v := nI 12) S.1 S.2.1 dX1_widthFollowed_32 (by decide) ?_
      refine hv_icmp_ge (pc := 34) (tgt := 52) (a := i) (b := 12) S.1 S.2.1 (by omega) (by omega) dX1_widthFollowed_34 (by decide) (fun c_5 => ?_) (fun c_5 => ?_)
      · skip
        exact absurd c_5 (by omega)
      · skip
        refine lv_aload_n (pc := 37) S.1 S.2.1 dX1_widthFollowed_37 rfl (lv_at hl 0 rfl) ?_
        refine hv_get (pc := 38) (C := RX1) (T := TX1) (N := 7) (ref := RX1) S uwX1 hK hH f0 rfl 0 (by decide) tw_660 (fun _ h9 => h9) rfl dX1_widthFollowed_38 ?_
        refine lv_iload_n (pc := 41) S.1 S.2.1 dX1_widthFollowed_41 rfl (lv_at hl 2 rfl) ?_
        have hws := wS_le k i (1200 - 150 * b)
        refine hv_call (pc := 42) (va_runVNn (As := [.int (nI (wS k i (1200 - 150 * b)))]) (rest := []) S (c_X3_shrunkAcross l D cA ga φ H.size k (wS k i (1200 - 150 * b)) hk (by omega)) ⟨va_cnBn (host := "HatbandYard") 1 S.2.2.2.2 (gw tw_723) rfl rfl rfl (hX.nest _ (by decide +kernel)) (by decide +kernel) ⟨Nat.le_of_ble_eq_true rfl, Nat.le_of_ble_eq_true rfl⟩, S.2.2.2.2 _ tw_721, S.2.2.2.2 _ sw_12⟩ (pre0_V hH hK hX hS hA (o_recv (hX.furO k hk) hS)) rfl rfl hl.1 rfl (lv_room (Nat.le_of_ble_eq_true rfl)) dX1_widthFollowed_42 ⟨Nat.le_of_ble_eq_true rfl, Nat.le_of_ble_eq_true rfl⟩) hS (af_le hH hS hA) (fun v_6 φ_7 H locs hw_v_6 hH hS => ?_)
        obtain ⟨rfl, hqv_6⟩ := hw_v_6
        rw [hqv_6] at hH
        refine lv_istore_n (pc := 45) (lv' := [(2, .int (nI (wS k (i + 1) (1200 - 150 * b)))), (0, .ref h0), (1, .int (nI b)), (3, .int (nI i))]) S.1 S.2.1 dX1_widthFollowed_45 rfl hl (by decide) rfl (fun ls hl => ?_)
        refine lv_iinc (pc := 46) (v := nI (i + 1)) (lv' := [(3, .int (nI (i + 1))), (2, .int (nI (wS k (i + 1) (1200 - 150 * b)))), (0, .ref h0), (1, .int (nI b))]) S.1 S.2.1 dX1_widthFollowed_46 hl (k := 3) rfl (by first | rfl | exact nI_add _ _) (by decide) rfl (fun ls hl => ?_)
        refine lv_goto (pc := 49) (tgt := 23) S.1 S.2.1 dX1_widthFollowed_49 (by decide) ?_
        have hi2 : (i + 1) + n = cy := by omega
        have hl2 : lv_has ls 4 [(0, .ref h0), (1, .int (nI b)), (2, .int (nI (wS k (i + 1) (1200 - 150 * b)))), (3, .int (nI (i + 1)))] := lv_sub hl [2, 3, 1, 0] rfl
        apply ih (i := i + 1) <;> assumption

set_option maxHeartbeats 4000000 in
set_option maxRecDepth 100000 in
/-- Cone.widthFollowed(band), drawn -/
theorem c_X1_widthFollowed1 (l : Launch) (D : va_G) (cA : Nat → ClassId) (ga : Nat → Nat → Nat) (φ : hpM) (sz : Nat) (h0 wq gq k ht cy tr : Nat) (wf mf : Nat → Nat) (b bq a d : Nat) (f0 : φ h0 = some (.inr (5, [.ref (ga 0 k), .ref wq, .ref gq, .int (nI ht), .int (nI cy), .ref bq, .int (nI tr)]))) (f1 : φ bq = some (.inr (4, [.int (nI a), .int (nI d)]))) (ha : a ≤ 700) (hd : d ≤ 6) (hb : b < 6) : hM l yX1_widthFollowed cX1_widthFollowed 4 (some .int) { frames := 9, cells := 0, slots := 0, locals := 260 } [.ref h0, .int (nI b)] D cA ga φ sz (fun v φ' => v = some (.int (nI (bW a d b))) ∧ φ' = φ) 0 0 := by
  refine hM.of (by decide) (Nat.le_of_ble_eq_true rfl) rfl ?_
  intro p e s m args below meth c ls H locs S hr hlocks hnm hsz hHz hH hK hX hS hA hl
  refine lv_aload_n (pc := 0) S.1 S.2.1 dX1_widthFollowed_0 rfl (lv_at hl 0 rfl) ?_
  refine hv_get (pc := 1) (C := RX1) (T := TX1) (N := 7) (ref := RX1) S uwX1 hK hH f0 rfl 5 (by decide) tw_668 (fun _ h9 => h9) rfl dX1_widthFollowed_1 ?_
  refine lv_ifnull (pc := 4) S.1 S.2.1 dX1_widthFollowed_4 ?_
  refine lv_aload_n (pc := 7) S.1 S.2.1 dX1_widthFollowed_7 rfl (lv_at hl 0 rfl) ?_
  refine hv_get (pc := 8) (C := RX1) (T := TX1) (N := 7) (ref := RX1) S uwX1 hK hH f0 rfl 5 (by decide) tw_668 (fun _ h9 => h9) rfl dX1_widthFollowed_8 ?_
  refine lv_iload_n (pc := 11) S.1 S.2.1 dX1_widthFollowed_11 rfl (lv_at hl 1 rfl) ?_
  refine hv_call (pc := 12) (va_runVN (As := [.int (nI b)]) (rest := []) S (c_X0_widthFor l D cA ga φ H.size bq a d b f1 ha hd hb) ⟨va_cnB (host := "HatbandYard") 1 S.2.2.2.2 (gw tw_765) rfl rfl rfl (hX.nest _ (by decide +kernel)) (S.2.2.2.2 _ tw_25) (by decide +kernel) ⟨Nat.le_of_ble_eq_true rfl, Nat.le_of_ble_eq_true rfl⟩, S.2.2.2.2 _ tw_764, S.2.2.2.2 _ sw_17⟩ (pre0_V hH hK hX hS hA (hH.recv hK f1 rfl)) rfl rfl hl.1 rfl (lv_room (Nat.le_of_ble_eq_true rfl)) dX1_widthFollowed_12 ⟨Nat.le_of_ble_eq_true rfl, Nat.le_of_ble_eq_true rfl⟩) hS (af_le hH hS hA) (fun v_1 φ_2 H locs hw_v_1 hH hS => ?_)
  obtain ⟨rfl, hqv_1⟩ := hw_v_1
  rw [hqv_1] at hH
  exact hv_ret (pc := 15) (v := nI (bW a d b)) S hr rfl hlocks hH hS (⟨rfl, rfl⟩) (Nat.le_of_ble_eq_true rfl) (Nat.le_of_ble_eq_true rfl) dX1_widthFollowed_15

set_option maxHeartbeats 4000000 in
set_option maxRecDepth 100000 in
/-- Cone.stretchOver(block) -/
theorem c_X1_stretchOver (l : Launch) (D : va_G) (cA : Nat → ClassId) (ga : Nat → Nat → Nat) (φ : hpM) (sz : Nat) (h0 wq gq k ht cy tr : Nat) (lb : Value) (wf mf : Nat → Nat) (bq a d : Nat) (f0 : φ h0 = some (.inr (5, [.ref (ga 0 k), .ref wq, .ref gq, .int (nI ht), .int (nI cy), lb, .int (nI tr)]))) (f1 : φ wq = some (.inl (cA 1, 6, .inl (fun j => nI (wf j))))) (f2 : φ gq = some (.inl (cA 1, 6, .inl (fun j => nI (mf j))))) (f3 : φ bq = some (.inr (4, [.int (nI a), .int (nI d)]))) (ha : a ≤ 700) (hd : d ≤ 6) : hM l yX1_stretchOver cX1_stretchOver 3 none { frames := 9, cells := 0, slots := 0, locals := 260 } [.ref h0, .ref bq] D cA ga φ sz (fun v φ' => v = none ∧ φ' = ups (ups φ wq (.inl (cA 1, 6, .inl (fun j => nI ((pfx (bW a d) wf 6) j))))) h0 (.inr (5, [.ref (ga 0 k), .ref wq, .ref gq, .int (nI ht), .int (nI cy), .ref bq, .int (nI tr)]))) 0 0 := by
  refine hM.of (by decide) (Nat.le_of_ble_eq_true rfl) rfl ?_
  intro p e s m args below meth c ls H locs S hr hlocks hnm hsz hHz hH hK hX hS hA hl
  refine lv_iconst (pc := 0) (v := nI 0) S.1 S.2.1 dX1_stretchOver_0 (by decide) ?_
  refine lv_istore_n (pc := 1) (lv' := [(2, .int (nI 0)), (0, .ref h0), (1, .ref bq)]) S.1 S.2.1 dX1_stretchOver_1 rfl hl (by decide) rfl (fun ls hl => ?_)
  have hg : ∃ (n i : Nat) (φk_1 : hpM), ((i + n = 6) ∧ φk_1 = ups φ wq (.inl (cA 1, 6, .inl (fun j => nI ((pfx (bW a d) wf i) j)))) ∧ hp D (Af φ sz) φk_1 H) ∧ lv_has ls 3 [(0, .ref h0), (1, .ref bq), (2, .int (nI i))] := ⟨6, 0, φ, ⟨rfl, by rw [pfx_0]; exact ups_id f1, hH⟩, lv_sub hl [1, 2, 0] rfl⟩
  clear hl hH
  try clear hHz
  obtain ⟨n, i, φk_1, hi, hl⟩ := hg
  induction n generalizing ls H locs i φk_1 with
  | zero =>
    obtain ⟨hi, hφk_1, hH⟩ := hi
    have f_2 : φk_1 h0 = some (.inr (5, [.ref (ga 0 k), .ref wq, .ref gq, .int (nI ht), .int (nI cy), lb, .int (nI tr)])) := by rw [hφk_1]; exact ups_n (hp_ne f0 f1 (by intro h; first | (cases h; done) | (simp at h; done))) f0
    have f_3 : φk_1 wq = some (.inl (cA 1, 6, .inl (fun j => nI ((pfx (bW a d) wf i) j)))) := by rw [hφk_1]; exact ups_s _ _ _
    have f_4 : φk_1 bq = some (.inr (4, [.int (nI a), .int (nI d)])) := by rw [hφk_1]; exact ups_n (hp_ne f3 f1 (by intro h; first | (cases h; done) | (simp at h; done))) f3
    obtain rfl : i = 6 := by omega
    refine lv_iload_n (pc := 2) S.1 S.2.1 dX1_stretchOver_2 rfl (lv_at hl 2 rfl) ?_
    refine lv_aload_n (pc := 3) S.1 S.2.1 dX1_stretchOver_3 rfl (lv_at hl 0 rfl) ?_
    refine hv_get (pc := 4) (C := RX1) (T := TX1) (N := 7) (ref := RX1) S uwX1 hK hH f_2 rfl 1 (by decide) tw_662 (fun _ h9 => h9) rfl dX1_stretchOver_4 ?_
    refine hv_alen (pc := 7) (v := nI 6) S hK hH 1 f_3 rfl rfl dX1_stretchOver_7 ?_
    refine hv_icmp_ge (pc := 8) (tgt := 28) (a := 6) (b := 6) S.1 S.2.1 (by omega) (by omega) dX1_stretchOver_8 (by decide) (fun c_5 => ?_) (fun c_5 => ?_)
    · skip
      refine lv_aload_n (pc := 28) S.1 S.2.1 dX1_stretchOver_28 rfl (lv_at hl 0 rfl) ?_
      refine lv_aload_n (pc := 29) S.1 S.2.1 dX1_stretchOver_29 rfl (lv_at hl 1 rfl) ?_
      refine hv_put (pc := 30) (ty := .object "HatbandYard$Block") (C := RX1) (T := TX1) (N := 7) (ref := RX1) S uwX1 tyX1 tyX1_ok nmX1 hK hH hS f_2 rfl 5 (by decide) tw_668 (fun _ h9 => h9) rfl (by decide +kernel) rfl rfl (Nat.le_of_ble_eq_true rfl) dX1_stretchOver_30 (fun H locs hH hS => ?_)
      replace hH := nup (e := .inr (5, [.ref (ga 0 k), .ref wq, .ref gq, .int (nI ht), .int (nI cy), .ref bq, .int (nI tr)])) hH
      obtain ⟨φ_6, hφ_6, fa_φ_6, fr_φ_6, hH⟩ := hH
      have f_7 := fr_φ_6 _ _ (hp_ne f_3 f_2 (by intro h; first | (cases h; done) | (simp at h; done))) f_3
      have f_8 := fr_φ_6 _ _ (hp_ne f_4 f_2 (by intro h; first | (cases h; done) | (simp at h; done))) f_4
      exact hv_vret (pc := 33) S hr hlocks hH hS (⟨rfl, by rw [hφ_6, hφk_1]⟩) (Nat.le_of_ble_eq_true rfl) (Nat.le_of_ble_eq_true rfl) dX1_stretchOver_33
    · skip
      exact absurd c_5 (by omega)
  | succ n ih =>
    obtain ⟨hi, hφk_1, hH⟩ := hi
    have f_9 : φk_1 h0 = some (.inr (5, [.ref (ga 0 k), .ref wq, .ref gq, .int (nI ht), .int (nI cy), lb, .int (nI tr)])) := by rw [hφk_1]; exact ups_n (hp_ne f0 f1 (by intro h; first | (cases h; done) | (simp at h; done))) f0
    have f_10 : φk_1 wq = some (.inl (cA 1, 6, .inl (fun j => nI ((pfx (bW a d) wf i) j)))) := by rw [hφk_1]; exact ups_s _ _ _
    have f_11 : φk_1 bq = some (.inr (4, [.int (nI a), .int (nI d)])) := by rw [hφk_1]; exact ups_n (hp_ne f3 f1 (by intro h; first | (cases h; done) | (simp at h; done))) f3
    refine lv_iload_n (pc := 2) S.1 S.2.1 dX1_stretchOver_2 rfl (lv_at hl 2 rfl) ?_
    refine lv_aload_n (pc := 3) S.1 S.2.1 dX1_stretchOver_3 rfl (lv_at hl 0 rfl) ?_
    refine hv_get (pc := 4) (C := RX1) (T := TX1) (N := 7) (ref := RX1) S uwX1 hK hH f_9 rfl 1 (by decide) tw_662 (fun _ h9 => h9) rfl dX1_stretchOver_4 ?_
    refine hv_alen (pc := 7) (v := nI 6) S hK hH 1 f_10 rfl rfl dX1_stretchOver_7 ?_
    refine hv_icmp_ge (pc := 8) (tgt := 28) (a := i) (b := 6) S.1 S.2.1 (by omega) (by omega) dX1_stretchOver_8 (by decide) (fun c_12 => ?_) (fun c_12 => ?_)
    · skip
      exact absurd c_12 (by omega)
    · skip
      refine lv_aload_n (pc := 11) S.1 S.2.1 dX1_stretchOver_11 rfl (lv_at hl 0 rfl) ?_
      refine hv_get (pc := 12) (C := RX1) (T := TX1) (N := 7) (ref := RX1) S uwX1 hK hH f_9 rfl 1 (by decide) tw_662 (fun _ h9 => h9) rfl dX1_stretchOver_12 ?_
      refine lv_iload_n (pc := 15) S.1 S.2.1 dX1_stretchOver_15 rfl (lv_at hl 2 rfl) ?_
      refine lv_aload_n (pc := 16) S.1 S.2.1 dX1_stretchOver_16 rfl (lv_at hl 1 rfl) ?_
      refine lv_iload_n (pc := 17) S.1 S.2.1 dX1_stretchOver_17 rfl (lv_at hl 2 rfl) ?_
      refine hv_call (pc := 18) (va_runVN (As := [.int (nI i)]) (rest := [.int (nI i), .ref wq]) S (c_X0_widthFor l D cA ga φk_1 H.size bq a d i f_11 ha hd (by omega)) ⟨va_cnB (host := "HatbandYard") 1 S.2.2.2.2 (gw tw_765) rfl rfl rfl (hX.nest _ (by decide +kernel)) (S.2.2.2.2 _ tw_25) (by decide +kernel) ⟨Nat.le_of_ble_eq_true rfl, Nat.le_of_ble_eq_true rfl⟩, S.2.2.2.2 _ tw_764, S.2.2.2.2 _ sw_17⟩ (pre0_V hH hK hX hS hA (hH.recv hK f_11 rfl)) rfl rfl hl.1 rfl (lv_room (Nat.le_of_ble_eq_true rfl)) dX1_stretchOver_18 ⟨Nat.le_of_ble_eq_true rfl, Nat.le_of_ble_eq_true rfl⟩) hS (af_le hH hS hA) (fun v_13 φ_14 H locs hw_v_13 hH hS => ?_)
      obtain ⟨rfl, hqv_13⟩ := hw_v_13
      rw [hqv_13] at hH
      refine hv_iast (pc := 21) S hK hH hS 1 f_10 rfl (vp_in_nI (by omega) (by omega)) dX1_stretchOver_21 (fun H locs hH hS => ?_)
      rw [hv_upd (by omega), pfx_up] at hH
      replace hH := nup (e := .inl (cA 1, 6, .inl (fun j => nI ((pfx (bW a d) wf (i + 1)) j)))) hH
      obtain ⟨φ_15, hφ_15, fa_φ_15, fr_φ_15, hH⟩ := hH
      have f_16 := fr_φ_15 _ _ (hp_ne f_9 f_10 (by intro h; first | (cases h; done) | (simp at h; done))) f_9
      have f_17 := fr_φ_15 _ _ (hp_ne f_11 f_10 (by intro h; first | (cases h; done) | (simp at h; done))) f_11
      refine lv_iinc (pc := 22) (v := nI (i + 1)) (lv' := [(2, .int (nI (i + 1))), (0, .ref h0), (1, .ref bq)]) S.1 S.2.1 dX1_stretchOver_22 hl (k := 2) rfl (by first | rfl | exact nI_add _ _) (by decide) rfl (fun ls hl => ?_)
      refine lv_goto (pc := 25) (tgt := 2) S.1 S.2.1 dX1_stretchOver_25 (by decide) ?_
      have hi2 : ((i + 1) + n = 6) ∧ φ_15 = ups φ wq (.inl (cA 1, 6, .inl (fun j => nI ((pfx (bW a d) wf (i + 1)) j)))) ∧ hp D (Af φ sz) φ_15 H := ⟨by omega, by rw [hφ_15, hφk_1, ups_ups], hH⟩
      have hl2 : lv_has ls 3 [(0, .ref h0), (1, .ref bq), (2, .int (nI (i + 1)))] := lv_sub hl [1, 2, 0] rfl
      apply ih (i := i + 1) (φk_1 := φ_15) <;> assumption

/-- the refusal: band by band from j on, n of them, t: was a band too wide -/
def rfF (k : Nat) (wf bw : Nat → Nat) : Nat → Nat → Nat → Nat
  | 0, _, t => if t = 0 then 0 else 3
  | n + 1, j, t => if wf j < bw j ∧ toN k (bw j - wf j) (wf j) = 1 then 2 else rfF k wf bw n (j + 1) (if t = 0 ∧ ¬ (bw j < wf j ∧ bw j < shA k (wf j)) then 0 else 1)
theorem toN_le (k a b : Nat) : toN k a b ≤ 1 := by
  unfold toN
  split
  · exact Nat.le_refl _
  · split <;> omega
theorem hoF_le (wf mf : Nat → Nat) (ht : Nat) : ∀ n j, hoF wf mf ht n j ≤ 1
  | 0, _ => Nat.zero_le _
  | n + 1, j => by
    unfold hoF
    split
    · exact Nat.le_refl _
    · exact hoF_le wf mf ht n (j + 1)
set_option maxHeartbeats 4000000 in
set_option maxRecDepth 100000 in
/-- Cone.refusalOf(block) -/
theorem c_X1_refusalOf (l : Launch) (D : va_G) (cA : Nat → ClassId) (ga : Nat → Nat → Nat) (φ : hpM) (sz : Nat) (h0 wq gq k ht cy tr : Nat) (lb : Value) (wf mf : Nat → Nat) (bq a d : Nat) (f0 : φ h0 = some (.inr (5, [.ref (ga 0 k), .ref wq, .ref gq, .int (nI ht), .int (nI cy), lb, .int (nI tr)]))) (f1 : φ wq = some (.inl (cA 1, 6, .inl (fun j => nI (wf j))))) (f2 : φ gq = some (.inl (cA 1, 6, .inl (fun j => nI (mf j))))) (f3 : φ bq = some (.inr (4, [.int (nI a), .int (nI d)]))) (hk : k < 4) (hw : ∀ j, wf j ≤ 1200) (hh : ht ≤ 60) (hg : ∀ j, mf j ≤ 500) (ha : a ≤ 700) (hd : d ≤ 6) : hM l yX1_refusalOf cX1_refusalOf 6 (some .int) { frames := 11, cells := 0, slots := 0, locals := 380 } [.ref h0, .ref bq] D cA ga φ sz (fun v φ' => v = some (.int (nI (if hoF wf mf ht 6 0 = 0 then rfF k wf (bW a d) 6 0 0 else 1))) ∧ φ' = φ) 0 0 := by
  refine hM.of (by decide) (Nat.le_of_ble_eq_true rfl) rfl ?_
  intro p e s m args below meth c ls H locs S hr hlocks hnm hsz hHz hH hK hX hS hA hl
  have hho := hoF_le wf mf ht 6 0
  refine lv_aload_n (pc := 0) S.1 S.2.1 dX1_refusalOf_0 rfl (lv_at hl 0 rfl) ?_
  refine hv_call (pc := 1) (va_runV (As := []) (rest := []) S (c_X1_hasHole l D cA ga φ H.size h0 wq gq k ht cy tr lb wf mf f0 f1 f2 hk hw hh hg) (cwV 0 S.2.2.2.2 (gV tw_757 tw_759 sw_16 tw_23 tw_760) rfl rfl rfl (by decide +kernel) ⟨Nat.le_of_ble_eq_true rfl, Nat.le_of_ble_eq_true rfl⟩) (pre0_V hH hK hX hS hA (hH.recv hK f0 rfl)) rfl rfl hl.1 rfl (lv_room (Nat.le_of_ble_eq_true rfl)) dX1_refusalOf_1 ⟨Nat.le_of_ble_eq_true rfl, Nat.le_of_ble_eq_true rfl⟩) hS (af_le hH hS hA) (fun v_1 φ_2 H locs hw_v_1 hH hS => ?_)
  obtain ⟨rfl, hqv_1⟩ := hw_v_1
  rw [hqv_1] at hH
  refine hv_if_eq (pc := 4) (tgt := 9) (a := hoF wf mf ht 6 0) S.1 S.2.1 (by omega) dX1_refusalOf_4 (by decide) (fun c_3 => ?_) (fun c_3 => ?_)
  · skip
    refine lv_iconst (pc := 9) (v := nI 0) S.1 S.2.1 dX1_refusalOf_9 (by decide) ?_
    refine lv_istore_n (pc := 10) (lv' := [(2, .int (nI 0)), (0, .ref h0), (1, .ref bq)]) S.1 S.2.1 dX1_refusalOf_10 rfl hl (by decide) rfl (fun ls hl => ?_)
    refine lv_iconst (pc := 11) (v := nI 0) S.1 S.2.1 dX1_refusalOf_11 (by decide) ?_
    refine lv_istore_n (pc := 12) (lv' := [(3, .int (nI 0)), (2, .int (nI 0)), (0, .ref h0), (1, .ref bq)]) S.1 S.2.1 dX1_refusalOf_12 rfl hl (by decide) rfl (fun ls hl => ?_)
    have hg : ∃ (n i t : Nat), (i + n = 6 ∧ t ≤ 1 ∧ rfF k wf (bW a d) 6 0 0 = rfF k wf (bW a d) n i t) ∧ lv_has ls 6 [(0, .ref h0), (1, .ref bq), (2, .int (nI t)), (3, .int (nI i))] := ⟨6, 0, 0, ⟨rfl, by decide, rfl⟩, lv_sub hl [2, 3, 1, 0] rfl⟩
    clear hl
    try clear hHz
    obtain ⟨n, i, t, hi, hl⟩ := hg
    induction n generalizing ls H locs i t with
    | zero =>
      obtain ⟨hi, ht1, hrc⟩ := hi
      refine lv_iload_n (pc := 13) S.1 S.2.1 dX1_refusalOf_13 rfl (lv_at hl 3 rfl) ?_
      refine lv_bipush (pc := 14) (v := nI 6) S.1 S.2.1 dX1_refusalOf_14 (by decide) ?_
      refine hv_icmp_ge (pc := 16) (tgt := 93) (a := i) (b := 6) S.1 S.2.1 (by omega) (by omega) dX1_refusalOf_16 (by decide) (fun c_4 => ?_) (fun c_4 => ?_)
      · skip
        refine lv_iload_n (pc := 93) S.1 S.2.1 dX1_refusalOf_93 rfl (lv_at hl 2 rfl) ?_
        refine hv_if_eq (pc := 94) (tgt := 101) (a := t) S.1 S.2.1 (by omega) dX1_refusalOf_94 (by decide) (fun c_5 => ?_) (fun c_5 => ?_)
        · skip
          refine lv_iconst (pc := 101) (v := nI 0) S.1 S.2.1 dX1_refusalOf_101 (by decide) ?_
          exact hv_ret (pc := 102) (v := nI 0) S hr rfl hlocks hH hS (⟨by rw [if_pos c_3, hrc, rfF, if_pos (by omega)], rfl⟩) (Nat.le_of_ble_eq_true rfl) (Nat.le_of_ble_eq_true rfl) dX1_refusalOf_102
        · skip
          refine lv_iconst (pc := 97) (v := nI 3) S.1 S.2.1 dX1_refusalOf_97 (by decide) ?_
          refine lv_goto (pc := 98) (tgt := 102) S.1 S.2.1 dX1_refusalOf_98 (by decide) ?_
          exact hv_ret (pc := 102) (v := nI 3) S hr rfl hlocks hH hS (⟨by rw [if_pos c_3, hrc, rfF, if_neg (by omega)], rfl⟩) (Nat.le_of_ble_eq_true rfl) (Nat.le_of_ble_eq_true rfl) dX1_refusalOf_102
      · skip
        exact absurd c_4 (by omega)
    | succ n ih =>
      obtain ⟨hi, ht1, hrc⟩ := hi
      have hw1 := hw i
      have hb1 := bW_le (d := d) (b := i) ha
      have ha1 := shA_le k (wf i)
      refine lv_iload_n (pc := 13) S.1 S.2.1 dX1_refusalOf_13 rfl (lv_at hl 3 rfl) ?_
      refine lv_bipush (pc := 14) (v := nI 6) S.1 S.2.1 dX1_refusalOf_14 (by decide) ?_
      refine hv_icmp_ge (pc := 16) (tgt := 93) (a := i) (b := 6) S.1 S.2.1 (by omega) (by omega) dX1_refusalOf_16 (by decide) (fun c_6 => ?_) (fun c_6 => ?_)
      · skip
        exact absurd c_6 (by omega)
      · skip
        refine lv_aload_n (pc := 19) S.1 S.2.1 dX1_refusalOf_19 rfl (lv_at hl 0 rfl) ?_
        refine lv_iload_n (pc := 20) S.1 S.2.1 dX1_refusalOf_20 rfl (lv_at hl 3 rfl) ?_
        refine hv_call (pc := 21) (va_runV (As := [.int (nI i)]) (rest := []) S (c_X1_widthOf l D cA ga φ H.size h0 wq gq k ht cy tr lb wf mf i f0 f1 f2 (by omega)) (cwV 1 S.2.2.2.2 (gV tw_235 tw_224 sw_2 tw_23 tw_226) rfl rfl rfl (by decide +kernel) ⟨Nat.le_of_ble_eq_true rfl, Nat.le_of_ble_eq_true rfl⟩) (pre0_V hH hK hX hS hA (hH.recv hK f0 rfl)) rfl rfl hl.1 rfl (lv_room (Nat.le_of_ble_eq_true rfl)) dX1_refusalOf_21 ⟨Nat.le_of_ble_eq_true rfl, Nat.le_of_ble_eq_true rfl⟩) hS (af_le hH hS hA) (fun v_7 φ_8 H locs hw_v_7 hH hS => ?_)
        obtain ⟨rfl, hqv_7⟩ := hw_v_7
        rw [hqv_7] at hH
        refine lv_istore (pc := 24) (lv' := [(4, .int (nI (wf i))), (0, .ref h0), (1, .ref bq), (2, .int (nI t)), (3, .int (nI i))]) S.1 S.2.1 dX1_refusalOf_24 hl (by decide) rfl (fun ls hl => ?_)
        refine lv_aload_n (pc := 26) S.1 S.2.1 dX1_refusalOf_26 rfl (lv_at hl 2 rfl) ?_
        refine lv_iload_n (pc := 27) S.1 S.2.1 dX1_refusalOf_27 rfl (lv_at hl 4 rfl) ?_
        refine hv_call (pc := 28) (va_runVN (As := [.int (nI i)]) (rest := []) S (c_X0_widthFor l D cA ga φ H.size bq a d i f3 ha hd (by omega)) ⟨va_cnB (host := "HatbandYard") 1 S.2.2.2.2 (gw tw_765) rfl rfl rfl (hX.nest _ (by decide +kernel)) (S.2.2.2.2 _ tw_25) (by decide +kernel) ⟨Nat.le_of_ble_eq_true rfl, Nat.le_of_ble_eq_true rfl⟩, S.2.2.2.2 _ tw_764, S.2.2.2.2 _ sw_17⟩ (pre0_V hH hK hX hS hA (hH.recv hK f3 rfl)) rfl rfl hl.1 rfl (lv_room (Nat.le_of_ble_eq_true rfl)) dX1_refusalOf_28 ⟨Nat.le_of_ble_eq_true rfl, Nat.le_of_ble_eq_true rfl⟩) hS (af_le hH hS hA) (fun v_9 φ_10 H locs hw_v_9 hH hS => ?_)
        obtain ⟨rfl, hqv_9⟩ := hw_v_9
        rw [hqv_9] at hH
        refine lv_istore (pc := 31) (lv' := [(5, .int (nI (bW a d i))), (4, .int (nI (wf i))), (0, .ref h0), (1, .ref bq), (2, .int (nI t)), (3, .int (nI i))]) S.1 S.2.1 dX1_refusalOf_31 hl (by decide) rfl (fun ls hl => ?_)
        refine lv_iload (pc := 33) S.1 S.2.1 dX1_refusalOf_33 (lv_at hl 0 rfl) ?_
        refine lv_iload (pc := 35) S.1 S.2.1 dX1_refusalOf_35 (lv_at hl 1 rfl) ?_
        refine hv_icmp_le (pc := 37) (tgt := 56) (a := bW a d i) (b := wf i) S.1 S.2.1 (by omega) (by omega) dX1_refusalOf_37 (by decide) (fun c_11 => ?_) (fun c_11 => ?_)
        · skip
          have hnt : ¬ (wf i < bW a d i ∧ toN k (bW a d i - wf i) (wf i) = 1) := fun h => absurd h.1 (by omega)
          refine lv_iload_n (pc := 56) S.1 S.2.1 dX1_refusalOf_56 rfl (lv_at hl 4 rfl) ?_
          refine hv_if_ne (pc := 57) (tgt := 81) (a := t) S.1 S.2.1 (by omega) dX1_refusalOf_57 (by decide) (fun c_12 => ?_) (fun c_12 => ?_)
          · skip
            refine lv_iconst (pc := 81) (v := nI 1) S.1 S.2.1 dX1_refusalOf_81 (by decide) ?_
            refine lv_goto (pc := 82) (tgt := 86) S.1 S.2.1 dX1_refusalOf_82 (by decide) ?_
            refine lv_istore_n (pc := 86) (lv' := [(2, .int (nI 1)), (5, .int (nI (bW a d i))), (4, .int (nI (wf i))), (0, .ref h0), (1, .ref bq), (3, .int (nI i))]) S.1 S.2.1 dX1_refusalOf_86 rfl hl (by decide) rfl (fun ls hl => ?_)
            refine lv_iinc (pc := 87) (v := nI (i + 1)) (lv' := [(3, .int (nI (i + 1))), (2, .int (nI 1)), (5, .int (nI (bW a d i))), (4, .int (nI (wf i))), (0, .ref h0), (1, .ref bq)]) S.1 S.2.1 dX1_refusalOf_87 hl (k := 5) rfl (by first | rfl | exact nI_add _ _) (by decide) rfl (fun ls hl => ?_)
            refine lv_goto (pc := 90) (tgt := 13) S.1 S.2.1 dX1_refusalOf_90 (by decide) ?_
            have hi2 : (i + 1) + n = 6 ∧ (1) ≤ 1 ∧ rfF k wf (bW a d) 6 0 0 = rfF k wf (bW a d) n (i + 1) (1) := ⟨by omega, by omega, by rw [hrc, rfF, if_neg hnt, if_neg (by omega)]⟩
            have hl2 : lv_has ls 6 [(0, .ref h0), (1, .ref bq), (2, .int (nI (1))), (3, .int (nI (i + 1)))] := lv_sub hl [4, 5, 1, 0] rfl
            apply ih (i := i + 1) (t := 1) <;> assumption
          · skip
            refine lv_iload (pc := 60) S.1 S.2.1 dX1_refusalOf_60 (lv_at hl 0 rfl) ?_
            refine lv_iload (pc := 62) S.1 S.2.1 dX1_refusalOf_62 (lv_at hl 1 rfl) ?_
            refine hv_icmp_ge (pc := 64) (tgt := 85) (a := bW a d i) (b := wf i) S.1 S.2.1 (by omega) (by omega) dX1_refusalOf_64 (by decide) (fun c_13 => ?_) (fun c_13 => ?_)
            · skip
              refine lv_iconst (pc := 85) (v := nI 0) S.1 S.2.1 dX1_refusalOf_85 (by decide) ?_
              refine lv_istore_n (pc := 86) (lv' := [(2, .int (nI 0)), (5, .int (nI (bW a d i))), (4, .int (nI (wf i))), (0, .ref h0), (1, .ref bq), (3, .int (nI i))]) S.1 S.2.1 dX1_refusalOf_86 rfl hl (by decide) rfl (fun ls hl => ?_)
              refine lv_iinc (pc := 87) (v := nI (i + 1)) (lv' := [(3, .int (nI (i + 1))), (2, .int (nI 0)), (5, .int (nI (bW a d i))), (4, .int (nI (wf i))), (0, .ref h0), (1, .ref bq)]) S.1 S.2.1 dX1_refusalOf_87 hl (k := 5) rfl (by first | rfl | exact nI_add _ _) (by decide) rfl (fun ls hl => ?_)
              refine lv_goto (pc := 90) (tgt := 13) S.1 S.2.1 dX1_refusalOf_90 (by decide) ?_
              have hi2 : (i + 1) + n = 6 ∧ (0) ≤ 1 ∧ rfF k wf (bW a d) 6 0 0 = rfF k wf (bW a d) n (i + 1) (0) := ⟨by omega, by omega, by rw [hrc, rfF, if_neg hnt, if_pos (by omega)]⟩
              have hl2 : lv_has ls 6 [(0, .ref h0), (1, .ref bq), (2, .int (nI (0))), (3, .int (nI (i + 1)))] := lv_sub hl [4, 5, 1, 0] rfl
              apply ih (i := i + 1) (t := 0) <;> assumption
            · skip
              refine lv_aload_n (pc := 67) S.1 S.2.1 dX1_refusalOf_67 rfl (lv_at hl 2 rfl) ?_
              refine hv_get (pc := 68) (C := RX1) (T := TX1) (N := 7) (ref := RX1) S uwX1 hK hH f0 rfl 0 (by decide) tw_660 (fun _ h9 => h9) rfl dX1_refusalOf_68 ?_
              refine lv_iload (pc := 71) S.1 S.2.1 dX1_refusalOf_71 (lv_at hl 1 rfl) ?_
              refine hv_call (pc := 73) (va_runVNn (As := [.int (nI (wf i))]) (rest := []) S (c_X3_shrunkAcross l D cA ga φ H.size k (wf i) hk hw1) ⟨va_cnBn (host := "HatbandYard") 1 S.2.2.2.2 (gw tw_723) rfl rfl rfl (hX.nest _ (by decide +kernel)) (by decide +kernel) ⟨Nat.le_of_ble_eq_true rfl, Nat.le_of_ble_eq_true rfl⟩, S.2.2.2.2 _ tw_721, S.2.2.2.2 _ sw_12⟩ (pre0_V hH hK hX hS hA (o_recv (hX.furO k hk) hS)) rfl rfl hl.1 rfl (lv_room (Nat.le_of_ble_eq_true rfl)) dX1_refusalOf_73 ⟨Nat.le_of_ble_eq_true rfl, Nat.le_of_ble_eq_true rfl⟩) hS (af_le hH hS hA) (fun v_14 φ_15 H locs hw_v_14 hH hS => ?_)
              obtain ⟨rfl, hqv_14⟩ := hw_v_14
              rw [hqv_14] at hH
              refine lv_iload (pc := 76) S.1 S.2.1 dX1_refusalOf_76 (lv_at hl 0 rfl) ?_
              refine hv_icmp_le (pc := 78) (tgt := 85) (a := shA k (wf i)) (b := bW a d i) S.1 S.2.1 (by omega) (by omega) dX1_refusalOf_78 (by decide) (fun c_16 => ?_) (fun c_16 => ?_)
              · skip
                refine lv_iconst (pc := 85) (v := nI 0) S.1 S.2.1 dX1_refusalOf_85 (by decide) ?_
                refine lv_istore_n (pc := 86) (lv' := [(2, .int (nI 0)), (5, .int (nI (bW a d i))), (4, .int (nI (wf i))), (0, .ref h0), (1, .ref bq), (3, .int (nI i))]) S.1 S.2.1 dX1_refusalOf_86 rfl hl (by decide) rfl (fun ls hl => ?_)
                refine lv_iinc (pc := 87) (v := nI (i + 1)) (lv' := [(3, .int (nI (i + 1))), (2, .int (nI 0)), (5, .int (nI (bW a d i))), (4, .int (nI (wf i))), (0, .ref h0), (1, .ref bq)]) S.1 S.2.1 dX1_refusalOf_87 hl (k := 5) rfl (by first | rfl | exact nI_add _ _) (by decide) rfl (fun ls hl => ?_)
                refine lv_goto (pc := 90) (tgt := 13) S.1 S.2.1 dX1_refusalOf_90 (by decide) ?_
                have hi2 : (i + 1) + n = 6 ∧ (0) ≤ 1 ∧ rfF k wf (bW a d) 6 0 0 = rfF k wf (bW a d) n (i + 1) (0) := ⟨by omega, by omega, by rw [hrc, rfF, if_neg hnt, if_pos (by omega)]⟩
                have hl2 : lv_has ls 6 [(0, .ref h0), (1, .ref bq), (2, .int (nI (0))), (3, .int (nI (i + 1)))] := lv_sub hl [4, 5, 1, 0] rfl
                apply ih (i := i + 1) (t := 0) <;> assumption
              · skip
                refine lv_iconst (pc := 81) (v := nI 1) S.1 S.2.1 dX1_refusalOf_81 (by decide) ?_
                refine lv_goto (pc := 82) (tgt := 86) S.1 S.2.1 dX1_refusalOf_82 (by decide) ?_
                refine lv_istore_n (pc := 86) (lv' := [(2, .int (nI 1)), (5, .int (nI (bW a d i))), (4, .int (nI (wf i))), (0, .ref h0), (1, .ref bq), (3, .int (nI i))]) S.1 S.2.1 dX1_refusalOf_86 rfl hl (by decide) rfl (fun ls hl => ?_)
                refine lv_iinc (pc := 87) (v := nI (i + 1)) (lv' := [(3, .int (nI (i + 1))), (2, .int (nI 1)), (5, .int (nI (bW a d i))), (4, .int (nI (wf i))), (0, .ref h0), (1, .ref bq)]) S.1 S.2.1 dX1_refusalOf_87 hl (k := 5) rfl (by first | rfl | exact nI_add _ _) (by decide) rfl (fun ls hl => ?_)
                refine lv_goto (pc := 90) (tgt := 13) S.1 S.2.1 dX1_refusalOf_90 (by decide) ?_
                have hi2 : (i + 1) + n = 6 ∧ (1) ≤ 1 ∧ rfF k wf (bW a d) 6 0 0 = rfF k wf (bW a d) n (i + 1) (1) := ⟨by omega, by omega, by rw [hrc, rfF, if_neg hnt, if_neg (by omega)]⟩
                have hl2 : lv_has ls 6 [(0, .ref h0), (1, .ref bq), (2, .int (nI (1))), (3, .int (nI (i + 1)))] := lv_sub hl [4, 5, 1, 0] rfl
                apply ih (i := i + 1) (t := 1) <;> assumption
        · skip
          refine lv_aload_n (pc := 40) S.1 S.2.1 dX1_refusalOf_40 rfl (lv_at hl 2 rfl) ?_
          refine lv_iload (pc := 41) S.1 S.2.1 dX1_refusalOf_41 (lv_at hl 0 rfl) ?_
          refine lv_iload (pc := 43) S.1 S.2.1 dX1_refusalOf_43 (lv_at hl 1 rfl) ?_
          refine lv_isub (pc := 45) S.1 S.2.1 dX1_refusalOf_45 ?_
          refine hv_ti (y := nI ((bW a d i) - (wf i))) (pk_sub (by omega)) ?_
          refine lv_iload (pc := 46) S.1 S.2.1 dX1_refusalOf_46 (lv_at hl 1 rfl) ?_
          refine hv_call (pc := 48) (va_runV (As := [.int (nI ((bW a d i) - (wf i))), .int (nI (wf i))]) (rest := []) S (c_X1_isTornBy l D cA ga φ H.size h0 wq gq k ht cy tr lb wf mf (bW a d i - wf i) (wf i) f0 hk (by omega) hw1) (cwV 2 S.2.2.2.2 (gV tw_767 tw_769 sw_18 tw_23 tw_770) rfl rfl rfl (by decide +kernel) ⟨Nat.le_of_ble_eq_true rfl, Nat.le_of_ble_eq_true rfl⟩) (pre0_V hH hK hX hS hA (hH.recv hK f0 rfl)) rfl rfl hl.1 rfl (lv_room (Nat.le_of_ble_eq_true rfl)) dX1_refusalOf_48 ⟨Nat.le_of_ble_eq_true rfl, Nat.le_of_ble_eq_true rfl⟩) hS (af_le hH hS hA) (fun v_17 φ_18 H locs hw_v_17 hH hS => ?_)
          obtain ⟨rfl, hqv_17⟩ := hw_v_17
          rw [hqv_17] at hH
          have hto := toN_le k (bW a d i - wf i) (wf i)
          refine hv_if_eq (pc := 51) (tgt := 56) (a := toN k (bW a d i - wf i) (wf i)) S.1 S.2.1 (by omega) dX1_refusalOf_51 (by decide) (fun c_19 => ?_) (fun c_19 => ?_)
          · skip
            have hnt : ¬ (wf i < bW a d i ∧ toN k (bW a d i - wf i) (wf i) = 1) := fun h => absurd h.2 (by omega)
            refine lv_iload_n (pc := 56) S.1 S.2.1 dX1_refusalOf_56 rfl (lv_at hl 4 rfl) ?_
            refine hv_if_ne (pc := 57) (tgt := 81) (a := t) S.1 S.2.1 (by omega) dX1_refusalOf_57 (by decide) (fun c_20 => ?_) (fun c_20 => ?_)
            · skip
              refine lv_iconst (pc := 81) (v := nI 1) S.1 S.2.1 dX1_refusalOf_81 (by decide) ?_
              refine lv_goto (pc := 82) (tgt := 86) S.1 S.2.1 dX1_refusalOf_82 (by decide) ?_
              refine lv_istore_n (pc := 86) (lv' := [(2, .int (nI 1)), (5, .int (nI (bW a d i))), (4, .int (nI (wf i))), (0, .ref h0), (1, .ref bq), (3, .int (nI i))]) S.1 S.2.1 dX1_refusalOf_86 rfl hl (by decide) rfl (fun ls hl => ?_)
              refine lv_iinc (pc := 87) (v := nI (i + 1)) (lv' := [(3, .int (nI (i + 1))), (2, .int (nI 1)), (5, .int (nI (bW a d i))), (4, .int (nI (wf i))), (0, .ref h0), (1, .ref bq)]) S.1 S.2.1 dX1_refusalOf_87 hl (k := 5) rfl (by first | rfl | exact nI_add _ _) (by decide) rfl (fun ls hl => ?_)
              refine lv_goto (pc := 90) (tgt := 13) S.1 S.2.1 dX1_refusalOf_90 (by decide) ?_
              have hi2 : (i + 1) + n = 6 ∧ (1) ≤ 1 ∧ rfF k wf (bW a d) 6 0 0 = rfF k wf (bW a d) n (i + 1) (1) := ⟨by omega, by omega, by rw [hrc, rfF, if_neg hnt, if_neg (by omega)]⟩
              have hl2 : lv_has ls 6 [(0, .ref h0), (1, .ref bq), (2, .int (nI (1))), (3, .int (nI (i + 1)))] := lv_sub hl [4, 5, 1, 0] rfl
              apply ih (i := i + 1) (t := 1) <;> assumption
            · skip
              refine lv_iload (pc := 60) S.1 S.2.1 dX1_refusalOf_60 (lv_at hl 0 rfl) ?_
              refine lv_iload (pc := 62) S.1 S.2.1 dX1_refusalOf_62 (lv_at hl 1 rfl) ?_
              refine hv_icmp_ge (pc := 64) (tgt := 85) (a := bW a d i) (b := wf i) S.1 S.2.1 (by omega) (by omega) dX1_refusalOf_64 (by decide) (fun c_21 => ?_) (fun c_21 => ?_)
              · skip
                refine lv_iconst (pc := 85) (v := nI 0) S.1 S.2.1 dX1_refusalOf_85 (by decide) ?_
                refine lv_istore_n (pc := 86) (lv' := [(2, .int (nI 0)), (5, .int (nI (bW a d i))), (4, .int (nI (wf i))), (0, .ref h0), (1, .ref bq), (3, .int (nI i))]) S.1 S.2.1 dX1_refusalOf_86 rfl hl (by decide) rfl (fun ls hl => ?_)
                refine lv_iinc (pc := 87) (v := nI (i + 1)) (lv' := [(3, .int (nI (i + 1))), (2, .int (nI 0)), (5, .int (nI (bW a d i))), (4, .int (nI (wf i))), (0, .ref h0), (1, .ref bq)]) S.1 S.2.1 dX1_refusalOf_87 hl (k := 5) rfl (by first | rfl | exact nI_add _ _) (by decide) rfl (fun ls hl => ?_)
                refine lv_goto (pc := 90) (tgt := 13) S.1 S.2.1 dX1_refusalOf_90 (by decide) ?_
                have hi2 : (i + 1) + n = 6 ∧ (0) ≤ 1 ∧ rfF k wf (bW a d) 6 0 0 = rfF k wf (bW a d) n (i + 1) (0) := ⟨by omega, by omega, by rw [hrc, rfF, if_neg hnt, if_pos (by omega)]⟩
                have hl2 : lv_has ls 6 [(0, .ref h0), (1, .ref bq), (2, .int (nI (0))), (3, .int (nI (i + 1)))] := lv_sub hl [4, 5, 1, 0] rfl
                apply ih (i := i + 1) (t := 0) <;> assumption
              · skip
                refine lv_aload_n (pc := 67) S.1 S.2.1 dX1_refusalOf_67 rfl (lv_at hl 2 rfl) ?_
                refine hv_get (pc := 68) (C := RX1) (T := TX1) (N := 7) (ref := RX1) S uwX1 hK hH f0 rfl 0 (by decide) tw_660 (fun _ h9 => h9) rfl dX1_refusalOf_68 ?_
                refine lv_iload (pc := 71) S.1 S.2.1 dX1_refusalOf_71 (lv_at hl 1 rfl) ?_
                refine hv_call (pc := 73) (va_runVNn (As := [.int (nI (wf i))]) (rest := []) S (c_X3_shrunkAcross l D cA ga φ H.size k (wf i) hk hw1) ⟨va_cnBn (host := "HatbandYard") 1 S.2.2.2.2 (gw tw_723) rfl rfl rfl (hX.nest _ (by decide +kernel)) (by decide +kernel) ⟨Nat.le_of_ble_eq_true rfl, Nat.le_of_ble_eq_true rfl⟩, S.2.2.2.2 _ tw_721, S.2.2.2.2 _ sw_12⟩ (pre0_V hH hK hX hS hA (o_recv (hX.furO k hk) hS)) rfl rfl hl.1 rfl (lv_room (Nat.le_of_ble_eq_true rfl)) dX1_refusalOf_73 ⟨Nat.le_of_ble_eq_true rfl, Nat.le_of_ble_eq_true rfl⟩) hS (af_le hH hS hA) (fun v_22 φ_23 H locs hw_v_22 hH hS => ?_)
                obtain ⟨rfl, hqv_22⟩ := hw_v_22
                rw [hqv_22] at hH
                refine lv_iload (pc := 76) S.1 S.2.1 dX1_refusalOf_76 (lv_at hl 0 rfl) ?_
                refine hv_icmp_le (pc := 78) (tgt := 85) (a := shA k (wf i)) (b := bW a d i) S.1 S.2.1 (by omega) (by omega) dX1_refusalOf_78 (by decide) (fun c_24 => ?_) (fun c_24 => ?_)
                · skip
                  refine lv_iconst (pc := 85) (v := nI 0) S.1 S.2.1 dX1_refusalOf_85 (by decide) ?_
                  refine lv_istore_n (pc := 86) (lv' := [(2, .int (nI 0)), (5, .int (nI (bW a d i))), (4, .int (nI (wf i))), (0, .ref h0), (1, .ref bq), (3, .int (nI i))]) S.1 S.2.1 dX1_refusalOf_86 rfl hl (by decide) rfl (fun ls hl => ?_)
                  refine lv_iinc (pc := 87) (v := nI (i + 1)) (lv' := [(3, .int (nI (i + 1))), (2, .int (nI 0)), (5, .int (nI (bW a d i))), (4, .int (nI (wf i))), (0, .ref h0), (1, .ref bq)]) S.1 S.2.1 dX1_refusalOf_87 hl (k := 5) rfl (by first | rfl | exact nI_add _ _) (by decide) rfl (fun ls hl => ?_)
                  refine lv_goto (pc := 90) (tgt := 13) S.1 S.2.1 dX1_refusalOf_90 (by decide) ?_
                  have hi2 : (i + 1) + n = 6 ∧ (0) ≤ 1 ∧ rfF k wf (bW a d) 6 0 0 = rfF k wf (bW a d) n (i + 1) (0) := ⟨by omega, by omega, by rw [hrc, rfF, if_neg hnt, if_pos (by omega)]⟩
                  have hl2 : lv_has ls 6 [(0, .ref h0), (1, .ref bq), (2, .int (nI (0))), (3, .int (nI (i + 1)))] := lv_sub hl [4, 5, 1, 0] rfl
                  apply ih (i := i + 1) (t := 0) <;> assumption
                · skip
                  refine lv_iconst (pc := 81) (v := nI 1) S.1 S.2.1 dX1_refusalOf_81 (by decide) ?_
                  refine lv_goto (pc := 82) (tgt := 86) S.1 S.2.1 dX1_refusalOf_82 (by decide) ?_
                  refine lv_istore_n (pc := 86) (lv' := [(2, .int (nI 1)), (5, .int (nI (bW a d i))), (4, .int (nI (wf i))), (0, .ref h0), (1, .ref bq), (3, .int (nI i))]) S.1 S.2.1 dX1_refusalOf_86 rfl hl (by decide) rfl (fun ls hl => ?_)
                  refine lv_iinc (pc := 87) (v := nI (i + 1)) (lv' := [(3, .int (nI (i + 1))), (2, .int (nI 1)), (5, .int (nI (bW a d i))), (4, .int (nI (wf i))), (0, .ref h0), (1, .ref bq)]) S.1 S.2.1 dX1_refusalOf_87 hl (k := 5) rfl (by first | rfl | exact nI_add _ _) (by decide) rfl (fun ls hl => ?_)
                  refine lv_goto (pc := 90) (tgt := 13) S.1 S.2.1 dX1_refusalOf_90 (by decide) ?_
                  have hi2 : (i + 1) + n = 6 ∧ (1) ≤ 1 ∧ rfF k wf (bW a d) 6 0 0 = rfF k wf (bW a d) n (i + 1) (1) := ⟨by omega, by omega, by rw [hrc, rfF, if_neg hnt, if_neg (by omega)]⟩
                  have hl2 : lv_has ls 6 [(0, .ref h0), (1, .ref bq), (2, .int (nI (1))), (3, .int (nI (i + 1)))] := lv_sub hl [4, 5, 1, 0] rfl
                  apply ih (i := i + 1) (t := 1) <;> assumption
          · skip
            refine lv_iconst (pc := 54) (v := nI 2) S.1 S.2.1 dX1_refusalOf_54 (by decide) ?_
            exact hv_ret (pc := 55) (v := nI 2) S hr rfl hlocks hH hS (⟨by rw [if_pos c_3, hrc, rfF, if_pos ⟨by omega, by omega⟩], rfl⟩) (Nat.le_of_ble_eq_true rfl) (Nat.le_of_ble_eq_true rfl) dX1_refusalOf_55
  · skip
    refine lv_iconst (pc := 7) (v := nI 1) S.1 S.2.1 dX1_refusalOf_7 (by decide) ?_
    exact hv_ret (pc := 8) (v := nI 1) S hr rfl hlocks hH hS (⟨by rw [if_neg c_3], rfl⟩) (Nat.le_of_ble_eq_true rfl) (Nat.le_of_ble_eq_true rfl) dX1_refusalOf_8

def pF (t b : Nat) : Nat := 10 + t * b
/-- the grams of a band, before the rest is given -/
def gB (g t b : Nat) : Nat := g * pF t b / smN (pF t) 6
def gF (g t : Nat) : Nat → Nat := va_up (gB g t) 0 (gB g t 0 + (g - smN (gB g t) 6))
theorem pS6 (t : Nat) : smN (pF t) 6 = 60 + t * 15 := by
  simp only [smN, pF]
  omega
theorem gB_sum (g t : Nat) : ∀ i, smN (gB g t) i * smN (pF t) 6 ≤ g * smN (pF t) i
  | 0 => by simp [smN]
  | i + 1 => by
    have h := gB_sum g t i
    have h2 : gB g t i * smN (pF t) 6 ≤ g * pF t i := Nat.div_mul_le_self _ _
    show (smN (gB g t) i + gB g t i) * smN (pF t) 6 ≤ g * (smN (pF t) i + pF t i)
    rw [Nat.add_mul, Nat.mul_add]
    omega
theorem smN_mono (f : Nat → Nat) {i j : Nat} (h : i ≤ j) : smN f i ≤ smN f j := by
  induction h with
  | refl => exact Nat.le_refl _
  | step _ ih => exact Nat.le_trans ih (Nat.le_add_right _ _)
theorem gB_le (g t : Nat) {i : Nat} (h : i ≤ 6) : smN (gB g t) i ≤ g := by
  have h1 := gB_sum g t i
  have h2 : g * smN (pF t) i ≤ g * smN (pF t) 6 := Nat.mul_le_mul_left _ (smN_mono _ h)
  have h3 : 0 < smN (pF t) 6 := by rw [pS6]; omega
  exact Nat.le_of_mul_le_mul_right (Nat.le_trans h1 h2) h3
theorem pfx_up0 {f g : Nat → Nat} {v : Nat} : va_up (pfx f g 6) 0 v = fun j => if j < 6 then va_up f 0 v j else g j := by
  funext j
  by_cases h : j = 0
  · subst h; simp [va_up]
  · simp [va_up, pfx, h]
set_option maxHeartbeats 4000000 in
set_option maxRecDepth 100000 in
/-- Cone(fur, grams, taper) -/
theorem c_X1_init (l : Launch) (D : va_G) (cA : Nat → ClassId) (ga : Nat → Nat → Nat) (φ : hpM) (sz : Nat) (h0 k g t : Nat) (f0 : φ h0 = some (.inr (5, [.null, .null, .null, .int (nI 0), .int (nI 0), .null, .int (nI 0)]))) (hk : k < 4) (hg : g ≤ 500) (ht : t ≤ 5) : hM l yX1_init cX1_init 7 none { frames := 9, cells := 2, slots := 12, locals := 260 } [.ref h0, .ref (ga 0 k), .int (nI g), .int (nI t)] D cA ga φ sz (fun v φ' => v = none ∧ ∃ q1 q2 : Nat, φ q1 = none ∧ φ q2 = none ∧ q2 ≠ q1 ∧ φ' = ups (ups (ups φ q1 (.inl (cA 1, 6, .inl (fun j => nI ((pfx (fun b => 1200 - 150 * b) zr 6) j))))) q2 (.inl (cA 1, 6, .inl (fun j => nI ((va_up (pfx (gB g t) zr 6) 0 (gB g t 0 + (g - smN (gB g t) 6))) j))))) h0 (.inr (5, [.ref (ga 0 k), .ref q1, .ref q2, .int (nI 60), .int (nI 0), .null, .int (nI 0)]))) 2 12 := by
  refine hM.of (by decide) (Nat.le_of_ble_eq_true rfl) rfl ?_
  intro p e s m args below meth c ls H locs S hr hlocks hnm hsz hHz hH hK hX hS hA hl
  have hp6 := pS6 t
  refine lv_aload_n (pc := 0) S.1 S.2.1 dX1_init_0 rfl (lv_at hl 0 rfl) ?_
  refine W.objInit S.1 S.2.1 S.2.2.2.1 (S.2.2.2.2 _ tw_653) (S.2.2.2.2 _ tw_34) (S.2.2.2.2 _ tw_35) rfl (by rw [S.2.2.1]; exact hl.1) rfl dX1_init_1 (Nat.le_of_ble_eq_true rfl) (Nat.le_of_ble_eq_true rfl) ?_
  refine W.eq (g2 := F0 m 4 ls []) rfl ?_
  refine lv_aload_n (pc := 4) S.1 S.2.1 dX1_init_4 rfl (lv_at hl 0 rfl) ?_
  refine lv_bipush (pc := 5) (v := nI 6) S.1 S.2.1 dX1_init_5 (by decide) ?_
  refine hv_newa (pc := 7) (atype := .int) (a0 := (6, .inl (fun j => nI (zr j)))) (N' := 6) S tw_87 (ty := .int) rfl hK 1 rfl hH hS hA (fun _ => rfl) (by decide) (by decide) (Nat.le_of_ble_eq_true rfl) (Nat.le_of_ble_eq_true rfl) (Nat.le_of_ble_eq_true rfl) dX1_init_7 (fun q_1 H hq_q_1 hH hS => ?_)
  replace hH := nup (e := .inl (cA 1, 6, .inl (fun j => nI (zr j)))) hH
  obtain ⟨φ_2, hφ_2, fa_φ_2, fr_φ_2, hH⟩ := hH
  have f_3 := fr_φ_2 _ _ (hp_nf f0 hq_q_1) f0
  have hq1 : φ q_1 = none := hq_q_1
  refine hv_putF (pc := 9) (ty := .array (.int)) (C := RX1) (T := TX1) (N := 7) (ref := RX1) S uwX1 tyX1 tyX1_ok nmX1 hK hH hS f_3 rfl 1 (by decide) tw_662 (fun _ h9 => h9) rfl hnm rfl (by decide +kernel) rfl rfl (Nat.le_of_ble_eq_true rfl) dX1_init_9 (fun H locs hH hS => ?_)
  replace hH := nup (e := .inr (5, [.null, .ref q_1, .null, .int (nI 0), .int (nI 0), .null, .int (nI 0)])) hH
  obtain ⟨φ_4, hφ_4, fa_φ_4, fr_φ_4, hH⟩ := hH
  have f_5 := fr_φ_4 _ _ (hp_ne fa_φ_2 f_3 (by intro h; first | (cases h; done) | (simp at h; done))) fa_φ_2
  refine lv_aload_n (pc := 12) S.1 S.2.1 dX1_init_12 rfl (lv_at hl 0 rfl) ?_
  refine lv_bipush (pc := 13) (v := nI 6) S.1 S.2.1 dX1_init_13 (by decide) ?_
  refine hv_newa (pc := 15) (atype := .int) (a0 := (6, .inl (fun j => nI (zr j)))) (N' := 6) S tw_87 (ty := .int) rfl hK 1 rfl hH hS hA (fun _ => rfl) (by decide) (by decide) (Nat.le_of_ble_eq_true rfl) (Nat.le_of_ble_eq_true rfl) (Nat.le_of_ble_eq_true rfl) dX1_init_15 (fun q_6 H hq_q_6 hH hS => ?_)
  replace hH := nup (e := .inl (cA 1, 6, .inl (fun j => nI (zr j)))) hH
  obtain ⟨φ_7, hφ_7, fa_φ_7, fr_φ_7, hH⟩ := hH
  have f_8 := fr_φ_7 _ _ (hp_nf f_5 hq_q_6) f_5
  have f_9 := fr_φ_7 _ _ (hp_nf fa_φ_4 hq_q_6) fa_φ_4
  have hq2 : φ q_6 = none ∧ q_6 ≠ q_1 := by
    have z := hq_q_6
    rw [hφ_4, hφ_2] at z
    have z2 := ups_none (ups_none z).1
    exact z2
  refine hv_putF (pc := 17) (ty := .array (.int)) (C := RX1) (T := TX1) (N := 7) (ref := RX1) S uwX1 tyX1 tyX1_ok nmX1 hK hH hS f_9 rfl 2 (by decide) tw_663 (fun _ h9 => h9) rfl hnm rfl (by decide +kernel) rfl rfl (Nat.le_of_ble_eq_true rfl) dX1_init_17 (fun H locs hH hS => ?_)
  replace hH := nup (e := .inr (5, [.null, .ref q_1, .ref q_6, .int (nI 0), .int (nI 0), .null, .int (nI 0)])) hH
  obtain ⟨φ_10, hφ_10, fa_φ_10, fr_φ_10, hH⟩ := hH
  have f_11 := fr_φ_10 _ _ (hp_ne f_8 f_9 (by intro h; first | (cases h; done) | (simp at h; done))) f_8
  have f_12 := fr_φ_10 _ _ (hp_ne fa_φ_7 f_9 (by intro h; first | (cases h; done) | (simp at h; done))) fa_φ_7
  refine lv_aload_n (pc := 20) S.1 S.2.1 dX1_init_20 rfl (lv_at hl 0 rfl) ?_
  refine lv_bipush (pc := 21) (v := nI 60) S.1 S.2.1 dX1_init_21 (by decide) ?_
  refine hv_put (pc := 23) (ty := .int) (C := RX1) (T := TX1) (N := 7) (ref := RX1) S uwX1 tyX1 tyX1_ok nmX1 hK hH hS fa_φ_10 rfl 3 (by decide) tw_664 (fun _ h9 => h9) rfl (by decide +kernel) rfl rfl (Nat.le_of_ble_eq_true rfl) dX1_init_23 (fun H locs hH hS => ?_)
  replace hH := nup (e := .inr (5, [.null, .ref q_1, .ref q_6, .int (nI 60), .int (nI 0), .null, .int (nI 0)])) hH
  obtain ⟨φ_13, hφ_13, fa_φ_13, fr_φ_13, hH⟩ := hH
  have f_14 := fr_φ_13 _ _ (hp_ne f_11 fa_φ_10 (by intro h; first | (cases h; done) | (simp at h; done))) f_11
  have f_15 := fr_φ_13 _ _ (hp_ne f_12 fa_φ_10 (by intro h; first | (cases h; done) | (simp at h; done))) f_12
  refine lv_aload_n (pc := 26) S.1 S.2.1 dX1_init_26 rfl (lv_at hl 0 rfl) ?_
  refine lv_iconst (pc := 27) (v := nI 0) S.1 S.2.1 dX1_init_27 (by decide) ?_
  refine hv_put (pc := 28) (ty := .int) (C := RX1) (T := TX1) (N := 7) (ref := RX1) S uwX1 tyX1 tyX1_ok nmX1 hK hH hS fa_φ_13 rfl 4 (by decide) tw_666 (fun _ h9 => h9) rfl (by decide +kernel) rfl rfl (Nat.le_of_ble_eq_true rfl) dX1_init_28 (fun H locs hH hS => ?_)
  replace hH := nup (e := .inr (5, [.null, .ref q_1, .ref q_6, .int (nI 60), .int (nI 0), .null, .int (nI 0)])) hH
  obtain ⟨φ_16, hφ_16, fa_φ_16, fr_φ_16, hH⟩ := hH
  have f_17 := fr_φ_16 _ _ (hp_ne f_14 fa_φ_13 (by intro h; first | (cases h; done) | (simp at h; done))) f_14
  have f_18 := fr_φ_16 _ _ (hp_ne f_15 fa_φ_13 (by intro h; first | (cases h; done) | (simp at h; done))) f_15
  refine lv_aload_n (pc := 31) S.1 S.2.1 dX1_init_31 rfl (lv_at hl 0 rfl) ?_
  refine lv_null (pc := 32) S.1 S.2.1 dX1_init_32 ?_
  refine hv_put (pc := 33) (ty := .object "HatbandYard$Block") (C := RX1) (T := TX1) (N := 7) (ref := RX1) S uwX1 tyX1 tyX1_ok nmX1 hK hH hS fa_φ_16 rfl 5 (by decide) tw_668 (fun _ h9 => h9) rfl (by decide +kernel) rfl rfl (Nat.le_of_ble_eq_true rfl) dX1_init_33 (fun H locs hH hS => ?_)
  replace hH := nup (e := .inr (5, [.null, .ref q_1, .ref q_6, .int (nI 60), .int (nI 0), .null, .int (nI 0)])) hH
  obtain ⟨φ_19, hφ_19, fa_φ_19, fr_φ_19, hH⟩ := hH
  have f_20 := fr_φ_19 _ _ (hp_ne f_17 fa_φ_16 (by intro h; first | (cases h; done) | (simp at h; done))) f_17
  have f_21 := fr_φ_19 _ _ (hp_ne f_18 fa_φ_16 (by intro h; first | (cases h; done) | (simp at h; done))) f_18
  refine lv_aload_n (pc := 36) S.1 S.2.1 dX1_init_36 rfl (lv_at hl 0 rfl) ?_
  refine lv_iconst (pc := 37) (v := nI 0) S.1 S.2.1 dX1_init_37 (by decide) ?_
  refine hv_put (pc := 38) (ty := .boolean) (C := RX1) (T := TX1) (N := 7) (ref := RX1) S uwX1 tyX1 tyX1_ok nmX1 hK hH hS fa_φ_19 rfl 6 (by decide) tw_670 (fun _ h9 => h9) rfl (by decide +kernel) rfl rfl (Nat.le_of_ble_eq_true rfl) dX1_init_38 (fun H locs hH hS => ?_)
  replace hH := nup (e := .inr (5, [.null, .ref q_1, .ref q_6, .int (nI 60), .int (nI 0), .null, .int (nI 0)])) hH
  obtain ⟨φ_22, hφ_22, fa_φ_22, fr_φ_22, hH⟩ := hH
  have f_23 := fr_φ_22 _ _ (hp_ne f_20 fa_φ_19 (by intro h; first | (cases h; done) | (simp at h; done))) f_20
  have f_24 := fr_φ_22 _ _ (hp_ne f_21 fa_φ_19 (by intro h; first | (cases h; done) | (simp at h; done))) f_21
  refine lv_aload_n (pc := 41) S.1 S.2.1 dX1_init_41 rfl (lv_at hl 0 rfl) ?_
  refine lv_aload_n (pc := 42) S.1 S.2.1 dX1_init_42 rfl (lv_at hl 1 rfl) ?_
  refine hv_putF (pc := 43) (ty := .object "HatbandYard$Fur") (C := RX1) (T := TX1) (N := 7) (ref := RX1) S uwX1 tyX1 tyX1_ok nmX1 hK hH hS fa_φ_22 rfl 0 (by decide) tw_660 (fun _ h9 => h9) rfl hnm rfl (by decide +kernel) rfl rfl (Nat.le_of_ble_eq_true rfl) dX1_init_43 (fun H locs hH hS => ?_)
  replace hH := nup (e := .inr (5, [.ref (ga 0 k), .ref q_1, .ref q_6, .int (nI 60), .int (nI 0), .null, .int (nI 0)])) hH
  obtain ⟨φ_25, hφ_25, fa_φ_25, fr_φ_25, hH⟩ := hH
  have f_26 := fr_φ_25 _ _ (hp_ne f_23 fa_φ_22 (by intro h; first | (cases h; done) | (simp at h; done))) f_23
  have f_27 := fr_φ_25 _ _ (hp_ne f_24 fa_φ_22 (by intro h; first | (cases h; done) | (simp at h; done))) f_24
  refine lv_iconst (pc := 46) (v := nI 0) S.1 S.2.1 dX1_init_46 (by decide) ?_
  refine lv_istore (pc := 47) (lv' := [(4, .int (nI 0)), (0, .ref h0), (1, .ref (ga 0 k)), (2, .int (nI g)), (3, .int (nI t))]) S.1 S.2.1 dX1_init_47 hl (by decide) rfl (fun ls hl => ?_)
  refine lv_iconst (pc := 49) (v := nI 0) S.1 S.2.1 dX1_init_49 (by decide) ?_
  refine lv_istore (pc := 50) (lv' := [(5, .int (nI 0)), (4, .int (nI 0)), (0, .ref h0), (1, .ref (ga 0 k)), (2, .int (nI g)), (3, .int (nI t))]) S.1 S.2.1 dX1_init_50 hl (by decide) rfl (fun ls hl => ?_)
  have hg : ∃ (n i : Nat), (i + n = 6) ∧ lv_has ls 7 [(0, .ref h0), (1, .ref (ga 0 k)), (2, .int (nI g)), (3, .int (nI t)), (4, .int (nI (smN (pF t) i))), (5, .int (nI i))] := ⟨6, 0, by omega, lv_sub hl [2, 3, 4, 5, 1, 0] rfl⟩
  clear hl
  try clear hHz
  obtain ⟨n, i, hi, hl⟩ := hg
  induction n generalizing ls H locs i with
  | succ n ih =>
    have hp1 : pF t i ≤ 10 + 5 * 6 := Nat.add_le_add_left (Nat.mul_le_mul ht (by omega)) 10
    refine lv_iload (pc := 52) S.1 S.2.1 dX1_init_52 (lv_at hl 5 rfl) ?_
    refine lv_bipush (pc := 54) (v := nI 6) S.1 S.2.1 dX1_init_54 (by decide) ?_
    refine hv_icmp_ge (pc := 56) (tgt := 76) (a := i) (b := 6) S.1 S.2.1 (by omega) (by omega) dX1_init_56 (by decide) (fun c_28 => ?_) (fun c_28 => ?_)
    · skip
      exact absurd c_28 (by omega)
    · skip
      refine lv_iload (pc := 59) S.1 S.2.1 dX1_init_59 (lv_at hl 4 rfl) ?_
      refine lv_iload (pc := 61) S.1 S.2.1 dX1_init_61 (lv_at hl 5 rfl) ?_
      refine lv_iload_n (pc := 63) S.1 S.2.1 dX1_init_63 rfl (lv_at hl 3 rfl) ?_
      refine hv_call (pc := 64) (va_runS (As := [.int (nI i), .int (nI t)]) (rest := [.int (nI (smN (pF t) i))]) S (c_X1_partOf l D cA ga φ_25 H.size i t) (va_cwS 2 S.2.2.2.2 (gS tw_654 tw_655 tw_23 tw_656) rfl rfl rfl (by decide +kernel) ⟨Nat.le_of_ble_eq_true rfl, Nat.le_of_ble_eq_true rfl⟩) (pre0_S hH hK hX hS hA) rfl rfl hl.1 rfl (lv_room (Nat.le_of_ble_eq_true rfl)) dX1_init_64 ⟨Nat.le_of_ble_eq_true rfl, Nat.le_of_ble_eq_true rfl⟩) hS (af_le hH hS hA) (fun v_29 φ_30 H locs hw_v_29 hH hS => ?_)
      obtain ⟨rfl, hqv_29⟩ := hw_v_29
      rw [hqv_29] at hH
      refine lv_iadd (pc := 67) S.1 S.2.1 dX1_init_67 ?_
      refine hv_ti (y := nI ((smN (pF t) i) + (pF t i))) (nI_add _ _) ?_
      refine lv_istore (pc := 68) (lv' := [(4, .int (nI ((smN (pF t) i) + (pF t i)))), (0, .ref h0), (1, .ref (ga 0 k)), (2, .int (nI g)), (3, .int (nI t)), (5, .int (nI i))]) S.1 S.2.1 dX1_init_68 hl (by decide) rfl (fun ls hl => ?_)
      refine lv_iinc (pc := 70) (v := nI (i + 1)) (lv' := [(5, .int (nI (i + 1))), (4, .int (nI ((smN (pF t) i) + (pF t i)))), (0, .ref h0), (1, .ref (ga 0 k)), (2, .int (nI g)), (3, .int (nI t))]) S.1 S.2.1 dX1_init_70 hl (k := 5) rfl (by first | rfl | exact nI_add _ _) (by decide) rfl (fun ls hl => ?_)
      refine lv_goto (pc := 73) (tgt := 52) S.1 S.2.1 dX1_init_73 (by decide) ?_
      have hi2 : (i + 1) + n = 6 := by omega
      have hl2 : lv_has ls 7 [(0, .ref h0), (1, .ref (ga 0 k)), (2, .int (nI g)), (3, .int (nI t)), (4, .int (nI (smN (pF t) (i + 1)))), (5, .int (nI (i + 1)))] := lv_sub hl [2, 3, 4, 5, 1, 0] rfl
      apply ih (i := i + 1) <;> assumption
  | zero =>
    obtain rfl : i = 6 := by omega
    refine lv_iload (pc := 52) S.1 S.2.1 dX1_init_52 (lv_at hl 5 rfl) ?_
    refine lv_bipush (pc := 54) (v := nI 6) S.1 S.2.1 dX1_init_54 (by decide) ?_
    refine hv_icmp_ge (pc := 56) (tgt := 76) (a := 6) (b := 6) S.1 S.2.1 (by omega) (by omega) dX1_init_56 (by decide) (fun c_31 => ?_) (fun c_31 => ?_)
    · skip
      refine lv_iload_n (pc := 76) S.1 S.2.1 dX1_init_76 rfl (lv_at hl 2 rfl) ?_
      refine lv_istore (pc := 77) (lv' := [(5, .int (nI g)), (0, .ref h0), (1, .ref (ga 0 k)), (2, .int (nI g)), (3, .int (nI t)), (4, .int (nI (smN (pF t) 6)))]) S.1 S.2.1 dX1_init_77 hl (by decide) rfl (fun ls hl => ?_)
      refine lv_iconst (pc := 79) (v := nI 0) S.1 S.2.1 dX1_init_79 (by decide) ?_
      refine lv_istore (pc := 80) (lv' := [(6, .int (nI 0)), (5, .int (nI g)), (0, .ref h0), (1, .ref (ga 0 k)), (2, .int (nI g)), (3, .int (nI t)), (4, .int (nI (smN (pF t) 6)))]) S.1 S.2.1 dX1_init_80 hl (by decide) rfl (fun ls hl => ?_)
      have hg : ∃ (n i : Nat) (φk_32 : hpM), ((i + n = 6) ∧ φk_32 = ups (ups φ_25 q_1 (.inl (cA 1, 6, .inl (fun j => nI ((pfx (fun b => 1200 - 150 * b) zr i) j))))) q_6 (.inl (cA 1, 6, .inl (fun j => nI ((pfx (gB g t) zr i) j)))) ∧ hp D (Af φ sz) φk_32 H) ∧ lv_has ls 7 [(0, .ref h0), (1, .ref (ga 0 k)), (2, .int (nI g)), (3, .int (nI t)), (4, .int (nI (smN (pF t) 6))), (5, .int (nI (g - smN (gB g t) i))), (6, .int (nI i))] := ⟨6, 0, φ_25, ⟨rfl, by rw [pfx_0, pfx_0, ← ups_id f_26]; exact ups_id f_27, hH⟩, lv_sub hl [2, 3, 4, 5, 6, 1, 0] rfl⟩
      clear hl hH
      try clear hHz
      obtain ⟨n, i, φk_32, hi, hl⟩ := hg
      induction n generalizing ls H locs i φk_32 with
      | succ n ih =>
        obtain ⟨hi, hφk_32, hH⟩ := hi
        have f_33 : φk_32 h0 = some (.inr (5, [.ref (ga 0 k), .ref q_1, .ref q_6, .int (nI 60), .int (nI 0), .null, .int (nI 0)])) := by rw [hφk_32]; exact ups_n (fun h => by rw [h, f_27] at fa_φ_25; cases fa_φ_25) (ups_n (fun h => by rw [h, f_26] at fa_φ_25; cases fa_φ_25) fa_φ_25)
        have f_34 : φk_32 q_1 = some (.inl (cA 1, 6, .inl (fun j => nI ((pfx (fun b => 1200 - 150 * b) zr i) j)))) := by rw [hφk_32]; exact ups_n (fun h => hq2.2 h.symm) (ups_s _ _ _)
        have f_35 : φk_32 q_6 = some (.inl (cA 1, 6, .inl (fun j => nI ((pfx (gB g t) zr i) j)))) := by rw [hφk_32]; exact ups_s _ _ _
        have n_q_6_q_1 : q_6 ≠ q_1 := hq2.2
        have n_q_1_q_6 : q_1 ≠ q_6 := fun h => hq2.2 h.symm
        have hp1 : pF t i ≤ 10 + 5 * 6 := Nat.add_le_add_left (Nat.mul_le_mul ht (by omega)) 10
        have hgp : g * pF t i ≤ 500 * 40 := Nat.mul_le_mul hg (by omega)
        have hsi := gB_le g t (i := i + 1) (by omega)
        have hs2 : smN (gB g t) (i + 1) = smN (gB g t) i + gB g t i := rfl
        have hgb : g * pF t i / smN (pF t) 6 = gB g t i := rfl
        refine lv_iload (pc := 82) S.1 S.2.1 dX1_init_82 (lv_at hl 6 rfl) ?_
        refine lv_bipush (pc := 84) (v := nI 6) S.1 S.2.1 dX1_init_84 (by decide) ?_
        refine hv_icmp_ge (pc := 86) (tgt := 146) (a := i) (b := 6) S.1 S.2.1 (by omega) (by omega) dX1_init_86 (by decide) (fun c_36 => ?_) (fun c_36 => ?_)
        · skip
          exact absurd c_36 (by omega)
        · skip
          refine lv_aload_n (pc := 89) S.1 S.2.1 dX1_init_89 rfl (lv_at hl 0 rfl) ?_
          refine hv_get (pc := 90) (C := RX1) (T := TX1) (N := 7) (ref := RX1) S uwX1 hK hH f_33 rfl 1 (by decide) tw_662 (fun _ h9 => h9) rfl dX1_init_90 ?_
          refine lv_iload (pc := 93) S.1 S.2.1 dX1_init_93 (lv_at hl 6 rfl) ?_
          refine lv_iload (pc := 95) S.1 S.2.1 dX1_init_95 (lv_at hl 6 rfl) ?_
          refine hv_call (pc := 97) (va_runS (As := [.int (nI i)]) (rest := [.int (nI i), .ref q_1]) S (c_X1_widthFormed l D cA ga φk_32 H.size i (by omega)) (va_cwS 1 S.2.2.2.2 (gS tw_657 tw_658 tw_23 tw_659) rfl rfl rfl (by decide +kernel) ⟨Nat.le_of_ble_eq_true rfl, Nat.le_of_ble_eq_true rfl⟩) (pre0_S hH hK hX hS hA) rfl rfl hl.1 rfl (lv_room (Nat.le_of_ble_eq_true rfl)) dX1_init_97 ⟨Nat.le_of_ble_eq_true rfl, Nat.le_of_ble_eq_true rfl⟩) hS (af_le hH hS hA) (fun v_37 φ_38 H locs hw_v_37 hH hS => ?_)
          obtain ⟨rfl, hqv_37⟩ := hw_v_37
          rw [hqv_37] at hH
          refine hv_iast (pc := 100) S hK hH hS 1 f_34 rfl (vp_in_nI (by omega) (by omega)) dX1_init_100 (fun H locs hH hS => ?_)
          rw [hv_upd (by omega), show va_up (pfx (fun b => 1200 - 150 * b) zr i) i (1200 - 150 * i) = pfx (fun b => 1200 - 150 * b) zr (i + 1) from pfx_up (fun b => 1200 - 150 * b) zr i] at hH
          replace hH := nup (e := .inl (cA 1, 6, .inl (fun j => nI ((pfx (fun b => 1200 - 150 * b) zr (i + 1)) j)))) hH
          obtain ⟨φ_39, hφ_39, fa_φ_39, fr_φ_39, hH⟩ := hH
          have f_40 := fr_φ_39 _ _ (hp_ne f_33 f_34 (by intro h; first | (cases h; done) | (simp at h; done))) f_33
          have f_41 := fr_φ_39 _ _ n_q_6_q_1 f_35
          refine lv_aload_n (pc := 101) S.1 S.2.1 dX1_init_101 rfl (lv_at hl 0 rfl) ?_
          refine hv_get (pc := 102) (C := RX1) (T := TX1) (N := 7) (ref := RX1) S uwX1 hK hH f_40 rfl 2 (by decide) tw_663 (fun _ h9 => h9) rfl dX1_init_102 ?_
          refine lv_iload (pc := 105) S.1 S.2.1 dX1_init_105 (lv_at hl 6 rfl) ?_
          refine lv_iload (pc := 107) S.1 S.2.1 dX1_init_107 (lv_at hl 4 rfl) ?_
          refine hv_if_gt (pc := 109) (tgt := 116) (a := smN (pF t) 6) S.1 S.2.1 (by omega) dX1_init_109 (by decide) (fun c_42 => ?_) (fun c_42 => ?_)
          · skip
            refine lv_iload_n (pc := 116) S.1 S.2.1 dX1_init_116 rfl (lv_at hl 2 rfl) ?_
            refine lv_iload (pc := 117) S.1 S.2.1 dX1_init_117 (lv_at hl 6 rfl) ?_
            refine lv_iload_n (pc := 119) S.1 S.2.1 dX1_init_119 rfl (lv_at hl 3 rfl) ?_
            refine hv_call (pc := 120) (va_runS (As := [.int (nI i), .int (nI t)]) (rest := [.int (nI g), .int (nI i), .ref q_6]) S (c_X1_partOf l D cA ga φ_39 H.size i t) (va_cwS 2 S.2.2.2.2 (gS tw_654 tw_655 tw_23 tw_656) rfl rfl rfl (by decide +kernel) ⟨Nat.le_of_ble_eq_true rfl, Nat.le_of_ble_eq_true rfl⟩) (pre0_S hH hK hX hS hA) rfl rfl hl.1 rfl (lv_room (Nat.le_of_ble_eq_true rfl)) dX1_init_120 ⟨Nat.le_of_ble_eq_true rfl, Nat.le_of_ble_eq_true rfl⟩) hS (af_le hH hS hA) (fun v_43 φ_44 H locs hw_v_43 hH hS => ?_)
            obtain ⟨rfl, hqv_43⟩ := hw_v_43
            rw [hqv_43] at hH
            have hne : ¬ nI (smN (pF t) 6) = 0 := nI_ne0 (by omega) (by omega)
            refine lv_imul (pc := 123) S.1 S.2.1 dX1_init_123 ?_
            refine hv_ti (y := nI (g * (pF t i))) (pk_mul _ _) ?_
            refine lv_iload (pc := 124) S.1 S.2.1 dX1_init_124 (lv_at hl 4 rfl) ?_
            refine lv_idiv (pc := 126) S.1 S.2.1 dX1_init_126 (by assumption) ?_
            refine hv_ti (y := nI (gB g t i)) (pk_div (by omega) (by omega) (by omega)) ?_
            refine hv_iast (pc := 127) S hK hH hS 1 f_41 rfl (vp_in_nI (by omega) (by omega)) dX1_init_127 (fun H locs hH hS => ?_)
            rw [hv_upd (by omega), pfx_up] at hH
            replace hH := nup (e := .inl (cA 1, 6, .inl (fun j => nI ((pfx (gB g t) zr (i + 1)) j)))) hH
            obtain ⟨φ_45, hφ_45, fa_φ_45, fr_φ_45, hH⟩ := hH
            have f_46 := fr_φ_45 _ _ (hp_ne f_40 f_41 (by intro h; first | (cases h; done) | (simp at h; done))) f_40
            have f_47 := fr_φ_45 _ _ n_q_1_q_6 fa_φ_39
            refine lv_iload (pc := 128) S.1 S.2.1 dX1_init_128 (lv_at hl 5 rfl) ?_
            refine lv_aload_n (pc := 130) S.1 S.2.1 dX1_init_130 rfl (lv_at hl 0 rfl) ?_
            refine hv_get (pc := 131) (C := RX1) (T := TX1) (N := 7) (ref := RX1) S uwX1 hK hH f_46 rfl 2 (by decide) tw_663 (fun _ h9 => h9) rfl dX1_init_131 ?_
            refine lv_iload (pc := 134) S.1 S.2.1 dX1_init_134 (lv_at hl 6 rfl) ?_
            refine hv_iald (pc := 136) S hK hH 1 fa_φ_45 rfl (vp_in_nI (by omega) (by omega)) dX1_init_136 ?_
            refine hv_ti (y := nI ((pfx (gB g t) zr (i + 1)) i)) (hv_ld (by omega)) ?_
            refine hv_ti (y := nI (gB g t i)) (by rw [pfx_lt (by omega)]) ?_
            refine lv_isub (pc := 137) S.1 S.2.1 dX1_init_137 ?_
            refine hv_ti (y := nI (g - smN (gB g t) (i + 1))) (by rw [pk_sub (by omega)]; congr 1; omega) ?_
            refine lv_istore (pc := 138) (lv' := [(5, .int (nI (g - smN (gB g t) (i + 1)))), (0, .ref h0), (1, .ref (ga 0 k)), (2, .int (nI g)), (3, .int (nI t)), (4, .int (nI (smN (pF t) 6))), (6, .int (nI i))]) S.1 S.2.1 dX1_init_138 hl (by decide) rfl (fun ls hl => ?_)
            refine lv_iinc (pc := 140) (v := nI (i + 1)) (lv' := [(6, .int (nI (i + 1))), (5, .int (nI (g - smN (gB g t) (i + 1)))), (0, .ref h0), (1, .ref (ga 0 k)), (2, .int (nI g)), (3, .int (nI t)), (4, .int (nI (smN (pF t) 6)))]) S.1 S.2.1 dX1_init_140 hl (k := 6) rfl (by first | rfl | exact nI_add _ _) (by decide) rfl (fun ls hl => ?_)
            refine lv_goto (pc := 143) (tgt := 82) S.1 S.2.1 dX1_init_143 (by decide) ?_
            have hi2 : ((i + 1) + n = 6) ∧ φ_45 = ups (ups φ_25 q_1 (.inl (cA 1, 6, .inl (fun j => nI ((pfx (fun b => 1200 - 150 * b) zr (i + 1)) j))))) q_6 (.inl (cA 1, 6, .inl (fun j => nI ((pfx (gB g t) zr (i + 1)) j)))) ∧ hp D (Af φ sz) φ_45 H := ⟨by omega, by rw [hφ_45, hφ_39, hφk_32]; funext x; by_cases e2 : x = q_6 <;> by_cases e1 : x = q_1 <;> simp [ups, e1, e2], hH⟩
            have hl2 : lv_has ls 7 [(0, .ref h0), (1, .ref (ga 0 k)), (2, .int (nI g)), (3, .int (nI t)), (4, .int (nI (smN (pF t) 6))), (5, .int (nI (g - smN (gB g t) (i + 1)))), (6, .int (nI (i + 1)))] := lv_sub hl [2, 3, 4, 5, 6, 1, 0] rfl
            apply ih (i := i + 1) (φk_32 := φ_45) <;> assumption
          · skip
            exact absurd c_42 (by omega)
      | zero =>
        obtain ⟨hi, hφk_32, hH⟩ := hi
        have f_48 : φk_32 h0 = some (.inr (5, [.ref (ga 0 k), .ref q_1, .ref q_6, .int (nI 60), .int (nI 0), .null, .int (nI 0)])) := by rw [hφk_32]; exact ups_n (fun h => by rw [h, f_27] at fa_φ_25; cases fa_φ_25) (ups_n (fun h => by rw [h, f_26] at fa_φ_25; cases fa_φ_25) fa_φ_25)
        have f_49 : φk_32 q_1 = some (.inl (cA 1, 6, .inl (fun j => nI ((pfx (fun b => 1200 - 150 * b) zr i) j)))) := by rw [hφk_32]; exact ups_n (fun h => hq2.2 h.symm) (ups_s _ _ _)
        have f_50 : φk_32 q_6 = some (.inl (cA 1, 6, .inl (fun j => nI ((pfx (gB g t) zr i) j)))) := by rw [hφk_32]; exact ups_s _ _ _
        obtain rfl : i = 6 := by omega
        have n_q_6_q_1 : q_6 ≠ q_1 := hq2.2
        have n_q_1_q_6 : q_1 ≠ q_6 := fun h => hq2.2 h.symm
        have hs6 := gB_le g t (i := 6) (Nat.le_refl _)
        have hs6 := gB_le g t (i := 6) (Nat.le_refl _)
        refine lv_iload (pc := 82) S.1 S.2.1 dX1_init_82 (lv_at hl 6 rfl) ?_
        refine lv_bipush (pc := 84) (v := nI 6) S.1 S.2.1 dX1_init_84 (by decide) ?_
        refine hv_icmp_ge (pc := 86) (tgt := 146) (a := 6) (b := 6) S.1 S.2.1 (by omega) (by omega) dX1_init_86 (by decide) (fun c_51 => ?_) (fun c_51 => ?_)
        · skip
          refine lv_aload_n (pc := 146) S.1 S.2.1 dX1_init_146 rfl (lv_at hl 0 rfl) ?_
          refine hv_get (pc := 147) (C := RX1) (T := TX1) (N := 7) (ref := RX1) S uwX1 hK hH f_48 rfl 2 (by decide) tw_663 (fun _ h9 => h9) rfl dX1_init_147 ?_
          refine lv_iconst (pc := 150) (v := nI 0) S.1 S.2.1 dX1_init_150 (by decide) ?_
          refine lv_dup2_11 (pc := 151) S.1 S.2.1 dX1_init_151 rfl rfl ?_
          refine hv_iald (pc := 152) S hK hH 1 f_50 rfl (vp_in_nI (by omega) (by omega)) dX1_init_152 ?_
          refine hv_ti (y := nI ((pfx (gB g t) zr 6) 0)) (hv_ld (by omega)) ?_
          refine lv_iload (pc := 153) S.1 S.2.1 dX1_init_153 (lv_at hl 5 rfl) ?_
          refine lv_iadd (pc := 155) S.1 S.2.1 dX1_init_155 ?_
          refine hv_ti (y := nI (((pfx (gB g t) zr 6) 0) + (g - smN (gB g t) 6))) (nI_add _ _) ?_
          refine hv_ti (y := nI (gB g t 0 + (g - smN (gB g t) 6))) (by rw [pfx_lt (by omega)]) ?_
          refine hv_iast (pc := 156) S hK hH hS 1 f_50 rfl (vp_in_nI (by omega) (by omega)) dX1_init_156 (fun H locs hH hS => ?_)
          rw [hv_upd (by omega)] at hH
          replace hH := nup (e := .inl (cA 1, 6, .inl (fun j => nI ((va_up (pfx (gB g t) zr 6) 0 (gB g t 0 + (g - smN (gB g t) 6))) j)))) hH
          obtain ⟨φ_52, hφ_52, fa_φ_52, fr_φ_52, hH⟩ := hH
          have f_53 := fr_φ_52 _ _ (hp_ne f_48 f_50 (by intro h; first | (cases h; done) | (simp at h; done))) f_48
          have f_54 := fr_φ_52 _ _ n_q_1_q_6 f_49
          exact hv_vret (pc := 157) S hr hlocks hH hS (⟨rfl, q_1, q_6, hq1, hq2.1, hq2.2, by rw [hφ_52, hφk_32, hφ_25, hφ_22, hφ_19, hφ_16, hφ_13, hφ_10, hφ_7, hφ_4, hφ_2]; have n01 := hp_nf f0 hq1; have n02 := hp_nf f0 hq2.1; funext x; by_cases e0 : x = h0 <;> by_cases e2 : x = q_6 <;> by_cases e1 : x = q_1 <;> simp_all [ups]⟩) (Nat.le_of_ble_eq_true rfl) (Nat.le_of_ble_eq_true rfl) dX1_init_157
        · skip
          exact absurd c_51 (by omega)
    · skip
      exact absurd c_31 (by omega)
