set_option maxHeartbeats 4000000 in
set_option maxRecDepth 100000 in
/-- Cone.partOf(band, taper) -/
theorem c_X1_partOf (l : Launch) (D : va_G) (cA : Nat → ClassId) (ga : Nat → Nat → Nat) (φ : hpM) (sz : Nat) (b t : Nat) : hM l yX1_partOf cX1_partOf 2 (some .int) { frames := 8, cells := 0, slots := 0, locals := 200 } [.int (nI b), .int (nI t)] D cA ga φ sz (fun v φ' => v = some (.int (nI (10 + t * b))) ∧ φ' = φ) 0 0 := by
  refine hM.of (by decide) (Nat.le_of_ble_eq_true rfl) rfl ?_
  intro p e s m args below meth c ls H locs S hr hlocks hnm hsz hHz hH hK hX hS hA hl
  refine lv_bipush (pc := 0) (v := nI 10) S.1 S.2.1 dX1_partOf_0 (by decide) ?_
  refine lv_iload_n (pc := 2) S.1 S.2.1 dX1_partOf_2 rfl (lv_at hl 1 rfl) ?_
  refine lv_iload_n (pc := 3) S.1 S.2.1 dX1_partOf_3 rfl (lv_at hl 0 rfl) ?_
  refine lv_imul (pc := 4) S.1 S.2.1 dX1_partOf_4 ?_
  refine hv_ti (y := nI (t * b)) (pk_mul _ _) ?_
  refine lv_iadd (pc := 5) S.1 S.2.1 dX1_partOf_5 ?_
  refine hv_ti (y := nI (10 + (t * b))) (nI_add _ _) ?_
  exact hv_ret (pc := 6) (v := nI (10 + (t * b))) S hr rfl hlocks hH hS (⟨rfl, rfl⟩) (Nat.le_of_ble_eq_true rfl) (Nat.le_of_ble_eq_true rfl) dX1_partOf_6

set_option maxHeartbeats 4000000 in
set_option maxRecDepth 100000 in
/-- Cone.widthFormed(band) -/
theorem c_X1_widthFormed (l : Launch) (D : va_G) (cA : Nat → ClassId) (ga : Nat → Nat → Nat) (φ : hpM) (sz : Nat) (b : Nat) (hb : b < 6) : hM l yX1_widthFormed cX1_widthFormed 1 (some .int) { frames := 8, cells := 0, slots := 0, locals := 200 } [.int (nI b)] D cA ga φ sz (fun v φ' => v = some (.int (nI (1200 - 150 * b))) ∧ φ' = φ) 0 0 := by
  refine hM.of (by decide) (Nat.le_of_ble_eq_true rfl) rfl ?_
  intro p e s m args below meth c ls H locs S hr hlocks hnm hsz hHz hH hK hX hS hA hl
  refine lv_sipush (pc := 0) (v := nI 1200) S.1 S.2.1 dX1_widthFormed_0 (by decide) ?_
  refine lv_sipush (pc := 3) (v := nI 150) S.1 S.2.1 dX1_widthFormed_3 (by decide) ?_
  refine lv_iload_n (pc := 6) S.1 S.2.1 dX1_widthFormed_6 rfl (lv_at hl 0 rfl) ?_
  refine lv_imul (pc := 7) S.1 S.2.1 dX1_widthFormed_7 ?_
  refine hv_ti (y := nI (150 * b)) (pk_mul _ _) ?_
  refine lv_isub (pc := 8) S.1 S.2.1 dX1_widthFormed_8 ?_
  refine hv_ti (y := nI (1200 - (150 * b))) (pk_sub (by omega)) ?_
  exact hv_ret (pc := 9) (v := nI (1200 - (150 * b))) S hr rfl hlocks hH hS (⟨rfl, rfl⟩) (Nat.le_of_ble_eq_true rfl) (Nat.le_of_ble_eq_true rfl) dX1_widthFormed_9

set_option maxHeartbeats 4000000 in
set_option maxRecDepth 100000 in
/-- Cone.widthOf(band) -/
theorem c_X1_widthOf (l : Launch) (D : va_G) (cA : Nat → ClassId) (ga : Nat → Nat → Nat) (φ : hpM) (sz : Nat) (h0 wq gq k ht cy tr : Nat) (lb : Value) (wf mf : Nat → Nat) (b : Nat) (f0 : φ h0 = some (.inr (5, [.ref (ga 0 k), .ref wq, .ref gq, .int (nI ht), .int (nI cy), lb, .int (nI tr)]))) (f1 : φ wq = some (.inl (cA 1, 6, .inl (fun j => nI (wf j))))) (f2 : φ gq = some (.inl (cA 1, 6, .inl (fun j => nI (mf j))))) (hb : b < 6) : hM l yX1_widthOf cX1_widthOf 2 (some .int) { frames := 8, cells := 0, slots := 0, locals := 200 } [.ref h0, .int (nI b)] D cA ga φ sz (fun v φ' => v = some (.int (nI (wf b))) ∧ φ' = φ) 0 0 := by
  refine hM.of (by decide) (Nat.le_of_ble_eq_true rfl) rfl ?_
  intro p e s m args below meth c ls H locs S hr hlocks hnm hsz hHz hH hK hX hS hA hl
  refine lv_iload_n (pc := 0) S.1 S.2.1 dX1_widthOf_0 rfl (lv_at hl 1 rfl) ?_
  refine hv_if_lt (pc := 1) (tgt := 13) (a := b) S.1 S.2.1 (by omega) dX1_widthOf_1 (by decide) (fun c_1 => ?_) (fun c_1 => ?_)
  · skip
    exact c_1.elim
  · skip
    refine lv_iload_n (pc := 4) S.1 S.2.1 dX1_widthOf_4 rfl (lv_at hl 1 rfl) ?_
    refine lv_aload_n (pc := 5) S.1 S.2.1 dX1_widthOf_5 rfl (lv_at hl 0 rfl) ?_
    refine hv_get (pc := 6) (C := RX1) (T := TX1) (N := 7) (ref := RX1) S uwX1 hK hH f0 rfl 1 (by decide) tw_628 (fun _ h9 => h9) rfl dX1_widthOf_6 ?_
    refine hv_alen (pc := 9) (v := nI 6) S hK hH 1 f1 rfl rfl dX1_widthOf_9 ?_
    refine hv_icmp_lt (pc := 10) (tgt := 17) (a := b) (b := 6) S.1 S.2.1 (by omega) (by omega) dX1_widthOf_10 (by decide) (fun c_2 => ?_) (fun c_2 => ?_)
    · skip
      refine lv_aload_n (pc := 17) S.1 S.2.1 dX1_widthOf_17 rfl (lv_at hl 0 rfl) ?_
      refine hv_get (pc := 18) (C := RX1) (T := TX1) (N := 7) (ref := RX1) S uwX1 hK hH f0 rfl 1 (by decide) tw_628 (fun _ h9 => h9) rfl dX1_widthOf_18 ?_
      refine lv_iload_n (pc := 21) S.1 S.2.1 dX1_widthOf_21 rfl (lv_at hl 1 rfl) ?_
      refine hv_iald (pc := 22) S hK hH 1 f1 rfl (vp_in_nI (by omega) (by omega)) dX1_widthOf_22 ?_
      refine hv_ti (y := nI (wf b)) (hv_ld (by omega)) ?_
      exact hv_ret (pc := 23) (v := nI (wf b)) S hr rfl hlocks hH hS (⟨rfl, rfl⟩) (Nat.le_of_ble_eq_true rfl) (Nat.le_of_ble_eq_true rfl) dX1_widthOf_23
    · skip
      exact absurd c_2 (by omega)

set_option maxHeartbeats 4000000 in
set_option maxRecDepth 100000 in
/-- Cone.gramsOf(band) -/
theorem c_X1_gramsOf (l : Launch) (D : va_G) (cA : Nat → ClassId) (ga : Nat → Nat → Nat) (φ : hpM) (sz : Nat) (h0 wq gq k ht cy tr : Nat) (lb : Value) (wf mf : Nat → Nat) (b : Nat) (f0 : φ h0 = some (.inr (5, [.ref (ga 0 k), .ref wq, .ref gq, .int (nI ht), .int (nI cy), lb, .int (nI tr)]))) (f1 : φ wq = some (.inl (cA 1, 6, .inl (fun j => nI (wf j))))) (f2 : φ gq = some (.inl (cA 1, 6, .inl (fun j => nI (mf j))))) (hb : b < 6) : hM l yX1_gramsOf cX1_gramsOf 2 (some .int) { frames := 8, cells := 0, slots := 0, locals := 200 } [.ref h0, .int (nI b)] D cA ga φ sz (fun v φ' => v = some (.int (nI (mf b))) ∧ φ' = φ) 0 0 := by
  refine hM.of (by decide) (Nat.le_of_ble_eq_true rfl) rfl ?_
  intro p e s m args below meth c ls H locs S hr hlocks hnm hsz hHz hH hK hX hS hA hl
  refine lv_iload_n (pc := 0) S.1 S.2.1 dX1_gramsOf_0 rfl (lv_at hl 1 rfl) ?_
  refine hv_if_lt (pc := 1) (tgt := 13) (a := b) S.1 S.2.1 (by omega) dX1_gramsOf_1 (by decide) (fun c_1 => ?_) (fun c_1 => ?_)
  · skip
    exact c_1.elim
  · skip
    refine lv_iload_n (pc := 4) S.1 S.2.1 dX1_gramsOf_4 rfl (lv_at hl 1 rfl) ?_
    refine lv_aload_n (pc := 5) S.1 S.2.1 dX1_gramsOf_5 rfl (lv_at hl 0 rfl) ?_
    refine hv_get (pc := 6) (C := RX1) (T := TX1) (N := 7) (ref := RX1) S uwX1 hK hH f0 rfl 2 (by decide) tw_629 (fun _ h9 => h9) rfl dX1_gramsOf_6 ?_
    refine hv_alen (pc := 9) (v := nI 6) S hK hH 1 f2 rfl rfl dX1_gramsOf_9 ?_
    refine hv_icmp_lt (pc := 10) (tgt := 17) (a := b) (b := 6) S.1 S.2.1 (by omega) (by omega) dX1_gramsOf_10 (by decide) (fun c_2 => ?_) (fun c_2 => ?_)
    · skip
      refine lv_aload_n (pc := 17) S.1 S.2.1 dX1_gramsOf_17 rfl (lv_at hl 0 rfl) ?_
      refine hv_get (pc := 18) (C := RX1) (T := TX1) (N := 7) (ref := RX1) S uwX1 hK hH f0 rfl 2 (by decide) tw_629 (fun _ h9 => h9) rfl dX1_gramsOf_18 ?_
      refine lv_iload_n (pc := 21) S.1 S.2.1 dX1_gramsOf_21 rfl (lv_at hl 1 rfl) ?_
      refine hv_iald (pc := 22) S hK hH 1 f2 rfl (vp_in_nI (by omega) (by omega)) dX1_gramsOf_22 ?_
      refine hv_ti (y := nI (mf b)) (hv_ld (by omega)) ?_
      exact hv_ret (pc := 23) (v := nI (mf b)) S hr rfl hlocks hH hS (⟨rfl, rfl⟩) (Nat.le_of_ble_eq_true rfl) (Nat.le_of_ble_eq_true rfl) dX1_gramsOf_23
    · skip
      exact absurd c_2 (by omega)

set_option maxHeartbeats 4000000 in
set_option maxRecDepth 100000 in
/-- Cone.thicknessOf(band) -/
theorem c_X1_thicknessOf (l : Launch) (D : va_G) (cA : Nat → ClassId) (ga : Nat → Nat → Nat) (φ : hpM) (sz : Nat) (h0 wq gq k ht cy tr : Nat) (lb : Value) (wf mf : Nat → Nat) (b : Nat) (f0 : φ h0 = some (.inr (5, [.ref (ga 0 k), .ref wq, .ref gq, .int (nI ht), .int (nI cy), lb, .int (nI tr)]))) (f1 : φ wq = some (.inl (cA 1, 6, .inl (fun j => nI (wf j))))) (f2 : φ gq = some (.inl (cA 1, 6, .inl (fun j => nI (mf j))))) (hk : k < 4) (hw : ∀ j, wf j ≤ 1200) (hh : ht ≤ 60) (hg : ∀ j, mf j ≤ 500) (hb : b < 6) : hM l yX1_thicknessOf cX1_thicknessOf 3 (some .int) { frames := 9, cells := 0, slots := 0, locals := 260 } [.ref h0, .int (nI b)] D cA ga φ sz (fun v φ' => v = some (.int (nI (mf b * 100000 / (wf b * ht)))) ∧ φ' = φ) 0 0 := by
  refine hM.of (by decide) (Nat.le_of_ble_eq_true rfl) rfl ?_
  intro p e s m args below meth c ls H locs S hr hlocks hnm hsz hHz hH hK hX hS hA hl
  have hw1 := hw b
  have hg1 := hg b
  have hm : wf b * ht ≤ 1200 * 60 := Nat.mul_le_mul hw1 hh
  refine lv_aload_n (pc := 0) S.1 S.2.1 dX1_thicknessOf_0 rfl (lv_at hl 0 rfl) ?_
  refine lv_iload_n (pc := 1) S.1 S.2.1 dX1_thicknessOf_1 rfl (lv_at hl 1 rfl) ?_
  refine hv_call (pc := 2) (va_runV (As := [.int (nI b)]) (rest := []) S (c_X1_widthOf l D cA ga φ H.size h0 wq gq k ht cy tr lb wf mf b f0 f1 f2 hb) (cwV 1 S.2.2.2.2 (gV tw_757 tw_712 sw_11 tw_24 tw_713) rfl rfl rfl (by decide +kernel) ⟨Nat.le_of_ble_eq_true rfl, Nat.le_of_ble_eq_true rfl⟩) (pre0_V hH hK hX hS hA (hH.recv hK f0 rfl)) rfl rfl hl.1 rfl (lv_room (Nat.le_of_ble_eq_true rfl)) dX1_thicknessOf_2 ⟨Nat.le_of_ble_eq_true rfl, Nat.le_of_ble_eq_true rfl⟩) hS (af_le hH hS hA) (fun v_1 φ_2 H locs hw_v_1 hH hS => ?_)
  obtain ⟨rfl, hqv_1⟩ := hw_v_1
  rw [hqv_1] at hH
  refine lv_aload_n (pc := 5) S.1 S.2.1 dX1_thicknessOf_5 rfl (lv_at hl 0 rfl) ?_
  refine hv_get (pc := 6) (C := RX1) (T := TX1) (N := 7) (ref := RX1) S uwX1 hK hH f0 rfl 3 (by decide) tw_630 (fun _ h9 => h9) rfl dX1_thicknessOf_6 ?_
  refine lv_imul (pc := 9) S.1 S.2.1 dX1_thicknessOf_9 ?_
  refine hv_ti (y := nI ((wf b) * ht)) (pk_mul _ _) ?_
  refine lv_istore_n (pc := 10) (lv' := [(2, .int (nI ((wf b) * ht))), (0, .ref h0), (1, .int (nI b))]) S.1 S.2.1 dX1_thicknessOf_10 rfl hl (by decide) rfl (fun ls hl => ?_)
  refine lv_iload_n (pc := 11) S.1 S.2.1 dX1_thicknessOf_11 rfl (lv_at hl 0 rfl) ?_
  refine hv_if_gt (pc := 12) (tgt := 19) (a := (wf b) * ht) S.1 S.2.1 (by omega) dX1_thicknessOf_12 (by decide) (fun c_3 => ?_) (fun c_3 => ?_)
  · skip
    refine lv_aload_n (pc := 19) S.1 S.2.1 dX1_thicknessOf_19 rfl (lv_at hl 1 rfl) ?_
    refine lv_iload_n (pc := 20) S.1 S.2.1 dX1_thicknessOf_20 rfl (lv_at hl 2 rfl) ?_
    refine hv_call (pc := 21) (va_runV (As := [.int (nI b)]) (rest := []) S (c_X1_gramsOf l D cA ga φ H.size h0 wq gq k ht cy tr lb wf mf b f0 f1 f2 hb) (cwV 1 S.2.2.2.2 (gV tw_758 tw_760 sw_16 tw_24 tw_761) rfl rfl rfl (by decide +kernel) ⟨Nat.le_of_ble_eq_true rfl, Nat.le_of_ble_eq_true rfl⟩) (pre0_V hH hK hX hS hA (hH.recv hK f0 rfl)) rfl rfl hl.1 rfl (lv_room (Nat.le_of_ble_eq_true rfl)) dX1_thicknessOf_21 ⟨Nat.le_of_ble_eq_true rfl, Nat.le_of_ble_eq_true rfl⟩) hS (af_le hH hS hA) (fun v_4 φ_5 H locs hw_v_4 hH hS => ?_)
    obtain ⟨rfl, hqv_4⟩ := hw_v_4
    rw [hqv_4] at hH
    have hne : ¬ nI (wf b * ht) = 0 := nI_ne0 c_3 (by omega)
    refine lv_ldc (pc := 24) (v := nI 100000) S.1 S.2.1 S.2.2.2.1 (S.2.2.2.2 _ tw_762) dX1_thicknessOf_24 ?_
    refine lv_imul (pc := 26) S.1 S.2.1 dX1_thicknessOf_26 ?_
    refine hv_ti (y := nI ((mf b) * 100000)) (pk_mul _ _) ?_
    refine lv_iload_n (pc := 27) S.1 S.2.1 dX1_thicknessOf_27 rfl (lv_at hl 0 rfl) ?_
    refine lv_idiv (pc := 28) S.1 S.2.1 dX1_thicknessOf_28 (by assumption) ?_
    refine hv_ti (y := nI (mf b * 100000 / (wf b * ht))) (pk_div (by omega) c_3 (by omega)) ?_
    exact hv_ret (pc := 29) (v := nI (mf b * 100000 / (wf b * ht))) S hr rfl hlocks hH hS (⟨rfl, rfl⟩) (Nat.le_of_ble_eq_true rfl) (Nat.le_of_ble_eq_true rfl) dX1_thicknessOf_29
  · skip
    refine lv_iconst (pc := 15) (v := nI 0) S.1 S.2.1 dX1_thicknessOf_15 (by decide) ?_
    refine lv_goto (pc := 16) (tgt := 29) S.1 S.2.1 dX1_thicknessOf_16 (by decide) ?_
    exact hv_ret (pc := 29) (v := nI 0) S hr rfl hlocks hH hS (⟨by rw [c_3, Nat.div_zero], rfl⟩) (Nat.le_of_ble_eq_true rfl) (Nat.le_of_ble_eq_true rfl) dX1_thicknessOf_29

/-- is a band from j on, of n bands, thinner than 40? -/
def hoF (wf mf : Nat → Nat) (ht : Nat) : Nat → Nat → Nat
  | 0, _ => 0
  | n + 1, j => if mf j * 100000 / (wf j * ht) < 40 then 1 else hoF wf mf ht n (j + 1)
set_option maxHeartbeats 4000000 in
set_option maxRecDepth 100000 in
/-- Cone.hasHole() -/
theorem c_X1_hasHole (l : Launch) (D : va_G) (cA : Nat → ClassId) (ga : Nat → Nat → Nat) (φ : hpM) (sz : Nat) (h0 wq gq k ht cy tr : Nat) (lb : Value) (wf mf : Nat → Nat) (f0 : φ h0 = some (.inr (5, [.ref (ga 0 k), .ref wq, .ref gq, .int (nI ht), .int (nI cy), lb, .int (nI tr)]))) (f1 : φ wq = some (.inl (cA 1, 6, .inl (fun j => nI (wf j))))) (f2 : φ gq = some (.inl (cA 1, 6, .inl (fun j => nI (mf j))))) (hk : k < 4) (hw : ∀ j, wf j ≤ 1200) (hh : ht ≤ 60) (hg : ∀ j, mf j ≤ 500) : hM l yX1_hasHole cX1_hasHole 2 (some .boolean) { frames := 10, cells := 0, slots := 0, locals := 320 } [.ref h0] D cA ga φ sz (fun v φ' => v = some (.int (nI (hoF wf mf ht 6 0))) ∧ φ' = φ) 0 0 := by
  refine hM.of (by decide) (Nat.le_of_ble_eq_true rfl) rfl ?_
  intro p e s m args below meth c ls H locs S hr hlocks hnm hsz hHz hH hK hX hS hA hl
  refine lv_iconst (pc := 0) (v := nI 0) S.1 S.2.1 dX1_hasHole_0 (by decide) ?_
  refine lv_istore_n (pc := 1) (lv' := [(1, .int (nI 0)), (0, .ref h0)]) S.1 S.2.1 dX1_hasHole_1 rfl hl (by decide) rfl (fun ls hl => ?_)
  have hg : ∃ (n i : Nat), (i + n = 6 ∧ hoF wf mf ht 6 0 = hoF wf mf ht n i) ∧ lv_has ls 2 [(0, .ref h0), (1, .int (nI i))] := ⟨6, 0, ⟨rfl, rfl⟩, lv_sub hl [1, 0] rfl⟩
  clear hl
  try clear hHz
  obtain ⟨n, i, hi, hl⟩ := hg
  induction n generalizing ls H locs i with
  | zero =>
    obtain ⟨hi, hrc⟩ := hi
    refine lv_iload_n (pc := 2) S.1 S.2.1 dX1_hasHole_2 rfl (lv_at hl 1 rfl) ?_
    refine lv_bipush (pc := 3) (v := nI 6) S.1 S.2.1 dX1_hasHole_3 (by decide) ?_
    refine hv_icmp_ge (pc := 5) (tgt := 26) (a := i) (b := 6) S.1 S.2.1 (by omega) (by omega) dX1_hasHole_5 (by decide) (fun c_1 => ?_) (fun c_1 => ?_)
    · skip
      refine lv_iconst (pc := 26) (v := nI 0) S.1 S.2.1 dX1_hasHole_26 (by decide) ?_
      exact hv_ret (pc := 27) (v := nI 0) S hr rfl hlocks hH hS (⟨by rw [hrc]; rfl, rfl⟩) (Nat.le_of_ble_eq_true rfl) (Nat.le_of_ble_eq_true rfl) dX1_hasHole_27
    · skip
      exact absurd c_1 (by omega)
  | succ n ih =>
    obtain ⟨hi, hrc⟩ := hi
    have hdv : mf i * 100000 / (wf i * ht) ≤ mf i * 100000 := Nat.div_le_self _ _
    have hg1 := hg i
    refine lv_iload_n (pc := 2) S.1 S.2.1 dX1_hasHole_2 rfl (lv_at hl 1 rfl) ?_
    refine lv_bipush (pc := 3) (v := nI 6) S.1 S.2.1 dX1_hasHole_3 (by decide) ?_
    refine hv_icmp_ge (pc := 5) (tgt := 26) (a := i) (b := 6) S.1 S.2.1 (by omega) (by omega) dX1_hasHole_5 (by decide) (fun c_2 => ?_) (fun c_2 => ?_)
    · skip
      exact absurd c_2 (by omega)
    · skip
      refine lv_aload_n (pc := 8) S.1 S.2.1 dX1_hasHole_8 rfl (lv_at hl 0 rfl) ?_
      refine lv_iload_n (pc := 9) S.1 S.2.1 dX1_hasHole_9 rfl (lv_at hl 1 rfl) ?_
      refine hv_call (pc := 10) (va_runV (As := [.int (nI i)]) (rest := []) S (c_X1_thicknessOf l D cA ga φ H.size h0 wq gq k ht cy tr lb wf mf i f0 f1 f2 hk hw hh hg (by omega)) (cwV 1 S.2.2.2.2 (gV tw_753 tw_755 sw_15 tw_24 tw_756) rfl rfl rfl (by decide +kernel) ⟨Nat.le_of_ble_eq_true rfl, Nat.le_of_ble_eq_true rfl⟩) (pre0_V hH hK hX hS hA (hH.recv hK f0 rfl)) rfl rfl hl.1 rfl (lv_room (Nat.le_of_ble_eq_true rfl)) dX1_hasHole_10 ⟨Nat.le_of_ble_eq_true rfl, Nat.le_of_ble_eq_true rfl⟩) hS (af_le hH hS hA) (fun v_3 φ_4 H locs hw_v_3 hH hS => ?_)
      obtain ⟨rfl, hqv_3⟩ := hw_v_3
      rw [hqv_3] at hH
      refine lv_bipush (pc := 13) (v := nI 40) S.1 S.2.1 dX1_hasHole_13 (by decide) ?_
      refine hv_icmp_ge (pc := 15) (tgt := 20) (a := mf i * 100000 / (wf i * ht)) (b := 40) S.1 S.2.1 (by omega) (by omega) dX1_hasHole_15 (by decide) (fun c_5 => ?_) (fun c_5 => ?_)
      · skip
        refine lv_iinc (pc := 20) (v := nI (i + 1)) (lv' := [(1, .int (nI (i + 1))), (0, .ref h0)]) S.1 S.2.1 dX1_hasHole_20 hl (k := 1) rfl (by first | rfl | exact nI_add _ _) (by decide) rfl (fun ls hl => ?_)
        refine lv_goto (pc := 23) (tgt := 2) S.1 S.2.1 dX1_hasHole_23 (by decide) ?_
        have hi2 : (i + 1) + n = 6 ∧ hoF wf mf ht 6 0 = hoF wf mf ht n (i + 1) := ⟨by omega, by rw [hrc, hoF, if_neg (by omega)]⟩
        have hl2 : lv_has ls 2 [(0, .ref h0), (1, .int (nI (i + 1)))] := lv_sub hl [1, 0] rfl
        apply ih (i := i + 1) <;> assumption
      · skip
        refine lv_iconst (pc := 18) (v := nI 1) S.1 S.2.1 dX1_hasHole_18 (by decide) ?_
        exact hv_ret (pc := 19) (v := nI 1) S hr rfl hlocks hH hS (⟨by rw [hrc, hoF, if_pos (by omega)], rfl⟩) (Nat.le_of_ble_eq_true rfl) (Nat.le_of_ble_eq_true rfl) dX1_hasHole_19

/-- does a band bear it? -/
def toN (k mo w : Nat) : Nat := if w = 0 then 1 else if fStr k < 100 * mo / w then 1 else 0
set_option maxHeartbeats 4000000 in
set_option maxRecDepth 100000 in
/-- Cone.isTornBy(more, width) -/
theorem c_X1_isTornBy (l : Launch) (D : va_G) (cA : Nat → ClassId) (ga : Nat → Nat → Nat) (φ : hpM) (sz : Nat) (h0 wq gq k ht cy tr : Nat) (lb : Value) (wf mf : Nat → Nat) (mo w : Nat) (f0 : φ h0 = some (.inr (5, [.ref (ga 0 k), .ref wq, .ref gq, .int (nI ht), .int (nI cy), lb, .int (nI tr)]))) (hk : k < 4) (hm : mo ≤ 700) (hw : w ≤ 1200) : hM l yX1_isTornBy cX1_isTornBy 3 (some .boolean) { frames := 8, cells := 0, slots := 0, locals := 200 } [.ref h0, .int (nI mo), .int (nI w)] D cA ga φ sz (fun v φ' => v = some (.int (nI (toN k mo w))) ∧ φ' = φ) 0 0 := by
  refine hM.of (by decide) (Nat.le_of_ble_eq_true rfl) rfl ?_
  intro p e s m args below meth c ls H locs S hr hlocks hnm hsz hHz hH hK hX hS hA hl
  have hdv : 100 * mo / w ≤ 100 * mo := Nat.div_le_self _ _
  have hs1 := fStr_le k
  refine lv_iload_n (pc := 0) S.1 S.2.1 dX1_isTornBy_0 rfl (lv_at hl 2 rfl) ?_
  refine hv_if_le (pc := 1) (tgt := 20) (a := w) S.1 S.2.1 (by omega) dX1_isTornBy_1 (by decide) (fun c_1 => ?_) (fun c_1 => ?_)
  · skip
    refine lv_iconst (pc := 20) (v := nI 1) S.1 S.2.1 dX1_isTornBy_20 (by decide) ?_
    refine lv_goto (pc := 21) (tgt := 25) S.1 S.2.1 dX1_isTornBy_21 (by decide) ?_
    exact hv_ret (pc := 25) (v := nI 1) S hr rfl hlocks hH hS (⟨by rw [toN, if_pos c_1], rfl⟩) (Nat.le_of_ble_eq_true rfl) (Nat.le_of_ble_eq_true rfl) dX1_isTornBy_25
  · skip
    have hne : ¬ nI w = 0 := nI_ne0 c_1 (by omega)
    refine lv_bipush (pc := 4) (v := nI 100) S.1 S.2.1 dX1_isTornBy_4 (by decide) ?_
    refine lv_iload_n (pc := 6) S.1 S.2.1 dX1_isTornBy_6 rfl (lv_at hl 1 rfl) ?_
    refine lv_imul (pc := 7) S.1 S.2.1 dX1_isTornBy_7 ?_
    refine hv_ti (y := nI (100 * mo)) (pk_mul _ _) ?_
    refine lv_iload_n (pc := 8) S.1 S.2.1 dX1_isTornBy_8 rfl (lv_at hl 2 rfl) ?_
    refine lv_idiv (pc := 9) S.1 S.2.1 dX1_isTornBy_9 (by assumption) ?_
    refine hv_ti (y := nI (100 * mo / w)) (pk_div (by omega) c_1 (by omega)) ?_
    refine lv_aload_n (pc := 10) S.1 S.2.1 dX1_isTornBy_10 rfl (lv_at hl 0 rfl) ?_
    refine hv_get (pc := 11) (C := RX1) (T := TX1) (N := 7) (ref := RX1) S uwX1 hK hH f0 rfl 0 (by decide) tw_626 (fun _ h9 => h9) rfl dX1_isTornBy_11 ?_
    refine hv_getXN (pc := 14) (i := k) (ref := RX3) (index := 76) (host := "HatbandYard") S hX.fur_strain hk hS (hX.nest _ (by decide +kernel)) (fun _ h9 => h9) dX1_isTornBy_14 ?_
    refine hv_icmp_le (pc := 17) (tgt := 24) (a := 100 * mo / w) (b := fStr k) S.1 S.2.1 (by omega) (by omega) dX1_isTornBy_17 (by decide) (fun c_2 => ?_) (fun c_2 => ?_)
    · skip
      refine lv_iconst (pc := 24) (v := nI 0) S.1 S.2.1 dX1_isTornBy_24 (by decide) ?_
      exact hv_ret (pc := 25) (v := nI 0) S hr rfl hlocks hH hS (⟨by rw [toN, if_neg (by omega), if_neg (by omega)], rfl⟩) (Nat.le_of_ble_eq_true rfl) (Nat.le_of_ble_eq_true rfl) dX1_isTornBy_25
    · skip
      refine lv_iconst (pc := 20) (v := nI 1) S.1 S.2.1 dX1_isTornBy_20 (by decide) ?_
      refine lv_goto (pc := 21) (tgt := 25) S.1 S.2.1 dX1_isTornBy_21 (by decide) ?_
      exact hv_ret (pc := 25) (v := nI 1) S hr rfl hlocks hH hS (⟨by rw [toN, if_neg (by omega), if_pos (by omega)], rfl⟩) (Nat.le_of_ble_eq_true rfl) (Nat.le_of_ble_eq_true rfl) dX1_isTornBy_25

/-- the widths of which the first i have had a cycle -/
def shP (k : Nat) (wf : Nat → Nat) (i : Nat) : Nat → Nat := fun j => if j < i then shA k (wf j) else wf j
theorem shP_0 (k : Nat) (wf : Nat → Nat) : shP k wf 0 = wf := by funext j; simp [shP]
theorem shP_at (k : Nat) (wf : Nat → Nat) (i : Nat) : shP k wf i i = wf i := by simp [shP]
theorem shP_up (k : Nat) (wf : Nat → Nat) (i : Nat) : va_up (shP k wf i) i (shA k (wf i)) = shP k wf (i + 1) := by
  funext j
  by_cases h : j = i
  · subst h; simp [va_up, shP]
  · by_cases h2 : j < i
    · simp [va_up, shP, h, h2, show j < i + 1 by omega]
    · simp [va_up, shP, h, h2, show ¬ j < i + 1 by omega]
set_option maxHeartbeats 4000000 in
set_option maxRecDepth 100000 in
/-- Cone.shrink() -/
theorem c_X1_shrink (l : Launch) (D : va_G) (cA : Nat → ClassId) (ga : Nat → Nat → Nat) (φ : hpM) (sz : Nat) (h0 wq gq k ht cy tr : Nat) (lb : Value) (wf mf : Nat → Nat) (f0 : φ h0 = some (.inr (5, [.ref (ga 0 k), .ref wq, .ref gq, .int (nI ht), .int (nI cy), lb, .int (nI tr)]))) (f1 : φ wq = some (.inl (cA 1, 6, .inl (fun j => nI (wf j))))) (f2 : φ gq = some (.inl (cA 1, 6, .inl (fun j => nI (mf j))))) (hk : k < 4) (hw : ∀ j, wf j ≤ 1200) (hh : ht ≤ 60) (hg : ∀ j, mf j ≤ 500) : hM l yX1_shrink cX1_shrink 2 none { frames := 9, cells := 0, slots := 0, locals := 260 } [.ref h0] D cA ga φ sz (fun v φ' => v = none ∧ φ' = ups (ups φ wq (.inl (cA 1, 6, .inl (fun j => nI ((shP k wf 6) j))))) h0 (.inr (5, [.ref (ga 0 k), .ref wq, .ref gq, .int (nI (shL k ht)), .int (nI (cy + 1)), lb, .int (nI tr)]))) 0 0 := by
  refine hM.of (by decide) (Nat.le_of_ble_eq_true rfl) rfl ?_
  intro p e s m args below meth c ls H locs S hr hlocks hnm hsz hHz hH hK hX hS hA hl
  refine lv_iconst (pc := 0) (v := nI 0) S.1 S.2.1 dX1_shrink_0 (by decide) ?_
  refine lv_istore_n (pc := 1) (lv' := [(1, .int (nI 0)), (0, .ref h0)]) S.1 S.2.1 dX1_shrink_1 rfl hl (by decide) rfl (fun ls hl => ?_)
  have hg : ∃ (n i : Nat) (φk_1 : hpM), ((i + n = 6) ∧ φk_1 = ups φ wq (.inl (cA 1, 6, .inl (fun j => nI ((shP k wf i) j)))) ∧ hp D (Af φ sz) φk_1 H) ∧ lv_has ls 2 [(0, .ref h0), (1, .int (nI i))] := ⟨6, 0, φ, ⟨rfl, by rw [shP_0]; exact ups_id f1, hH⟩, lv_sub hl [1, 0] rfl⟩
  clear hl hH
  try clear hHz
  obtain ⟨n, i, φk_1, hi, hl⟩ := hg
  induction n generalizing ls H locs i φk_1 with
  | zero =>
    obtain ⟨hi, hφk_1, hH⟩ := hi
    have f_2 : φk_1 h0 = some (.inr (5, [.ref (ga 0 k), .ref wq, .ref gq, .int (nI ht), .int (nI cy), lb, .int (nI tr)])) := by rw [hφk_1]; exact ups_n (hp_ne f0 f1 (by intro h; cases h)) f0
    have f_3 : φk_1 wq = some (.inl (cA 1, 6, .inl (fun j => nI ((shP k wf i) j)))) := by rw [hφk_1]; exact ups_s _ _ _
    obtain rfl : i = 6 := by omega
    refine lv_iload_n (pc := 2) S.1 S.2.1 dX1_shrink_2 rfl (lv_at hl 1 rfl) ?_
    refine lv_aload_n (pc := 3) S.1 S.2.1 dX1_shrink_3 rfl (lv_at hl 0 rfl) ?_
    refine hv_get (pc := 4) (C := RX1) (T := TX1) (N := 7) (ref := RX1) S uwX1 hK hH f_2 rfl 1 (by decide) tw_628 (fun _ h9 => h9) rfl dX1_shrink_4 ?_
    refine hv_alen (pc := 7) (v := nI 6) S hK hH 1 f_3 rfl rfl dX1_shrink_7 ?_
    refine hv_icmp_ge (pc := 8) (tgt := 36) (a := 6) (b := 6) S.1 S.2.1 (by omega) (by omega) dX1_shrink_8 (by decide) (fun c_4 => ?_) (fun c_4 => ?_)
    · skip
      refine lv_aload_n (pc := 36) S.1 S.2.1 dX1_shrink_36 rfl (lv_at hl 0 rfl) ?_
      refine lv_aload_n (pc := 37) S.1 S.2.1 dX1_shrink_37 rfl (lv_at hl 0 rfl) ?_
      refine hv_get (pc := 38) (C := RX1) (T := TX1) (N := 7) (ref := RX1) S uwX1 hK hH f_2 rfl 0 (by decide) tw_626 (fun _ h9 => h9) rfl dX1_shrink_38 ?_
      refine lv_aload_n (pc := 41) S.1 S.2.1 dX1_shrink_41 rfl (lv_at hl 0 rfl) ?_
      refine hv_get (pc := 42) (C := RX1) (T := TX1) (N := 7) (ref := RX1) S uwX1 hK hH f_2 rfl 3 (by decide) tw_630 (fun _ h9 => h9) rfl dX1_shrink_42 ?_
      refine hv_call (pc := 45) (va_runVNn (As := [.int (nI ht)]) (rest := [.ref h0]) S (c_X3_shrunkAlong l D cA ga φk_1 H.size k ht hk (by omega)) ⟨va_cnBn (host := "HatbandYard") 1 S.2.2.2.2 (gw tw_709) rfl rfl rfl (hX.nest _ (by decide +kernel)) (by decide +kernel) ⟨Nat.le_of_ble_eq_true rfl, Nat.le_of_ble_eq_true rfl⟩, S.2.2.2.2 _ tw_708, S.2.2.2.2 _ sw_10⟩ (pre0_V hH hK hX hS hA (o_recv (hX.furO k hk) hS)) rfl rfl hl.1 rfl (lv_room (Nat.le_of_ble_eq_true rfl)) dX1_shrink_45 ⟨Nat.le_of_ble_eq_true rfl, Nat.le_of_ble_eq_true rfl⟩) hS (af_le hH hS hA) (fun v_5 φ_6 H locs hw_v_5 hH hS => ?_)
      obtain ⟨rfl, hqv_5⟩ := hw_v_5
      rw [hqv_5] at hH
      refine hv_put (pc := 48) (ty := .int) (C := RX1) (T := TX1) (N := 7) (ref := RX1) S uwX1 tyX1 tyX1_ok nmX1 hK hH hS f_2 rfl 3 (by decide) tw_630 (fun _ h9 => h9) rfl (by decide +kernel) rfl rfl (Nat.le_of_ble_eq_true rfl) dX1_shrink_48 (fun H locs hH hS => ?_)
      obtain ⟨φ_7, hφ_7, fa_φ_7, fr_φ_7, hH⟩ := nup (e := .inr (5, [.ref (ga 0 k), .ref wq, .ref gq, .int (nI (shL k ht)), .int (nI cy), lb, .int (nI tr)])) hH
      have f_8 := fr_φ_7 _ _ (hp_ne f_3 f_2 (by intro h; cases h)) f_3
      refine lv_aload_n (pc := 51) S.1 S.2.1 dX1_shrink_51 rfl (lv_at hl 0 rfl) ?_
      refine lv_dup (pc := 52) S.1 S.2.1 dX1_shrink_52 rfl ?_
      refine hv_get (pc := 53) (C := RX1) (T := TX1) (N := 7) (ref := RX1) S uwX1 hK hH fa_φ_7 rfl 4 (by decide) tw_632 (fun _ h9 => h9) rfl dX1_shrink_53 ?_
      refine lv_iconst (pc := 56) (v := nI 1) S.1 S.2.1 dX1_shrink_56 (by decide) ?_
      refine lv_iadd (pc := 57) S.1 S.2.1 dX1_shrink_57 ?_
      refine hv_ti (y := nI (cy + 1)) (nI_add _ _) ?_
      refine hv_put (pc := 58) (ty := .int) (C := RX1) (T := TX1) (N := 7) (ref := RX1) S uwX1 tyX1 tyX1_ok nmX1 hK hH hS fa_φ_7 rfl 4 (by decide) tw_632 (fun _ h9 => h9) rfl (by decide +kernel) rfl rfl (Nat.le_of_ble_eq_true rfl) dX1_shrink_58 (fun H locs hH hS => ?_)
      obtain ⟨φ_9, hφ_9, fa_φ_9, fr_φ_9, hH⟩ := nup (e := .inr (5, [.ref (ga 0 k), .ref wq, .ref gq, .int (nI (shL k ht)), .int (nI (cy + 1)), lb, .int (nI tr)])) hH
      have f_10 := fr_φ_9 _ _ (hp_ne f_8 fa_φ_7 (by intro h; cases h)) f_8
      exact hv_vret (pc := 61) S hr hlocks hH hS (⟨rfl, by rw [hφ_9, hφ_7, hφk_1, ups_ups]⟩) (Nat.le_of_ble_eq_true rfl) (Nat.le_of_ble_eq_true rfl) dX1_shrink_61
    · skip
      exact absurd c_4 (by omega)
  | succ n ih =>
    obtain ⟨hi, hφk_1, hH⟩ := hi
    have f_11 : φk_1 h0 = some (.inr (5, [.ref (ga 0 k), .ref wq, .ref gq, .int (nI ht), .int (nI cy), lb, .int (nI tr)])) := by rw [hφk_1]; exact ups_n (hp_ne f0 f1 (by intro h; cases h)) f0
    have f_12 : φk_1 wq = some (.inl (cA 1, 6, .inl (fun j => nI ((shP k wf i) j)))) := by rw [hφk_1]; exact ups_s _ _ _
    refine lv_iload_n (pc := 2) S.1 S.2.1 dX1_shrink_2 rfl (lv_at hl 1 rfl) ?_
    refine lv_aload_n (pc := 3) S.1 S.2.1 dX1_shrink_3 rfl (lv_at hl 0 rfl) ?_
    refine hv_get (pc := 4) (C := RX1) (T := TX1) (N := 7) (ref := RX1) S uwX1 hK hH f_11 rfl 1 (by decide) tw_628 (fun _ h9 => h9) rfl dX1_shrink_4 ?_
    refine hv_alen (pc := 7) (v := nI 6) S hK hH 1 f_12 rfl rfl dX1_shrink_7 ?_
    refine hv_icmp_ge (pc := 8) (tgt := 36) (a := i) (b := 6) S.1 S.2.1 (by omega) (by omega) dX1_shrink_8 (by decide) (fun c_13 => ?_) (fun c_13 => ?_)
    · skip
      exact absurd c_13 (by omega)
    · skip
      refine lv_aload_n (pc := 11) S.1 S.2.1 dX1_shrink_11 rfl (lv_at hl 0 rfl) ?_
      refine hv_get (pc := 12) (C := RX1) (T := TX1) (N := 7) (ref := RX1) S uwX1 hK hH f_11 rfl 1 (by decide) tw_628 (fun _ h9 => h9) rfl dX1_shrink_12 ?_
      refine lv_iload_n (pc := 15) S.1 S.2.1 dX1_shrink_15 rfl (lv_at hl 1 rfl) ?_
      refine lv_aload_n (pc := 16) S.1 S.2.1 dX1_shrink_16 rfl (lv_at hl 0 rfl) ?_
      refine hv_get (pc := 17) (C := RX1) (T := TX1) (N := 7) (ref := RX1) S uwX1 hK hH f_11 rfl 0 (by decide) tw_626 (fun _ h9 => h9) rfl dX1_shrink_17 ?_
      refine lv_aload_n (pc := 20) S.1 S.2.1 dX1_shrink_20 rfl (lv_at hl 0 rfl) ?_
      refine hv_get (pc := 21) (C := RX1) (T := TX1) (N := 7) (ref := RX1) S uwX1 hK hH f_11 rfl 1 (by decide) tw_628 (fun _ h9 => h9) rfl dX1_shrink_21 ?_
      refine lv_iload_n (pc := 24) S.1 S.2.1 dX1_shrink_24 rfl (lv_at hl 1 rfl) ?_
      refine hv_iald (pc := 25) S hK hH 1 f_12 rfl (vp_in_nI (by omega) (by omega)) dX1_shrink_25 ?_
      refine hv_ti (y := nI ((shP k wf i) i)) (hv_ld (by omega)) ?_
      refine hv_ti (y := nI (wf i)) (by rw [shP_at]) ?_
      have hw1 := hw i
      refine hv_call (pc := 26) (va_runVNn (As := [.int (nI (wf i))]) (rest := [.int (nI i), .ref wq]) S (c_X3_shrunkAcross l D cA ga φk_1 H.size k (wf i) hk hw1) ⟨va_cnBn (host := "HatbandYard") 1 S.2.2.2.2 (gw tw_705) rfl rfl rfl (hX.nest _ (by decide +kernel)) (by decide +kernel) ⟨Nat.le_of_ble_eq_true rfl, Nat.le_of_ble_eq_true rfl⟩, S.2.2.2.2 _ tw_703, S.2.2.2.2 _ sw_9⟩ (pre0_V hH hK hX hS hA (o_recv (hX.furO k hk) hS)) rfl rfl hl.1 rfl (lv_room (Nat.le_of_ble_eq_true rfl)) dX1_shrink_26 ⟨Nat.le_of_ble_eq_true rfl, Nat.le_of_ble_eq_true rfl⟩) hS (af_le hH hS hA) (fun v_14 φ_15 H locs hw_v_14 hH hS => ?_)
      obtain ⟨rfl, hqv_14⟩ := hw_v_14
      rw [hqv_14] at hH
      refine hv_iast (pc := 29) S hK hH hS 1 f_12 rfl (vp_in_nI (by omega) (by omega)) dX1_shrink_29 (fun H locs hH hS => ?_)
      rw [hv_upd (by omega), shP_up] at hH
      obtain ⟨φ_16, hφ_16, fa_φ_16, fr_φ_16, hH⟩ := nup (e := .inl (cA 1, 6, .inl (fun j => nI ((shP k wf (i + 1)) j)))) hH
      have f_17 := fr_φ_16 _ _ (hp_ne f_11 f_12 (by intro h; cases h)) f_11
      refine lv_iinc (pc := 30) (v := nI (i + 1)) (lv' := [(1, .int (nI (i + 1))), (0, .ref h0)]) S.1 S.2.1 dX1_shrink_30 hl (k := 1) rfl (by first | rfl | exact nI_add _ _) (by decide) rfl (fun ls hl => ?_)
      refine lv_goto (pc := 33) (tgt := 2) S.1 S.2.1 dX1_shrink_33 (by decide) ?_
      have hi2 : ((i + 1) + n = 6) ∧ φ_16 = ups φ wq (.inl (cA 1, 6, .inl (fun j => nI ((shP k wf (i + 1)) j)))) ∧ hp D (Af φ sz) φ_16 H := ⟨by omega, by rw [hφ_16, hφk_1, ups_ups], hH⟩
      have hl2 : lv_has ls 2 [(0, .ref h0), (1, .int (nI (i + 1)))] := lv_sub hl [1, 0] rfl
      apply ih (i := i + 1) (φk_1 := φ_16) <;> assumption
