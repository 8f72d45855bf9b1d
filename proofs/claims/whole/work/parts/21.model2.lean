def wkO (off tl : Nat) : Nat → Nat → Option Nat
  | 0, _ => none
  | n + 1, j => if tl = wcd (off + j) then some j else wkO off tl n (j + 1)
def wkI (o : Option Nat) : Int32 := match o with
  | none => -1
  | some j => nI j
def wkP (o : Option Nat) : Nat := match o with
  | some 0 => 1000000000
  | some 1 => 5
  | some 2 => 2
  | _ => 0
theorem wcd_lt : ∀ i, i < 11 → wcd i < 2 ^ 62 := by decide +kernel
set_option maxHeartbeats 4000000 in
set_option maxRecDepth 100000 in
/-- goes(code) -/
theorem c_m_goes (l : Launch) (D : va_G) (cA : Nat → ClassId) (ga : Nat → Nat → Nat) (φ : hpM) (sz : Nat) (q : Nat → Nat) (sc : Nat → Nat) (ar : Nat → Nat → Nat) (t : Nat) (hm : MP cA q sc ar φ) (hq : ∀ i j, i < 15 → j < 15 → q i = q j → i = j) (ht : t < 2 ^ 31) : hM l yX9_goes cX9_goes 2 (some .boolean) { frames := 8, cells := 0, slots := 0, locals := 200 } [.ref (q 0), .int (nI t)] D cA ga φ sz (fun v φ' => v = some (.int (nI (if t = 0 then 1 else 0))) ∧ MP cA q (va_up sc 7 t) ar φ') 0 0 := by
  refine hM.of (by decide) (Nat.le_of_ble_eq_true rfl) rfl ?_
  intro p e s m args below meth c ls H locs S hr hlocks hnm hsz hHz hH hK hX hS hA hl
  obtain ⟨f0, f1, f2, f3, f4, f5, f6, f7, f8, f9, f10, f11, f12, f13, f14⟩ := hm
  refine lv_aload_n (pc := 0) S.1 S.2.1 dX9_goes_0 rfl (lv_at hl 0 rfl) ?_
  refine lv_iload_n (pc := 1) S.1 S.2.1 dX9_goes_1 rfl (lv_at hl 1 rfl) ?_
  refine hv_put (pc := 2) (ty := .int) (C := RX9) (T := TX9) (N := 22) (ref := RX9) S uwX9 tyX9 tyX9_ok nmX9 hK hH hS f0 rfl 21 (by decide) tw_966 (fun _ h9 => h9) rfl (by decide +kernel) rfl rfl (Nat.le_of_ble_eq_true rfl) dX9_goes_2 (fun H locs hH hS => ?_)
  replace hH := nup (e := .inr (13, [.int (nI (sc 0)), .long (Int64.ofNat (sc 1)), .int (nI (sc 2)), .ref (q 1), .ref (q 2), .int (nI (sc 3)), .ref (q 3), .ref (q 4), .ref (q 5), .ref (q 6), .ref (q 7), .ref (q 8), .ref (q 9), .int (nI (sc 4)), .ref (q 10), .ref (q 11), .int (nI (sc 5)), .ref (q 12), .ref (q 13), .ref (q 14), .int (nI (sc 6)), .int (nI t)])) hH
  obtain ⟨φ_1, hφ_1, fa_φ_1, fr_φ_1, hH⟩ := hH
  have f_2 := fr_φ_1 _ _ (fun h => absurd (hq 1 0 (by omega) (by omega) h) (by omega)) f1
  have f_3 := fr_φ_1 _ _ (fun h => absurd (hq 2 0 (by omega) (by omega) h) (by omega)) f2
  have f_4 := fr_φ_1 _ _ (fun h => absurd (hq 3 0 (by omega) (by omega) h) (by omega)) f3
  have f_5 := fr_φ_1 _ _ (fun h => absurd (hq 4 0 (by omega) (by omega) h) (by omega)) f4
  have f_6 := fr_φ_1 _ _ (fun h => absurd (hq 5 0 (by omega) (by omega) h) (by omega)) f5
  have f_7 := fr_φ_1 _ _ (fun h => absurd (hq 6 0 (by omega) (by omega) h) (by omega)) f6
  have f_8 := fr_φ_1 _ _ (fun h => absurd (hq 7 0 (by omega) (by omega) h) (by omega)) f7
  have f_9 := fr_φ_1 _ _ (fun h => absurd (hq 8 0 (by omega) (by omega) h) (by omega)) f8
  have f_10 := fr_φ_1 _ _ (fun h => absurd (hq 9 0 (by omega) (by omega) h) (by omega)) f9
  have f_11 := fr_φ_1 _ _ (fun h => absurd (hq 10 0 (by omega) (by omega) h) (by omega)) f10
  have f_12 := fr_φ_1 _ _ (fun h => absurd (hq 11 0 (by omega) (by omega) h) (by omega)) f11
  have f_13 := fr_φ_1 _ _ (fun h => absurd (hq 12 0 (by omega) (by omega) h) (by omega)) f12
  have f_14 := fr_φ_1 _ _ (fun h => absurd (hq 13 0 (by omega) (by omega) h) (by omega)) f13
  have f_15 := fr_φ_1 _ _ (fun h => absurd (hq 14 0 (by omega) (by omega) h) (by omega)) f14
  refine lv_iload_n (pc := 5) S.1 S.2.1 dX9_goes_5 rfl (lv_at hl 1 rfl) ?_
  refine hv_if_ne (pc := 6) (tgt := 13) (a := t) S.1 S.2.1 (by omega) dX9_goes_6 (by decide) (fun c_16 => ?_) (fun c_16 => ?_)
  · skip
    refine lv_iconst (pc := 13) (v := nI 0) S.1 S.2.1 dX9_goes_13 (by decide) ?_
    exact hv_ret (pc := 14) (v := nI 0) S hr rfl hlocks hH hS (⟨by rw [if_neg c_16], ⟨fa_φ_1, f_2, f_3, f_4, f_5, f_6, f_7, f_8, f_9, f_10, f_11, f_12, f_13, f_14, f_15⟩⟩) (Nat.le_of_ble_eq_true rfl) (Nat.le_of_ble_eq_true rfl) dX9_goes_14
  · skip
    refine lv_iconst (pc := 9) (v := nI 1) S.1 S.2.1 dX9_goes_9 (by decide) ?_
    refine lv_goto (pc := 10) (tgt := 14) S.1 S.2.1 dX9_goes_10 (by decide) ?_
    exact hv_ret (pc := 14) (v := nI 1) S hr rfl hlocks hH hS (⟨by rw [if_pos (by omega)], ⟨fa_φ_1, f_2, f_3, f_4, f_5, f_6, f_7, f_8, f_9, f_10, f_11, f_12, f_13, f_14, f_15⟩⟩) (Nat.le_of_ble_eq_true rfl) (Nat.le_of_ble_eq_true rfl) dX9_goes_14

set_option maxHeartbeats 4000000 in
set_option maxRecDepth 100000 in
/-- empties() -/
theorem c_m_empties (l : Launch) (D : va_G) (cA : Nat → ClassId) (ga : Nat → Nat → Nat) (φ : hpM) (sz : Nat) (q : Nat → Nat) (sc : Nat → Nat) (ar : Nat → Nat → Nat) (hm : MP cA q sc ar φ) (hq : ∀ i j, i < 15 → j < 15 → q i = q j → i = j) : hM l yX9_empties cX9_empties 1 none { frames := 8, cells := 0, slots := 0, locals := 200 } [.ref (q 0)] D cA ga φ sz (fun v φ' => v = none ∧ MP cA q (va_up (va_up sc 0 0) 1 0) ar φ') 0 0 := by
  refine hM.of (by decide) (Nat.le_of_ble_eq_true rfl) rfl ?_
  intro p e s m args below meth c ls H locs S hr hlocks hnm hsz hHz hH hK hX hS hA hl
  obtain ⟨f0, f1, f2, f3, f4, f5, f6, f7, f8, f9, f10, f11, f12, f13, f14⟩ := hm
  refine lv_aload_n (pc := 0) S.1 S.2.1 dX9_empties_0 rfl (lv_at hl 0 rfl) ?_
  refine lv_lconst (pc := 1) (v := Int64.ofNat 0) S.1 S.2.1 dX9_empties_1 rfl ?_
  refine hv_put (pc := 2) (ty := .long) (C := RX9) (T := TX9) (N := 22) (ref := RX9) S uwX9 tyX9 tyX9_ok nmX9 hK hH hS f0 rfl 1 (by decide) tw_946 (fun _ h9 => h9) rfl (by decide +kernel) rfl rfl (Nat.le_of_ble_eq_true rfl) dX9_empties_2 (fun H locs hH hS => ?_)
  replace hH := nup (e := .inr (13, [.int (nI (sc 0)), .long (Int64.ofNat 0), .int (nI (sc 2)), .ref (q 1), .ref (q 2), .int (nI (sc 3)), .ref (q 3), .ref (q 4), .ref (q 5), .ref (q 6), .ref (q 7), .ref (q 8), .ref (q 9), .int (nI (sc 4)), .ref (q 10), .ref (q 11), .int (nI (sc 5)), .ref (q 12), .ref (q 13), .ref (q 14), .int (nI (sc 6)), .int (nI (sc 7))])) hH
  obtain ⟨φ_1, hφ_1, fa_φ_1, fr_φ_1, hH⟩ := hH
  have f_2 := fr_φ_1 _ _ (fun h => absurd (hq 1 0 (by omega) (by omega) h) (by omega)) f1
  have f_3 := fr_φ_1 _ _ (fun h => absurd (hq 2 0 (by omega) (by omega) h) (by omega)) f2
  have f_4 := fr_φ_1 _ _ (fun h => absurd (hq 3 0 (by omega) (by omega) h) (by omega)) f3
  have f_5 := fr_φ_1 _ _ (fun h => absurd (hq 4 0 (by omega) (by omega) h) (by omega)) f4
  have f_6 := fr_φ_1 _ _ (fun h => absurd (hq 5 0 (by omega) (by omega) h) (by omega)) f5
  have f_7 := fr_φ_1 _ _ (fun h => absurd (hq 6 0 (by omega) (by omega) h) (by omega)) f6
  have f_8 := fr_φ_1 _ _ (fun h => absurd (hq 7 0 (by omega) (by omega) h) (by omega)) f7
  have f_9 := fr_φ_1 _ _ (fun h => absurd (hq 8 0 (by omega) (by omega) h) (by omega)) f8
  have f_10 := fr_φ_1 _ _ (fun h => absurd (hq 9 0 (by omega) (by omega) h) (by omega)) f9
  have f_11 := fr_φ_1 _ _ (fun h => absurd (hq 10 0 (by omega) (by omega) h) (by omega)) f10
  have f_12 := fr_φ_1 _ _ (fun h => absurd (hq 11 0 (by omega) (by omega) h) (by omega)) f11
  have f_13 := fr_φ_1 _ _ (fun h => absurd (hq 12 0 (by omega) (by omega) h) (by omega)) f12
  have f_14 := fr_φ_1 _ _ (fun h => absurd (hq 13 0 (by omega) (by omega) h) (by omega)) f13
  have f_15 := fr_φ_1 _ _ (fun h => absurd (hq 14 0 (by omega) (by omega) h) (by omega)) f14
  refine lv_aload_n (pc := 5) S.1 S.2.1 dX9_empties_5 rfl (lv_at hl 0 rfl) ?_
  refine lv_iconst (pc := 6) (v := nI 0) S.1 S.2.1 dX9_empties_6 (by decide) ?_
  refine hv_put (pc := 7) (ty := .int) (C := RX9) (T := TX9) (N := 22) (ref := RX9) S uwX9 tyX9 tyX9_ok nmX9 hK hH hS fa_φ_1 rfl 0 (by decide) tw_945 (fun _ h9 => h9) rfl (by decide +kernel) rfl rfl (Nat.le_of_ble_eq_true rfl) dX9_empties_7 (fun H locs hH hS => ?_)
  replace hH := nup (e := .inr (13, [.int (nI 0), .long (Int64.ofNat 0), .int (nI (sc 2)), .ref (q 1), .ref (q 2), .int (nI (sc 3)), .ref (q 3), .ref (q 4), .ref (q 5), .ref (q 6), .ref (q 7), .ref (q 8), .ref (q 9), .int (nI (sc 4)), .ref (q 10), .ref (q 11), .int (nI (sc 5)), .ref (q 12), .ref (q 13), .ref (q 14), .int (nI (sc 6)), .int (nI (sc 7))])) hH
  obtain ⟨φ_16, hφ_16, fa_φ_16, fr_φ_16, hH⟩ := hH
  have f_17 := fr_φ_16 _ _ (fun h => absurd (hq 1 0 (by omega) (by omega) h) (by omega)) f_2
  have f_18 := fr_φ_16 _ _ (fun h => absurd (hq 2 0 (by omega) (by omega) h) (by omega)) f_3
  have f_19 := fr_φ_16 _ _ (fun h => absurd (hq 3 0 (by omega) (by omega) h) (by omega)) f_4
  have f_20 := fr_φ_16 _ _ (fun h => absurd (hq 4 0 (by omega) (by omega) h) (by omega)) f_5
  have f_21 := fr_φ_16 _ _ (fun h => absurd (hq 5 0 (by omega) (by omega) h) (by omega)) f_6
  have f_22 := fr_φ_16 _ _ (fun h => absurd (hq 6 0 (by omega) (by omega) h) (by omega)) f_7
  have f_23 := fr_φ_16 _ _ (fun h => absurd (hq 7 0 (by omega) (by omega) h) (by omega)) f_8
  have f_24 := fr_φ_16 _ _ (fun h => absurd (hq 8 0 (by omega) (by omega) h) (by omega)) f_9
  have f_25 := fr_φ_16 _ _ (fun h => absurd (hq 9 0 (by omega) (by omega) h) (by omega)) f_10
  have f_26 := fr_φ_16 _ _ (fun h => absurd (hq 10 0 (by omega) (by omega) h) (by omega)) f_11
  have f_27 := fr_φ_16 _ _ (fun h => absurd (hq 11 0 (by omega) (by omega) h) (by omega)) f_12
  have f_28 := fr_φ_16 _ _ (fun h => absurd (hq 12 0 (by omega) (by omega) h) (by omega)) f_13
  have f_29 := fr_φ_16 _ _ (fun h => absurd (hq 13 0 (by omega) (by omega) h) (by omega)) f_14
  have f_30 := fr_φ_16 _ _ (fun h => absurd (hq 14 0 (by omega) (by omega) h) (by omega)) f_15
  exact hv_vret (pc := 10) S hr hlocks hH hS (⟨rfl, ⟨fa_φ_16, f_17, f_18, f_19, f_20, f_21, f_22, f_23, f_24, f_25, f_26, f_27, f_28, f_29, f_30⟩⟩) (Nat.le_of_ble_eq_true rfl) (Nat.le_of_ble_eq_true rfl) dX9_empties_10

set_option maxHeartbeats 4000000 in
set_option maxRecDepth 100000 in
/-- thrown() -/
theorem c_m_thrown (l : Launch) (D : va_G) (cA : Nat → ClassId) (ga : Nat → Nat → Nat) (φ : hpM) (sz : Nat) (q : Nat → Nat) (sc : Nat → Nat) (ar : Nat → Nat → Nat) (hm : MP cA q sc ar φ) (hq : ∀ i j, i < 15 → j < 15 → q i = q j → i = j) : hM l yX9_thrown cX9_thrown 1 (some .int) { frames := 8, cells := 0, slots := 0, locals := 200 } [.ref (q 0)] D cA ga φ sz (fun v φ' => v = some (.int (nI (sc 7))) ∧ φ' = φ) 0 0 := by
  refine hM.of (by decide) (Nat.le_of_ble_eq_true rfl) rfl ?_
  intro p e s m args below meth c ls H locs S hr hlocks hnm hsz hHz hH hK hX hS hA hl
  obtain ⟨f0, f1, f2, f3, f4, f5, f6, f7, f8, f9, f10, f11, f12, f13, f14⟩ := hm
  refine lv_aload_n (pc := 0) S.1 S.2.1 dX9_thrown_0 rfl (lv_at hl 0 rfl) ?_
  refine hv_get (pc := 1) (C := RX9) (T := TX9) (N := 22) (ref := RX9) S uwX9 hK hH f0 rfl 21 (by decide) tw_966 (fun _ h9 => h9) rfl dX9_thrown_1 ?_
  exact hv_ret (pc := 4) (v := nI (sc 7)) S hr rfl hlocks hH hS (⟨rfl, rfl⟩) (Nat.le_of_ble_eq_true rfl) (Nat.le_of_ble_eq_true rfl) dX9_thrown_4

set_option maxHeartbeats 4000000 in
set_option maxRecDepth 100000 in
/-- isCone(x) -/
theorem c_m_isCone (l : Launch) (D : va_G) (cA : Nat → ClassId) (ga : Nat → Nat → Nat) (φ : hpM) (sz : Nat) (q : Nat → Nat) (sc : Nat → Nat) (ar : Nat → Nat → Nat) (x : Int32) (hm : MP cA q sc ar φ) (hq : ∀ i j, i < 15 → j < 15 → q i = q j → i = j) (hc : sc 3 ≤ 12) : hM l yX9_isCone cX9_isCone 2 (some .boolean) { frames := 9, cells := 0, slots := 0, locals := 260 } [.ref (q 0), .int (x)] D cA ga φ sz (fun v φ' => v = some (.int (nI (if inN x (sc 3) then 1 else 0))) ∧ φ' = φ) 0 0 := by
  refine hM.of (by decide) (Nat.le_of_ble_eq_true rfl) rfl ?_
  intro p e s m args below meth c ls H locs S hr hlocks hnm hsz hHz hH hK hX hS hA hl
  obtain ⟨f0, f1, f2, f3, f4, f5, f6, f7, f8, f9, f10, f11, f12, f13, f14⟩ := hm
  refine lv_iload_n (pc := 0) S.1 S.2.1 dX9_isCone_0 rfl (lv_at hl 1 rfl) ?_
  refine lv_iconst (pc := 1) (v := nI 0) S.1 S.2.1 dX9_isCone_1 (by decide) ?_
  refine lv_aload_n (pc := 2) S.1 S.2.1 dX9_isCone_2 rfl (lv_at hl 0 rfl) ?_
  refine hv_get (pc := 3) (C := RX9) (T := TX9) (N := 22) (ref := RX9) S uwX9 hK hH f0 rfl 5 (by decide) tw_950 (fun _ h9 => h9) rfl dX9_isCone_3 ?_
  refine lv_iconst (pc := 6) (v := nI 1) S.1 S.2.1 dX9_isCone_6 (by decide) ?_
  refine lv_isub (pc := 7) S.1 S.2.1 dX9_isCone_7 ?_
  refine hv_call (pc := 8) (va_runS (As := [.int (x), .int (nI 0), .int (nI (sc 3) - nI 1)]) (rest := []) S (c_isIn l D cA ga φ H.size x (nI 0) (nI (sc 3) - nI 1)) (va_cwS 3 S.2.2.2.2 (gS tw_1031 tw_1032 tw_7 tw_1033) rfl rfl rfl (by decide +kernel) ⟨Nat.le_of_ble_eq_true rfl, Nat.le_of_ble_eq_true rfl⟩) (pre0_S hH hK hX hS hA) rfl rfl hl.1 rfl (lv_room (Nat.le_of_ble_eq_true rfl)) dX9_isCone_8 ⟨Nat.le_of_ble_eq_true rfl, Nat.le_of_ble_eq_true rfl⟩) hS (af_le hH hS hA) (fun v_1 φ_2 H locs hw_v_1 hH hS => ?_)
  obtain ⟨rfl, hqv_1⟩ := hw_v_1
  rw [hqv_1] at hH
  refine hv_ti (y := nI (if inN x (sc 3) then 1 else 0)) (by rw [inB_N (by omega)]) ?_
  exact hv_ret (pc := 11) (v := nI (if inN x (sc 3) then 1 else 0)) S hr (by split <;> rfl) hlocks hH hS (⟨rfl, rfl⟩) (Nat.le_of_ble_eq_true rfl) (Nat.le_of_ble_eq_true rfl) dX9_isCone_11

theorem in6 (z : Int32) : inR z 0 5 ↔ inN z 6 := by
  constructor
  · intro h
    obtain ⟨a, rfl, h1, h2⟩ := h.nat (by omega) (by omega)
    exact (inN_nI (by omega) (by omega)).mpr (by omega)
  · intro h
    obtain ⟨a, rfl, h1⟩ := h.nat (by omega)
    exact (inR_nI (by omega) (by omega) (by omega)).mpr ⟨by omega, by omega⟩
set_option maxHeartbeats 4000000 in
set_option maxRecDepth 100000 in
/-- isBand(x, z) -/
theorem c_m_isBand (l : Launch) (D : va_G) (cA : Nat → ClassId) (ga : Nat → Nat → Nat) (φ : hpM) (sz : Nat) (q : Nat → Nat) (sc : Nat → Nat) (ar : Nat → Nat → Nat) (x z : Int32) (hm : MP cA q sc ar φ) (hq : ∀ i j, i < 15 → j < 15 → q i = q j → i = j) (hc : sc 3 ≤ 12) : hM l yX9_isBand cX9_isBand 3 (some .boolean) { frames := 10, cells := 0, slots := 0, locals := 320 } [.ref (q 0), .int (x), .int (z)] D cA ga φ sz (fun v φ' => v = some (.int (nI (if inN x (sc 3) ∧ inN z 6 then 1 else 0))) ∧ φ' = φ) 0 0 := by
  refine hM.of (by decide) (Nat.le_of_ble_eq_true rfl) rfl ?_
  intro p e s m args below meth c ls H locs S hr hlocks hnm hsz hHz hH hK hX hS hA hl
  have hz6 : inR z 0 5 ↔ inN z 6 := in6 z
  obtain ⟨f0, f1, f2, f3, f4, f5, f6, f7, f8, f9, f10, f11, f12, f13, f14⟩ := hm
  refine lv_aload_n (pc := 0) S.1 S.2.1 dX9_isBand_0 rfl (lv_at hl 0 rfl) ?_
  refine lv_iload_n (pc := 1) S.1 S.2.1 dX9_isBand_1 rfl (lv_at hl 1 rfl) ?_
  refine hv_call (pc := 2) (va_runV (As := [.int (x)]) (rest := []) S (c_m_isCone l D cA ga φ H.size q sc ar x ⟨f0, f1, f2, f3, f4, f5, f6, f7, f8, f9, f10, f11, f12, f13, f14⟩ hq hc) (cwV 1 S.2.2.2.2 (gV tw_1057 tw_1059 sw_35 tw_7 tw_1060) rfl rfl rfl (by decide +kernel) ⟨Nat.le_of_ble_eq_true rfl, Nat.le_of_ble_eq_true rfl⟩) (pre0_V hH hK hX hS hA (hH.recv hK f0 rfl)) rfl rfl hl.1 rfl (lv_room (Nat.le_of_ble_eq_true rfl)) dX9_isBand_2 ⟨Nat.le_of_ble_eq_true rfl, Nat.le_of_ble_eq_true rfl⟩) hS (af_le hH hS hA) (fun v_1 φ_2 H locs hw_v_1 hH hS => ?_)
  obtain ⟨rfl, hqv_1⟩ := hw_v_1
  rw [hqv_1] at hH
  by_cases hx : inN x (sc 3)
  · skip
    refine hv_ti (y := nI 1) (by rw [if_pos hx]) ?_
    refine hv_if_eq (pc := 5) (tgt := 21) (a := 1) S.1 S.2.1 (by omega) dX9_isBand_5 (by decide) (fun c_3 => ?_) (fun c_3 => ?_)
    · skip
      exact absurd c_3 (by omega)
    · skip
      refine lv_iload_n (pc := 8) S.1 S.2.1 dX9_isBand_8 rfl (lv_at hl 2 rfl) ?_
      refine lv_iconst (pc := 9) (v := nI 0) S.1 S.2.1 dX9_isBand_9 (by decide) ?_
      refine lv_iconst (pc := 10) (v := nI 5) S.1 S.2.1 dX9_isBand_10 (by decide) ?_
      refine hv_call (pc := 11) (va_runS (As := [.int (z), .int (nI 0), .int (nI 5)]) (rest := []) S (c_isIn l D cA ga φ H.size z (nI 0) (nI 5)) (va_cwS 3 S.2.2.2.2 (gS tw_1031 tw_1032 tw_7 tw_1033) rfl rfl rfl (by decide +kernel) ⟨Nat.le_of_ble_eq_true rfl, Nat.le_of_ble_eq_true rfl⟩) (pre0_S hH hK hX hS hA) rfl rfl hl.1 rfl (lv_room (Nat.le_of_ble_eq_true rfl)) dX9_isBand_11 ⟨Nat.le_of_ble_eq_true rfl, Nat.le_of_ble_eq_true rfl⟩) hS (af_le hH hS hA) (fun v_4 φ_5 H locs hw_v_4 hH hS => ?_)
      obtain ⟨rfl, hqv_4⟩ := hw_v_4
      rw [hqv_4] at hH
      by_cases hz : inN z 6
      · skip
        refine hv_ti (y := nI 1) (by rw [inB_R, if_pos (hz6.mpr hz)]) ?_
        refine hv_if_eq (pc := 14) (tgt := 21) (a := 1) S.1 S.2.1 (by omega) dX9_isBand_14 (by decide) (fun c_6 => ?_) (fun c_6 => ?_)
        · skip
          exact absurd c_6 (by omega)
        · skip
          refine lv_iconst (pc := 17) (v := nI 1) S.1 S.2.1 dX9_isBand_17 (by decide) ?_
          refine lv_goto (pc := 18) (tgt := 22) S.1 S.2.1 dX9_isBand_18 (by decide) ?_
          exact hv_ret (pc := 22) (v := nI 1) S hr rfl hlocks hH hS (⟨by rw [if_pos ⟨hx, hz⟩], rfl⟩) (Nat.le_of_ble_eq_true rfl) (Nat.le_of_ble_eq_true rfl) dX9_isBand_22
      · skip
        refine hv_ti (y := nI 0) (by rw [inB_R, if_neg (fun h => hz (hz6.mp h))]) ?_
        refine hv_if_eq (pc := 14) (tgt := 21) (a := 0) S.1 S.2.1 (by omega) dX9_isBand_14 (by decide) (fun c_7 => ?_) (fun c_7 => ?_)
        · skip
          refine lv_iconst (pc := 21) (v := nI 0) S.1 S.2.1 dX9_isBand_21 (by decide) ?_
          exact hv_ret (pc := 22) (v := nI 0) S hr rfl hlocks hH hS (⟨by rw [if_neg (fun h => hz h.2)], rfl⟩) (Nat.le_of_ble_eq_true rfl) (Nat.le_of_ble_eq_true rfl) dX9_isBand_22
        · skip
          exact absurd c_7 (by omega)
  · skip
    refine hv_ti (y := nI 0) (by rw [if_neg hx]) ?_
    refine hv_if_eq (pc := 5) (tgt := 21) (a := 0) S.1 S.2.1 (by omega) dX9_isBand_5 (by decide) (fun c_8 => ?_) (fun c_8 => ?_)
    · skip
      refine lv_iconst (pc := 21) (v := nI 0) S.1 S.2.1 dX9_isBand_21 (by decide) ?_
      exact hv_ret (pc := 22) (v := nI 0) S hr rfl hlocks hH hS (⟨by rw [if_neg (fun h => hx h.1)], rfl⟩) (Nat.le_of_ble_eq_true rfl) (Nat.le_of_ble_eq_true rfl) dX9_isBand_22
    · skip
      exact absurd c_8 (by omega)

set_option maxHeartbeats 4000000 in
set_option maxRecDepth 100000 in
/-- thick(i) -/
theorem c_m_thick (l : Launch) (D : va_G) (cA : Nat → ClassId) (ga : Nat → Nat → Nat) (φ : hpM) (sz : Nat) (q : Nat → Nat) (sc : Nat → Nat) (ar : Nat → Nat → Nat) (i : Nat) (hm : MP cA q sc ar φ) (hq : ∀ i j, i < 15 → j < 15 → q i = q j → i = j) (hi : i < 72) (h4 : 0 < ar 4 i ∧ ar 4 i ≤ 1200) (h5 : 0 < ar 5 i ∧ ar 5 i ≤ 60) (h6 : ar 6 i ≤ 500) : hM l yX9_thick cX9_thick 2 (some .int) { frames := 8, cells := 0, slots := 0, locals := 200 } [.ref (q 0), .int (nI i)] D cA ga φ sz (fun v φ' => v = some (.int (nI (ar 6 i * 100000 / (ar 4 i * ar 5 i)))) ∧ φ' = φ) 0 0 := by
  refine hM.of (by decide) (Nat.le_of_ble_eq_true rfl) rfl ?_
  intro p e s m args below meth c ls H locs S hr hlocks hnm hsz hHz hH hK hX hS hA hl
  have hm1 : ar 4 i * ar 5 i ≤ 1200 * 60 := Nat.mul_le_mul h4.2 h5.2
  have hm2 : 0 < ar 4 i * ar 5 i := Nat.mul_pos h4.1 h5.1
  obtain ⟨f0, f1, f2, f3, f4, f5, f6, f7, f8, f9, f10, f11, f12, f13, f14⟩ := hm
  refine lv_aload_n (pc := 0) S.1 S.2.1 dX9_thick_0 rfl (lv_at hl 0 rfl) ?_
  refine hv_get (pc := 1) (C := RX9) (T := TX9) (N := 22) (ref := RX9) S uwX9 hK hH f0 rfl 9 (by decide) tw_954 (fun _ h9 => h9) rfl dX9_thick_1 ?_
  refine lv_iload_n (pc := 4) S.1 S.2.1 dX9_thick_4 rfl (lv_at hl 1 rfl) ?_
  refine hv_iald (pc := 5) S hK hH 1 f6 rfl (vp_in_nI (by omega) (by omega)) dX9_thick_5 ?_
  refine hv_ti (y := nI ((ar 6) i)) (hv_ld (by omega)) ?_
  refine lv_ldc (pc := 6) (v := nI 100000) S.1 S.2.1 S.2.2.2.1 (S.2.2.2.2 _ tw_1093) dX9_thick_6 ?_
  refine lv_imul (pc := 8) S.1 S.2.1 dX9_thick_8 ?_
  refine hv_ti (y := nI (((ar 6) i) * 100000)) (pk_mul _ _) ?_
  refine lv_aload_n (pc := 9) S.1 S.2.1 dX9_thick_9 rfl (lv_at hl 0 rfl) ?_
  refine hv_get (pc := 10) (C := RX9) (T := TX9) (N := 22) (ref := RX9) S uwX9 hK hH f0 rfl 7 (by decide) tw_952 (fun _ h9 => h9) rfl dX9_thick_10 ?_
  refine lv_iload_n (pc := 13) S.1 S.2.1 dX9_thick_13 rfl (lv_at hl 1 rfl) ?_
  refine hv_iald (pc := 14) S hK hH 1 f4 rfl (vp_in_nI (by omega) (by omega)) dX9_thick_14 ?_
  refine hv_ti (y := nI ((ar 4) i)) (hv_ld (by omega)) ?_
  refine lv_aload_n (pc := 15) S.1 S.2.1 dX9_thick_15 rfl (lv_at hl 0 rfl) ?_
  refine hv_get (pc := 16) (C := RX9) (T := TX9) (N := 22) (ref := RX9) S uwX9 hK hH f0 rfl 8 (by decide) tw_953 (fun _ h9 => h9) rfl dX9_thick_16 ?_
  refine lv_iload_n (pc := 19) S.1 S.2.1 dX9_thick_19 rfl (lv_at hl 1 rfl) ?_
  refine hv_iald (pc := 20) S hK hH 1 f5 rfl (vp_in_nI (by omega) (by omega)) dX9_thick_20 ?_
  refine hv_ti (y := nI ((ar 5) i)) (hv_ld (by omega)) ?_
  have hne : ¬ nI (ar 4 i * ar 5 i) = 0 := nI_ne0 hm2 (by omega)
  refine lv_imul (pc := 21) S.1 S.2.1 dX9_thick_21 ?_
  refine hv_ti (y := nI (((ar 4) i) * ((ar 5) i))) (pk_mul _ _) ?_
  refine lv_idiv (pc := 22) S.1 S.2.1 dX9_thick_22 (by assumption) ?_
  refine hv_ti (y := nI (ar 6 i * 100000 / (ar 4 i * ar 5 i))) (pk_div (by omega) hm2 (by omega)) ?_
  exact hv_ret (pc := 23) (v := nI (ar 6 i * 100000 / (ar 4 i * ar 5 i))) S hr rfl hlocks hH hS (⟨rfl, rfl⟩) (Nat.le_of_ble_eq_true rfl) (Nat.le_of_ble_eq_true rfl) dX9_thick_23

set_option maxHeartbeats 4000000 in
set_option maxRecDepth 100000 in
/-- blockAt(block, band) -/
theorem c_m_blockAt (l : Launch) (D : va_G) (cA : Nat → ClassId) (ga : Nat → Nat → Nat) (φ : hpM) (sz : Nat) (q : Nat → Nat) (sc : Nat → Nat) (ar : Nat → Nat → Nat) (b z : Nat) (hm : MP cA q sc ar φ) (hq : ∀ i j, i < 15 → j < 15 → q i = q j → i = j) (hb : b < 8) (hz : z < 6) (ha : 300 ≤ ar 10 b ∧ ar 10 b ≤ 700) (hd : 1 ≤ ar 11 b ∧ ar 11 b ≤ 6) : hM l yX9_blockAt cX9_blockAt 5 (some .int) { frames := 8, cells := 0, slots := 0, locals := 200 } [.ref (q 0), .int (nI b), .int (nI z)] D cA ga φ sz (fun v φ' => v = some (.int (nI (bW (ar 10 b) (ar 11 b) z))) ∧ φ' = φ) 0 0 := by
  refine hM.of (by decide) (Nat.le_of_ble_eq_true rfl) rfl ?_
  intro p e s m args below meth c ls H locs S hr hlocks hnm hsz hHz hH hK hX hS hA hl
  obtain ⟨f0, f1, f2, f3, f4, f5, f6, f7, f8, f9, f10, f11, f12, f13, f14⟩ := hm
  refine lv_aload_n (pc := 0) S.1 S.2.1 dX9_blockAt_0 rfl (lv_at hl 0 rfl) ?_
  refine hv_get (pc := 1) (C := RX9) (T := TX9) (N := 22) (ref := RX9) S uwX9 hK hH f0 rfl 14 (by decide) tw_959 (fun _ h9 => h9) rfl dX9_blockAt_1 ?_
  refine lv_iload_n (pc := 4) S.1 S.2.1 dX9_blockAt_4 rfl (lv_at hl 1 rfl) ?_
  refine hv_iald (pc := 5) S hK hH 1 f10 rfl (vp_in_nI (by omega) (by omega)) dX9_blockAt_5 ?_
  refine hv_ti (y := nI ((ar 10) b)) (hv_ld (by omega)) ?_
  refine lv_istore_n (pc := 6) (lv' := [(3, .int (nI ((ar 10) b))), (0, .ref (q 0)), (1, .int (nI b)), (2, .int (nI z))]) S.1 S.2.1 dX9_blockAt_6 rfl hl (by decide) rfl (fun ls hl => ?_)
  refine lv_aload_n (pc := 7) S.1 S.2.1 dX9_blockAt_7 rfl (lv_at hl 1 rfl) ?_
  refine hv_get (pc := 8) (C := RX9) (T := TX9) (N := 22) (ref := RX9) S uwX9 hK hH f0 rfl 15 (by decide) tw_960 (fun _ h9 => h9) rfl dX9_blockAt_8 ?_
  refine lv_iload_n (pc := 11) S.1 S.2.1 dX9_blockAt_11 rfl (lv_at hl 2 rfl) ?_
  refine hv_iald (pc := 12) S hK hH 1 f11 rfl (vp_in_nI (by omega) (by omega)) dX9_blockAt_12 ?_
  refine hv_ti (y := nI ((ar 11) b)) (hv_ld (by omega)) ?_
  refine lv_istore (pc := 13) (lv' := [(4, .int (nI ((ar 11) b))), (3, .int (nI ((ar 10) b))), (0, .ref (q 0)), (1, .int (nI b)), (2, .int (nI z))]) S.1 S.2.1 dX9_blockAt_13 hl (by decide) rfl (fun ls hl => ?_)
  have hl9 : lv_has ls 5 [(4, .int (nI ((ar 11) b))), (3, .int (nI (ar 10 b - ar 10 b / 10 * 0))), (0, .ref (q 0)), (1, .int (nI b)), (2, .int (nI z))] := by have h9 := hl; rw [show nI (ar 10 b) = nI (ar 10 b - ar 10 b / 10 * 0) by rw [Nat.mul_zero, Nat.sub_zero]] at h9; exact h9
  clear hl; have hl := hl9; clear hl9
  have hg : ∃ (n i : Nat), (i + n = z + 1 - ar 11 b) ∧ lv_has ls 5 [(0, .ref (q 0)), (1, .int (nI b)), (2, .int (nI z)), (3, .int (nI (ar 10 b - ar 10 b / 10 * i))), (4, .int (nI (ar 11 b + i)))] := ⟨z + 1 - ar 11 b, 0, by omega, lv_sub hl [2, 3, 4, 1, 0] rfl⟩
  clear hl
  try clear hHz
  obtain ⟨n, i, hi, hl⟩ := hg
  induction n generalizing ls H locs i with
  | zero =>
    have hm0 : ar 10 b / 10 * i ≤ ar 10 b / 10 * 6 := Nat.mul_le_mul_left _ (by omega)
    refine lv_iload (pc := 15) S.1 S.2.1 dX9_blockAt_15 (lv_at hl 4 rfl) ?_
    refine lv_iload_n (pc := 17) S.1 S.2.1 dX9_blockAt_17 rfl (lv_at hl 2 rfl) ?_
    refine hv_icmp_gt (pc := 18) (tgt := 52) (a := ar 11 b + i) (b := z) S.1 S.2.1 (by omega) (by omega) dX9_blockAt_18 (by decide) (fun c_1 => ?_) (fun c_1 => ?_)
    · skip
      refine lv_iload_n (pc := 52) S.1 S.2.1 dX9_blockAt_52 rfl (lv_at hl 3 rfl) ?_
      exact hv_ret (pc := 53) (v := nI (ar 10 b - ar 10 b / 10 * i)) S hr rfl hlocks hH hS (⟨by rw [bW, ← hi, Nat.add_zero, Nat.max_eq_right (by omega)], rfl⟩) (Nat.le_of_ble_eq_true rfl) (Nat.le_of_ble_eq_true rfl) dX9_blockAt_53
    · skip
      exact absurd c_1 (by omega)
  | succ n ih =>
    have hm0 : ar 10 b / 10 * (i + 1) ≤ ar 10 b / 10 * 6 := Nat.mul_le_mul_left _ (by omega)
    have hm1 : ar 10 b / 10 * (i + 1) = ar 10 b / 10 * i + ar 10 b / 10 := Nat.mul_succ _ _
    refine lv_iload (pc := 15) S.1 S.2.1 dX9_blockAt_15 (lv_at hl 4 rfl) ?_
    refine lv_iload_n (pc := 17) S.1 S.2.1 dX9_blockAt_17 rfl (lv_at hl 2 rfl) ?_
    refine hv_icmp_gt (pc := 18) (tgt := 52) (a := ar 11 b + i) (b := z) S.1 S.2.1 (by omega) (by omega) dX9_blockAt_18 (by decide) (fun c_2 => ?_) (fun c_2 => ?_)
    · skip
      exact absurd c_2 (by omega)
    · skip
      refine lv_iload_n (pc := 21) S.1 S.2.1 dX9_blockAt_21 rfl (lv_at hl 3 rfl) ?_
      refine lv_aload_n (pc := 22) S.1 S.2.1 dX9_blockAt_22 rfl (lv_at hl 0 rfl) ?_
      refine hv_get (pc := 23) (C := RX9) (T := TX9) (N := 22) (ref := RX9) S uwX9 hK hH f0 rfl 14 (by decide) tw_959 (fun _ h9 => h9) rfl dX9_blockAt_23 ?_
      refine lv_iload_n (pc := 26) S.1 S.2.1 dX9_blockAt_26 rfl (lv_at hl 1 rfl) ?_
      refine hv_iald (pc := 27) S hK hH 1 f10 rfl (vp_in_nI (by omega) (by omega)) dX9_blockAt_27 ?_
      refine hv_ti (y := nI ((ar 10) b)) (hv_ld (by omega)) ?_
      refine lv_bipush (pc := 28) (v := nI 10) S.1 S.2.1 dX9_blockAt_28 (by decide) ?_
      refine lv_idiv (pc := 30) S.1 S.2.1 dX9_blockAt_30 (by decide) ?_
      refine hv_ti (y := nI (((ar 10) b) / 10)) (pk_div (by omega) (by omega) (by omega)) ?_
      refine lv_isub (pc := 31) S.1 S.2.1 dX9_blockAt_31 ?_
      refine hv_ti (y := nI ((ar 10 b - ar 10 b / 10 * i) - (((ar 10) b) / 10))) (pk_sub (by omega)) ?_
      refine hv_ti (y := nI (ar 10 b - ar 10 b / 10 * (i + 1))) (by congr 1; omega) ?_
      refine lv_istore_n (pc := 32) (lv' := [(3, .int (nI (ar 10 b - ar 10 b / 10 * (i + 1)))), (0, .ref (q 0)), (1, .int (nI b)), (2, .int (nI z)), (4, .int (nI (ar 11 b + i)))]) S.1 S.2.1 dX9_blockAt_32 rfl hl (by decide) rfl (fun ls hl => ?_)
      refine lv_iload_n (pc := 33) S.1 S.2.1 dX9_blockAt_33 rfl (lv_at hl 0 rfl) ?_
      refine lv_bipush (pc := 34) (v := nI 50) S.1 S.2.1 dX9_blockAt_34 (by decide) ?_
      refine hv_icmp_ge (pc := 36) (tgt := 44) (a := ar 10 b - ar 10 b / 10 * (i + 1)) (b := 50) S.1 S.2.1 (by omega) (by omega) dX9_blockAt_36 (by decide) (fun c_3 => ?_) (fun c_3 => ?_)
      · skip
        refine lv_iload_n (pc := 44) S.1 S.2.1 dX9_blockAt_44 rfl (lv_at hl 0 rfl) ?_
        refine lv_istore_n (pc := 45) (lv' := [(3, .int (nI (ar 10 b - ar 10 b / 10 * (i + 1)))), (0, .ref (q 0)), (1, .int (nI b)), (2, .int (nI z)), (4, .int (nI (ar 11 b + i)))]) S.1 S.2.1 dX9_blockAt_45 rfl hl (by decide) rfl (fun ls hl => ?_)
        refine lv_iinc (pc := 46) (v := nI (ar 11 b + i + 1)) (lv' := [(4, .int (nI (ar 11 b + i + 1))), (3, .int (nI (ar 10 b - ar 10 b / 10 * (i + 1)))), (0, .ref (q 0)), (1, .int (nI b)), (2, .int (nI z))]) S.1 S.2.1 dX9_blockAt_46 hl (k := 4) rfl (by first | rfl | exact nI_add _ _) (by decide) rfl (fun ls hl => ?_)
        refine lv_goto (pc := 49) (tgt := 15) S.1 S.2.1 dX9_blockAt_49 (by decide) ?_
        have hi2 : (i + 1) + n = z + 1 - ar 11 b := by omega
        have hl2 : lv_has ls 5 [(0, .ref (q 0)), (1, .int (nI b)), (2, .int (nI z)), (3, .int (nI (ar 10 b - ar 10 b / 10 * (i + 1)))), (4, .int (nI (ar 11 b + (i + 1))))] := lv_sub hl [2, 3, 4, 1, 0] rfl
        apply ih (i := i + 1) <;> assumption
      · skip
        exact absurd c_3 (by omega)

set_option maxHeartbeats 4000000 in
set_option maxRecDepth 100000 in
/-- around() -/
theorem c_m_around (l : Launch) (D : va_G) (cA : Nat → ClassId) (ga : Nat → Nat → Nat) (φ : hpM) (sz : Nat) (q : Nat → Nat) (sc : Nat → Nat) (ar : Nat → Nat → Nat) (hm : MP cA q sc ar φ) (hq : ∀ i j, i < 15 → j < 15 → q i = q j → i = j) (hr2 : ∀ j, ar 14 j ≤ 200) : hM l yX9_around cX9_around 3 (some .int) { frames := 8, cells := 0, slots := 0, locals := 200 } [.ref (q 0)] D cA ga φ sz (fun v φ' => v = some (.int (nI (smN (ar 14) 8 * 785 / 1000))) ∧ φ' = φ) 0 0 := by
  refine hM.of (by decide) (Nat.le_of_ble_eq_true rfl) rfl ?_
  intro p e s m args below meth c ls H locs S hr hlocks hnm hsz hHz hH hK hX hS hA hl
  have hs8 := smN_le hr2 8
  obtain ⟨f0, f1, f2, f3, f4, f5, f6, f7, f8, f9, f10, f11, f12, f13, f14⟩ := hm
  refine lv_iconst (pc := 0) (v := nI 0) S.1 S.2.1 dX9_around_0 (by decide) ?_
  refine lv_istore_n (pc := 1) (lv' := [(1, .int (nI 0)), (0, .ref (q 0))]) S.1 S.2.1 dX9_around_1 rfl hl (by decide) rfl (fun ls hl => ?_)
  refine lv_iconst (pc := 2) (v := nI 0) S.1 S.2.1 dX9_around_2 (by decide) ?_
  refine lv_istore_n (pc := 3) (lv' := [(2, .int (nI 0)), (1, .int (nI 0)), (0, .ref (q 0))]) S.1 S.2.1 dX9_around_3 rfl hl (by decide) rfl (fun ls hl => ?_)
  have hg : ∃ (n i : Nat), (i + n = 8) ∧ lv_has ls 3 [(0, .ref (q 0)), (1, .int (nI (smN (ar 14) i))), (2, .int (nI i))] := ⟨8, 0, rfl, lv_sub hl [2, 1, 0] rfl⟩
  clear hl
  try clear hHz
  obtain ⟨n, i, hi, hl⟩ := hg
  induction n generalizing ls H locs i with
  | zero =>
    obtain rfl : i = 8 := by omega
    refine lv_iload_n (pc := 4) S.1 S.2.1 dX9_around_4 rfl (lv_at hl 2 rfl) ?_
    refine lv_bipush (pc := 5) (v := nI 8) S.1 S.2.1 dX9_around_5 (by decide) ?_
    refine hv_icmp_ge (pc := 7) (tgt := 25) (a := 8) (b := 8) S.1 S.2.1 (by omega) (by omega) dX9_around_7 (by decide) (fun c_1 => ?_) (fun c_1 => ?_)
    · skip
      refine lv_iload_n (pc := 25) S.1 S.2.1 dX9_around_25 rfl (lv_at hl 1 rfl) ?_
      refine lv_sipush (pc := 26) (v := nI 785) S.1 S.2.1 dX9_around_26 (by decide) ?_
      refine lv_imul (pc := 29) S.1 S.2.1 dX9_around_29 ?_
      refine hv_ti (y := nI ((smN (ar 14) 8) * 785)) (pk_mul _ _) ?_
      refine lv_sipush (pc := 30) (v := nI 1000) S.1 S.2.1 dX9_around_30 (by decide) ?_
      refine lv_idiv (pc := 33) S.1 S.2.1 dX9_around_33 (by decide) ?_
      refine hv_ti (y := nI (((smN (ar 14) 8) * 785) / 1000)) (pk_div (by omega) (by omega) (by omega)) ?_
      exact hv_ret (pc := 34) (v := nI (((smN (ar 14) 8) * 785) / 1000)) S hr rfl hlocks hH hS (⟨rfl, rfl⟩) (Nat.le_of_ble_eq_true rfl) (Nat.le_of_ble_eq_true rfl) dX9_around_34
    · skip
      exact absurd c_1 (by omega)
  | succ n ih =>
    refine lv_iload_n (pc := 4) S.1 S.2.1 dX9_around_4 rfl (lv_at hl 2 rfl) ?_
    refine lv_bipush (pc := 5) (v := nI 8) S.1 S.2.1 dX9_around_5 (by decide) ?_
    refine hv_icmp_ge (pc := 7) (tgt := 25) (a := i) (b := 8) S.1 S.2.1 (by omega) (by omega) dX9_around_7 (by decide) (fun c_2 => ?_) (fun c_2 => ?_)
    · skip
      exact absurd c_2 (by omega)
    · skip
      refine lv_iload_n (pc := 10) S.1 S.2.1 dX9_around_10 rfl (lv_at hl 1 rfl) ?_
      refine lv_aload_n (pc := 11) S.1 S.2.1 dX9_around_11 rfl (lv_at hl 0 rfl) ?_
      refine hv_get (pc := 12) (C := RX9) (T := TX9) (N := 22) (ref := RX9) S uwX9 hK hH f0 rfl 19 (by decide) tw_964 (fun _ h9 => h9) rfl dX9_around_12 ?_
      refine lv_iload_n (pc := 15) S.1 S.2.1 dX9_around_15 rfl (lv_at hl 2 rfl) ?_
      refine hv_iald (pc := 16) S hK hH 1 f14 rfl (vp_in_nI (by omega) (by omega)) dX9_around_16 ?_
      refine hv_ti (y := nI ((ar 14) i)) (hv_ld (by omega)) ?_
      refine lv_iadd (pc := 17) S.1 S.2.1 dX9_around_17 ?_
      refine hv_ti (y := nI ((smN (ar 14) i) + ((ar 14) i))) (nI_add _ _) ?_
      refine lv_istore_n (pc := 18) (lv' := [(1, .int (nI ((smN (ar 14) i) + ((ar 14) i)))), (0, .ref (q 0)), (2, .int (nI i))]) S.1 S.2.1 dX9_around_18 rfl hl (by decide) rfl (fun ls hl => ?_)
      refine lv_iinc (pc := 19) (v := nI (i + 1)) (lv' := [(2, .int (nI (i + 1))), (1, .int (nI ((smN (ar 14) i) + ((ar 14) i)))), (0, .ref (q 0))]) S.1 S.2.1 dX9_around_19 hl (k := 2) rfl (by first | rfl | exact nI_add _ _) (by decide) rfl (fun ls hl => ?_)
      refine lv_goto (pc := 22) (tgt := 4) S.1 S.2.1 dX9_around_22 (by decide) ?_
      have hi2 : (i + 1) + n = 8 := by omega
      have hl2 : lv_has ls 3 [(0, .ref (q 0)), (1, .int (nI (smN (ar 14) (i + 1)))), (2, .int (nI (i + 1)))] := lv_sub hl [2, 1, 0] rfl
      apply ih (i := i + 1) <;> assumption

set_option maxHeartbeats 4000000 in
set_option maxRecDepth 100000 in
/-- fur() -/
theorem c_m_fur (l : Launch) (D : va_G) (cA : Nat → ClassId) (ga : Nat → Nat → Nat) (φ : hpM) (sz : Nat) (q : Nat → Nat) (sc : Nat → Nat) (ar : Nat → Nat → Nat) (hm : MP cA q sc ar φ) (hq : ∀ i j, i < 15 → j < 15 → q i = q j → i = j) (hty : sc 1 < 2 ^ 62) : hM l yX9_fur cX9_fur 1 (some .int) { frames := 9, cells := 0, slots := 0, locals := 260 } [.ref (q 0)] D cA ga φ sz (fun v φ' => v = some (.int (wkI (wkO 0 (sc 1) 4 0))) ∧ φ' = φ) 0 0 := by
  refine hM.of (by decide) (Nat.le_of_ble_eq_true rfl) rfl ?_
  intro p e s m args below meth c ls H locs S hr hlocks hnm hsz hHz hH hK hX hS hA hl
  obtain ⟨f0, f1, f2, f3, f4, f5, f6, f7, f8, f9, f10, f11, f12, f13, f14⟩ := hm
  refine lv_aload_n (pc := 0) S.1 S.2.1 dX9_fur_0 rfl (lv_at hl 0 rfl) ?_
  refine hv_get (pc := 1) (C := RX9) (T := TX9) (N := 22) (ref := RX9) S uwX9 hK hH f0 rfl 1 (by decide) tw_946 (fun _ h9 => h9) rfl dX9_fur_1 ?_
  refine lv_bipush (pc := 4) (v := nI 114) S.1 S.2.1 dX9_fur_4 (by decide) ?_
  refine lv_bipush (pc := 6) (v := nI 97) S.1 S.2.1 dX9_fur_6 (by decide) ?_
  refine lv_bipush (pc := 8) (v := nI 98) S.1 S.2.1 dX9_fur_8 (by decide) ?_
  refine lv_bipush (pc := 10) (v := nI 98) S.1 S.2.1 dX9_fur_10 (by decide) ?_
  refine lv_bipush (pc := 12) (v := nI 105) S.1 S.2.1 dX9_fur_12 (by decide) ?_
  refine lv_bipush (pc := 14) (v := nI 116) S.1 S.2.1 dX9_fur_14 (by decide) ?_
  refine lv_bipush (pc := 16) (v := nI 32) S.1 S.2.1 dX9_fur_16 (by decide) ?_
  refine hv_call (pc := 18) (va_runS (As := [.int (nI 114), .int (nI 97), .int (nI 98), .int (nI 98), .int (nI 105), .int (nI 116), .int (nI 32)]) (rest := [.long (Int64.ofNat (sc 1))]) S (c_m_word l D cA ga φ H.size (fun i => [114, 97, 98, 98, 105, 116, 32].getD i 32) (by decide)) (va_cwS 7 S.2.2.2.2 (gS tw_1038 tw_1039 tw_7 tw_1040) rfl rfl rfl (by decide +kernel) ⟨Nat.le_of_ble_eq_true rfl, Nat.le_of_ble_eq_true rfl⟩) (pre0_S hH hK hX hS hA) rfl rfl hl.1 rfl (lv_room (Nat.le_of_ble_eq_true rfl)) dX9_fur_18 ⟨Nat.le_of_ble_eq_true rfl, Nat.le_of_ble_eq_true rfl⟩) hS (af_le hH hS hA) (fun v_1 φ_2 H locs hw_v_1 hH hS => ?_)
  obtain ⟨rfl, hqv_1⟩ := hw_v_1
  rw [hqv_1] at hH
  refine hv_tv (y := .long (Int64.ofNat (wcd 0))) (by rw [show wdF (fun i => [114, 97, 98, 98, 105, 116, 32].getD i 32) 7 = wcd 0 by decide +kernel]) ?_
  refine W.lcmp S.1 S.2.1 dX9_fur_21 ?_
  refine lv_if_ne (pc := 22) (tgt := 29) S.1 S.2.1 dX9_fur_22 (by decide) (fun c_3 => ?_) (fun c_3 => ?_)
  · skip
    have hn0 : ¬ sc 1 = wcd 0 := fun h => c_3 ((jL_cmp hty (wcd_lt 0 (by decide))).mpr h)
    refine lv_aload_n (pc := 29) S.1 S.2.1 dX9_fur_29 rfl (lv_at hl 0 rfl) ?_
    refine hv_get (pc := 30) (C := RX9) (T := TX9) (N := 22) (ref := RX9) S uwX9 hK hH f0 rfl 1 (by decide) tw_946 (fun _ h9 => h9) rfl dX9_fur_30 ?_
    refine lv_bipush (pc := 33) (v := nI 119) S.1 S.2.1 dX9_fur_33 (by decide) ?_
    refine lv_bipush (pc := 35) (v := nI 111) S.1 S.2.1 dX9_fur_35 (by decide) ?_
    refine lv_bipush (pc := 37) (v := nI 111) S.1 S.2.1 dX9_fur_37 (by decide) ?_
    refine lv_bipush (pc := 39) (v := nI 108) S.1 S.2.1 dX9_fur_39 (by decide) ?_
    refine lv_bipush (pc := 41) (v := nI 32) S.1 S.2.1 dX9_fur_41 (by decide) ?_
    refine lv_bipush (pc := 43) (v := nI 32) S.1 S.2.1 dX9_fur_43 (by decide) ?_
    refine lv_bipush (pc := 45) (v := nI 32) S.1 S.2.1 dX9_fur_45 (by decide) ?_
    refine hv_call (pc := 47) (va_runS (As := [.int (nI 119), .int (nI 111), .int (nI 111), .int (nI 108), .int (nI 32), .int (nI 32), .int (nI 32)]) (rest := [.long (Int64.ofNat (sc 1))]) S (c_m_word l D cA ga φ H.size (fun i => [119, 111, 111, 108, 32, 32, 32].getD i 32) (by decide)) (va_cwS 7 S.2.2.2.2 (gS tw_1038 tw_1039 tw_7 tw_1040) rfl rfl rfl (by decide +kernel) ⟨Nat.le_of_ble_eq_true rfl, Nat.le_of_ble_eq_true rfl⟩) (pre0_S hH hK hX hS hA) rfl rfl hl.1 rfl (lv_room (Nat.le_of_ble_eq_true rfl)) dX9_fur_47 ⟨Nat.le_of_ble_eq_true rfl, Nat.le_of_ble_eq_true rfl⟩) hS (af_le hH hS hA) (fun v_4 φ_5 H locs hw_v_4 hH hS => ?_)
    obtain ⟨rfl, hqv_4⟩ := hw_v_4
    rw [hqv_4] at hH
    refine hv_tv (y := .long (Int64.ofNat (wcd 1))) (by rw [show wdF (fun i => [119, 111, 111, 108, 32, 32, 32].getD i 32) 7 = wcd 1 by decide +kernel]) ?_
    refine W.lcmp S.1 S.2.1 dX9_fur_50 ?_
    refine lv_if_ne (pc := 51) (tgt := 58) S.1 S.2.1 dX9_fur_51 (by decide) (fun c_6 => ?_) (fun c_6 => ?_)
    · skip
      have hn1 : ¬ sc 1 = wcd 1 := fun h => c_6 ((jL_cmp hty (wcd_lt 1 (by decide))).mpr h)
      refine lv_aload_n (pc := 58) S.1 S.2.1 dX9_fur_58 rfl (lv_at hl 0 rfl) ?_
      refine hv_get (pc := 59) (C := RX9) (T := TX9) (N := 22) (ref := RX9) S uwX9 hK hH f0 rfl 1 (by decide) tw_946 (fun _ h9 => h9) rfl dX9_fur_59 ?_
      refine lv_bipush (pc := 62) (v := nI 98) S.1 S.2.1 dX9_fur_62 (by decide) ?_
      refine lv_bipush (pc := 64) (v := nI 101) S.1 S.2.1 dX9_fur_64 (by decide) ?_
      refine lv_bipush (pc := 66) (v := nI 97) S.1 S.2.1 dX9_fur_66 (by decide) ?_
      refine lv_bipush (pc := 68) (v := nI 118) S.1 S.2.1 dX9_fur_68 (by decide) ?_
      refine lv_bipush (pc := 70) (v := nI 101) S.1 S.2.1 dX9_fur_70 (by decide) ?_
      refine lv_bipush (pc := 72) (v := nI 114) S.1 S.2.1 dX9_fur_72 (by decide) ?_
      refine lv_bipush (pc := 74) (v := nI 32) S.1 S.2.1 dX9_fur_74 (by decide) ?_
      refine hv_call (pc := 76) (va_runS (As := [.int (nI 98), .int (nI 101), .int (nI 97), .int (nI 118), .int (nI 101), .int (nI 114), .int (nI 32)]) (rest := [.long (Int64.ofNat (sc 1))]) S (c_m_word l D cA ga φ H.size (fun i => [98, 101, 97, 118, 101, 114, 32].getD i 32) (by decide)) (va_cwS 7 S.2.2.2.2 (gS tw_1038 tw_1039 tw_7 tw_1040) rfl rfl rfl (by decide +kernel) ⟨Nat.le_of_ble_eq_true rfl, Nat.le_of_ble_eq_true rfl⟩) (pre0_S hH hK hX hS hA) rfl rfl hl.1 rfl (lv_room (Nat.le_of_ble_eq_true rfl)) dX9_fur_76 ⟨Nat.le_of_ble_eq_true rfl, Nat.le_of_ble_eq_true rfl⟩) hS (af_le hH hS hA) (fun v_7 φ_8 H locs hw_v_7 hH hS => ?_)
      obtain ⟨rfl, hqv_7⟩ := hw_v_7
      rw [hqv_7] at hH
      refine hv_tv (y := .long (Int64.ofNat (wcd 2))) (by rw [show wdF (fun i => [98, 101, 97, 118, 101, 114, 32].getD i 32) 7 = wcd 2 by decide +kernel]) ?_
      refine W.lcmp S.1 S.2.1 dX9_fur_79 ?_
      refine lv_if_ne (pc := 80) (tgt := 87) S.1 S.2.1 dX9_fur_80 (by decide) (fun c_9 => ?_) (fun c_9 => ?_)
      · skip
        have hn2 : ¬ sc 1 = wcd 2 := fun h => c_9 ((jL_cmp hty (wcd_lt 2 (by decide))).mpr h)
        refine lv_aload_n (pc := 87) S.1 S.2.1 dX9_fur_87 rfl (lv_at hl 0 rfl) ?_
        refine hv_get (pc := 88) (C := RX9) (T := TX9) (N := 22) (ref := RX9) S uwX9 hK hH f0 rfl 1 (by decide) tw_946 (fun _ h9 => h9) rfl dX9_fur_88 ?_
        refine lv_bipush (pc := 91) (v := nI 104) S.1 S.2.1 dX9_fur_91 (by decide) ?_
        refine lv_bipush (pc := 93) (v := nI 97) S.1 S.2.1 dX9_fur_93 (by decide) ?_
        refine lv_bipush (pc := 95) (v := nI 114) S.1 S.2.1 dX9_fur_95 (by decide) ?_
        refine lv_bipush (pc := 97) (v := nI 101) S.1 S.2.1 dX9_fur_97 (by decide) ?_
        refine lv_bipush (pc := 99) (v := nI 32) S.1 S.2.1 dX9_fur_99 (by decide) ?_
        refine lv_bipush (pc := 101) (v := nI 32) S.1 S.2.1 dX9_fur_101 (by decide) ?_
        refine lv_bipush (pc := 103) (v := nI 32) S.1 S.2.1 dX9_fur_103 (by decide) ?_
        refine hv_call (pc := 105) (va_runS (As := [.int (nI 104), .int (nI 97), .int (nI 114), .int (nI 101), .int (nI 32), .int (nI 32), .int (nI 32)]) (rest := [.long (Int64.ofNat (sc 1))]) S (c_m_word l D cA ga φ H.size (fun i => [104, 97, 114, 101, 32, 32, 32].getD i 32) (by decide)) (va_cwS 7 S.2.2.2.2 (gS tw_1038 tw_1039 tw_7 tw_1040) rfl rfl rfl (by decide +kernel) ⟨Nat.le_of_ble_eq_true rfl, Nat.le_of_ble_eq_true rfl⟩) (pre0_S hH hK hX hS hA) rfl rfl hl.1 rfl (lv_room (Nat.le_of_ble_eq_true rfl)) dX9_fur_105 ⟨Nat.le_of_ble_eq_true rfl, Nat.le_of_ble_eq_true rfl⟩) hS (af_le hH hS hA) (fun v_10 φ_11 H locs hw_v_10 hH hS => ?_)
        obtain ⟨rfl, hqv_10⟩ := hw_v_10
        rw [hqv_10] at hH
        refine hv_tv (y := .long (Int64.ofNat (wcd 3))) (by rw [show wdF (fun i => [104, 97, 114, 101, 32, 32, 32].getD i 32) 7 = wcd 3 by decide +kernel]) ?_
        refine W.lcmp S.1 S.2.1 dX9_fur_108 ?_
        refine lv_if_ne (pc := 109) (tgt := 116) S.1 S.2.1 dX9_fur_109 (by decide) (fun c_12 => ?_) (fun c_12 => ?_)
        · skip
          have hn3 : ¬ sc 1 = wcd 3 := fun h => c_12 ((jL_cmp hty (wcd_lt 3 (by decide))).mpr h)
          refine lv_iconst (pc := 116) (v := -1) S.1 S.2.1 dX9_fur_116 (by decide) ?_
          exact hv_ret (pc := 117) (v := (-1 : Int32)) S hr rfl hlocks hH hS (⟨by rw [wkO, if_neg hn0, wkO, if_neg hn1, wkO, if_neg hn2, wkO, if_neg hn3]; rfl, rfl⟩) (Nat.le_of_ble_eq_true rfl) (Nat.le_of_ble_eq_true rfl) dX9_fur_117
        · skip
          have hp9 : sc 1 = wcd 3 := (jL_cmp hty (wcd_lt 3 (by decide))).mp (by first | exact c_12 | exact Classical.not_not.mp c_12)
          refine lv_iconst (pc := 112) (v := nI 3) S.1 S.2.1 dX9_fur_112 (by decide) ?_
          refine lv_goto (pc := 113) (tgt := 117) S.1 S.2.1 dX9_fur_113 (by decide) ?_
          exact hv_ret (pc := 117) (v := nI 3) S hr rfl hlocks hH hS (⟨by rw [wkO, if_neg hn0, wkO, if_neg hn1, wkO, if_neg hn2, wkO, if_pos hp9]; rfl, rfl⟩) (Nat.le_of_ble_eq_true rfl) (Nat.le_of_ble_eq_true rfl) dX9_fur_117
      · skip
        have hp9 : sc 1 = wcd 2 := (jL_cmp hty (wcd_lt 2 (by decide))).mp (by first | exact c_9 | exact Classical.not_not.mp c_9)
        refine lv_iconst (pc := 83) (v := nI 2) S.1 S.2.1 dX9_fur_83 (by decide) ?_
        refine lv_goto (pc := 84) (tgt := 117) S.1 S.2.1 dX9_fur_84 (by decide) ?_
        exact hv_ret (pc := 117) (v := nI 2) S hr rfl hlocks hH hS (⟨by rw [wkO, if_neg hn0, wkO, if_neg hn1, wkO, if_pos hp9]; rfl, rfl⟩) (Nat.le_of_ble_eq_true rfl) (Nat.le_of_ble_eq_true rfl) dX9_fur_117
    · skip
      have hp9 : sc 1 = wcd 1 := (jL_cmp hty (wcd_lt 1 (by decide))).mp (by first | exact c_6 | exact Classical.not_not.mp c_6)
      refine lv_iconst (pc := 54) (v := nI 1) S.1 S.2.1 dX9_fur_54 (by decide) ?_
      refine lv_goto (pc := 55) (tgt := 117) S.1 S.2.1 dX9_fur_55 (by decide) ?_
      exact hv_ret (pc := 117) (v := nI 1) S hr rfl hlocks hH hS (⟨by rw [wkO, if_neg hn0, wkO, if_pos hp9]; rfl, rfl⟩) (Nat.le_of_ble_eq_true rfl) (Nat.le_of_ble_eq_true rfl) dX9_fur_117
  · skip
    have hp9 : sc 1 = wcd 0 := (jL_cmp hty (wcd_lt 0 (by decide))).mp (by first | exact c_3 | exact Classical.not_not.mp c_3)
    refine lv_iconst (pc := 25) (v := nI 0) S.1 S.2.1 dX9_fur_25 (by decide) ?_
    refine lv_goto (pc := 26) (tgt := 117) S.1 S.2.1 dX9_fur_26 (by decide) ?_
    exact hv_ret (pc := 117) (v := nI 0) S hr rfl hlocks hH hS (⟨by rw [wkO, if_pos hp9]; rfl, rfl⟩) (Nat.le_of_ble_eq_true rfl) (Nat.le_of_ble_eq_true rfl) dX9_fur_117

set_option maxHeartbeats 4000000 in
set_option maxRecDepth 100000 in
/-- feather() -/
theorem c_m_feather (l : Launch) (D : va_G) (cA : Nat → ClassId) (ga : Nat → Nat → Nat) (φ : hpM) (sz : Nat) (q : Nat → Nat) (sc : Nat → Nat) (ar : Nat → Nat → Nat) (hm : MP cA q sc ar φ) (hq : ∀ i j, i < 15 → j < 15 → q i = q j → i = j) (hty : sc 1 < 2 ^ 62) : hM l yX9_feather cX9_feather 1 (some .int) { frames := 9, cells := 0, slots := 0, locals := 260 } [.ref (q 0)] D cA ga φ sz (fun v φ' => v = some (.int (nI (wkP (wkO 4 (sc 1) 3 0)))) ∧ φ' = φ) 0 0 := by
  refine hM.of (by decide) (Nat.le_of_ble_eq_true rfl) rfl ?_
  intro p e s m args below meth c ls H locs S hr hlocks hnm hsz hHz hH hK hX hS hA hl
  obtain ⟨f0, f1, f2, f3, f4, f5, f6, f7, f8, f9, f10, f11, f12, f13, f14⟩ := hm
  refine lv_aload_n (pc := 0) S.1 S.2.1 dX9_feather_0 rfl (lv_at hl 0 rfl) ?_
  refine hv_get (pc := 1) (C := RX9) (T := TX9) (N := 22) (ref := RX9) S uwX9 hK hH f0 rfl 1 (by decide) tw_946 (fun _ h9 => h9) rfl dX9_feather_1 ?_
  refine lv_bipush (pc := 4) (v := nI 111) S.1 S.2.1 dX9_feather_4 (by decide) ?_
  refine lv_bipush (pc := 6) (v := nI 115) S.1 S.2.1 dX9_feather_6 (by decide) ?_
  refine lv_bipush (pc := 8) (v := nI 116) S.1 S.2.1 dX9_feather_8 (by decide) ?_
  refine lv_bipush (pc := 10) (v := nI 114) S.1 S.2.1 dX9_feather_10 (by decide) ?_
  refine lv_bipush (pc := 12) (v := nI 105) S.1 S.2.1 dX9_feather_12 (by decide) ?_
  refine lv_bipush (pc := 14) (v := nI 99) S.1 S.2.1 dX9_feather_14 (by decide) ?_
  refine lv_bipush (pc := 16) (v := nI 104) S.1 S.2.1 dX9_feather_16 (by decide) ?_
  refine hv_call (pc := 18) (va_runS (As := [.int (nI 111), .int (nI 115), .int (nI 116), .int (nI 114), .int (nI 105), .int (nI 99), .int (nI 104)]) (rest := [.long (Int64.ofNat (sc 1))]) S (c_m_word l D cA ga φ H.size (fun i => [111, 115, 116, 114, 105, 99, 104].getD i 32) (by decide)) (va_cwS 7 S.2.2.2.2 (gS tw_1038 tw_1039 tw_7 tw_1040) rfl rfl rfl (by decide +kernel) ⟨Nat.le_of_ble_eq_true rfl, Nat.le_of_ble_eq_true rfl⟩) (pre0_S hH hK hX hS hA) rfl rfl hl.1 rfl (lv_room (Nat.le_of_ble_eq_true rfl)) dX9_feather_18 ⟨Nat.le_of_ble_eq_true rfl, Nat.le_of_ble_eq_true rfl⟩) hS (af_le hH hS hA) (fun v_1 φ_2 H locs hw_v_1 hH hS => ?_)
  obtain ⟨rfl, hqv_1⟩ := hw_v_1
  rw [hqv_1] at hH
  refine hv_tv (y := .long (Int64.ofNat (wcd 4))) (by rw [show wdF (fun i => [111, 115, 116, 114, 105, 99, 104].getD i 32) 7 = wcd 4 by decide +kernel]) ?_
  refine W.lcmp S.1 S.2.1 dX9_feather_21 ?_
  refine lv_if_ne (pc := 22) (tgt := 30) S.1 S.2.1 dX9_feather_22 (by decide) (fun c_3 => ?_) (fun c_3 => ?_)
  · skip
    have hn0 : ¬ sc 1 = wcd 4 := fun h => c_3 ((jL_cmp hty (wcd_lt 4 (by decide))).mpr h)
    refine lv_aload_n (pc := 30) S.1 S.2.1 dX9_feather_30 rfl (lv_at hl 0 rfl) ?_
    refine hv_get (pc := 31) (C := RX9) (T := TX9) (N := 22) (ref := RX9) S uwX9 hK hH f0 rfl 1 (by decide) tw_946 (fun _ h9 => h9) rfl dX9_feather_31 ?_
    refine lv_bipush (pc := 34) (v := nI 101) S.1 S.2.1 dX9_feather_34 (by decide) ?_
    refine lv_bipush (pc := 36) (v := nI 103) S.1 S.2.1 dX9_feather_36 (by decide) ?_
    refine lv_bipush (pc := 38) (v := nI 114) S.1 S.2.1 dX9_feather_38 (by decide) ?_
    refine lv_bipush (pc := 40) (v := nI 101) S.1 S.2.1 dX9_feather_40 (by decide) ?_
    refine lv_bipush (pc := 42) (v := nI 116) S.1 S.2.1 dX9_feather_42 (by decide) ?_
    refine lv_bipush (pc := 44) (v := nI 32) S.1 S.2.1 dX9_feather_44 (by decide) ?_
    refine lv_bipush (pc := 46) (v := nI 32) S.1 S.2.1 dX9_feather_46 (by decide) ?_
    refine hv_call (pc := 48) (va_runS (As := [.int (nI 101), .int (nI 103), .int (nI 114), .int (nI 101), .int (nI 116), .int (nI 32), .int (nI 32)]) (rest := [.long (Int64.ofNat (sc 1))]) S (c_m_word l D cA ga φ H.size (fun i => [101, 103, 114, 101, 116, 32, 32].getD i 32) (by decide)) (va_cwS 7 S.2.2.2.2 (gS tw_1038 tw_1039 tw_7 tw_1040) rfl rfl rfl (by decide +kernel) ⟨Nat.le_of_ble_eq_true rfl, Nat.le_of_ble_eq_true rfl⟩) (pre0_S hH hK hX hS hA) rfl rfl hl.1 rfl (lv_room (Nat.le_of_ble_eq_true rfl)) dX9_feather_48 ⟨Nat.le_of_ble_eq_true rfl, Nat.le_of_ble_eq_true rfl⟩) hS (af_le hH hS hA) (fun v_4 φ_5 H locs hw_v_4 hH hS => ?_)
    obtain ⟨rfl, hqv_4⟩ := hw_v_4
    rw [hqv_4] at hH
    refine hv_tv (y := .long (Int64.ofNat (wcd 5))) (by rw [show wdF (fun i => [101, 103, 114, 101, 116, 32, 32].getD i 32) 7 = wcd 5 by decide +kernel]) ?_
    refine W.lcmp S.1 S.2.1 dX9_feather_51 ?_
    refine lv_if_ne (pc := 52) (tgt := 59) S.1 S.2.1 dX9_feather_52 (by decide) (fun c_6 => ?_) (fun c_6 => ?_)
    · skip
      have hn1 : ¬ sc 1 = wcd 5 := fun h => c_6 ((jL_cmp hty (wcd_lt 5 (by decide))).mpr h)
      refine lv_aload_n (pc := 59) S.1 S.2.1 dX9_feather_59 rfl (lv_at hl 0 rfl) ?_
      refine hv_get (pc := 60) (C := RX9) (T := TX9) (N := 22) (ref := RX9) S uwX9 hK hH f0 rfl 1 (by decide) tw_946 (fun _ h9 => h9) rfl dX9_feather_60 ?_
      refine lv_bipush (pc := 63) (v := nI 101) S.1 S.2.1 dX9_feather_63 (by decide) ?_
      refine lv_bipush (pc := 65) (v := nI 97) S.1 S.2.1 dX9_feather_65 (by decide) ?_
      refine lv_bipush (pc := 67) (v := nI 103) S.1 S.2.1 dX9_feather_67 (by decide) ?_
      refine lv_bipush (pc := 69) (v := nI 108) S.1 S.2.1 dX9_feather_69 (by decide) ?_
      refine lv_bipush (pc := 71) (v := nI 101) S.1 S.2.1 dX9_feather_71 (by decide) ?_
      refine lv_bipush (pc := 73) (v := nI 32) S.1 S.2.1 dX9_feather_73 (by decide) ?_
      refine lv_bipush (pc := 75) (v := nI 32) S.1 S.2.1 dX9_feather_75 (by decide) ?_
      refine hv_call (pc := 77) (va_runS (As := [.int (nI 101), .int (nI 97), .int (nI 103), .int (nI 108), .int (nI 101), .int (nI 32), .int (nI 32)]) (rest := [.long (Int64.ofNat (sc 1))]) S (c_m_word l D cA ga φ H.size (fun i => [101, 97, 103, 108, 101, 32, 32].getD i 32) (by decide)) (va_cwS 7 S.2.2.2.2 (gS tw_1038 tw_1039 tw_7 tw_1040) rfl rfl rfl (by decide +kernel) ⟨Nat.le_of_ble_eq_true rfl, Nat.le_of_ble_eq_true rfl⟩) (pre0_S hH hK hX hS hA) rfl rfl hl.1 rfl (lv_room (Nat.le_of_ble_eq_true rfl)) dX9_feather_77 ⟨Nat.le_of_ble_eq_true rfl, Nat.le_of_ble_eq_true rfl⟩) hS (af_le hH hS hA) (fun v_7 φ_8 H locs hw_v_7 hH hS => ?_)
      obtain ⟨rfl, hqv_7⟩ := hw_v_7
      rw [hqv_7] at hH
      refine hv_tv (y := .long (Int64.ofNat (wcd 6))) (by rw [show wdF (fun i => [101, 97, 103, 108, 101, 32, 32].getD i 32) 7 = wcd 6 by decide +kernel]) ?_
      refine W.lcmp S.1 S.2.1 dX9_feather_80 ?_
      refine lv_if_ne (pc := 81) (tgt := 88) S.1 S.2.1 dX9_feather_81 (by decide) (fun c_9 => ?_) (fun c_9 => ?_)
      · skip
        have hn2 : ¬ sc 1 = wcd 6 := fun h => c_9 ((jL_cmp hty (wcd_lt 6 (by decide))).mpr h)
        refine lv_iconst (pc := 88) (v := nI 0) S.1 S.2.1 dX9_feather_88 (by decide) ?_
        exact hv_ret (pc := 89) (v := nI 0) S hr rfl hlocks hH hS (⟨by rw [wkO, if_neg hn0, wkO, if_neg hn1, wkO, if_neg hn2]; rfl, rfl⟩) (Nat.le_of_ble_eq_true rfl) (Nat.le_of_ble_eq_true rfl) dX9_feather_89
      · skip
        have hp9 : sc 1 = wcd 6 := (jL_cmp hty (wcd_lt 6 (by decide))).mp (by first | exact c_9 | exact Classical.not_not.mp c_9)
        refine lv_iconst (pc := 84) (v := nI 2) S.1 S.2.1 dX9_feather_84 (by decide) ?_
        refine lv_goto (pc := 85) (tgt := 89) S.1 S.2.1 dX9_feather_85 (by decide) ?_
        exact hv_ret (pc := 89) (v := nI 2) S hr rfl hlocks hH hS (⟨by rw [wkO, if_neg hn0, wkO, if_neg hn1, wkO, if_pos hp9]; rfl, rfl⟩) (Nat.le_of_ble_eq_true rfl) (Nat.le_of_ble_eq_true rfl) dX9_feather_89
    · skip
      have hp9 : sc 1 = wcd 5 := (jL_cmp hty (wcd_lt 5 (by decide))).mp (by first | exact c_6 | exact Classical.not_not.mp c_6)
      refine lv_iconst (pc := 55) (v := nI 5) S.1 S.2.1 dX9_feather_55 (by decide) ?_
      refine lv_goto (pc := 56) (tgt := 89) S.1 S.2.1 dX9_feather_56 (by decide) ?_
      exact hv_ret (pc := 89) (v := nI 5) S hr rfl hlocks hH hS (⟨by rw [wkO, if_neg hn0, wkO, if_pos hp9]; rfl, rfl⟩) (Nat.le_of_ble_eq_true rfl) (Nat.le_of_ble_eq_true rfl) dX9_feather_89
  · skip
    have hp9 : sc 1 = wcd 4 := (jL_cmp hty (wcd_lt 4 (by decide))).mp (by first | exact c_3 | exact Classical.not_not.mp c_3)
    refine lv_ldc (pc := 25) (v := nI 1000000000) S.1 S.2.1 S.2.2.2.1 (S.2.2.2.2 _ tw_1105) dX9_feather_25 ?_
    refine lv_goto (pc := 27) (tgt := 89) S.1 S.2.1 dX9_feather_27 (by decide) ?_
    exact hv_ret (pc := 89) (v := nI 1000000000) S hr rfl hlocks hH hS (⟨by rw [wkO, if_pos hp9]; rfl, rfl⟩) (Nat.le_of_ble_eq_true rfl) (Nat.le_of_ble_eq_true rfl) dX9_feather_89

set_option maxHeartbeats 4000000 in
set_option maxRecDepth 100000 in
/-- kind() -/
theorem c_m_kind (l : Launch) (D : va_G) (cA : Nat → ClassId) (ga : Nat → Nat → Nat) (φ : hpM) (sz : Nat) (q : Nat → Nat) (sc : Nat → Nat) (ar : Nat → Nat → Nat) (hm : MP cA q sc ar φ) (hq : ∀ i j, i < 15 → j < 15 → q i = q j → i = j) (hty : sc 1 < 2 ^ 62) : hM l yX9_kind cX9_kind 1 (some .int) { frames := 9, cells := 0, slots := 0, locals := 260 } [.ref (q 0)] D cA ga φ sz (fun v φ' => v = some (.int (wkI (wkO 7 (sc 1) 4 0))) ∧ φ' = φ) 0 0 := by
  refine hM.of (by decide) (Nat.le_of_ble_eq_true rfl) rfl ?_
  intro p e s m args below meth c ls H locs S hr hlocks hnm hsz hHz hH hK hX hS hA hl
  obtain ⟨f0, f1, f2, f3, f4, f5, f6, f7, f8, f9, f10, f11, f12, f13, f14⟩ := hm
  refine lv_aload_n (pc := 0) S.1 S.2.1 dX9_kind_0 rfl (lv_at hl 0 rfl) ?_
  refine hv_get (pc := 1) (C := RX9) (T := TX9) (N := 22) (ref := RX9) S uwX9 hK hH f0 rfl 1 (by decide) tw_946 (fun _ h9 => h9) rfl dX9_kind_1 ?_
  refine lv_bipush (pc := 4) (v := nI 102) S.1 S.2.1 dX9_kind_4 (by decide) ?_
  refine lv_bipush (pc := 6) (v := nI 108) S.1 S.2.1 dX9_kind_6 (by decide) ?_
  refine lv_bipush (pc := 8) (v := nI 97) S.1 S.2.1 dX9_kind_8 (by decide) ?_
  refine lv_bipush (pc := 10) (v := nI 116) S.1 S.2.1 dX9_kind_10 (by decide) ?_
  refine lv_bipush (pc := 12) (v := nI 32) S.1 S.2.1 dX9_kind_12 (by decide) ?_
  refine lv_bipush (pc := 14) (v := nI 32) S.1 S.2.1 dX9_kind_14 (by decide) ?_
  refine lv_bipush (pc := 16) (v := nI 32) S.1 S.2.1 dX9_kind_16 (by decide) ?_
  refine hv_call (pc := 18) (va_runS (As := [.int (nI 102), .int (nI 108), .int (nI 97), .int (nI 116), .int (nI 32), .int (nI 32), .int (nI 32)]) (rest := [.long (Int64.ofNat (sc 1))]) S (c_m_word l D cA ga φ H.size (fun i => [102, 108, 97, 116, 32, 32, 32].getD i 32) (by decide)) (va_cwS 7 S.2.2.2.2 (gS tw_1038 tw_1039 tw_7 tw_1040) rfl rfl rfl (by decide +kernel) ⟨Nat.le_of_ble_eq_true rfl, Nat.le_of_ble_eq_true rfl⟩) (pre0_S hH hK hX hS hA) rfl rfl hl.1 rfl (lv_room (Nat.le_of_ble_eq_true rfl)) dX9_kind_18 ⟨Nat.le_of_ble_eq_true rfl, Nat.le_of_ble_eq_true rfl⟩) hS (af_le hH hS hA) (fun v_1 φ_2 H locs hw_v_1 hH hS => ?_)
  obtain ⟨rfl, hqv_1⟩ := hw_v_1
  rw [hqv_1] at hH
  refine hv_tv (y := .long (Int64.ofNat (wcd 7))) (by rw [show wdF (fun i => [102, 108, 97, 116, 32, 32, 32].getD i 32) 7 = wcd 7 by decide +kernel]) ?_
  refine W.lcmp S.1 S.2.1 dX9_kind_21 ?_
  refine lv_if_ne (pc := 22) (tgt := 29) S.1 S.2.1 dX9_kind_22 (by decide) (fun c_3 => ?_) (fun c_3 => ?_)
  · skip
    have hn0 : ¬ sc 1 = wcd 7 := fun h => c_3 ((jL_cmp hty (wcd_lt 7 (by decide))).mpr h)
    refine lv_aload_n (pc := 29) S.1 S.2.1 dX9_kind_29 rfl (lv_at hl 0 rfl) ?_
    refine hv_get (pc := 30) (C := RX9) (T := TX9) (N := 22) (ref := RX9) S uwX9 hK hH f0 rfl 1 (by decide) tw_946 (fun _ h9 => h9) rfl dX9_kind_30 ?_
    refine lv_bipush (pc := 33) (v := nI 99) S.1 S.2.1 dX9_kind_33 (by decide) ?_
    refine lv_bipush (pc := 35) (v := nI 111) S.1 S.2.1 dX9_kind_35 (by decide) ?_
    refine lv_bipush (pc := 37) (v := nI 110) S.1 S.2.1 dX9_kind_37 (by decide) ?_
    refine lv_bipush (pc := 39) (v := nI 101) S.1 S.2.1 dX9_kind_39 (by decide) ?_
    refine lv_bipush (pc := 41) (v := nI 32) S.1 S.2.1 dX9_kind_41 (by decide) ?_
    refine lv_bipush (pc := 43) (v := nI 32) S.1 S.2.1 dX9_kind_43 (by decide) ?_
    refine lv_bipush (pc := 45) (v := nI 32) S.1 S.2.1 dX9_kind_45 (by decide) ?_
    refine hv_call (pc := 47) (va_runS (As := [.int (nI 99), .int (nI 111), .int (nI 110), .int (nI 101), .int (nI 32), .int (nI 32), .int (nI 32)]) (rest := [.long (Int64.ofNat (sc 1))]) S (c_m_word l D cA ga φ H.size (fun i => [99, 111, 110, 101, 32, 32, 32].getD i 32) (by decide)) (va_cwS 7 S.2.2.2.2 (gS tw_1038 tw_1039 tw_7 tw_1040) rfl rfl rfl (by decide +kernel) ⟨Nat.le_of_ble_eq_true rfl, Nat.le_of_ble_eq_true rfl⟩) (pre0_S hH hK hX hS hA) rfl rfl hl.1 rfl (lv_room (Nat.le_of_ble_eq_true rfl)) dX9_kind_47 ⟨Nat.le_of_ble_eq_true rfl, Nat.le_of_ble_eq_true rfl⟩) hS (af_le hH hS hA) (fun v_4 φ_5 H locs hw_v_4 hH hS => ?_)
    obtain ⟨rfl, hqv_4⟩ := hw_v_4
    rw [hqv_4] at hH
    refine hv_tv (y := .long (Int64.ofNat (wcd 8))) (by rw [show wdF (fun i => [99, 111, 110, 101, 32, 32, 32].getD i 32) 7 = wcd 8 by decide +kernel]) ?_
    refine W.lcmp S.1 S.2.1 dX9_kind_50 ?_
    refine lv_if_ne (pc := 51) (tgt := 58) S.1 S.2.1 dX9_kind_51 (by decide) (fun c_6 => ?_) (fun c_6 => ?_)
    · skip
      have hn1 : ¬ sc 1 = wcd 8 := fun h => c_6 ((jL_cmp hty (wcd_lt 8 (by decide))).mpr h)
      refine lv_aload_n (pc := 58) S.1 S.2.1 dX9_kind_58 rfl (lv_at hl 0 rfl) ?_
      refine hv_get (pc := 59) (C := RX9) (T := TX9) (N := 22) (ref := RX9) S uwX9 hK hH f0 rfl 1 (by decide) tw_946 (fun _ h9 => h9) rfl dX9_kind_59 ?_
      refine lv_bipush (pc := 62) (v := nI 100) S.1 S.2.1 dX9_kind_62 (by decide) ?_
      refine lv_bipush (pc := 64) (v := nI 111) S.1 S.2.1 dX9_kind_64 (by decide) ?_
      refine lv_bipush (pc := 66) (v := nI 109) S.1 S.2.1 dX9_kind_66 (by decide) ?_
      refine lv_bipush (pc := 68) (v := nI 101) S.1 S.2.1 dX9_kind_68 (by decide) ?_
      refine lv_bipush (pc := 70) (v := nI 32) S.1 S.2.1 dX9_kind_70 (by decide) ?_
      refine lv_bipush (pc := 72) (v := nI 32) S.1 S.2.1 dX9_kind_72 (by decide) ?_
      refine lv_bipush (pc := 74) (v := nI 32) S.1 S.2.1 dX9_kind_74 (by decide) ?_
      refine hv_call (pc := 76) (va_runS (As := [.int (nI 100), .int (nI 111), .int (nI 109), .int (nI 101), .int (nI 32), .int (nI 32), .int (nI 32)]) (rest := [.long (Int64.ofNat (sc 1))]) S (c_m_word l D cA ga φ H.size (fun i => [100, 111, 109, 101, 32, 32, 32].getD i 32) (by decide)) (va_cwS 7 S.2.2.2.2 (gS tw_1038 tw_1039 tw_7 tw_1040) rfl rfl rfl (by decide +kernel) ⟨Nat.le_of_ble_eq_true rfl, Nat.le_of_ble_eq_true rfl⟩) (pre0_S hH hK hX hS hA) rfl rfl hl.1 rfl (lv_room (Nat.le_of_ble_eq_true rfl)) dX9_kind_76 ⟨Nat.le_of_ble_eq_true rfl, Nat.le_of_ble_eq_true rfl⟩) hS (af_le hH hS hA) (fun v_7 φ_8 H locs hw_v_7 hH hS => ?_)
      obtain ⟨rfl, hqv_7⟩ := hw_v_7
      rw [hqv_7] at hH
      refine hv_tv (y := .long (Int64.ofNat (wcd 9))) (by rw [show wdF (fun i => [100, 111, 109, 101, 32, 32, 32].getD i 32) 7 = wcd 9 by decide +kernel]) ?_
      refine W.lcmp S.1 S.2.1 dX9_kind_79 ?_
      refine lv_if_ne (pc := 80) (tgt := 87) S.1 S.2.1 dX9_kind_80 (by decide) (fun c_9 => ?_) (fun c_9 => ?_)
      · skip
        have hn2 : ¬ sc 1 = wcd 9 := fun h => c_9 ((jL_cmp hty (wcd_lt 9 (by decide))).mpr h)
        refine lv_aload_n (pc := 87) S.1 S.2.1 dX9_kind_87 rfl (lv_at hl 0 rfl) ?_
        refine hv_get (pc := 88) (C := RX9) (T := TX9) (N := 22) (ref := RX9) S uwX9 hK hH f0 rfl 1 (by decide) tw_946 (fun _ h9 => h9) rfl dX9_kind_88 ?_
        refine lv_bipush (pc := 91) (v := nI 98) S.1 S.2.1 dX9_kind_91 (by decide) ?_
        refine lv_bipush (pc := 93) (v := nI 114) S.1 S.2.1 dX9_kind_93 (by decide) ?_
        refine lv_bipush (pc := 95) (v := nI 105) S.1 S.2.1 dX9_kind_95 (by decide) ?_
        refine lv_bipush (pc := 97) (v := nI 109) S.1 S.2.1 dX9_kind_97 (by decide) ?_
        refine lv_bipush (pc := 99) (v := nI 32) S.1 S.2.1 dX9_kind_99 (by decide) ?_
        refine lv_bipush (pc := 101) (v := nI 32) S.1 S.2.1 dX9_kind_101 (by decide) ?_
        refine lv_bipush (pc := 103) (v := nI 32) S.1 S.2.1 dX9_kind_103 (by decide) ?_
        refine hv_call (pc := 105) (va_runS (As := [.int (nI 98), .int (nI 114), .int (nI 105), .int (nI 109), .int (nI 32), .int (nI 32), .int (nI 32)]) (rest := [.long (Int64.ofNat (sc 1))]) S (c_m_word l D cA ga φ H.size (fun i => [98, 114, 105, 109, 32, 32, 32].getD i 32) (by decide)) (va_cwS 7 S.2.2.2.2 (gS tw_1038 tw_1039 tw_7 tw_1040) rfl rfl rfl (by decide +kernel) ⟨Nat.le_of_ble_eq_true rfl, Nat.le_of_ble_eq_true rfl⟩) (pre0_S hH hK hX hS hA) rfl rfl hl.1 rfl (lv_room (Nat.le_of_ble_eq_true rfl)) dX9_kind_105 ⟨Nat.le_of_ble_eq_true rfl, Nat.le_of_ble_eq_true rfl⟩) hS (af_le hH hS hA) (fun v_10 φ_11 H locs hw_v_10 hH hS => ?_)
        obtain ⟨rfl, hqv_10⟩ := hw_v_10
        rw [hqv_10] at hH
        refine hv_tv (y := .long (Int64.ofNat (wcd 10))) (by rw [show wdF (fun i => [98, 114, 105, 109, 32, 32, 32].getD i 32) 7 = wcd 10 by decide +kernel]) ?_
        refine W.lcmp S.1 S.2.1 dX9_kind_108 ?_
        refine lv_if_ne (pc := 109) (tgt := 116) S.1 S.2.1 dX9_kind_109 (by decide) (fun c_12 => ?_) (fun c_12 => ?_)
        · skip
          have hn3 : ¬ sc 1 = wcd 10 := fun h => c_12 ((jL_cmp hty (wcd_lt 10 (by decide))).mpr h)
          refine lv_iconst (pc := 116) (v := -1) S.1 S.2.1 dX9_kind_116 (by decide) ?_
          exact hv_ret (pc := 117) (v := (-1 : Int32)) S hr rfl hlocks hH hS (⟨by rw [wkO, if_neg hn0, wkO, if_neg hn1, wkO, if_neg hn2, wkO, if_neg hn3]; rfl, rfl⟩) (Nat.le_of_ble_eq_true rfl) (Nat.le_of_ble_eq_true rfl) dX9_kind_117
        · skip
          have hp9 : sc 1 = wcd 10 := (jL_cmp hty (wcd_lt 10 (by decide))).mp (by first | exact c_12 | exact Classical.not_not.mp c_12)
          refine lv_iconst (pc := 112) (v := nI 3) S.1 S.2.1 dX9_kind_112 (by decide) ?_
          refine lv_goto (pc := 113) (tgt := 117) S.1 S.2.1 dX9_kind_113 (by decide) ?_
          exact hv_ret (pc := 117) (v := nI 3) S hr rfl hlocks hH hS (⟨by rw [wkO, if_neg hn0, wkO, if_neg hn1, wkO, if_neg hn2, wkO, if_pos hp9]; rfl, rfl⟩) (Nat.le_of_ble_eq_true rfl) (Nat.le_of_ble_eq_true rfl) dX9_kind_117
      · skip
        have hp9 : sc 1 = wcd 9 := (jL_cmp hty (wcd_lt 9 (by decide))).mp (by first | exact c_9 | exact Classical.not_not.mp c_9)
        refine lv_iconst (pc := 83) (v := nI 2) S.1 S.2.1 dX9_kind_83 (by decide) ?_
        refine lv_goto (pc := 84) (tgt := 117) S.1 S.2.1 dX9_kind_84 (by decide) ?_
        exact hv_ret (pc := 117) (v := nI 2) S hr rfl hlocks hH hS (⟨by rw [wkO, if_neg hn0, wkO, if_neg hn1, wkO, if_pos hp9]; rfl, rfl⟩) (Nat.le_of_ble_eq_true rfl) (Nat.le_of_ble_eq_true rfl) dX9_kind_117
    · skip
      have hp9 : sc 1 = wcd 8 := (jL_cmp hty (wcd_lt 8 (by decide))).mp (by first | exact c_6 | exact Classical.not_not.mp c_6)
      refine lv_iconst (pc := 54) (v := nI 1) S.1 S.2.1 dX9_kind_54 (by decide) ?_
      refine lv_goto (pc := 55) (tgt := 117) S.1 S.2.1 dX9_kind_55 (by decide) ?_
      exact hv_ret (pc := 117) (v := nI 1) S hr rfl hlocks hH hS (⟨by rw [wkO, if_neg hn0, wkO, if_pos hp9]; rfl, rfl⟩) (Nat.le_of_ble_eq_true rfl) (Nat.le_of_ble_eq_true rfl) dX9_kind_117
  · skip
    have hp9 : sc 1 = wcd 7 := (jL_cmp hty (wcd_lt 7 (by decide))).mp (by first | exact c_3 | exact Classical.not_not.mp c_3)
    refine lv_iconst (pc := 25) (v := nI 0) S.1 S.2.1 dX9_kind_25 (by decide) ?_
    refine lv_goto (pc := 26) (tgt := 117) S.1 S.2.1 dX9_kind_26 (by decide) ?_
    exact hv_ret (pc := 117) (v := nI 0) S hr rfl hlocks hH hS (⟨by rw [wkO, if_pos hp9]; rfl, rfl⟩) (Nat.le_of_ble_eq_true rfl) (Nat.le_of_ble_eq_true rfl) dX9_kind_117
