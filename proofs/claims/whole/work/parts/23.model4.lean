set_option maxHeartbeats 4000000 in
set_option maxRecDepth 100000 in
/-- widthAnew -/
theorem c_m_widthAnew (l : Launch) (D : va_G) (cA : Nat → ClassId) (ga : Nat → Nat → Nat) (φ : hpM) (sz : Nat) (q : Nat → Nat) (sc : Nat → Nat) (ar : Nat → Nat → Nat) (x z : Int32) (hm : MP cA q sc ar φ) (hq : ∀ i j, i < 15 → j < 15 → q i = q j → i = j) (hnc : sc 3 ≤ 12) : hM l yX9_widthAnew cX9_widthAnew 3 (some .int) { frames := 11, cells := 0, slots := 0, locals := 380 } [.ref (q 0), .int (x), .int (z)] D cA ga φ sz (fun v φ' => if anewX (sc 3) x z = 0 then (∃ x1 z1 : Nat, x = nI x1 ∧ z = nI z1 ∧ x1 < 2 ^ 31 ∧ z1 < 2 ^ 31 ∧ v = some (.int (nI (ar 4 (6 * x1 + z1)))) ∧ MP cA q (va_up sc 7 (0)) ar φ') else (v = some (.int (nI 0)) ∧ MP cA q (va_up sc 7 (mcd 9 9 1 (anewX (sc 3) x z))) ar φ')) 0 0 := by
  refine hM.of (by decide) (Nat.le_of_ble_eq_true rfl) rfl ?_
  intro p e s m args below meth c ls H locs S hr hlocks hnm hsz hHz hH hK hX hS hA hl
  obtain ⟨f0, f1, f2, f3, f4, f5, f6, f7, f8, f9, f10, f11, f12, f13, f14⟩ := hm
  refine lv_aload_n (pc := 0) S.1 S.2.1 dX9_widthAnew_0 rfl (lv_at hl 0 rfl) ?_
  refine lv_aload_n (pc := 1) S.1 S.2.1 dX9_widthAnew_1 rfl (lv_at hl 0 rfl) ?_
  refine lv_iload_n (pc := 2) S.1 S.2.1 dX9_widthAnew_2 rfl (lv_at hl 1 rfl) ?_
  refine lv_iload_n (pc := 3) S.1 S.2.1 dX9_widthAnew_3 rfl (lv_at hl 2 rfl) ?_
  refine hv_call (pc := 4) (va_runV (As := [.int (x), .int (z)]) (rest := [.ref (q 0)]) S (c_m_isBand l D cA ga φ H.size q sc ar x z ⟨f0, f1, f2, f3, f4, f5, f6, f7, f8, f9, f10, f11, f12, f13, f14⟩ hq hnc) (cwV 2 S.2.2.2.2 (gV tw_1114 tw_1116 sw_40 tw_7 tw_1117) rfl rfl rfl (by decide +kernel) ⟨Nat.le_of_ble_eq_true rfl, Nat.le_of_ble_eq_true rfl⟩) (pre0_V hH hK hX hS hA (hH.recv hK f0 rfl)) rfl rfl hl.1 rfl (lv_room (Nat.le_of_ble_eq_true rfl)) dX9_widthAnew_4 ⟨Nat.le_of_ble_eq_true rfl, Nat.le_of_ble_eq_true rfl⟩) hS (af_le hH hS hA) (fun v_1 φ_2 H locs hw_v_1 hH hS => ?_)
  obtain ⟨rfl, hqv_1⟩ := hw_v_1
  rw [hqv_1] at hH
  refine hv_ti (y := nI (if inN x (sc 3) ∧ inN z 6 then 1 else 0)) (rfl) ?_
  by_cases hxz : inN x (sc 3) ∧ inN z 6
  · skip
    obtain ⟨hx, hz⟩ := hxz
    refine hv_ti (y := nI 1) (by rw [if_pos ⟨hx, hz⟩]) ?_
    obtain ⟨x1, rfl, hxn⟩ := hx.nat (by omega)
    obtain ⟨z1, rfl, hzn⟩ := hz.nat (by omega)
    refine hv_if_eq (pc := 7) (tgt := 14) (a := 1) S.1 S.2.1 (by omega) dX9_widthAnew_7 (by decide) (fun c_3 => ?_) (fun c_3 => ?_)
    · skip
      exact absurd c_3 (by omega)
    · skip
      refine lv_iconst (pc := 10) (v := nI 0) S.1 S.2.1 dX9_widthAnew_10 (by decide) ?_
      refine lv_goto (pc := 11) (tgt := 15) S.1 S.2.1 dX9_widthAnew_11 (by decide) ?_
      have eX : anewX (sc 3) (nI x1) (nI z1) = 0 := by rw [anewX, if_pos hx, if_pos hz]
      refine hv_call (pc := 15) (va_runV (As := [.int (nI 0)]) (rest := []) S (c_m_goes l D cA ga φ H.size q sc ar (0) ⟨f0, f1, f2, f3, f4, f5, f6, f7, f8, f9, f10, f11, f12, f13, f14⟩ hq (by omega)) (cwV 1 S.2.2.2.2 (gV tw_1021 tw_1023 sw_32 tw_7 tw_1024) rfl rfl rfl (by decide +kernel) ⟨Nat.le_of_ble_eq_true rfl, Nat.le_of_ble_eq_true rfl⟩) (pre0_V hH hK hX hS hA (hH.recv hK f0 rfl)) rfl rfl hl.1 rfl (lv_room (Nat.le_of_ble_eq_true rfl)) dX9_widthAnew_15 ⟨Nat.le_of_ble_eq_true rfl, Nat.le_of_ble_eq_true rfl⟩) hS (af_le hH hS hA) (fun v_4 φ_5 H locs hw_v_4 hH hS => ?_)
      obtain ⟨rfl, hm9⟩ := hw_v_4
      obtain ⟨f_6, f_7, f_8, f_9, f_10, f_11, f_12, f_13, f_14, f_15, f_16, f_17, f_18, f_19, f_20⟩ := hm9
      change φ_5 (q 0) = some (.inr (13, [.int (nI (sc 0)), .long (Int64.ofNat (sc 1)), .int (nI (sc 2)), .ref (q 1), .ref (q 2), .int (nI (sc 3)), .ref (q 3), .ref (q 4), .ref (q 5), .ref (q 6), .ref (q 7), .ref (q 8), .ref (q 9), .int (nI (sc 4)), .ref (q 10), .ref (q 11), .int (nI (sc 5)), .ref (q 12), .ref (q 13), .ref (q 14), .int (nI (sc 6)), .int (nI 0)])) at f_6
      refine hv_ti (y := nI 1) (rfl) ?_
      refine hv_if_eq (pc := 18) (tgt := 35) (a := 1) S.1 S.2.1 (by omega) dX9_widthAnew_18 (by decide) (fun c_21 => ?_) (fun c_21 => ?_)
      · skip
        exact absurd c_21 (by omega)
      · skip
        refine lv_aload_n (pc := 21) S.1 S.2.1 dX9_widthAnew_21 rfl (lv_at hl 0 rfl) ?_
        refine hv_get (pc := 22) (C := RX9) (T := TX9) (N := 22) (ref := RX9) S uwX9 hK hH f_6 rfl 7 (by decide) tw_952 (fun _ h9 => h9) rfl dX9_widthAnew_22 ?_
        refine lv_bipush (pc := 25) (v := nI 6) S.1 S.2.1 dX9_widthAnew_25 (by decide) ?_
        refine lv_iload_n (pc := 27) S.1 S.2.1 dX9_widthAnew_27 rfl (lv_at hl 1 rfl) ?_
        refine lv_imul (pc := 28) S.1 S.2.1 dX9_widthAnew_28 ?_
        refine hv_ti (y := nI (6 * x1)) (pk_mul _ _) ?_
        refine lv_iload_n (pc := 29) S.1 S.2.1 dX9_widthAnew_29 rfl (lv_at hl 2 rfl) ?_
        refine lv_iadd (pc := 30) S.1 S.2.1 dX9_widthAnew_30 ?_
        refine hv_ti (y := nI ((6 * x1) + z1)) (nI_add _ _) ?_
        refine hv_iald (pc := 31) S hK hH 1 f_10 rfl (vp_in_nI (by omega) (by omega)) dX9_widthAnew_31 ?_
        refine hv_ti (y := nI ((ar 4) ((6 * x1) + z1))) (hv_ld (by omega)) ?_
        refine lv_goto (pc := 32) (tgt := 36) S.1 S.2.1 dX9_widthAnew_32 (by decide) ?_
        exact hv_ret (pc := 36) (v := nI ((ar 4) ((6 * x1) + z1))) S hr rfl hlocks hH hS (by rw [if_pos eX]; exact ⟨x1, z1, rfl, rfl, by omega, by omega, rfl, ⟨f_6, f_7, f_8, f_9, f_10, f_11, f_12, f_13, f_14, f_15, f_16, f_17, f_18, f_19, f_20⟩⟩) (Nat.le_of_ble_eq_true rfl) (Nat.le_of_ble_eq_true rfl) dX9_widthAnew_36
  · skip
    refine hv_ti (y := nI 0) (by rw [if_neg hxz]) ?_
    refine hv_if_eq (pc := 7) (tgt := 14) (a := 0) S.1 S.2.1 (by omega) dX9_widthAnew_7 (by decide) (fun c_22 => ?_) (fun c_22 => ?_)
    · skip
      refine lv_iconst (pc := 14) (v := nI 1) S.1 S.2.1 dX9_widthAnew_14 (by decide) ?_
      have eX : anewX (sc 3) x z = 3 := by exact (Classical.em (inN x (sc 3))).elim (fun hx => by rw [anewX, if_pos hx, if_neg (fun h => hxz ⟨hx, h⟩)]) (fun hx => by rw [anewX, if_neg hx])
      refine hv_call (pc := 15) (va_runV (As := [.int (nI 1)]) (rest := []) S (c_m_goes l D cA ga φ H.size q sc ar (1) ⟨f0, f1, f2, f3, f4, f5, f6, f7, f8, f9, f10, f11, f12, f13, f14⟩ hq (by omega)) (cwV 1 S.2.2.2.2 (gV tw_1021 tw_1023 sw_32 tw_7 tw_1024) rfl rfl rfl (by decide +kernel) ⟨Nat.le_of_ble_eq_true rfl, Nat.le_of_ble_eq_true rfl⟩) (pre0_V hH hK hX hS hA (hH.recv hK f0 rfl)) rfl rfl hl.1 rfl (lv_room (Nat.le_of_ble_eq_true rfl)) dX9_widthAnew_15 ⟨Nat.le_of_ble_eq_true rfl, Nat.le_of_ble_eq_true rfl⟩) hS (af_le hH hS hA) (fun v_23 φ_24 H locs hw_v_23 hH hS => ?_)
      obtain ⟨rfl, hm9⟩ := hw_v_23
      obtain ⟨f_25, f_26, f_27, f_28, f_29, f_30, f_31, f_32, f_33, f_34, f_35, f_36, f_37, f_38, f_39⟩ := hm9
      change φ_24 (q 0) = some (.inr (13, [.int (nI (sc 0)), .long (Int64.ofNat (sc 1)), .int (nI (sc 2)), .ref (q 1), .ref (q 2), .int (nI (sc 3)), .ref (q 3), .ref (q 4), .ref (q 5), .ref (q 6), .ref (q 7), .ref (q 8), .ref (q 9), .int (nI (sc 4)), .ref (q 10), .ref (q 11), .int (nI (sc 5)), .ref (q 12), .ref (q 13), .ref (q 14), .int (nI (sc 6)), .int (nI 1)])) at f_25
      refine hv_ti (y := nI 0) (rfl) ?_
      refine hv_if_eq (pc := 18) (tgt := 35) (a := 0) S.1 S.2.1 (by omega) dX9_widthAnew_18 (by decide) (fun c_40 => ?_) (fun c_40 => ?_)
      · skip
        refine lv_iconst (pc := 35) (v := nI 0) S.1 S.2.1 dX9_widthAnew_35 (by decide) ?_
        exact hv_ret (pc := 36) (v := nI 0) S hr rfl hlocks hH hS (by rw [if_neg (by rw [eX]; decide), eX]; exact ⟨rfl, ⟨f_25, f_26, f_27, f_28, f_29, f_30, f_31, f_32, f_33, f_34, f_35, f_36, f_37, f_38, f_39⟩⟩) (Nat.le_of_ble_eq_true rfl) (Nat.le_of_ble_eq_true rfl) dX9_widthAnew_36
      · skip
        exact absurd c_40 (by omega)
    · skip
      exact absurd c_22 (by omega)

set_option maxHeartbeats 4000000 in
set_option maxRecDepth 100000 in
/-- about -/
theorem c_m_about (l : Launch) (D : va_G) (cA : Nat → ClassId) (ga : Nat → Nat → Nat) (φ : hpM) (sz : Nat) (q : Nat → Nat) (sc : Nat → Nat) (ar : Nat → Nat → Nat) (x z t : Int32) (hm : MP cA q sc ar φ) (hq : ∀ i j, i < 15 → j < 15 → q i = q j → i = j) (hnc : sc 3 ≤ 12) (hwb : ∀ i, i < 6 * sc 3 → (0 < ar 4 i ∧ ar 4 i ≤ 1200) ∧ (0 < ar 5 i ∧ ar 5 i ≤ 60) ∧ ar 6 i ≤ 500) : hM l yX9_about cX9_about 5 (some .int) { frames := 11, cells := 0, slots := 0, locals := 380 } [.ref (q 0), .int (x), .int (z), .int (t)] D cA ga φ sz (fun v φ' => if aboutX (sc 3) x z t = 0 then (∃ x1 z1 t1 : Nat, x = nI x1 ∧ z = nI z1 ∧ t = nI t1 ∧ x1 < 2 ^ 31 ∧ z1 < 2 ^ 31 ∧ t1 ≤ 3 ∧ v = some (.int (nI (abR (ar 4 (6 * x1 + z1)) (ar 5 (6 * x1 + z1)) (ar 6 (6 * x1 + z1)) t1))) ∧ MP cA q (va_up sc 7 (0)) ar φ') else (v = some (.int (nI 0)) ∧ MP cA q (va_up sc 7 (mcd 2 9 1 (aboutX (sc 3) x z t))) ar φ')) 0 0 := by
  refine hM.of (by decide) (Nat.le_of_ble_eq_true rfl) rfl ?_
  intro p e s m args below meth c ls H locs S hr hlocks hnm hsz hHz hH hK hX hS hA hl
  obtain ⟨f0, f1, f2, f3, f4, f5, f6, f7, f8, f9, f10, f11, f12, f13, f14⟩ := hm
  refine lv_aload_n (pc := 0) S.1 S.2.1 dX9_about_0 rfl (lv_at hl 0 rfl) ?_
  refine lv_aload_n (pc := 1) S.1 S.2.1 dX9_about_1 rfl (lv_at hl 0 rfl) ?_
  refine lv_iload_n (pc := 2) S.1 S.2.1 dX9_about_2 rfl (lv_at hl 1 rfl) ?_
  refine lv_iload_n (pc := 3) S.1 S.2.1 dX9_about_3 rfl (lv_at hl 2 rfl) ?_
  refine hv_call (pc := 4) (va_runV (As := [.int (x), .int (z)]) (rest := [.ref (q 0)]) S (c_m_isBand l D cA ga φ H.size q sc ar x z ⟨f0, f1, f2, f3, f4, f5, f6, f7, f8, f9, f10, f11, f12, f13, f14⟩ hq hnc) (cwV 2 S.2.2.2.2 (gV tw_1114 tw_1116 sw_40 tw_7 tw_1117) rfl rfl rfl (by decide +kernel) ⟨Nat.le_of_ble_eq_true rfl, Nat.le_of_ble_eq_true rfl⟩) (pre0_V hH hK hX hS hA (hH.recv hK f0 rfl)) rfl rfl hl.1 rfl (lv_room (Nat.le_of_ble_eq_true rfl)) dX9_about_4 ⟨Nat.le_of_ble_eq_true rfl, Nat.le_of_ble_eq_true rfl⟩) hS (af_le hH hS hA) (fun v_1 φ_2 H locs hw_v_1 hH hS => ?_)
  obtain ⟨rfl, hqv_1⟩ := hw_v_1
  rw [hqv_1] at hH
  refine hv_ti (y := nI (if inN x (sc 3) ∧ inN z 6 then 1 else 0)) (rfl) ?_
  by_cases hxz : inN x (sc 3) ∧ inN z 6
  · skip
    obtain ⟨hx, hz⟩ := hxz
    refine hv_ti (y := nI 1) (by rw [if_pos ⟨hx, hz⟩]) ?_
    obtain ⟨x1, rfl, hxn⟩ := hx.nat (by omega)
    obtain ⟨z1, rfl, hzn⟩ := hz.nat (by omega)
    refine hv_if_ne (pc := 7) (tgt := 14) (a := 1) S.1 S.2.1 (by omega) dX9_about_7 (by decide) (fun c_3 => ?_) (fun c_3 => ?_)
    · skip
      refine lv_iload_n (pc := 14) S.1 S.2.1 dX9_about_14 rfl (lv_at hl 3 rfl) ?_
      refine lv_iconst (pc := 15) (v := nI 0) S.1 S.2.1 dX9_about_15 (by decide) ?_
      refine lv_iconst (pc := 16) (v := nI 3) S.1 S.2.1 dX9_about_16 (by decide) ?_
      by_cases ht : inR t 0 3
      · skip
        obtain ⟨t1, rfl, htlo, hthi⟩ := ht.nat (by omega) (by omega)
        refine hv_call (pc := 17) (va_runS (As := [.int (nI t1), .int (nI 0), .int (nI 3)]) (rest := [.ref (q 0)]) S (c_isIn l D cA ga φ H.size (nI t1) (nI 0) (nI 3)) (va_cwS 3 S.2.2.2.2 (gS tw_1031 tw_1032 tw_7 tw_1033) rfl rfl rfl (by decide +kernel) ⟨Nat.le_of_ble_eq_true rfl, Nat.le_of_ble_eq_true rfl⟩) (pre0_S hH hK hX hS hA) rfl rfl hl.1 rfl (lv_room (Nat.le_of_ble_eq_true rfl)) dX9_about_17 ⟨Nat.le_of_ble_eq_true rfl, Nat.le_of_ble_eq_true rfl⟩) hS (af_le hH hS hA) (fun v_4 φ_5 H locs hw_v_4 hH hS => ?_)
        obtain ⟨rfl, hqv_4⟩ := hw_v_4
        rw [hqv_4] at hH
        refine hv_ti (y := nI 1) (by rw [inB_R, if_pos ht]) ?_
        refine hv_if_eq (pc := 20) (tgt := 27) (a := 1) S.1 S.2.1 (by omega) dX9_about_20 (by decide) (fun c_6 => ?_) (fun c_6 => ?_)
        · skip
          exact absurd c_6 (by omega)
        · skip
          refine lv_iconst (pc := 23) (v := nI 0) S.1 S.2.1 dX9_about_23 (by decide) ?_
          refine lv_goto (pc := 24) (tgt := 28) S.1 S.2.1 dX9_about_24 (by decide) ?_
          have eX : aboutX (sc 3) (nI x1) (nI z1) (nI t1) = 0 := by rw [aboutX, if_pos hx, if_pos hz, if_pos ht]
          refine hv_call (pc := 28) (va_runV (As := [.int (nI 0)]) (rest := []) S (c_m_goes l D cA ga φ H.size q sc ar (0) ⟨f0, f1, f2, f3, f4, f5, f6, f7, f8, f9, f10, f11, f12, f13, f14⟩ hq (by omega)) (cwV 1 S.2.2.2.2 (gV tw_1021 tw_1023 sw_32 tw_7 tw_1024) rfl rfl rfl (by decide +kernel) ⟨Nat.le_of_ble_eq_true rfl, Nat.le_of_ble_eq_true rfl⟩) (pre0_V hH hK hX hS hA (hH.recv hK f0 rfl)) rfl rfl hl.1 rfl (lv_room (Nat.le_of_ble_eq_true rfl)) dX9_about_28 ⟨Nat.le_of_ble_eq_true rfl, Nat.le_of_ble_eq_true rfl⟩) hS (af_le hH hS hA) (fun v_7 φ_8 H locs hw_v_7 hH hS => ?_)
          obtain ⟨rfl, hm9⟩ := hw_v_7
          obtain ⟨f_9, f_10, f_11, f_12, f_13, f_14, f_15, f_16, f_17, f_18, f_19, f_20, f_21, f_22, f_23⟩ := hm9
          change φ_8 (q 0) = some (.inr (13, [.int (nI (sc 0)), .long (Int64.ofNat (sc 1)), .int (nI (sc 2)), .ref (q 1), .ref (q 2), .int (nI (sc 3)), .ref (q 3), .ref (q 4), .ref (q 5), .ref (q 6), .ref (q 7), .ref (q 8), .ref (q 9), .int (nI (sc 4)), .ref (q 10), .ref (q 11), .int (nI (sc 5)), .ref (q 12), .ref (q 13), .ref (q 14), .int (nI (sc 6)), .int (nI 0)])) at f_9
          refine hv_ti (y := nI 1) (rfl) ?_
          refine hv_if_ne (pc := 31) (tgt := 36) (a := 1) S.1 S.2.1 (by omega) dX9_about_31 (by decide) (fun c_24 => ?_) (fun c_24 => ?_)
          · skip
            obtain ⟨hw4, hw5, hw6⟩ := hwb (6 * x1 + z1) (by omega)
            refine lv_bipush (pc := 36) (v := nI 6) S.1 S.2.1 dX9_about_36 (by decide) ?_
            refine lv_iload_n (pc := 38) S.1 S.2.1 dX9_about_38 rfl (lv_at hl 1 rfl) ?_
            refine lv_imul (pc := 39) S.1 S.2.1 dX9_about_39 ?_
            refine hv_ti (y := nI (6 * x1)) (pk_mul _ _) ?_
            refine lv_iload_n (pc := 40) S.1 S.2.1 dX9_about_40 rfl (lv_at hl 2 rfl) ?_
            refine lv_iadd (pc := 41) S.1 S.2.1 dX9_about_41 ?_
            refine hv_ti (y := nI ((6 * x1) + z1)) (nI_add _ _) ?_
            refine lv_istore (pc := 42) (lv' := [(4, .int (nI ((6 * x1) + z1))), (0, .ref (q 0)), (1, .int (nI x1)), (2, .int (nI z1)), (3, .int (nI t1))]) S.1 S.2.1 dX9_about_42 hl (by decide) rfl (fun ls hl => ?_)
            refine lv_iload_n (pc := 44) S.1 S.2.1 dX9_about_44 rfl (lv_at hl 4 rfl) ?_
            rcases (show t1 = 0 ∨ t1 = 1 ∨ t1 = 2 ∨ t1 = 3 by omega) with rfl | rfl | rfl | rfl
            · skip
              refine hv_if_ne (pc := 45) (tgt := 58) (a := 0) S.1 S.2.1 (by omega) dX9_about_45 (by decide) (fun c_25 => ?_) (fun c_25 => ?_)
              · skip
                exact absurd c_25 (by omega)
              · skip
                refine lv_aload_n (pc := 48) S.1 S.2.1 dX9_about_48 rfl (lv_at hl 1 rfl) ?_
                refine hv_get (pc := 49) (C := RX9) (T := TX9) (N := 22) (ref := RX9) S uwX9 hK hH f_9 rfl 7 (by decide) tw_952 (fun _ h9 => h9) rfl dX9_about_49 ?_
                refine lv_iload (pc := 52) S.1 S.2.1 dX9_about_52 (lv_at hl 0 rfl) ?_
                refine hv_iald (pc := 54) S hK hH 1 f_13 rfl (vp_in_nI (by omega) (by omega)) dX9_about_54 ?_
                refine hv_ti (y := nI ((ar 4) ((6 * x1) + z1))) (hv_ld (by omega)) ?_
                refine lv_goto (pc := 55) (tgt := 94) S.1 S.2.1 dX9_about_55 (by decide) ?_
                exact hv_ret (pc := 94) (v := nI ((ar 4) ((6 * x1) + z1))) S hr rfl hlocks hH hS (by rw [if_pos eX]; exact ⟨x1, z1, 0, rfl, rfl, rfl, by omega, by omega, by omega, rfl, ⟨f_9, f_10, f_11, f_12, f_13, f_14, f_15, f_16, f_17, f_18, f_19, f_20, f_21, f_22, f_23⟩⟩) (Nat.le_of_ble_eq_true rfl) (Nat.le_of_ble_eq_true rfl) dX9_about_94
            · skip
              refine hv_if_ne (pc := 45) (tgt := 58) (a := 1) S.1 S.2.1 (by omega) dX9_about_45 (by decide) (fun c_26 => ?_) (fun c_26 => ?_)
              · skip
                refine lv_iload_n (pc := 58) S.1 S.2.1 dX9_about_58 rfl (lv_at hl 4 rfl) ?_
                refine lv_iconst (pc := 59) (v := nI 1) S.1 S.2.1 dX9_about_59 (by decide) ?_
                refine hv_icmp_ne (pc := 60) (tgt := 73) (a := 1) (b := 1) S.1 S.2.1 (by omega) (by omega) dX9_about_60 (by decide) (fun c_27 => ?_) (fun c_27 => ?_)
                · skip
                  exact absurd c_27 (by omega)
                · skip
                  refine lv_aload_n (pc := 63) S.1 S.2.1 dX9_about_63 rfl (lv_at hl 1 rfl) ?_
                  refine hv_get (pc := 64) (C := RX9) (T := TX9) (N := 22) (ref := RX9) S uwX9 hK hH f_9 rfl 8 (by decide) tw_953 (fun _ h9 => h9) rfl dX9_about_64 ?_
                  refine lv_iload (pc := 67) S.1 S.2.1 dX9_about_67 (lv_at hl 0 rfl) ?_
                  refine hv_iald (pc := 69) S hK hH 1 f_14 rfl (vp_in_nI (by omega) (by omega)) dX9_about_69 ?_
                  refine hv_ti (y := nI ((ar 5) ((6 * x1) + z1))) (hv_ld (by omega)) ?_
                  refine lv_goto (pc := 70) (tgt := 94) S.1 S.2.1 dX9_about_70 (by decide) ?_
                  exact hv_ret (pc := 94) (v := nI ((ar 5) ((6 * x1) + z1))) S hr rfl hlocks hH hS (by rw [if_pos eX]; exact ⟨x1, z1, 1, rfl, rfl, rfl, by omega, by omega, by omega, rfl, ⟨f_9, f_10, f_11, f_12, f_13, f_14, f_15, f_16, f_17, f_18, f_19, f_20, f_21, f_22, f_23⟩⟩) (Nat.le_of_ble_eq_true rfl) (Nat.le_of_ble_eq_true rfl) dX9_about_94
              · skip
                exact absurd c_26 (by omega)
            · skip
              refine hv_if_ne (pc := 45) (tgt := 58) (a := 2) S.1 S.2.1 (by omega) dX9_about_45 (by decide) (fun c_28 => ?_) (fun c_28 => ?_)
              · skip
                refine lv_iload_n (pc := 58) S.1 S.2.1 dX9_about_58 rfl (lv_at hl 4 rfl) ?_
                refine lv_iconst (pc := 59) (v := nI 1) S.1 S.2.1 dX9_about_59 (by decide) ?_
                refine hv_icmp_ne (pc := 60) (tgt := 73) (a := 2) (b := 1) S.1 S.2.1 (by omega) (by omega) dX9_about_60 (by decide) (fun c_29 => ?_) (fun c_29 => ?_)
                · skip
                  refine lv_iload_n (pc := 73) S.1 S.2.1 dX9_about_73 rfl (lv_at hl 4 rfl) ?_
                  refine lv_iconst (pc := 74) (v := nI 2) S.1 S.2.1 dX9_about_74 (by decide) ?_
                  refine hv_icmp_ne (pc := 75) (tgt := 88) (a := 2) (b := 2) S.1 S.2.1 (by omega) (by omega) dX9_about_75 (by decide) (fun c_30 => ?_) (fun c_30 => ?_)
                  · skip
                    exact absurd c_30 (by omega)
                  · skip
                    refine lv_aload_n (pc := 78) S.1 S.2.1 dX9_about_78 rfl (lv_at hl 1 rfl) ?_
                    refine hv_get (pc := 79) (C := RX9) (T := TX9) (N := 22) (ref := RX9) S uwX9 hK hH f_9 rfl 9 (by decide) tw_954 (fun _ h9 => h9) rfl dX9_about_79 ?_
                    refine lv_iload (pc := 82) S.1 S.2.1 dX9_about_82 (lv_at hl 0 rfl) ?_
                    refine hv_iald (pc := 84) S hK hH 1 f_15 rfl (vp_in_nI (by omega) (by omega)) dX9_about_84 ?_
                    refine hv_ti (y := nI ((ar 6) ((6 * x1) + z1))) (hv_ld (by omega)) ?_
                    refine lv_goto (pc := 85) (tgt := 94) S.1 S.2.1 dX9_about_85 (by decide) ?_
                    exact hv_ret (pc := 94) (v := nI ((ar 6) ((6 * x1) + z1))) S hr rfl hlocks hH hS (by rw [if_pos eX]; exact ⟨x1, z1, 2, rfl, rfl, rfl, by omega, by omega, by omega, rfl, ⟨f_9, f_10, f_11, f_12, f_13, f_14, f_15, f_16, f_17, f_18, f_19, f_20, f_21, f_22, f_23⟩⟩) (Nat.le_of_ble_eq_true rfl) (Nat.le_of_ble_eq_true rfl) dX9_about_94
                · skip
                  exact absurd c_29 (by omega)
              · skip
                exact absurd c_28 (by omega)
            · skip
              refine hv_if_ne (pc := 45) (tgt := 58) (a := 3) S.1 S.2.1 (by omega) dX9_about_45 (by decide) (fun c_31 => ?_) (fun c_31 => ?_)
              · skip
                refine lv_iload_n (pc := 58) S.1 S.2.1 dX9_about_58 rfl (lv_at hl 4 rfl) ?_
                refine lv_iconst (pc := 59) (v := nI 1) S.1 S.2.1 dX9_about_59 (by decide) ?_
                refine hv_icmp_ne (pc := 60) (tgt := 73) (a := 3) (b := 1) S.1 S.2.1 (by omega) (by omega) dX9_about_60 (by decide) (fun c_32 => ?_) (fun c_32 => ?_)
                · skip
                  refine lv_iload_n (pc := 73) S.1 S.2.1 dX9_about_73 rfl (lv_at hl 4 rfl) ?_
                  refine lv_iconst (pc := 74) (v := nI 2) S.1 S.2.1 dX9_about_74 (by decide) ?_
                  refine hv_icmp_ne (pc := 75) (tgt := 88) (a := 3) (b := 2) S.1 S.2.1 (by omega) (by omega) dX9_about_75 (by decide) (fun c_33 => ?_) (fun c_33 => ?_)
                  · skip
                    refine lv_aload_n (pc := 88) S.1 S.2.1 dX9_about_88 rfl (lv_at hl 1 rfl) ?_
                    refine lv_iload (pc := 89) S.1 S.2.1 dX9_about_89 (lv_at hl 0 rfl) ?_
                    refine hv_call (pc := 91) (va_runV (As := [.int (nI ((6 * x1) + z1))]) (rest := []) S (c_m_thick l D cA ga φ_8 H.size q (va_up sc 7 (0)) ar (6 * x1 + z1) ⟨f_9, f_10, f_11, f_12, f_13, f_14, f_15, f_16, f_17, f_18, f_19, f_20, f_21, f_22, f_23⟩ hq (by omega) hw4 hw5 hw6) (cwV 1 S.2.2.2.2 (gV tw_1089 tw_1091 sw_38 tw_7 tw_1092) rfl rfl rfl (by decide +kernel) ⟨Nat.le_of_ble_eq_true rfl, Nat.le_of_ble_eq_true rfl⟩) (pre0_V hH hK hX hS hA (hH.recv hK f_9 rfl)) rfl rfl hl.1 rfl (lv_room (Nat.le_of_ble_eq_true rfl)) dX9_about_91 ⟨Nat.le_of_ble_eq_true rfl, Nat.le_of_ble_eq_true rfl⟩) hS (af_le hH hS hA) (fun v_34 φ_35 H locs hw_v_34 hH hS => ?_)
                    obtain ⟨rfl, hqv_34⟩ := hw_v_34
                    rw [hqv_34] at hH
                    exact hv_ret (pc := 94) (v := nI (ar 6 (6 * x1 + z1) * 100000 / (ar 4 (6 * x1 + z1) * ar 5 (6 * x1 + z1)))) S hr rfl hlocks hH hS (by rw [if_pos eX]; exact ⟨x1, z1, 3, rfl, rfl, rfl, by omega, by omega, by omega, rfl, ⟨f_9, f_10, f_11, f_12, f_13, f_14, f_15, f_16, f_17, f_18, f_19, f_20, f_21, f_22, f_23⟩⟩) (Nat.le_of_ble_eq_true rfl) (Nat.le_of_ble_eq_true rfl) dX9_about_94
                  · skip
                    exact absurd c_33 (by omega)
                · skip
                  exact absurd c_32 (by omega)
              · skip
                exact absurd c_31 (by omega)
          · skip
            exact absurd c_24 (by omega)
      · skip
        refine hv_call (pc := 17) (va_runS (As := [.int (t), .int (nI 0), .int (nI 3)]) (rest := [.ref (q 0)]) S (c_isIn l D cA ga φ H.size t (nI 0) (nI 3)) (va_cwS 3 S.2.2.2.2 (gS tw_1031 tw_1032 tw_7 tw_1033) rfl rfl rfl (by decide +kernel) ⟨Nat.le_of_ble_eq_true rfl, Nat.le_of_ble_eq_true rfl⟩) (pre0_S hH hK hX hS hA) rfl rfl hl.1 rfl (lv_room (Nat.le_of_ble_eq_true rfl)) dX9_about_17 ⟨Nat.le_of_ble_eq_true rfl, Nat.le_of_ble_eq_true rfl⟩) hS (af_le hH hS hA) (fun v_36 φ_37 H locs hw_v_36 hH hS => ?_)
        obtain ⟨rfl, hqv_36⟩ := hw_v_36
        rw [hqv_36] at hH
        refine hv_ti (y := nI 0) (by rw [inB_R, if_neg ht]) ?_
        refine hv_if_eq (pc := 20) (tgt := 27) (a := 0) S.1 S.2.1 (by omega) dX9_about_20 (by decide) (fun c_38 => ?_) (fun c_38 => ?_)
        · skip
          refine lv_iconst (pc := 27) (v := nI 2) S.1 S.2.1 dX9_about_27 (by decide) ?_
          have eX : aboutX (sc 3) (nI x1) (nI z1) t = 1 := by rw [aboutX, if_pos hx, if_pos hz, if_neg ht]
          refine hv_call (pc := 28) (va_runV (As := [.int (nI 2)]) (rest := []) S (c_m_goes l D cA ga φ H.size q sc ar (2) ⟨f0, f1, f2, f3, f4, f5, f6, f7, f8, f9, f10, f11, f12, f13, f14⟩ hq (by omega)) (cwV 1 S.2.2.2.2 (gV tw_1021 tw_1023 sw_32 tw_7 tw_1024) rfl rfl rfl (by decide +kernel) ⟨Nat.le_of_ble_eq_true rfl, Nat.le_of_ble_eq_true rfl⟩) (pre0_V hH hK hX hS hA (hH.recv hK f0 rfl)) rfl rfl hl.1 rfl (lv_room (Nat.le_of_ble_eq_true rfl)) dX9_about_28 ⟨Nat.le_of_ble_eq_true rfl, Nat.le_of_ble_eq_true rfl⟩) hS (af_le hH hS hA) (fun v_39 φ_40 H locs hw_v_39 hH hS => ?_)
          obtain ⟨rfl, hm9⟩ := hw_v_39
          obtain ⟨f_41, f_42, f_43, f_44, f_45, f_46, f_47, f_48, f_49, f_50, f_51, f_52, f_53, f_54, f_55⟩ := hm9
          change φ_40 (q 0) = some (.inr (13, [.int (nI (sc 0)), .long (Int64.ofNat (sc 1)), .int (nI (sc 2)), .ref (q 1), .ref (q 2), .int (nI (sc 3)), .ref (q 3), .ref (q 4), .ref (q 5), .ref (q 6), .ref (q 7), .ref (q 8), .ref (q 9), .int (nI (sc 4)), .ref (q 10), .ref (q 11), .int (nI (sc 5)), .ref (q 12), .ref (q 13), .ref (q 14), .int (nI (sc 6)), .int (nI 2)])) at f_41
          refine hv_ti (y := nI 0) (rfl) ?_
          refine hv_if_ne (pc := 31) (tgt := 36) (a := 0) S.1 S.2.1 (by omega) dX9_about_31 (by decide) (fun c_56 => ?_) (fun c_56 => ?_)
          · skip
            exact absurd c_56 (by omega)
          · skip
            refine lv_iconst (pc := 34) (v := nI 0) S.1 S.2.1 dX9_about_34 (by decide) ?_
            exact hv_ret (pc := 35) (v := nI 0) S hr rfl hlocks hH hS (by rw [if_neg (by rw [eX]; decide), eX]; exact ⟨rfl, ⟨f_41, f_42, f_43, f_44, f_45, f_46, f_47, f_48, f_49, f_50, f_51, f_52, f_53, f_54, f_55⟩⟩) (Nat.le_of_ble_eq_true rfl) (Nat.le_of_ble_eq_true rfl) dX9_about_35
        · skip
          exact absurd c_38 (by omega)
    · skip
      exact absurd c_3 (by omega)
  · skip
    refine hv_ti (y := nI 0) (by rw [if_neg hxz]) ?_
    refine hv_if_ne (pc := 7) (tgt := 14) (a := 0) S.1 S.2.1 (by omega) dX9_about_7 (by decide) (fun c_57 => ?_) (fun c_57 => ?_)
    · skip
      exact absurd c_57 (by omega)
    · skip
      refine lv_iconst (pc := 10) (v := nI 1) S.1 S.2.1 dX9_about_10 (by decide) ?_
      refine lv_goto (pc := 11) (tgt := 28) S.1 S.2.1 dX9_about_11 (by decide) ?_
      have eX : aboutX (sc 3) x z t = 3 := by exact (Classical.em (inN x (sc 3))).elim (fun hx => by rw [aboutX, if_pos hx, if_neg (fun h => hxz ⟨hx, h⟩)]) (fun hx => by rw [aboutX, if_neg hx])
      refine hv_call (pc := 28) (va_runV (As := [.int (nI 1)]) (rest := []) S (c_m_goes l D cA ga φ H.size q sc ar (1) ⟨f0, f1, f2, f3, f4, f5, f6, f7, f8, f9, f10, f11, f12, f13, f14⟩ hq (by omega)) (cwV 1 S.2.2.2.2 (gV tw_1021 tw_1023 sw_32 tw_7 tw_1024) rfl rfl rfl (by decide +kernel) ⟨Nat.le_of_ble_eq_true rfl, Nat.le_of_ble_eq_true rfl⟩) (pre0_V hH hK hX hS hA (hH.recv hK f0 rfl)) rfl rfl hl.1 rfl (lv_room (Nat.le_of_ble_eq_true rfl)) dX9_about_28 ⟨Nat.le_of_ble_eq_true rfl, Nat.le_of_ble_eq_true rfl⟩) hS (af_le hH hS hA) (fun v_58 φ_59 H locs hw_v_58 hH hS => ?_)
      obtain ⟨rfl, hm9⟩ := hw_v_58
      obtain ⟨f_60, f_61, f_62, f_63, f_64, f_65, f_66, f_67, f_68, f_69, f_70, f_71, f_72, f_73, f_74⟩ := hm9
      change φ_59 (q 0) = some (.inr (13, [.int (nI (sc 0)), .long (Int64.ofNat (sc 1)), .int (nI (sc 2)), .ref (q 1), .ref (q 2), .int (nI (sc 3)), .ref (q 3), .ref (q 4), .ref (q 5), .ref (q 6), .ref (q 7), .ref (q 8), .ref (q 9), .int (nI (sc 4)), .ref (q 10), .ref (q 11), .int (nI (sc 5)), .ref (q 12), .ref (q 13), .ref (q 14), .int (nI (sc 6)), .int (nI 1)])) at f_60
      refine hv_ti (y := nI 0) (rfl) ?_
      refine hv_if_ne (pc := 31) (tgt := 36) (a := 0) S.1 S.2.1 (by omega) dX9_about_31 (by decide) (fun c_75 => ?_) (fun c_75 => ?_)
      · skip
        exact absurd c_75 (by omega)
      · skip
        refine lv_iconst (pc := 34) (v := nI 0) S.1 S.2.1 dX9_about_34 (by decide) ?_
        exact hv_ret (pc := 35) (v := nI 0) S hr rfl hlocks hH hS (by rw [if_neg (by rw [eX]; decide), eX]; exact ⟨rfl, ⟨f_60, f_61, f_62, f_63, f_64, f_65, f_66, f_67, f_68, f_69, f_70, f_71, f_72, f_73, f_74⟩⟩) (Nat.le_of_ble_eq_true rfl) (Nat.le_of_ble_eq_true rfl) dX9_about_35

set_option maxHeartbeats 4000000 in
set_option maxRecDepth 100000 in
/-- gain(-1, row) -/
theorem c_m_gain9 (l : Launch) (D : va_G) (cA : Nat → ClassId) (ga : Nat → Nat → Nat) (φ : hpM) (sz : Nat) (x : Nat) (hx : x < 2 ^ 30) : hM l yX9_gain cX9_gain 3 (some .int) { frames := 8, cells := 0, slots := 0, locals := 200 } [.int ((-1 : Int32)), .int (nI x)] D cA ga φ sz (fun v φ' => v = some (.int (nI (gN 3 x))) ∧ φ' = φ) 0 0 := by
  refine hM.of (by decide) (Nat.le_of_ble_eq_true rfl) rfl ?_
  intro p e s m args below meth c ls H locs S hr hlocks hnm hsz hHz hH hK hX hS hA hl
  refine lv_bipush (pc := 0) (v := nI 6) S.1 S.2.1 dX9_gain_0 (by decide) ?_
  refine lv_iload_n (pc := 2) S.1 S.2.1 dX9_gain_2 rfl (lv_at hl 1 rfl) ?_
  refine lv_iconst (pc := 3) (v := nI 3) S.1 S.2.1 dX9_gain_3 (by decide) ?_
  refine lv_idiv (pc := 4) S.1 S.2.1 dX9_gain_4 (by decide) ?_
  refine hv_ti (y := nI (x / 3)) (pk_div (by omega) (by omega) (by omega)) ?_
  refine lv_isub (pc := 5) S.1 S.2.1 dX9_gain_5 ?_
  refine lv_istore_n (pc := 6) (lv' := [(2, .int (nI 6 - nI (x / 3))), (0, .int ((-1 : Int32))), (1, .int (nI x))]) S.1 S.2.1 dX9_gain_6 rfl hl (by decide) rfl (fun ls hl => ?_)
  refine lv_iload_n (pc := 7) S.1 S.2.1 dX9_gain_7 rfl (lv_at hl 1 rfl) ?_
  refine lv_if_ne (pc := 8) (tgt := 16) S.1 S.2.1 dX9_gain_8 (by decide) (fun c_1 => ?_) (fun c_1 => ?_)
  · skip
    refine lv_iload_n (pc := 16) S.1 S.2.1 dX9_gain_16 rfl (lv_at hl 1 rfl) ?_
    refine lv_iconst (pc := 17) (v := nI 1) S.1 S.2.1 dX9_gain_17 (by decide) ?_
    refine lv_icmp_ne (pc := 18) (tgt := 25) S.1 S.2.1 dX9_gain_18 (by decide) (fun c_2 => ?_) (fun c_2 => ?_)
    · skip
      refine lv_iload_n (pc := 25) S.1 S.2.1 dX9_gain_25 rfl (lv_at hl 1 rfl) ?_
      refine lv_iconst (pc := 26) (v := nI 2) S.1 S.2.1 dX9_gain_26 (by decide) ?_
      refine lv_icmp_ne (pc := 27) (tgt := 42) S.1 S.2.1 dX9_gain_27 (by decide) (fun c_3 => ?_) (fun c_3 => ?_)
      · skip
        refine lv_bipush (pc := 42) (v := nI 9) S.1 S.2.1 dX9_gain_42 (by decide) ?_
        exact hv_ret (pc := 44) (v := nI 9) S hr rfl hlocks hH hS (⟨rfl, rfl⟩) (Nat.le_of_ble_eq_true rfl) (Nat.le_of_ble_eq_true rfl) dX9_gain_44
      · skip
        exact absurd c_3 (by decide)
    · skip
      exact absurd c_2 (by decide)
  · skip
    exact absurd c_1 (by decide)

set_option maxHeartbeats 4000000 in
set_option maxRecDepth 100000 in
/-- countOf(rows) -/
theorem c_m_countOf (l : Launch) (D : va_G) (cA : Nat → ClassId) (ga : Nat → Nat → Nat) (φ : hpM) (sz : Nat) (q : Nat → Nat) (sc : Nat → Nat) (ar : Nat → Nat → Nat) (x1 : Nat) (hm : MP cA q sc ar φ) (hq : ∀ i j, i < 15 → j < 15 → q i = q j → i = j) (hty : sc 1 < 2 ^ 62) (hx1 : 1 ≤ x1) (hx2 : x1 ≤ 100) : hM l yX9_countOf cX9_countOf 6 (some .int) { frames := 10, cells := 0, slots := 0, locals := 320 } [.ref (q 0), .int (nI x1)] D cA ga φ sz (fun v φ' => v = some (.int (ctR (wkO 7 (sc 1) 4 0) x1)) ∧ MP cA q (va_up (va_up sc 0 (0)) 1 (0)) ar φ') 0 0 := by
  refine hM.of (by decide) (Nat.le_of_ble_eq_true rfl) rfl ?_
  intro p e s m args below meth c ls H locs S hr hlocks hnm hsz hHz hH hK hX hS hA hl
  obtain ⟨f0, f1, f2, f3, f4, f5, f6, f7, f8, f9, f10, f11, f12, f13, f14⟩ := hm
  refine lv_aload_n (pc := 0) S.1 S.2.1 dX9_countOf_0 rfl (lv_at hl 0 rfl) ?_
  refine hv_call (pc := 1) (va_runV (As := []) (rest := []) S (c_m_kind l D cA ga φ H.size q sc ar  ⟨f0, f1, f2, f3, f4, f5, f6, f7, f8, f9, f10, f11, f12, f13, f14⟩ hq hty) (cwV 0 S.2.2.2.2 (gV tw_1145 tw_1147 sw_42 tw_7 tw_1148) rfl rfl rfl (by decide +kernel) ⟨Nat.le_of_ble_eq_true rfl, Nat.le_of_ble_eq_true rfl⟩) (pre0_V hH hK hX hS hA (hH.recv hK f0 rfl)) rfl rfl hl.1 rfl (lv_room (Nat.le_of_ble_eq_true rfl)) dX9_countOf_1 ⟨Nat.le_of_ble_eq_true rfl, Nat.le_of_ble_eq_true rfl⟩) hS (af_le hH hS hA) (fun v_1 φ_2 H locs hw_v_1 hH hS => ?_)
  obtain ⟨rfl, hqv_1⟩ := hw_v_1
  rw [hqv_1] at hH
  have hwl := wkO_lt 7 (sc 1) 4 0
  rcases hf : wkO 7 (sc 1) 4 0 with _ | fu
  · skip
    refine hv_ti (y := (-1 : Int32)) (rfl) ?_
    refine lv_istore_n (pc := 4) (lv' := [(2, .int ((-1 : Int32))), (0, .ref (q 0)), (1, .int (nI x1))]) S.1 S.2.1 dX9_countOf_4 rfl hl (by decide) rfl (fun ls hl => ?_)
    refine lv_aload_n (pc := 5) S.1 S.2.1 dX9_countOf_5 rfl (lv_at hl 1 rfl) ?_
    refine hv_call (pc := 6) (va_runV (As := []) (rest := []) S (c_m_empties l D cA ga φ H.size q sc ar ⟨f0, f1, f2, f3, f4, f5, f6, f7, f8, f9, f10, f11, f12, f13, f14⟩ hq) (cwV 0 S.2.2.2.2 (gV tw_1041 tw_1043 sw_34 tw_7 tw_1044) rfl rfl rfl (by decide +kernel) ⟨Nat.le_of_ble_eq_true rfl, Nat.le_of_ble_eq_true rfl⟩) (pre0_V hH hK hX hS hA (hH.recv hK f0 rfl)) rfl rfl hl.1 rfl (lv_room (Nat.le_of_ble_eq_true rfl)) dX9_countOf_6 ⟨Nat.le_of_ble_eq_true rfl, Nat.le_of_ble_eq_true rfl⟩) hS (af_le hH hS hA) (fun v_3 φ_4 H locs hw_v_3 hH hS => ?_)
    obtain ⟨rfl, hm8⟩ := hw_v_3
    obtain ⟨f_5, f_6, f_7, f_8, f_9, f_10, f_11, f_12, f_13, f_14, f_15, f_16, f_17, f_18, f_19⟩ := hm8
    change φ_4 (q 0) = some (.inr (13, [.int (nI 0), .long (Int64.ofNat (0)), .int (nI (sc 2)), .ref (q 1), .ref (q 2), .int (nI (sc 3)), .ref (q 3), .ref (q 4), .ref (q 5), .ref (q 6), .ref (q 7), .ref (q 8), .ref (q 9), .int (nI (sc 4)), .ref (q 10), .ref (q 11), .int (nI (sc 5)), .ref (q 12), .ref (q 13), .ref (q 14), .int (nI (sc 6)), .int (nI (sc 7))])) at f_5
    refine lv_bipush (pc := 9) (v := nI 6) S.1 S.2.1 dX9_countOf_9 (by decide) ?_
    refine lv_istore_n (pc := 11) (lv' := [(3, .int (nI 6)), (2, .int ((-1 : Int32))), (0, .ref (q 0)), (1, .int (nI x1))]) S.1 S.2.1 dX9_countOf_11 rfl hl (by decide) rfl (fun ls hl => ?_)
    refine lv_bipush (pc := 12) (v := nI 6) S.1 S.2.1 dX9_countOf_12 (by decide) ?_
    refine lv_istore (pc := 14) (lv' := [(4, .int (nI 6)), (3, .int (nI 6)), (2, .int ((-1 : Int32))), (0, .ref (q 0)), (1, .int (nI x1))]) S.1 S.2.1 dX9_countOf_14 hl (by decide) rfl (fun ls hl => ?_)
    refine lv_iconst (pc := 16) (v := nI 2) S.1 S.2.1 dX9_countOf_16 (by decide) ?_
    refine lv_istore (pc := 17) (lv' := [(5, .int (nI 2)), (4, .int (nI 6)), (3, .int (nI 6)), (2, .int ((-1 : Int32))), (0, .ref (q 0)), (1, .int (nI x1))]) S.1 S.2.1 dX9_countOf_17 hl (by decide) rfl (fun ls hl => ?_)
    have hg : ∃ (n i : Nat), (i + 1 + n = x1) ∧ lv_has ls 6 [(0, .ref (q 0)), (1, .int (nI x1)), (2, .int ((-1 : Int32))), (3, .int (nI (sN 3 i))), (4, .int (nI (tN 3 i))), (5, .int (nI (i + 2)))] := ⟨x1 - 1, 0, by omega, lv_sub hl [4, 5, 3, 2, 1, 0] rfl⟩
    clear hl
    try clear hHz
    obtain ⟨n, i, hi, hl⟩ := hg
    induction n generalizing ls H locs i with
    | zero =>
      refine lv_iload (pc := 19) S.1 S.2.1 dX9_countOf_19 (lv_at hl 5 rfl) ?_
      refine lv_iload_n (pc := 21) S.1 S.2.1 dX9_countOf_21 rfl (lv_at hl 1 rfl) ?_
      refine hv_icmp_gt (pc := 22) (tgt := 46) (a := i + 2) (b := x1) S.1 S.2.1 (by omega) (by omega) dX9_countOf_22 (by decide) (fun c_20 => ?_) (fun c_20 => ?_)
      · skip
        refine lv_iload_n (pc := 46) S.1 S.2.1 dX9_countOf_46 rfl (lv_at hl 2 rfl) ?_
        refine lv_iconst (pc := 47) (v := -1) S.1 S.2.1 dX9_countOf_47 (by decide) ?_
        refine lv_icmp_ne (pc := 48) (tgt := 55) S.1 S.2.1 dX9_countOf_48 (by decide) (fun c_21 => ?_) (fun c_21 => ?_)
        · skip
          exact absurd rfl c_21
        · skip
          refine lv_iconst (pc := 51) (v := -1) S.1 S.2.1 dX9_countOf_51 (by decide) ?_
          refine lv_goto (pc := 52) (tgt := 57) S.1 S.2.1 dX9_countOf_52 (by decide) ?_
          exact hv_ret (pc := 57) (v := (-1 : Int32)) S hr rfl hlocks hH hS (⟨rfl, ⟨f_5, f_6, f_7, f_8, f_9, f_10, f_11, f_12, f_13, f_14, f_15, f_16, f_17, f_18, f_19⟩⟩) (Nat.le_of_ble_eq_true rfl) (Nat.le_of_ble_eq_true rfl) dX9_countOf_57
      · skip
        exact absurd c_20 (by omega)
    | succ n ih =>
      refine lv_iload (pc := 19) S.1 S.2.1 dX9_countOf_19 (lv_at hl 5 rfl) ?_
      refine lv_iload_n (pc := 21) S.1 S.2.1 dX9_countOf_21 rfl (lv_at hl 1 rfl) ?_
      refine hv_icmp_gt (pc := 22) (tgt := 46) (a := i + 2) (b := x1) S.1 S.2.1 (by omega) (by omega) dX9_countOf_22 (by decide) (fun c_22 => ?_) (fun c_22 => ?_)
      · skip
        exact absurd c_22 (by omega)
      · skip
        refine lv_iload_n (pc := 25) S.1 S.2.1 dX9_countOf_25 rfl (lv_at hl 3 rfl) ?_
        refine lv_iload_n (pc := 26) S.1 S.2.1 dX9_countOf_26 rfl (lv_at hl 2 rfl) ?_
        refine lv_iload (pc := 27) S.1 S.2.1 dX9_countOf_27 (lv_at hl 5 rfl) ?_
        refine hv_call (pc := 29) (va_runS (As := [.int ((-1 : Int32)), .int (nI (i + 2))]) (rest := [.int (nI (sN 3 i))]) S (c_m_gain9 l D cA ga φ_4 H.size (i + 2) (by omega)) (va_cwS 2 S.2.2.2.2 (gS tw_1149 tw_1150 tw_7 tw_1151) rfl rfl rfl (by decide +kernel) ⟨Nat.le_of_ble_eq_true rfl, Nat.le_of_ble_eq_true rfl⟩) (pre0_S hH hK hX hS hA) rfl rfl hl.1 rfl (lv_room (Nat.le_of_ble_eq_true rfl)) dX9_countOf_29 ⟨Nat.le_of_ble_eq_true rfl, Nat.le_of_ble_eq_true rfl⟩) hS (af_le hH hS hA) (fun v_23 φ_24 H locs hw_v_23 hH hS => ?_)
        obtain ⟨rfl, hqv_23⟩ := hw_v_23
        rw [hqv_23] at hH
        refine lv_iadd (pc := 32) S.1 S.2.1 dX9_countOf_32 ?_
        refine hv_ti (y := nI ((sN 3 i) + (gN 3 (i + 2)))) (nI_add _ _) ?_
        refine lv_istore_n (pc := 33) (lv' := [(3, .int (nI ((sN 3 i) + (gN 3 (i + 2))))), (0, .ref (q 0)), (1, .int (nI x1)), (2, .int ((-1 : Int32))), (4, .int (nI (tN 3 i))), (5, .int (nI (i + 2)))]) S.1 S.2.1 dX9_countOf_33 rfl hl (by decide) rfl (fun ls hl => ?_)
        refine lv_iload (pc := 34) S.1 S.2.1 dX9_countOf_34 (lv_at hl 4 rfl) ?_
        refine lv_iload_n (pc := 36) S.1 S.2.1 dX9_countOf_36 rfl (lv_at hl 0 rfl) ?_
        refine lv_iadd (pc := 37) S.1 S.2.1 dX9_countOf_37 ?_
        refine hv_ti (y := nI ((tN 3 i) + ((sN 3 i) + (gN 3 (i + 2))))) (nI_add _ _) ?_
        refine lv_istore (pc := 38) (lv' := [(4, .int (nI ((tN 3 i) + ((sN 3 i) + (gN 3 (i + 2)))))), (3, .int (nI ((sN 3 i) + (gN 3 (i + 2))))), (0, .ref (q 0)), (1, .int (nI x1)), (2, .int ((-1 : Int32))), (5, .int (nI (i + 2)))]) S.1 S.2.1 dX9_countOf_38 hl (by decide) rfl (fun ls hl => ?_)
        refine lv_iinc (pc := 40) (v := nI (i + 2 + 1)) (lv' := [(5, .int (nI (i + 2 + 1))), (4, .int (nI ((tN 3 i) + ((sN 3 i) + (gN 3 (i + 2)))))), (3, .int (nI ((sN 3 i) + (gN 3 (i + 2))))), (0, .ref (q 0)), (1, .int (nI x1)), (2, .int ((-1 : Int32)))]) S.1 S.2.1 dX9_countOf_40 hl (k := 5) rfl (by first | rfl | exact nI_add _ _) (by decide) rfl (fun ls hl => ?_)
        refine lv_goto (pc := 43) (tgt := 19) S.1 S.2.1 dX9_countOf_43 (by decide) ?_
        have hi2 : (i + 1) + 1 + n = x1 := by omega
        have hl2 : lv_has ls 6 [(0, .ref (q 0)), (1, .int (nI x1)), (2, .int ((-1 : Int32))), (3, .int (nI (sN 3 (i + 1)))), (4, .int (nI (tN 3 (i + 1)))), (5, .int (nI ((i + 1) + 2)))] := lv_sub hl [3, 4, 5, 2, 1, 0] rfl
        apply ih (i := i + 1) <;> assumption
  · skip
    have hfu := hwl fu hf
    refine hv_ti (y := nI fu) (rfl) ?_
    refine lv_istore_n (pc := 4) (lv' := [(2, .int (nI fu)), (0, .ref (q 0)), (1, .int (nI x1))]) S.1 S.2.1 dX9_countOf_4 rfl hl (by decide) rfl (fun ls hl => ?_)
    refine lv_aload_n (pc := 5) S.1 S.2.1 dX9_countOf_5 rfl (lv_at hl 1 rfl) ?_
    refine hv_call (pc := 6) (va_runV (As := []) (rest := []) S (c_m_empties l D cA ga φ H.size q sc ar ⟨f0, f1, f2, f3, f4, f5, f6, f7, f8, f9, f10, f11, f12, f13, f14⟩ hq) (cwV 0 S.2.2.2.2 (gV tw_1041 tw_1043 sw_34 tw_7 tw_1044) rfl rfl rfl (by decide +kernel) ⟨Nat.le_of_ble_eq_true rfl, Nat.le_of_ble_eq_true rfl⟩) (pre0_V hH hK hX hS hA (hH.recv hK f0 rfl)) rfl rfl hl.1 rfl (lv_room (Nat.le_of_ble_eq_true rfl)) dX9_countOf_6 ⟨Nat.le_of_ble_eq_true rfl, Nat.le_of_ble_eq_true rfl⟩) hS (af_le hH hS hA) (fun v_25 φ_26 H locs hw_v_25 hH hS => ?_)
    obtain ⟨rfl, hm8⟩ := hw_v_25
    obtain ⟨f_27, f_28, f_29, f_30, f_31, f_32, f_33, f_34, f_35, f_36, f_37, f_38, f_39, f_40, f_41⟩ := hm8
    change φ_26 (q 0) = some (.inr (13, [.int (nI 0), .long (Int64.ofNat (0)), .int (nI (sc 2)), .ref (q 1), .ref (q 2), .int (nI (sc 3)), .ref (q 3), .ref (q 4), .ref (q 5), .ref (q 6), .ref (q 7), .ref (q 8), .ref (q 9), .int (nI (sc 4)), .ref (q 10), .ref (q 11), .int (nI (sc 5)), .ref (q 12), .ref (q 13), .ref (q 14), .int (nI (sc 6)), .int (nI (sc 7))])) at f_27
    refine lv_bipush (pc := 9) (v := nI 6) S.1 S.2.1 dX9_countOf_9 (by decide) ?_
    refine lv_istore_n (pc := 11) (lv' := [(3, .int (nI 6)), (2, .int (nI fu)), (0, .ref (q 0)), (1, .int (nI x1))]) S.1 S.2.1 dX9_countOf_11 rfl hl (by decide) rfl (fun ls hl => ?_)
    refine lv_bipush (pc := 12) (v := nI 6) S.1 S.2.1 dX9_countOf_12 (by decide) ?_
    refine lv_istore (pc := 14) (lv' := [(4, .int (nI 6)), (3, .int (nI 6)), (2, .int (nI fu)), (0, .ref (q 0)), (1, .int (nI x1))]) S.1 S.2.1 dX9_countOf_14 hl (by decide) rfl (fun ls hl => ?_)
    refine lv_iconst (pc := 16) (v := nI 2) S.1 S.2.1 dX9_countOf_16 (by decide) ?_
    refine lv_istore (pc := 17) (lv' := [(5, .int (nI 2)), (4, .int (nI 6)), (3, .int (nI 6)), (2, .int (nI fu)), (0, .ref (q 0)), (1, .int (nI x1))]) S.1 S.2.1 dX9_countOf_17 hl (by decide) rfl (fun ls hl => ?_)
    have hg : ∃ (n i : Nat), (i + 1 + n = x1) ∧ lv_has ls 6 [(0, .ref (q 0)), (1, .int (nI x1)), (2, .int (nI fu)), (3, .int (nI (sN fu i))), (4, .int (nI (tN fu i))), (5, .int (nI (i + 2)))] := ⟨x1 - 1, 0, by omega, lv_sub hl [4, 5, 3, 2, 1, 0] rfl⟩
    clear hl
    try clear hHz
    obtain ⟨n, i, hi, hl⟩ := hg
    induction n generalizing ls H locs i with
    | zero =>
      refine lv_iload (pc := 19) S.1 S.2.1 dX9_countOf_19 (lv_at hl 5 rfl) ?_
      refine lv_iload_n (pc := 21) S.1 S.2.1 dX9_countOf_21 rfl (lv_at hl 1 rfl) ?_
      refine hv_icmp_gt (pc := 22) (tgt := 46) (a := i + 2) (b := x1) S.1 S.2.1 (by omega) (by omega) dX9_countOf_22 (by decide) (fun c_42 => ?_) (fun c_42 => ?_)
      · skip
        refine lv_iload_n (pc := 46) S.1 S.2.1 dX9_countOf_46 rfl (lv_at hl 2 rfl) ?_
        refine lv_iconst (pc := 47) (v := -1) S.1 S.2.1 dX9_countOf_47 (by decide) ?_
        refine lv_icmp_ne (pc := 48) (tgt := 55) S.1 S.2.1 dX9_countOf_48 (by decide) (fun c_43 => ?_) (fun c_43 => ?_)
        · skip
          refine lv_iload (pc := 55) S.1 S.2.1 dX9_countOf_55 (lv_at hl 4 rfl) ?_
          exact hv_ret (pc := 57) (v := nI (tN fu i)) S hr rfl hlocks hH hS (⟨by rw [show i = x1 - 1 by omega]; rfl, ⟨f_27, f_28, f_29, f_30, f_31, f_32, f_33, f_34, f_35, f_36, f_37, f_38, f_39, f_40, f_41⟩⟩) (Nat.le_of_ble_eq_true rfl) (Nat.le_of_ble_eq_true rfl) dX9_countOf_57
        · skip
          exact absurd c_43 (nI_nm1 (by omega))
      · skip
        exact absurd c_42 (by omega)
    | succ n ih =>
      refine lv_iload (pc := 19) S.1 S.2.1 dX9_countOf_19 (lv_at hl 5 rfl) ?_
      refine lv_iload_n (pc := 21) S.1 S.2.1 dX9_countOf_21 rfl (lv_at hl 1 rfl) ?_
      refine hv_icmp_gt (pc := 22) (tgt := 46) (a := i + 2) (b := x1) S.1 S.2.1 (by omega) (by omega) dX9_countOf_22 (by decide) (fun c_44 => ?_) (fun c_44 => ?_)
      · skip
        exact absurd c_44 (by omega)
      · skip
        refine lv_iload_n (pc := 25) S.1 S.2.1 dX9_countOf_25 rfl (lv_at hl 3 rfl) ?_
        refine lv_iload_n (pc := 26) S.1 S.2.1 dX9_countOf_26 rfl (lv_at hl 2 rfl) ?_
        refine lv_iload (pc := 27) S.1 S.2.1 dX9_countOf_27 (lv_at hl 5 rfl) ?_
        refine hv_call (pc := 29) (va_runS (As := [.int (nI fu), .int (nI (i + 2))]) (rest := [.int (nI (sN fu i))]) S (c_m_gain l D cA ga φ_26 H.size fu (i + 2) hfu (by omega)) (va_cwS 2 S.2.2.2.2 (gS tw_1149 tw_1150 tw_7 tw_1151) rfl rfl rfl (by decide +kernel) ⟨Nat.le_of_ble_eq_true rfl, Nat.le_of_ble_eq_true rfl⟩) (pre0_S hH hK hX hS hA) rfl rfl hl.1 rfl (lv_room (Nat.le_of_ble_eq_true rfl)) dX9_countOf_29 ⟨Nat.le_of_ble_eq_true rfl, Nat.le_of_ble_eq_true rfl⟩) hS (af_le hH hS hA) (fun v_45 φ_46 H locs hw_v_45 hH hS => ?_)
        obtain ⟨rfl, hqv_45⟩ := hw_v_45
        rw [hqv_45] at hH
        refine lv_iadd (pc := 32) S.1 S.2.1 dX9_countOf_32 ?_
        refine hv_ti (y := nI ((sN fu i) + (gN fu (i + 2)))) (nI_add _ _) ?_
        refine lv_istore_n (pc := 33) (lv' := [(3, .int (nI ((sN fu i) + (gN fu (i + 2))))), (0, .ref (q 0)), (1, .int (nI x1)), (2, .int (nI fu)), (4, .int (nI (tN fu i))), (5, .int (nI (i + 2)))]) S.1 S.2.1 dX9_countOf_33 rfl hl (by decide) rfl (fun ls hl => ?_)
        refine lv_iload (pc := 34) S.1 S.2.1 dX9_countOf_34 (lv_at hl 4 rfl) ?_
        refine lv_iload_n (pc := 36) S.1 S.2.1 dX9_countOf_36 rfl (lv_at hl 0 rfl) ?_
        refine lv_iadd (pc := 37) S.1 S.2.1 dX9_countOf_37 ?_
        refine hv_ti (y := nI ((tN fu i) + ((sN fu i) + (gN fu (i + 2))))) (nI_add _ _) ?_
        refine lv_istore (pc := 38) (lv' := [(4, .int (nI ((tN fu i) + ((sN fu i) + (gN fu (i + 2)))))), (3, .int (nI ((sN fu i) + (gN fu (i + 2))))), (0, .ref (q 0)), (1, .int (nI x1)), (2, .int (nI fu)), (5, .int (nI (i + 2)))]) S.1 S.2.1 dX9_countOf_38 hl (by decide) rfl (fun ls hl => ?_)
        refine lv_iinc (pc := 40) (v := nI (i + 2 + 1)) (lv' := [(5, .int (nI (i + 2 + 1))), (4, .int (nI ((tN fu i) + ((sN fu i) + (gN fu (i + 2)))))), (3, .int (nI ((sN fu i) + (gN fu (i + 2))))), (0, .ref (q 0)), (1, .int (nI x1)), (2, .int (nI fu))]) S.1 S.2.1 dX9_countOf_40 hl (k := 5) rfl (by first | rfl | exact nI_add _ _) (by decide) rfl (fun ls hl => ?_)
        refine lv_goto (pc := 43) (tgt := 19) S.1 S.2.1 dX9_countOf_43 (by decide) ?_
        have hi2 : (i + 1) + 1 + n = x1 := by omega
        have hl2 : lv_has ls 6 [(0, .ref (q 0)), (1, .int (nI x1)), (2, .int (nI fu)), (3, .int (nI (sN fu (i + 1)))), (4, .int (nI (tN fu (i + 1)))), (5, .int (nI ((i + 1) + 2)))] := lv_sub hl [3, 4, 5, 2, 1, 0] rfl
        apply ih (i := i + 1) <;> assumption

set_option maxHeartbeats 4000000 in
set_option maxRecDepth 100000 in
/-- count -/
theorem c_m_count (l : Launch) (D : va_G) (cA : Nat → ClassId) (ga : Nat → Nat → Nat) (φ : hpM) (sz : Nat) (q : Nat → Nat) (sc : Nat → Nat) (ar : Nat → Nat → Nat) (x : Int32) (hm : MP cA q sc ar φ) (hq : ∀ i j, i < 15 → j < 15 → q i = q j → i = j) (hty : sc 1 < 2 ^ 62) : hM l yX9_count cX9_count 2 (some .int) { frames := 11, cells := 0, slots := 0, locals := 380 } [.ref (q 0), .int (x)] D cA ga φ sz (fun v φ' => if cntX x = 0 then (∃ x1 : Nat, x = nI x1 ∧ x1 < 2 ^ 31 ∧ v = some (.int (ctR (wkO 7 (sc 1) 4 0) x1)) ∧ MP cA q (va_up (va_up (va_up sc 0 (0)) 1 (0)) 7 (0)) ar φ') else (v = some (.int (nI 0)) ∧ MP cA q (va_up sc 7 (mcd 1 9 9 (cntX x))) ar φ')) 0 0 := by
  refine hM.of (by decide) (Nat.le_of_ble_eq_true rfl) rfl ?_
  intro p e s m args below meth c ls H locs S hr hlocks hnm hsz hHz hH hK hX hS hA hl
  obtain ⟨f0, f1, f2, f3, f4, f5, f6, f7, f8, f9, f10, f11, f12, f13, f14⟩ := hm
  refine lv_aload_n (pc := 0) S.1 S.2.1 dX9_count_0 rfl (lv_at hl 0 rfl) ?_
  refine lv_iload_n (pc := 1) S.1 S.2.1 dX9_count_1 rfl (lv_at hl 1 rfl) ?_
  refine lv_iconst (pc := 2) (v := nI 1) S.1 S.2.1 dX9_count_2 (by decide) ?_
  refine lv_bipush (pc := 3) (v := nI 100) S.1 S.2.1 dX9_count_3 (by decide) ?_
  by_cases hx : inR x 1 100
  · skip
    obtain ⟨x1, rfl, hxlo, hxhi⟩ := hx.nat (by omega) (by omega)
    refine hv_call (pc := 5) (va_runS (As := [.int (nI x1), .int (nI 1), .int (nI 100)]) (rest := [.ref (q 0)]) S (c_isIn l D cA ga φ H.size (nI x1) (nI 1) (nI 100)) (va_cwS 3 S.2.2.2.2 (gS tw_1031 tw_1032 tw_7 tw_1033) rfl rfl rfl (by decide +kernel) ⟨Nat.le_of_ble_eq_true rfl, Nat.le_of_ble_eq_true rfl⟩) (pre0_S hH hK hX hS hA) rfl rfl hl.1 rfl (lv_room (Nat.le_of_ble_eq_true rfl)) dX9_count_5 ⟨Nat.le_of_ble_eq_true rfl, Nat.le_of_ble_eq_true rfl⟩) hS (af_le hH hS hA) (fun v_1 φ_2 H locs hw_v_1 hH hS => ?_)
    obtain ⟨rfl, hqv_1⟩ := hw_v_1
    rw [hqv_1] at hH
    refine hv_ti (y := nI 1) (by rw [inB_R, if_pos hx]) ?_
    refine hv_if_eq (pc := 8) (tgt := 15) (a := 1) S.1 S.2.1 (by omega) dX9_count_8 (by decide) (fun c_3 => ?_) (fun c_3 => ?_)
    · skip
      exact absurd c_3 (by omega)
    · skip
      refine lv_iconst (pc := 11) (v := nI 0) S.1 S.2.1 dX9_count_11 (by decide) ?_
      refine lv_goto (pc := 12) (tgt := 16) S.1 S.2.1 dX9_count_12 (by decide) ?_
      have eX : cntX (nI x1) = 0 := by rw [cntX, if_pos hx]
      refine hv_call (pc := 16) (va_runV (As := [.int (nI 0)]) (rest := []) S (c_m_goes l D cA ga φ H.size q sc ar (0) ⟨f0, f1, f2, f3, f4, f5, f6, f7, f8, f9, f10, f11, f12, f13, f14⟩ hq (by omega)) (cwV 1 S.2.2.2.2 (gV tw_1021 tw_1023 sw_32 tw_7 tw_1024) rfl rfl rfl (by decide +kernel) ⟨Nat.le_of_ble_eq_true rfl, Nat.le_of_ble_eq_true rfl⟩) (pre0_V hH hK hX hS hA (hH.recv hK f0 rfl)) rfl rfl hl.1 rfl (lv_room (Nat.le_of_ble_eq_true rfl)) dX9_count_16 ⟨Nat.le_of_ble_eq_true rfl, Nat.le_of_ble_eq_true rfl⟩) hS (af_le hH hS hA) (fun v_4 φ_5 H locs hw_v_4 hH hS => ?_)
      obtain ⟨rfl, hm9⟩ := hw_v_4
      obtain ⟨f_6, f_7, f_8, f_9, f_10, f_11, f_12, f_13, f_14, f_15, f_16, f_17, f_18, f_19, f_20⟩ := hm9
      change φ_5 (q 0) = some (.inr (13, [.int (nI (sc 0)), .long (Int64.ofNat (sc 1)), .int (nI (sc 2)), .ref (q 1), .ref (q 2), .int (nI (sc 3)), .ref (q 3), .ref (q 4), .ref (q 5), .ref (q 6), .ref (q 7), .ref (q 8), .ref (q 9), .int (nI (sc 4)), .ref (q 10), .ref (q 11), .int (nI (sc 5)), .ref (q 12), .ref (q 13), .ref (q 14), .int (nI (sc 6)), .int (nI 0)])) at f_6
      refine hv_ti (y := nI 1) (rfl) ?_
      refine hv_if_eq (pc := 19) (tgt := 30) (a := 1) S.1 S.2.1 (by omega) dX9_count_19 (by decide) (fun c_21 => ?_) (fun c_21 => ?_)
      · skip
        exact absurd c_21 (by omega)
      · skip
        refine lv_aload_n (pc := 22) S.1 S.2.1 dX9_count_22 rfl (lv_at hl 0 rfl) ?_
        refine lv_iload_n (pc := 23) S.1 S.2.1 dX9_count_23 rfl (lv_at hl 1 rfl) ?_
        refine hv_call (pc := 24) (va_runV (As := [.int (nI x1)]) (rest := []) S (c_m_countOf l D cA ga φ_5 H.size q (va_up sc 7 (0)) ar x1 ⟨f_6, f_7, f_8, f_9, f_10, f_11, f_12, f_13, f_14, f_15, f_16, f_17, f_18, f_19, f_20⟩ hq hty hxlo hxhi) (cwV 1 S.2.2.2.2 (gV tw_1141 tw_1143 sw_41 tw_7 tw_1144) rfl rfl rfl (by decide +kernel) ⟨Nat.le_of_ble_eq_true rfl, Nat.le_of_ble_eq_true rfl⟩) (pre0_V hH hK hX hS hA (hH.recv hK f_6 rfl)) rfl rfl hl.1 rfl (lv_room (Nat.le_of_ble_eq_true rfl)) dX9_count_24 ⟨Nat.le_of_ble_eq_true rfl, Nat.le_of_ble_eq_true rfl⟩) hS (af_le hH hS hA) (fun v_22 φ_23 H locs hw_v_22 hH hS => ?_)
        obtain ⟨rfl, hm8⟩ := hw_v_22
        obtain ⟨f_24, f_25, f_26, f_27, f_28, f_29, f_30, f_31, f_32, f_33, f_34, f_35, f_36, f_37, f_38⟩ := hm8
        change φ_23 (q 0) = some (.inr (13, [.int (nI 0), .long (Int64.ofNat (0)), .int (nI (sc 2)), .ref (q 1), .ref (q 2), .int (nI (sc 3)), .ref (q 3), .ref (q 4), .ref (q 5), .ref (q 6), .ref (q 7), .ref (q 8), .ref (q 9), .int (nI (sc 4)), .ref (q 10), .ref (q 11), .int (nI (sc 5)), .ref (q 12), .ref (q 13), .ref (q 14), .int (nI (sc 6)), .int (nI 0)])) at f_24
        refine lv_goto (pc := 27) (tgt := 31) S.1 S.2.1 dX9_count_27 (by decide) ?_
        exact hv_ret (pc := 31) (v := ctR (wkO 7 (sc 1) 4 0) x1) S hr rfl hlocks hH hS (by rw [if_pos eX]; exact ⟨x1, rfl, by omega, rfl, ⟨f_24, f_25, f_26, f_27, f_28, f_29, f_30, f_31, f_32, f_33, f_34, f_35, f_36, f_37, f_38⟩⟩) (Nat.le_of_ble_eq_true rfl) (Nat.le_of_ble_eq_true rfl) dX9_count_31
  · skip
    refine hv_call (pc := 5) (va_runS (As := [.int (x), .int (nI 1), .int (nI 100)]) (rest := [.ref (q 0)]) S (c_isIn l D cA ga φ H.size x (nI 1) (nI 100)) (va_cwS 3 S.2.2.2.2 (gS tw_1031 tw_1032 tw_7 tw_1033) rfl rfl rfl (by decide +kernel) ⟨Nat.le_of_ble_eq_true rfl, Nat.le_of_ble_eq_true rfl⟩) (pre0_S hH hK hX hS hA) rfl rfl hl.1 rfl (lv_room (Nat.le_of_ble_eq_true rfl)) dX9_count_5 ⟨Nat.le_of_ble_eq_true rfl, Nat.le_of_ble_eq_true rfl⟩) hS (af_le hH hS hA) (fun v_39 φ_40 H locs hw_v_39 hH hS => ?_)
    obtain ⟨rfl, hqv_39⟩ := hw_v_39
    rw [hqv_39] at hH
    refine hv_ti (y := nI 0) (by rw [inB_R, if_neg hx]) ?_
    refine hv_if_eq (pc := 8) (tgt := 15) (a := 0) S.1 S.2.1 (by omega) dX9_count_8 (by decide) (fun c_41 => ?_) (fun c_41 => ?_)
    · skip
      refine lv_iconst (pc := 15) (v := nI 1) S.1 S.2.1 dX9_count_15 (by decide) ?_
      have eX : cntX x = 1 := by rw [cntX, if_neg hx]
      refine hv_call (pc := 16) (va_runV (As := [.int (nI 1)]) (rest := []) S (c_m_goes l D cA ga φ H.size q sc ar (1) ⟨f0, f1, f2, f3, f4, f5, f6, f7, f8, f9, f10, f11, f12, f13, f14⟩ hq (by omega)) (cwV 1 S.2.2.2.2 (gV tw_1021 tw_1023 sw_32 tw_7 tw_1024) rfl rfl rfl (by decide +kernel) ⟨Nat.le_of_ble_eq_true rfl, Nat.le_of_ble_eq_true rfl⟩) (pre0_V hH hK hX hS hA (hH.recv hK f0 rfl)) rfl rfl hl.1 rfl (lv_room (Nat.le_of_ble_eq_true rfl)) dX9_count_16 ⟨Nat.le_of_ble_eq_true rfl, Nat.le_of_ble_eq_true rfl⟩) hS (af_le hH hS hA) (fun v_42 φ_43 H locs hw_v_42 hH hS => ?_)
      obtain ⟨rfl, hm9⟩ := hw_v_42
      obtain ⟨f_44, f_45, f_46, f_47, f_48, f_49, f_50, f_51, f_52, f_53, f_54, f_55, f_56, f_57, f_58⟩ := hm9
      change φ_43 (q 0) = some (.inr (13, [.int (nI (sc 0)), .long (Int64.ofNat (sc 1)), .int (nI (sc 2)), .ref (q 1), .ref (q 2), .int (nI (sc 3)), .ref (q 3), .ref (q 4), .ref (q 5), .ref (q 6), .ref (q 7), .ref (q 8), .ref (q 9), .int (nI (sc 4)), .ref (q 10), .ref (q 11), .int (nI (sc 5)), .ref (q 12), .ref (q 13), .ref (q 14), .int (nI (sc 6)), .int (nI 1)])) at f_44
      refine hv_ti (y := nI 0) (rfl) ?_
      refine hv_if_eq (pc := 19) (tgt := 30) (a := 0) S.1 S.2.1 (by omega) dX9_count_19 (by decide) (fun c_59 => ?_) (fun c_59 => ?_)
      · skip
        refine lv_iconst (pc := 30) (v := nI 0) S.1 S.2.1 dX9_count_30 (by decide) ?_
        exact hv_ret (pc := 31) (v := nI 0) S hr rfl hlocks hH hS (by rw [if_neg (by rw [eX]; decide), eX]; exact ⟨rfl, ⟨f_44, f_45, f_46, f_47, f_48, f_49, f_50, f_51, f_52, f_53, f_54, f_55, f_56, f_57, f_58⟩⟩) (Nat.le_of_ble_eq_true rfl) (Nat.le_of_ble_eq_true rfl) dX9_count_31
      · skip
        exact absurd c_59 (by omega)
    · skip
      exact absurd c_41 (by omega)

set_option maxHeartbeats 4000000 in
set_option maxRecDepth 100000 in
/-- countAnew -/
theorem c_m_countAnew (l : Launch) (D : va_G) (cA : Nat → ClassId) (ga : Nat → Nat → Nat) (φ : hpM) (sz : Nat) (q : Nat → Nat) (sc : Nat → Nat) (ar : Nat → Nat → Nat) (x : Int32) (hm : MP cA q sc ar φ) (hq : ∀ i j, i < 15 → j < 15 → q i = q j → i = j) (hty : sc 1 < 2 ^ 62) : hM l yX9_countAnew cX9_countAnew 2 (some .int) { frames := 11, cells := 0, slots := 0, locals := 380 } [.ref (q 0), .int (x)] D cA ga φ sz (fun v φ' => if cntX x = 0 then (∃ x1 : Nat, x = nI x1 ∧ x1 < 2 ^ 31 ∧ v = some (.int (ctR (wkO 7 (sc 1) 4 0) x1)) ∧ MP cA q (va_up (va_up (va_up sc 0 (0)) 1 (0)) 7 (0)) ar φ') else (v = some (.int (nI 0)) ∧ MP cA q (va_up sc 7 (mcd 1 9 9 (cntX x))) ar φ')) 0 0 := by
  refine hM.of (by decide) (Nat.le_of_ble_eq_true rfl) rfl ?_
  intro p e s m args below meth c ls H locs S hr hlocks hnm hsz hHz hH hK hX hS hA hl
  obtain ⟨f0, f1, f2, f3, f4, f5, f6, f7, f8, f9, f10, f11, f12, f13, f14⟩ := hm
  refine lv_aload_n (pc := 0) S.1 S.2.1 dX9_countAnew_0 rfl (lv_at hl 0 rfl) ?_
  refine lv_iload_n (pc := 1) S.1 S.2.1 dX9_countAnew_1 rfl (lv_at hl 1 rfl) ?_
  refine lv_iconst (pc := 2) (v := nI 1) S.1 S.2.1 dX9_countAnew_2 (by decide) ?_
  refine lv_bipush (pc := 3) (v := nI 100) S.1 S.2.1 dX9_countAnew_3 (by decide) ?_
  by_cases hx : inR x 1 100
  · skip
    obtain ⟨x1, rfl, hxlo, hxhi⟩ := hx.nat (by omega) (by omega)
    refine hv_call (pc := 5) (va_runS (As := [.int (nI x1), .int (nI 1), .int (nI 100)]) (rest := [.ref (q 0)]) S (c_isIn l D cA ga φ H.size (nI x1) (nI 1) (nI 100)) (va_cwS 3 S.2.2.2.2 (gS tw_1031 tw_1032 tw_7 tw_1033) rfl rfl rfl (by decide +kernel) ⟨Nat.le_of_ble_eq_true rfl, Nat.le_of_ble_eq_true rfl⟩) (pre0_S hH hK hX hS hA) rfl rfl hl.1 rfl (lv_room (Nat.le_of_ble_eq_true rfl)) dX9_countAnew_5 ⟨Nat.le_of_ble_eq_true rfl, Nat.le_of_ble_eq_true rfl⟩) hS (af_le hH hS hA) (fun v_1 φ_2 H locs hw_v_1 hH hS => ?_)
    obtain ⟨rfl, hqv_1⟩ := hw_v_1
    rw [hqv_1] at hH
    refine hv_ti (y := nI 1) (by rw [inB_R, if_pos hx]) ?_
    refine hv_if_eq (pc := 8) (tgt := 15) (a := 1) S.1 S.2.1 (by omega) dX9_countAnew_8 (by decide) (fun c_3 => ?_) (fun c_3 => ?_)
    · skip
      exact absurd c_3 (by omega)
    · skip
      refine lv_iconst (pc := 11) (v := nI 0) S.1 S.2.1 dX9_countAnew_11 (by decide) ?_
      refine lv_goto (pc := 12) (tgt := 16) S.1 S.2.1 dX9_countAnew_12 (by decide) ?_
      have eX : cntX (nI x1) = 0 := by rw [cntX, if_pos hx]
      refine hv_call (pc := 16) (va_runV (As := [.int (nI 0)]) (rest := []) S (c_m_goes l D cA ga φ H.size q sc ar (0) ⟨f0, f1, f2, f3, f4, f5, f6, f7, f8, f9, f10, f11, f12, f13, f14⟩ hq (by omega)) (cwV 1 S.2.2.2.2 (gV tw_1021 tw_1023 sw_32 tw_7 tw_1024) rfl rfl rfl (by decide +kernel) ⟨Nat.le_of_ble_eq_true rfl, Nat.le_of_ble_eq_true rfl⟩) (pre0_V hH hK hX hS hA (hH.recv hK f0 rfl)) rfl rfl hl.1 rfl (lv_room (Nat.le_of_ble_eq_true rfl)) dX9_countAnew_16 ⟨Nat.le_of_ble_eq_true rfl, Nat.le_of_ble_eq_true rfl⟩) hS (af_le hH hS hA) (fun v_4 φ_5 H locs hw_v_4 hH hS => ?_)
      obtain ⟨rfl, hm9⟩ := hw_v_4
      obtain ⟨f_6, f_7, f_8, f_9, f_10, f_11, f_12, f_13, f_14, f_15, f_16, f_17, f_18, f_19, f_20⟩ := hm9
      change φ_5 (q 0) = some (.inr (13, [.int (nI (sc 0)), .long (Int64.ofNat (sc 1)), .int (nI (sc 2)), .ref (q 1), .ref (q 2), .int (nI (sc 3)), .ref (q 3), .ref (q 4), .ref (q 5), .ref (q 6), .ref (q 7), .ref (q 8), .ref (q 9), .int (nI (sc 4)), .ref (q 10), .ref (q 11), .int (nI (sc 5)), .ref (q 12), .ref (q 13), .ref (q 14), .int (nI (sc 6)), .int (nI 0)])) at f_6
      refine hv_ti (y := nI 1) (rfl) ?_
      refine hv_if_eq (pc := 19) (tgt := 30) (a := 1) S.1 S.2.1 (by omega) dX9_countAnew_19 (by decide) (fun c_21 => ?_) (fun c_21 => ?_)
      · skip
        exact absurd c_21 (by omega)
      · skip
        refine lv_aload_n (pc := 22) S.1 S.2.1 dX9_countAnew_22 rfl (lv_at hl 0 rfl) ?_
        refine lv_iload_n (pc := 23) S.1 S.2.1 dX9_countAnew_23 rfl (lv_at hl 1 rfl) ?_
        refine hv_call (pc := 24) (va_runV (As := [.int (nI x1)]) (rest := []) S (c_m_countOf l D cA ga φ_5 H.size q (va_up sc 7 (0)) ar x1 ⟨f_6, f_7, f_8, f_9, f_10, f_11, f_12, f_13, f_14, f_15, f_16, f_17, f_18, f_19, f_20⟩ hq hty hxlo hxhi) (cwV 1 S.2.2.2.2 (gV tw_1141 tw_1143 sw_41 tw_7 tw_1144) rfl rfl rfl (by decide +kernel) ⟨Nat.le_of_ble_eq_true rfl, Nat.le_of_ble_eq_true rfl⟩) (pre0_V hH hK hX hS hA (hH.recv hK f_6 rfl)) rfl rfl hl.1 rfl (lv_room (Nat.le_of_ble_eq_true rfl)) dX9_countAnew_24 ⟨Nat.le_of_ble_eq_true rfl, Nat.le_of_ble_eq_true rfl⟩) hS (af_le hH hS hA) (fun v_22 φ_23 H locs hw_v_22 hH hS => ?_)
        obtain ⟨rfl, hm8⟩ := hw_v_22
        obtain ⟨f_24, f_25, f_26, f_27, f_28, f_29, f_30, f_31, f_32, f_33, f_34, f_35, f_36, f_37, f_38⟩ := hm8
        change φ_23 (q 0) = some (.inr (13, [.int (nI 0), .long (Int64.ofNat (0)), .int (nI (sc 2)), .ref (q 1), .ref (q 2), .int (nI (sc 3)), .ref (q 3), .ref (q 4), .ref (q 5), .ref (q 6), .ref (q 7), .ref (q 8), .ref (q 9), .int (nI (sc 4)), .ref (q 10), .ref (q 11), .int (nI (sc 5)), .ref (q 12), .ref (q 13), .ref (q 14), .int (nI (sc 6)), .int (nI 0)])) at f_24
        refine lv_goto (pc := 27) (tgt := 31) S.1 S.2.1 dX9_countAnew_27 (by decide) ?_
        exact hv_ret (pc := 31) (v := ctR (wkO 7 (sc 1) 4 0) x1) S hr rfl hlocks hH hS (by rw [if_pos eX]; exact ⟨x1, rfl, by omega, rfl, ⟨f_24, f_25, f_26, f_27, f_28, f_29, f_30, f_31, f_32, f_33, f_34, f_35, f_36, f_37, f_38⟩⟩) (Nat.le_of_ble_eq_true rfl) (Nat.le_of_ble_eq_true rfl) dX9_countAnew_31
  · skip
    refine hv_call (pc := 5) (va_runS (As := [.int (x), .int (nI 1), .int (nI 100)]) (rest := [.ref (q 0)]) S (c_isIn l D cA ga φ H.size x (nI 1) (nI 100)) (va_cwS 3 S.2.2.2.2 (gS tw_1031 tw_1032 tw_7 tw_1033) rfl rfl rfl (by decide +kernel) ⟨Nat.le_of_ble_eq_true rfl, Nat.le_of_ble_eq_true rfl⟩) (pre0_S hH hK hX hS hA) rfl rfl hl.1 rfl (lv_room (Nat.le_of_ble_eq_true rfl)) dX9_countAnew_5 ⟨Nat.le_of_ble_eq_true rfl, Nat.le_of_ble_eq_true rfl⟩) hS (af_le hH hS hA) (fun v_39 φ_40 H locs hw_v_39 hH hS => ?_)
    obtain ⟨rfl, hqv_39⟩ := hw_v_39
    rw [hqv_39] at hH
    refine hv_ti (y := nI 0) (by rw [inB_R, if_neg hx]) ?_
    refine hv_if_eq (pc := 8) (tgt := 15) (a := 0) S.1 S.2.1 (by omega) dX9_countAnew_8 (by decide) (fun c_41 => ?_) (fun c_41 => ?_)
    · skip
      refine lv_iconst (pc := 15) (v := nI 1) S.1 S.2.1 dX9_countAnew_15 (by decide) ?_
      have eX : cntX x = 1 := by rw [cntX, if_neg hx]
      refine hv_call (pc := 16) (va_runV (As := [.int (nI 1)]) (rest := []) S (c_m_goes l D cA ga φ H.size q sc ar (1) ⟨f0, f1, f2, f3, f4, f5, f6, f7, f8, f9, f10, f11, f12, f13, f14⟩ hq (by omega)) (cwV 1 S.2.2.2.2 (gV tw_1021 tw_1023 sw_32 tw_7 tw_1024) rfl rfl rfl (by decide +kernel) ⟨Nat.le_of_ble_eq_true rfl, Nat.le_of_ble_eq_true rfl⟩) (pre0_V hH hK hX hS hA (hH.recv hK f0 rfl)) rfl rfl hl.1 rfl (lv_room (Nat.le_of_ble_eq_true rfl)) dX9_countAnew_16 ⟨Nat.le_of_ble_eq_true rfl, Nat.le_of_ble_eq_true rfl⟩) hS (af_le hH hS hA) (fun v_42 φ_43 H locs hw_v_42 hH hS => ?_)
      obtain ⟨rfl, hm9⟩ := hw_v_42
      obtain ⟨f_44, f_45, f_46, f_47, f_48, f_49, f_50, f_51, f_52, f_53, f_54, f_55, f_56, f_57, f_58⟩ := hm9
      change φ_43 (q 0) = some (.inr (13, [.int (nI (sc 0)), .long (Int64.ofNat (sc 1)), .int (nI (sc 2)), .ref (q 1), .ref (q 2), .int (nI (sc 3)), .ref (q 3), .ref (q 4), .ref (q 5), .ref (q 6), .ref (q 7), .ref (q 8), .ref (q 9), .int (nI (sc 4)), .ref (q 10), .ref (q 11), .int (nI (sc 5)), .ref (q 12), .ref (q 13), .ref (q 14), .int (nI (sc 6)), .int (nI 1)])) at f_44
      refine hv_ti (y := nI 0) (rfl) ?_
      refine hv_if_eq (pc := 19) (tgt := 30) (a := 0) S.1 S.2.1 (by omega) dX9_countAnew_19 (by decide) (fun c_59 => ?_) (fun c_59 => ?_)
      · skip
        refine lv_iconst (pc := 30) (v := nI 0) S.1 S.2.1 dX9_countAnew_30 (by decide) ?_
        exact hv_ret (pc := 31) (v := nI 0) S hr rfl hlocks hH hS (by rw [if_neg (by rw [eX]; decide), eX]; exact ⟨rfl, ⟨f_44, f_45, f_46, f_47, f_48, f_49, f_50, f_51, f_52, f_53, f_54, f_55, f_56, f_57, f_58⟩⟩) (Nat.le_of_ble_eq_true rfl) (Nat.le_of_ble_eq_true rfl) dX9_countAnew_31
      · skip
        exact absurd c_59 (by omega)
    · skip
      exact absurd c_41 (by omega)
