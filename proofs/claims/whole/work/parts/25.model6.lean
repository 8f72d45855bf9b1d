/-- an array in which the first i places from b on have been set to f -/
def pfy (g : Nat → Nat) (b : Nat) (f : Nat → Nat) (i : Nat) : Nat → Nat := fun j => if b ≤ j ∧ j < b + i then f (j - b) else g j
theorem pfy_0 (g : Nat → Nat) (b : Nat) (f : Nat → Nat) : pfy g b f 0 = g := by
  funext j
  simp only [pfy, Nat.add_zero]
  rw [if_neg (by omega)]
theorem pfy_up (g : Nat → Nat) (b : Nat) (f : Nat → Nat) (i : Nat) : va_up (pfy g b f i) (b + i) (f i) = pfy g b f (i + 1) := by
  funext j
  by_cases h : j = b + i
  · subst h
    simp only [va_up, pfy, if_true]
    rw [if_pos (by omega), Nat.add_sub_cancel_left]
  · by_cases h2 : b ≤ j ∧ j < b + i
    · simp only [va_up, pfy, if_neg h, if_pos h2]
      rw [if_pos (by omega)]
    · simp only [va_up, pfy, if_neg h, if_neg h2]
      rw [if_neg (by omega)]
theorem pfy_at (g : Nat → Nat) (b : Nat) (f : Nat → Nat) (i : Nat) : pfy g b f i (b + i) = g (b + i) := by
  simp only [pfy]
  rw [if_neg (by omega)]
theorem pfy_in {g : Nat → Nat} {b : Nat} {f : Nat → Nat} {i j : Nat} (h : j < i) : pfy g b f i (b + j) = f j := by
  simp only [pfy]
  rw [if_pos (by omega), Nat.add_sub_cancel_left]
set_option maxHeartbeats 4000000 in
set_option maxRecDepth 100000 in
/-- fits -/
theorem c_m_fits (l : Launch) (D : va_G) (cA : Nat → ClassId) (ga : Nat → Nat → Nat) (φ : hpM) (sz : Nat) (q : Nat → Nat) (sc : Nat → Nat) (ar : Nat → Nat → Nat) (x : Int32) (hm : MP cA q sc ar φ) (hq : ∀ i j, i < 15 → j < 15 → q i = q j → i = j) (hnc : sc 3 ≤ 12) (hr2 : ∀ j, ar 14 j ≤ 200) (h4 : ∀ i, i < 6 * sc 3 → ar 4 i ≤ 1200) : hM l yX9_fits cX9_fits 2 (some .boolean) { frames := 10, cells := 0, slots := 0, locals := 320 } [.ref (q 0), .int (x)] D cA ga φ sz (fun v φ' => if inX (sc 3) x = 0 then (∃ x1 : Nat, x = nI x1 ∧ x1 < 2 ^ 31 ∧ v = some (.int (nI (fiR (ar 4 (6 * x1)) (smN (ar 14) 8 * 785 / 1000)))) ∧ MP cA q (va_up sc 7 (0)) ar φ') else (v = some (.int (nI 0)) ∧ MP cA q (va_up sc 7 (mcd 9 9 1 (inX (sc 3) x))) ar φ')) 0 0 := by
  refine hM.of (by decide) (Nat.le_of_ble_eq_true rfl) rfl ?_
  intro p e s m args below meth c ls H locs S hr hlocks hnm hsz hHz hH hK hX hS hA hl
  obtain ⟨f0, f1, f2, f3, f4, f5, f6, f7, f8, f9, f10, f11, f12, f13, f14⟩ := hm
  refine lv_aload_n (pc := 0) S.1 S.2.1 dX9_fits_0 rfl (lv_at hl 0 rfl) ?_
  refine lv_aload_n (pc := 1) S.1 S.2.1 dX9_fits_1 rfl (lv_at hl 0 rfl) ?_
  refine lv_iload_n (pc := 2) S.1 S.2.1 dX9_fits_2 rfl (lv_at hl 1 rfl) ?_
  by_cases hx : inN x (sc 3)
  · skip
    obtain ⟨x1, rfl, hxn⟩ := hx.nat (by omega)
    refine hv_call (pc := 3) (va_runV (As := [.int (nI x1)]) (rest := [.ref (q 0)]) S (c_m_isCone l D cA ga φ H.size q sc ar (nI x1) ⟨f0, f1, f2, f3, f4, f5, f6, f7, f8, f9, f10, f11, f12, f13, f14⟩ hq hnc) (cwV 1 S.2.2.2.2 (gV tw_1057 tw_1059 sw_35 tw_7 tw_1060) rfl rfl rfl (by decide +kernel) ⟨Nat.le_of_ble_eq_true rfl, Nat.le_of_ble_eq_true rfl⟩) (pre0_V hH hK hX hS hA (hH.recv hK f0 rfl)) rfl rfl hl.1 rfl (lv_room (Nat.le_of_ble_eq_true rfl)) dX9_fits_3 ⟨Nat.le_of_ble_eq_true rfl, Nat.le_of_ble_eq_true rfl⟩) hS (af_le hH hS hA) (fun v_1 φ_2 H locs hw_v_1 hH hS => ?_)
    obtain ⟨rfl, hqv_1⟩ := hw_v_1
    rw [hqv_1] at hH
    refine hv_ti (y := nI 1) (by rw [if_pos hx]) ?_
    refine hv_if_eq (pc := 6) (tgt := 13) (a := 1) S.1 S.2.1 (by omega) dX9_fits_6 (by decide) (fun c_3 => ?_) (fun c_3 => ?_)
    · skip
      exact absurd c_3 (by omega)
    · skip
      refine lv_iconst (pc := 9) (v := nI 0) S.1 S.2.1 dX9_fits_9 (by decide) ?_
      refine lv_goto (pc := 10) (tgt := 14) S.1 S.2.1 dX9_fits_10 (by decide) ?_
      have eX : inX (sc 3) (nI x1) = 0 := by rw [inX, if_pos hx]
      refine hv_call (pc := 14) (va_runV (As := [.int (nI 0)]) (rest := []) S (c_m_goes l D cA ga φ H.size q sc ar (0) ⟨f0, f1, f2, f3, f4, f5, f6, f7, f8, f9, f10, f11, f12, f13, f14⟩ hq (by omega)) (cwV 1 S.2.2.2.2 (gV tw_1021 tw_1023 sw_32 tw_7 tw_1024) rfl rfl rfl (by decide +kernel) ⟨Nat.le_of_ble_eq_true rfl, Nat.le_of_ble_eq_true rfl⟩) (pre0_V hH hK hX hS hA (hH.recv hK f0 rfl)) rfl rfl hl.1 rfl (lv_room (Nat.le_of_ble_eq_true rfl)) dX9_fits_14 ⟨Nat.le_of_ble_eq_true rfl, Nat.le_of_ble_eq_true rfl⟩) hS (af_le hH hS hA) (fun v_4 φ_5 H locs hw_v_4 hH hS => ?_)
      obtain ⟨rfl, hm9⟩ := hw_v_4
      obtain ⟨f_6, f_7, f_8, f_9, f_10, f_11, f_12, f_13, f_14, f_15, f_16, f_17, f_18, f_19, f_20⟩ := hm9
      change φ_5 (q 0) = some (.inr (13, [.int (nI (sc 0)), .long (Int64.ofNat (sc 1)), .int (nI (sc 2)), .ref (q 1), .ref (q 2), .int (nI (sc 3)), .ref (q 3), .ref (q 4), .ref (q 5), .ref (q 6), .ref (q 7), .ref (q 8), .ref (q 9), .int (nI (sc 4)), .ref (q 10), .ref (q 11), .int (nI (sc 5)), .ref (q 12), .ref (q 13), .ref (q 14), .int (nI (sc 6)), .int (nI 0)])) at f_6
      refine hv_ti (y := nI 1) (rfl) ?_
      refine hv_if_eq (pc := 17) (tgt := 47) (a := 1) S.1 S.2.1 (by omega) dX9_fits_17 (by decide) (fun c_21 => ?_) (fun c_21 => ?_)
      · skip
        exact absurd c_21 (by omega)
      · skip
        have h4x := h4 (6 * x1) (by omega)
        have hs8 := smN_le hr2 8
        refine lv_aload_n (pc := 20) S.1 S.2.1 dX9_fits_20 rfl (lv_at hl 0 rfl) ?_
        refine hv_get (pc := 21) (C := RX9) (T := TX9) (N := 22) (ref := RX9) S uwX9 hK hH f_6 rfl 7 (by decide) tw_952 (fun _ h9 => h9) rfl dX9_fits_21 ?_
        refine lv_bipush (pc := 24) (v := nI 6) S.1 S.2.1 dX9_fits_24 (by decide) ?_
        refine lv_iload_n (pc := 26) S.1 S.2.1 dX9_fits_26 rfl (lv_at hl 1 rfl) ?_
        refine lv_imul (pc := 27) S.1 S.2.1 dX9_fits_27 ?_
        refine hv_ti (y := nI (6 * x1)) (pk_mul _ _) ?_
        refine hv_iald (pc := 28) S hK hH 1 f_10 rfl (vp_in_nI (by omega) (by omega)) dX9_fits_28 ?_
        refine hv_ti (y := nI ((ar 4) (6 * x1))) (hv_ld (by omega)) ?_
        refine lv_aload_n (pc := 29) S.1 S.2.1 dX9_fits_29 rfl (lv_at hl 0 rfl) ?_
        refine hv_call (pc := 30) (va_runV (As := []) (rest := [.int (nI ((ar 4) (6 * x1)))]) S (c_m_around l D cA ga φ_5 H.size q (va_up sc 7 (0)) ar  ⟨f_6, f_7, f_8, f_9, f_10, f_11, f_12, f_13, f_14, f_15, f_16, f_17, f_18, f_19, f_20⟩ hq hr2) (cwV 0 S.2.2.2.2 (gV tw_1164 tw_1166 sw_43 tw_7 tw_1167) rfl rfl rfl (by decide +kernel) ⟨Nat.le_of_ble_eq_true rfl, Nat.le_of_ble_eq_true rfl⟩) (pre0_V hH hK hX hS hA (hH.recv hK f_6 rfl)) rfl rfl hl.1 rfl (lv_room (Nat.le_of_ble_eq_true rfl)) dX9_fits_30 ⟨Nat.le_of_ble_eq_true rfl, Nat.le_of_ble_eq_true rfl⟩) hS (af_le hH hS hA) (fun v_22 φ_23 H locs hw_v_22 hH hS => ?_)
        obtain ⟨rfl, hqv_22⟩ := hw_v_22
        rw [hqv_22] at hH
        refine lv_isub (pc := 33) S.1 S.2.1 dX9_fits_33 ?_
        by_cases hle : smN (ar 14) 8 * 785 / 1000 ≤ ar 4 (6 * x1)
        · skip
          refine hv_ti (y := nI (ar 4 (6 * x1) - smN (ar 14) 8 * 785 / 1000)) (pk_sub hle) ?_
          refine lv_iconst (pc := 34) (v := nI 0) S.1 S.2.1 dX9_fits_34 (by decide) ?_
          refine lv_bipush (pc := 35) (v := nI 12) S.1 S.2.1 dX9_fits_35 (by decide) ?_
          refine hv_call (pc := 37) (va_runS (As := [.int (nI (ar 4 (6 * x1) - smN (ar 14) 8 * 785 / 1000)), .int (nI 0), .int (nI 12)]) (rest := []) S (c_isIn l D cA ga φ_5 H.size (nI (ar 4 (6 * x1) - smN (ar 14) 8 * 785 / 1000)) (nI 0) (nI 12)) (va_cwS 3 S.2.2.2.2 (gS tw_1031 tw_1032 tw_7 tw_1033) rfl rfl rfl (by decide +kernel) ⟨Nat.le_of_ble_eq_true rfl, Nat.le_of_ble_eq_true rfl⟩) (pre0_S hH hK hX hS hA) rfl rfl hl.1 rfl (lv_room (Nat.le_of_ble_eq_true rfl)) dX9_fits_37 ⟨Nat.le_of_ble_eq_true rfl, Nat.le_of_ble_eq_true rfl⟩) hS (af_le hH hS hA) (fun v_24 φ_25 H locs hw_v_24 hH hS => ?_)
          obtain ⟨rfl, hqv_24⟩ := hw_v_24
          rw [hqv_24] at hH
          by_cases h12 : ar 4 (6 * x1) ≤ smN (ar 14) 8 * 785 / 1000 + 12
          · skip
            refine hv_ti (y := nI 1) (by rw [inB_R, if_pos ((inR_nI (by omega) (by omega) (by omega)).mpr ⟨by omega, by omega⟩)]) ?_
            refine hv_if_eq (pc := 40) (tgt := 47) (a := 1) S.1 S.2.1 (by omega) dX9_fits_40 (by decide) (fun c_26 => ?_) (fun c_26 => ?_)
            · skip
              exact absurd c_26 (by omega)
            · skip
              refine lv_iconst (pc := 43) (v := nI 1) S.1 S.2.1 dX9_fits_43 (by decide) ?_
              refine lv_goto (pc := 44) (tgt := 48) S.1 S.2.1 dX9_fits_44 (by decide) ?_
              exact hv_ret (pc := 48) (v := nI 1) S hr rfl hlocks hH hS (by rw [if_pos eX]; exact ⟨x1, rfl, by omega, by rw [fiR, if_pos ⟨hle, h12⟩], ⟨f_6, f_7, f_8, f_9, f_10, f_11, f_12, f_13, f_14, f_15, f_16, f_17, f_18, f_19, f_20⟩⟩) (Nat.le_of_ble_eq_true rfl) (Nat.le_of_ble_eq_true rfl) dX9_fits_48
          · skip
            refine hv_ti (y := nI 0) (by rw [inB_R, if_neg (fun h => h12 (by have := (inR_nI (by omega) (by omega) (by omega)).mp h; omega))]) ?_
            refine hv_if_eq (pc := 40) (tgt := 47) (a := 0) S.1 S.2.1 (by omega) dX9_fits_40 (by decide) (fun c_27 => ?_) (fun c_27 => ?_)
            · skip
              refine lv_iconst (pc := 47) (v := nI 0) S.1 S.2.1 dX9_fits_47 (by decide) ?_
              exact hv_ret (pc := 48) (v := nI 0) S hr rfl hlocks hH hS (by rw [if_pos eX]; exact ⟨x1, rfl, by omega, by rw [fiR, if_neg (fun h => h12 h.2)], ⟨f_6, f_7, f_8, f_9, f_10, f_11, f_12, f_13, f_14, f_15, f_16, f_17, f_18, f_19, f_20⟩⟩) (Nat.le_of_ble_eq_true rfl) (Nat.le_of_ble_eq_true rfl) dX9_fits_48
            · skip
              exact absurd c_27 (by omega)
        · skip
          have hneg : nI (ar 4 (6 * x1)) - nI (smN (ar 14) 8 * 785 / 1000) < 0 := pk_sneg (by omega) (by omega)
          refine lv_iconst (pc := 34) (v := nI 0) S.1 S.2.1 dX9_fits_34 (by decide) ?_
          refine lv_bipush (pc := 35) (v := nI 12) S.1 S.2.1 dX9_fits_35 (by decide) ?_
          refine hv_call (pc := 37) (va_runS (As := [.int (nI ((ar 4) (6 * x1)) - nI (smN (ar 14) 8 * 785 / 1000)), .int (nI 0), .int (nI 12)]) (rest := []) S (c_isIn l D cA ga φ_5 H.size (nI (ar 4 (6 * x1)) - nI (smN (ar 14) 8 * 785 / 1000)) (nI 0) (nI 12)) (va_cwS 3 S.2.2.2.2 (gS tw_1031 tw_1032 tw_7 tw_1033) rfl rfl rfl (by decide +kernel) ⟨Nat.le_of_ble_eq_true rfl, Nat.le_of_ble_eq_true rfl⟩) (pre0_S hH hK hX hS hA) rfl rfl hl.1 rfl (lv_room (Nat.le_of_ble_eq_true rfl)) dX9_fits_37 ⟨Nat.le_of_ble_eq_true rfl, Nat.le_of_ble_eq_true rfl⟩) hS (af_le hH hS hA) (fun v_28 φ_29 H locs hw_v_28 hH hS => ?_)
          obtain ⟨rfl, hqv_28⟩ := hw_v_28
          rw [hqv_28] at hH
          refine hv_ti (y := nI 0) (by rw [inB, if_neg (fun h => i32_lt_nle hneg h.1)]) ?_
          refine hv_if_eq (pc := 40) (tgt := 47) (a := 0) S.1 S.2.1 (by omega) dX9_fits_40 (by decide) (fun c_30 => ?_) (fun c_30 => ?_)
          · skip
            refine lv_iconst (pc := 47) (v := nI 0) S.1 S.2.1 dX9_fits_47 (by decide) ?_
            exact hv_ret (pc := 48) (v := nI 0) S hr rfl hlocks hH hS (by rw [if_pos eX]; exact ⟨x1, rfl, by omega, by rw [fiR, if_neg (fun h => hle h.1)], ⟨f_6, f_7, f_8, f_9, f_10, f_11, f_12, f_13, f_14, f_15, f_16, f_17, f_18, f_19, f_20⟩⟩) (Nat.le_of_ble_eq_true rfl) (Nat.le_of_ble_eq_true rfl) dX9_fits_48
          · skip
            exact absurd c_30 (by omega)
  · skip
    refine hv_call (pc := 3) (va_runV (As := [.int (x)]) (rest := [.ref (q 0)]) S (c_m_isCone l D cA ga φ H.size q sc ar x ⟨f0, f1, f2, f3, f4, f5, f6, f7, f8, f9, f10, f11, f12, f13, f14⟩ hq hnc) (cwV 1 S.2.2.2.2 (gV tw_1057 tw_1059 sw_35 tw_7 tw_1060) rfl rfl rfl (by decide +kernel) ⟨Nat.le_of_ble_eq_true rfl, Nat.le_of_ble_eq_true rfl⟩) (pre0_V hH hK hX hS hA (hH.recv hK f0 rfl)) rfl rfl hl.1 rfl (lv_room (Nat.le_of_ble_eq_true rfl)) dX9_fits_3 ⟨Nat.le_of_ble_eq_true rfl, Nat.le_of_ble_eq_true rfl⟩) hS (af_le hH hS hA) (fun v_31 φ_32 H locs hw_v_31 hH hS => ?_)
    obtain ⟨rfl, hqv_31⟩ := hw_v_31
    rw [hqv_31] at hH
    refine hv_ti (y := nI 0) (by rw [if_neg hx]) ?_
    refine hv_if_eq (pc := 6) (tgt := 13) (a := 0) S.1 S.2.1 (by omega) dX9_fits_6 (by decide) (fun c_33 => ?_) (fun c_33 => ?_)
    · skip
      refine lv_iconst (pc := 13) (v := nI 1) S.1 S.2.1 dX9_fits_13 (by decide) ?_
      have eX : inX (sc 3) x = 3 := by rw [inX, if_neg hx]
      refine hv_call (pc := 14) (va_runV (As := [.int (nI 1)]) (rest := []) S (c_m_goes l D cA ga φ H.size q sc ar (1) ⟨f0, f1, f2, f3, f4, f5, f6, f7, f8, f9, f10, f11, f12, f13, f14⟩ hq (by omega)) (cwV 1 S.2.2.2.2 (gV tw_1021 tw_1023 sw_32 tw_7 tw_1024) rfl rfl rfl (by decide +kernel) ⟨Nat.le_of_ble_eq_true rfl, Nat.le_of_ble_eq_true rfl⟩) (pre0_V hH hK hX hS hA (hH.recv hK f0 rfl)) rfl rfl hl.1 rfl (lv_room (Nat.le_of_ble_eq_true rfl)) dX9_fits_14 ⟨Nat.le_of_ble_eq_true rfl, Nat.le_of_ble_eq_true rfl⟩) hS (af_le hH hS hA) (fun v_34 φ_35 H locs hw_v_34 hH hS => ?_)
      obtain ⟨rfl, hm9⟩ := hw_v_34
      obtain ⟨f_36, f_37, f_38, f_39, f_40, f_41, f_42, f_43, f_44, f_45, f_46, f_47, f_48, f_49, f_50⟩ := hm9
      change φ_35 (q 0) = some (.inr (13, [.int (nI (sc 0)), .long (Int64.ofNat (sc 1)), .int (nI (sc 2)), .ref (q 1), .ref (q 2), .int (nI (sc 3)), .ref (q 3), .ref (q 4), .ref (q 5), .ref (q 6), .ref (q 7), .ref (q 8), .ref (q 9), .int (nI (sc 4)), .ref (q 10), .ref (q 11), .int (nI (sc 5)), .ref (q 12), .ref (q 13), .ref (q 14), .int (nI (sc 6)), .int (nI 1)])) at f_36
      refine hv_ti (y := nI 0) (rfl) ?_
      refine hv_if_eq (pc := 17) (tgt := 47) (a := 0) S.1 S.2.1 (by omega) dX9_fits_17 (by decide) (fun c_51 => ?_) (fun c_51 => ?_)
      · skip
        refine lv_iconst (pc := 47) (v := nI 0) S.1 S.2.1 dX9_fits_47 (by decide) ?_
        exact hv_ret (pc := 48) (v := nI 0) S hr rfl hlocks hH hS (by rw [if_neg (by rw [eX]; decide), eX]; exact ⟨rfl, ⟨f_36, f_37, f_38, f_39, f_40, f_41, f_42, f_43, f_44, f_45, f_46, f_47, f_48, f_49, f_50⟩⟩) (Nat.le_of_ble_eq_true rfl) (Nat.le_of_ble_eq_true rfl) dX9_fits_48
      · skip
        exact absurd c_51 (by omega)
    · skip
      exact absurd c_33 (by omega)

set_option maxHeartbeats 4000000 in
set_option maxRecDepth 100000 in
/-- cone -/
theorem c_m_cone (l : Launch) (D : va_G) (cA : Nat → ClassId) (ga : Nat → Nat → Nat) (φ : hpM) (sz : Nat) (q : Nat → Nat) (sc : Nat → Nat) (ar : Nat → Nat → Nat) (x z t : Int32) (hm : MP cA q sc ar φ) (hq : ∀ i j, i < 15 → j < 15 → q i = q j → i = j) (hnl : sc 2 ≤ 10) (hnc : sc 3 ≤ 12) (hg2 : ∀ i, ar 2 i ≤ 5000) : hM l yX9_cone cX9_cone 9 (some .int) { frames := 9, cells := 0, slots := 0, locals := 260 } [.ref (q 0), .int (x), .int (z), .int (t)] D cA ga φ sz (fun v φ' => if coneX (sc 2) (sc 3) (ar 2) x z t = 0 then (∃ x1 z1 t1 : Nat, x = nI x1 ∧ z = nI z1 ∧ t = nI t1 ∧ x1 < sc 2 ∧ z1 ≤ 500 ∧ 10 ≤ z1 ∧ t1 ≤ 5 ∧ z1 ≤ ar 2 x1 ∧ sc 3 < 12 ∧ v = some (.int (nI (sc 3))) ∧ MP cA q (va_up (va_up sc 3 (sc 3 + 1)) 7 (0)) (va_up (va_up (va_up (va_up (va_up ar 2 (va_up (ar 2) x1 (ar 2 x1 - z1))) 3 (va_up (ar 3) (sc 3) (ar 1 x1))) 4 (pfy (ar 4) (6 * sc 3) (fun b => 1200 - 150 * b) 6)) 5 (pfy (ar 5) (6 * sc 3) (fun _ => 60) 6)) 6 (va_up (pfy (ar 6) (6 * sc 3) (gB z1 t1) 6) (6 * sc 3) (gB z1 t1 0 + (z1 - smN (gB z1 t1) 6)))) φ') else (v = some (.int (nI 0)) ∧ MP cA q (va_up sc 7 (mcd 2 3 1 (coneX (sc 2) (sc 3) (ar 2) x z t))) ar φ')) 0 0 := by
  refine hM.of (by decide) (Nat.le_of_ble_eq_true rfl) rfl ?_
  intro p e s m args below meth c ls H locs S hr hlocks hnm hsz hHz hH hK hX hS hA hl
  obtain ⟨f0, f1, f2, f3, f4, f5, f6, f7, f8, f9, f10, f11, f12, f13, f14⟩ := hm
  refine lv_iload_n (pc := 0) S.1 S.2.1 dX9_cone_0 rfl (lv_at hl 1 rfl) ?_
  refine lv_iconst (pc := 1) (v := nI 0) S.1 S.2.1 dX9_cone_1 (by decide) ?_
  refine lv_aload_n (pc := 2) S.1 S.2.1 dX9_cone_2 rfl (lv_at hl 0 rfl) ?_
  refine hv_get (pc := 3) (C := RX9) (T := TX9) (N := 22) (ref := RX9) S uwX9 hK hH f0 rfl 2 (by decide) tw_947 (fun _ h9 => h9) rfl dX9_cone_3 ?_
  refine lv_iconst (pc := 6) (v := nI 1) S.1 S.2.1 dX9_cone_6 (by decide) ?_
  refine lv_isub (pc := 7) S.1 S.2.1 dX9_cone_7 ?_
  by_cases hx : inN x (sc 2)
  · skip
    obtain ⟨x1, rfl, hxn⟩ := hx.nat (by omega)
    refine hv_call (pc := 8) (va_runS (As := [.int (nI x1), .int (nI 0), .int (nI (sc 2) - nI 1)]) (rest := []) S (c_isIn l D cA ga φ H.size (nI x1) (nI 0) (nI (sc 2) - nI 1)) (va_cwS 3 S.2.2.2.2 (gS tw_1031 tw_1032 tw_7 tw_1033) rfl rfl rfl (by decide +kernel) ⟨Nat.le_of_ble_eq_true rfl, Nat.le_of_ble_eq_true rfl⟩) (pre0_S hH hK hX hS hA) rfl rfl hl.1 rfl (lv_room (Nat.le_of_ble_eq_true rfl)) dX9_cone_8 ⟨Nat.le_of_ble_eq_true rfl, Nat.le_of_ble_eq_true rfl⟩) hS (af_le hH hS hA) (fun v_1 φ_2 H locs hw_v_1 hH hS => ?_)
    obtain ⟨rfl, hqv_1⟩ := hw_v_1
    rw [hqv_1] at hH
    refine hv_ti (y := nI 1) (by rw [inB_N (by omega), if_pos hx]) ?_
    have hx31 : x1 < 2 ^ 31 := by omega
    have hg2x := hg2 x1
    refine lv_istore (pc := 11) (lv' := [(4, .int (nI 1)), (0, .ref (q 0)), (1, .int (nI x1)), (2, .int (z)), (3, .int (t))]) S.1 S.2.1 dX9_cone_11 hl (by decide) rfl (fun ls hl => ?_)
    refine lv_iload_n (pc := 13) S.1 S.2.1 dX9_cone_13 rfl (lv_at hl 3 rfl) ?_
    refine lv_bipush (pc := 14) (v := nI 10) S.1 S.2.1 dX9_cone_14 (by decide) ?_
    refine lv_sipush (pc := 16) (v := nI 500) S.1 S.2.1 dX9_cone_16 (by decide) ?_
    by_cases hz : inR z 10 500
    · skip
      refine hv_call (pc := 19) (va_runS (As := [.int (z), .int (nI 10), .int (nI 500)]) (rest := []) S (c_isIn l D cA ga φ H.size z (nI 10) (nI 500)) (va_cwS 3 S.2.2.2.2 (gS tw_1031 tw_1032 tw_7 tw_1033) rfl rfl rfl (by decide +kernel) ⟨Nat.le_of_ble_eq_true rfl, Nat.le_of_ble_eq_true rfl⟩) (pre0_S hH hK hX hS hA) rfl rfl hl.1 rfl (lv_room (Nat.le_of_ble_eq_true rfl)) dX9_cone_19 ⟨Nat.le_of_ble_eq_true rfl, Nat.le_of_ble_eq_true rfl⟩) hS (af_le hH hS hA) (fun v_3 φ_4 H locs hw_v_3 hH hS => ?_)
      obtain ⟨rfl, hqv_3⟩ := hw_v_3
      rw [hqv_3] at hH
      refine hv_ti (y := nI 1) (by rw [inB_R, if_pos hz]) ?_
      refine hv_if_eq (pc := 22) (tgt := 38) (a := 1) S.1 S.2.1 (by omega) dX9_cone_22 (by decide) (fun c_5 => ?_) (fun c_5 => ?_)
      · skip
        exact absurd c_5 (by omega)
      · skip
        refine lv_iload_n (pc := 25) S.1 S.2.1 dX9_cone_25 rfl (lv_at hl 4 rfl) ?_
        refine lv_iconst (pc := 26) (v := nI 0) S.1 S.2.1 dX9_cone_26 (by decide) ?_
        refine lv_iconst (pc := 27) (v := nI 5) S.1 S.2.1 dX9_cone_27 (by decide) ?_
        by_cases ht : inR t 0 5
        · skip
          refine hv_call (pc := 28) (va_runS (As := [.int (t), .int (nI 0), .int (nI 5)]) (rest := []) S (c_isIn l D cA ga φ H.size t (nI 0) (nI 5)) (va_cwS 3 S.2.2.2.2 (gS tw_1031 tw_1032 tw_7 tw_1033) rfl rfl rfl (by decide +kernel) ⟨Nat.le_of_ble_eq_true rfl, Nat.le_of_ble_eq_true rfl⟩) (pre0_S hH hK hX hS hA) rfl rfl hl.1 rfl (lv_room (Nat.le_of_ble_eq_true rfl)) dX9_cone_28 ⟨Nat.le_of_ble_eq_true rfl, Nat.le_of_ble_eq_true rfl⟩) hS (af_le hH hS hA) (fun v_6 φ_7 H locs hw_v_6 hH hS => ?_)
          obtain ⟨rfl, hqv_6⟩ := hw_v_6
          rw [hqv_6] at hH
          refine hv_ti (y := nI 1) (by rw [inB_R, if_pos ht]) ?_
          refine hv_if_eq (pc := 31) (tgt := 38) (a := 1) S.1 S.2.1 (by omega) dX9_cone_31 (by decide) (fun c_8 => ?_) (fun c_8 => ?_)
          · skip
            exact absurd c_8 (by omega)
          · skip
            refine lv_iconst (pc := 34) (v := nI 1) S.1 S.2.1 dX9_cone_34 (by decide) ?_
            refine lv_goto (pc := 35) (tgt := 39) S.1 S.2.1 dX9_cone_35 (by decide) ?_
            refine lv_istore (pc := 39) (lv' := [(5, .int (nI 1)), (4, .int (nI 1)), (0, .ref (q 0)), (1, .int (nI x1)), (2, .int (z)), (3, .int (t))]) S.1 S.2.1 dX9_cone_39 hl (by decide) rfl (fun ls hl => ?_)
            refine lv_aload_n (pc := 41) S.1 S.2.1 dX9_cone_41 rfl (lv_at hl 2 rfl) ?_
            refine lv_iload (pc := 42) S.1 S.2.1 dX9_cone_42 (lv_at hl 1 rfl) ?_
            refine hv_if_ne (pc := 44) (tgt := 51) (a := 1) S.1 S.2.1 (by omega) dX9_cone_44 (by decide) (fun c_9 => ?_) (fun c_9 => ?_)
            · skip
              refine lv_iload (pc := 51) S.1 S.2.1 dX9_cone_51 (lv_at hl 0 rfl) ?_
              refine hv_if_ne (pc := 53) (tgt := 60) (a := 1) S.1 S.2.1 (by omega) dX9_cone_53 (by decide) (fun c_10 => ?_) (fun c_10 => ?_)
              · skip
                obtain ⟨z1, rfl, hzlo, hzhi⟩ := hz.nat (by omega) (by omega)
                obtain ⟨t1, rfl, htlo, hthi⟩ := ht.nat (by omega) (by omega)
                have hz31 : z1 < 2 ^ 31 := by omega
                refine lv_aload_n (pc := 60) S.1 S.2.1 dX9_cone_60 rfl (lv_at hl 2 rfl) ?_
                refine hv_get (pc := 61) (C := RX9) (T := TX9) (N := 22) (ref := RX9) S uwX9 hK hH f0 rfl 5 (by decide) tw_950 (fun _ h9 => h9) rfl dX9_cone_61 ?_
                refine lv_bipush (pc := 64) (v := nI 12) S.1 S.2.1 dX9_cone_64 (by decide) ?_
                by_cases h12 : sc 3 = 12
                · skip
                  refine hv_icmp_eq (pc := 66) (tgt := 79) (a := sc 3) (b := 12) S.1 S.2.1 (by omega) (by omega) dX9_cone_66 (by decide) (fun c_11 => ?_) (fun c_11 => ?_)
                  · skip
                    refine lv_iconst (pc := 79) (v := nI 3) S.1 S.2.1 dX9_cone_79 (by decide) ?_
                    refine lv_goto (pc := 80) (tgt := 84) S.1 S.2.1 dX9_cone_80 (by decide) ?_
                    have eX : coneX (sc 2) (sc 3) (ar 2) (nI x1) (nI z1) (nI t1) = 2 := by rw [coneX, if_pos hx, if_pos hz, if_pos ht, if_neg (by omega)]
                    refine hv_call (pc := 84) (va_runV (As := [.int (nI 3)]) (rest := []) S (c_m_goes l D cA ga φ H.size q sc ar (3) ⟨f0, f1, f2, f3, f4, f5, f6, f7, f8, f9, f10, f11, f12, f13, f14⟩ hq (by omega)) (cwV 1 S.2.2.2.2 (gV tw_1021 tw_1023 sw_32 tw_7 tw_1024) rfl rfl rfl (by decide +kernel) ⟨Nat.le_of_ble_eq_true rfl, Nat.le_of_ble_eq_true rfl⟩) (pre0_V hH hK hX hS hA (hH.recv hK f0 rfl)) rfl rfl hl.1 rfl (lv_room (Nat.le_of_ble_eq_true rfl)) dX9_cone_84 ⟨Nat.le_of_ble_eq_true rfl, Nat.le_of_ble_eq_true rfl⟩) hS (af_le hH hS hA) (fun v_12 φ_13 H locs hw_v_12 hH hS => ?_)
                    obtain ⟨rfl, hm9⟩ := hw_v_12
                    obtain ⟨f_14, f_15, f_16, f_17, f_18, f_19, f_20, f_21, f_22, f_23, f_24, f_25, f_26, f_27, f_28⟩ := hm9
                    change φ_13 (q 0) = some (.inr (13, [.int (nI (sc 0)), .long (Int64.ofNat (sc 1)), .int (nI (sc 2)), .ref (q 1), .ref (q 2), .int (nI (sc 3)), .ref (q 3), .ref (q 4), .ref (q 5), .ref (q 6), .ref (q 7), .ref (q 8), .ref (q 9), .int (nI (sc 4)), .ref (q 10), .ref (q 11), .int (nI (sc 5)), .ref (q 12), .ref (q 13), .ref (q 14), .int (nI (sc 6)), .int (nI 3)])) at f_14
                    refine hv_ti (y := nI 0) (rfl) ?_
                    refine hv_if_ne (pc := 87) (tgt := 92) (a := 0) S.1 S.2.1 (by omega) dX9_cone_87 (by decide) (fun c_29 => ?_) (fun c_29 => ?_)
                    · skip
                      exact absurd c_29 (by omega)
                    · skip
                      refine lv_iconst (pc := 90) (v := nI 0) S.1 S.2.1 dX9_cone_90 (by decide) ?_
                      exact hv_ret (pc := 91) (v := nI 0) S hr rfl hlocks hH hS (by rw [if_neg (by rw [eX]; decide), eX]; exact ⟨rfl, ⟨f_14, f_15, f_16, f_17, f_18, f_19, f_20, f_21, f_22, f_23, f_24, f_25, f_26, f_27, f_28⟩⟩) (Nat.le_of_ble_eq_true rfl) (Nat.le_of_ble_eq_true rfl) dX9_cone_91
                  · skip
                    exact absurd c_11 (by omega)
                · skip
                  refine hv_icmp_eq (pc := 66) (tgt := 79) (a := sc 3) (b := 12) S.1 S.2.1 (by omega) (by omega) dX9_cone_66 (by decide) (fun c_30 => ?_) (fun c_30 => ?_)
                  · skip
                    exact absurd c_30 (by omega)
                  · skip
                    refine lv_aload_n (pc := 69) S.1 S.2.1 dX9_cone_69 rfl (lv_at hl 2 rfl) ?_
                    refine hv_get (pc := 70) (C := RX9) (T := TX9) (N := 22) (ref := RX9) S uwX9 hK hH f0 rfl 4 (by decide) tw_949 (fun _ h9 => h9) rfl dX9_cone_70 ?_
                    refine lv_iload_n (pc := 73) S.1 S.2.1 dX9_cone_73 rfl (lv_at hl 3 rfl) ?_
                    refine hv_iald (pc := 74) S hK hH 1 f2 rfl (vp_in_nI (by omega) (by omega)) dX9_cone_74 ?_
                    refine hv_ti (y := nI ((ar 2) x1)) (hv_ld (by omega)) ?_
                    refine lv_iload_n (pc := 75) S.1 S.2.1 dX9_cone_75 rfl (lv_at hl 4 rfl) ?_
                    by_cases hzg : z1 ≤ ar 2 x1
                    · skip
                      refine hv_icmp_ge (pc := 76) (tgt := 83) (a := (ar 2) x1) (b := z1) S.1 S.2.1 (by omega) (by omega) dX9_cone_76 (by decide) (fun c_31 => ?_) (fun c_31 => ?_)
                      · skip
                        refine lv_iconst (pc := 83) (v := nI 0) S.1 S.2.1 dX9_cone_83 (by decide) ?_
                        have eX : coneX (sc 2) (sc 3) (ar 2) (nI x1) (nI z1) (nI t1) = 0 := by rw [coneX, if_pos hx, if_pos hz, if_pos ht, if_pos (by omega), nx_nI hz31, nx_nI hx31, if_pos hzg]
                        refine hv_call (pc := 84) (va_runV (As := [.int (nI 0)]) (rest := []) S (c_m_goes l D cA ga φ H.size q sc ar (0) ⟨f0, f1, f2, f3, f4, f5, f6, f7, f8, f9, f10, f11, f12, f13, f14⟩ hq (by omega)) (cwV 1 S.2.2.2.2 (gV tw_1021 tw_1023 sw_32 tw_7 tw_1024) rfl rfl rfl (by decide +kernel) ⟨Nat.le_of_ble_eq_true rfl, Nat.le_of_ble_eq_true rfl⟩) (pre0_V hH hK hX hS hA (hH.recv hK f0 rfl)) rfl rfl hl.1 rfl (lv_room (Nat.le_of_ble_eq_true rfl)) dX9_cone_84 ⟨Nat.le_of_ble_eq_true rfl, Nat.le_of_ble_eq_true rfl⟩) hS (af_le hH hS hA) (fun v_32 φ_33 H locs hw_v_32 hH hS => ?_)
                        obtain ⟨rfl, hm9⟩ := hw_v_32
                        obtain ⟨f_34, f_35, f_36, f_37, f_38, f_39, f_40, f_41, f_42, f_43, f_44, f_45, f_46, f_47, f_48⟩ := hm9
                        change φ_33 (q 0) = some (.inr (13, [.int (nI (sc 0)), .long (Int64.ofNat (sc 1)), .int (nI (sc 2)), .ref (q 1), .ref (q 2), .int (nI (sc 3)), .ref (q 3), .ref (q 4), .ref (q 5), .ref (q 6), .ref (q 7), .ref (q 8), .ref (q 9), .int (nI (sc 4)), .ref (q 10), .ref (q 11), .int (nI (sc 5)), .ref (q 12), .ref (q 13), .ref (q 14), .int (nI (sc 6)), .int (nI 0)])) at f_34
                        refine hv_ti (y := nI 1) (rfl) ?_
                        refine hv_if_ne (pc := 87) (tgt := 92) (a := 1) S.1 S.2.1 (by omega) dX9_cone_87 (by decide) (fun c_49 => ?_) (fun c_49 => ?_)
                        · skip
                          refine lv_iload_n (pc := 92) S.1 S.2.1 dX9_cone_92 rfl (lv_at hl 4 rfl) ?_
                          refine lv_istore (pc := 93) (lv' := [(6, .int (nI z1)), (5, .int (nI 1)), (4, .int (nI 1)), (0, .ref (q 0)), (1, .int (nI x1)), (2, .int (nI z1)), (3, .int (nI t1))]) S.1 S.2.1 dX9_cone_93 hl (by decide) rfl (fun ls hl => ?_)
                          refine lv_iconst (pc := 95) (v := nI 0) S.1 S.2.1 dX9_cone_95 (by decide) ?_
                          refine lv_istore (pc := 96) (lv' := [(7, .int (nI 0)), (6, .int (nI z1)), (5, .int (nI 1)), (4, .int (nI 1)), (0, .ref (q 0)), (1, .int (nI x1)), (2, .int (nI z1)), (3, .int (nI t1))]) S.1 S.2.1 dX9_cone_96 hl (by decide) rfl (fun ls hl => ?_)
                          have hp6 := pS6 t1
                          have hs6 := gB_le z1 t1 (i := 6) (Nat.le_refl _)
                          have hg : ∃ (n i : Nat) (φk_50 : hpM), ((i + n = 6) ∧ φk_50 = ups (ups (ups φ_33 (q 4) (.inl (cA 1, 72, .inl (fun j => nI ((pfy (ar 4) (6 * sc 3) (fun b => 1200 - 150 * b) i) j))))) (q 5) (.inl (cA 1, 72, .inl (fun j => nI ((pfy (ar 5) (6 * sc 3) (fun _ => 60) i) j))))) (q 6) (.inl (cA 1, 72, .inl (fun j => nI ((pfy (ar 6) (6 * sc 3) (gB z1 t1) i) j)))) ∧ hp D (Af φ sz) φk_50 H) ∧ lv_has ls 9 [(0, .ref (q 0)), (1, .int (nI x1)), (2, .int (nI z1)), (3, .int (nI t1)), (6, .int (nI (z1 - smN (gB z1 t1) i))), (7, .int (nI i))] := ⟨6, 0, φ_33, ⟨rfl, by rw [pfy_0, pfy_0, pfy_0, ← ups_id f_38, ← ups_id f_39]; exact ups_id f_40, hH⟩, lv_sub hl [4, 5, 6, 7, 1, 0] rfl⟩
                          clear hl hH
                          try clear hHz
                          obtain ⟨n, i, φk_50, hi, hl⟩ := hg
                          induction n generalizing ls H locs i φk_50 with
                          | succ n ih =>
                            obtain ⟨hi, hφk_50, hH⟩ := hi
                            have f_51 : φk_50 (q 0) = some (.inr (13, [.int (nI (sc 0)), .long (Int64.ofNat (sc 1)), .int (nI (sc 2)), .ref (q 1), .ref (q 2), .int (nI (sc 3)), .ref (q 3), .ref (q 4), .ref (q 5), .ref (q 6), .ref (q 7), .ref (q 8), .ref (q 9), .int (nI (sc 4)), .ref (q 10), .ref (q 11), .int (nI (sc 5)), .ref (q 12), .ref (q 13), .ref (q 14), .int (nI (sc 6)), .int (nI 0)])) := by rw [hφk_50]; exact ups_n (fun h => absurd (hq 0 6 (by omega) (by omega) h) (by omega)) (ups_n (fun h => absurd (hq 0 5 (by omega) (by omega) h) (by omega)) (ups_n (fun h => absurd (hq 0 4 (by omega) (by omega) h) (by omega)) (f_34)))
                            have f_52 : φk_50 (q 1) = some (.inl (cA 1, 10, .inl (fun j => nI ((ar 1) j)))) := by rw [hφk_50]; exact ups_n (fun h => absurd (hq 1 6 (by omega) (by omega) h) (by omega)) (ups_n (fun h => absurd (hq 1 5 (by omega) (by omega) h) (by omega)) (ups_n (fun h => absurd (hq 1 4 (by omega) (by omega) h) (by omega)) (f_35)))
                            have f_53 : φk_50 (q 2) = some (.inl (cA 1, 10, .inl (fun j => nI ((ar 2) j)))) := by rw [hφk_50]; exact ups_n (fun h => absurd (hq 2 6 (by omega) (by omega) h) (by omega)) (ups_n (fun h => absurd (hq 2 5 (by omega) (by omega) h) (by omega)) (ups_n (fun h => absurd (hq 2 4 (by omega) (by omega) h) (by omega)) (f_36)))
                            have f_54 : φk_50 (q 3) = some (.inl (cA 1, 12, .inl (fun j => nI ((ar 3) j)))) := by rw [hφk_50]; exact ups_n (fun h => absurd (hq 3 6 (by omega) (by omega) h) (by omega)) (ups_n (fun h => absurd (hq 3 5 (by omega) (by omega) h) (by omega)) (ups_n (fun h => absurd (hq 3 4 (by omega) (by omega) h) (by omega)) (f_37)))
                            have f_55 : φk_50 (q 4) = some (.inl (cA 1, 72, .inl (fun j => nI ((pfy (ar 4) (6 * sc 3) (fun b => 1200 - 150 * b) i) j)))) := by rw [hφk_50]; exact ups_n (fun h => absurd (hq 4 6 (by omega) (by omega) h) (by omega)) (ups_n (fun h => absurd (hq 4 5 (by omega) (by omega) h) (by omega)) (ups_s _ _ _))
                            have f_56 : φk_50 (q 5) = some (.inl (cA 1, 72, .inl (fun j => nI ((pfy (ar 5) (6 * sc 3) (fun _ => 60) i) j)))) := by rw [hφk_50]; exact ups_n (fun h => absurd (hq 5 6 (by omega) (by omega) h) (by omega)) (ups_s _ _ _)
                            have f_57 : φk_50 (q 6) = some (.inl (cA 1, 72, .inl (fun j => nI ((pfy (ar 6) (6 * sc 3) (gB z1 t1) i) j)))) := by rw [hφk_50]; exact ups_s _ _ _
                            have f_58 : φk_50 (q 7) = some (.inl (cA 1, 12, .inl (fun j => nI ((ar 7) j)))) := by rw [hφk_50]; exact ups_n (fun h => absurd (hq 7 6 (by omega) (by omega) h) (by omega)) (ups_n (fun h => absurd (hq 7 5 (by omega) (by omega) h) (by omega)) (ups_n (fun h => absurd (hq 7 4 (by omega) (by omega) h) (by omega)) (f_41)))
                            have f_59 : φk_50 (q 8) = some (.inl (cA 2, 12, .inl (fun j => nI ((ar 8) j)))) := by rw [hφk_50]; exact ups_n (fun h => absurd (hq 8 6 (by omega) (by omega) h) (by omega)) (ups_n (fun h => absurd (hq 8 5 (by omega) (by omega) h) (by omega)) (ups_n (fun h => absurd (hq 8 4 (by omega) (by omega) h) (by omega)) (f_42)))
                            have f_60 : φk_50 (q 9) = some (.inl (cA 2, 12, .inl (fun j => nI ((ar 9) j)))) := by rw [hφk_50]; exact ups_n (fun h => absurd (hq 9 6 (by omega) (by omega) h) (by omega)) (ups_n (fun h => absurd (hq 9 5 (by omega) (by omega) h) (by omega)) (ups_n (fun h => absurd (hq 9 4 (by omega) (by omega) h) (by omega)) (f_43)))
                            have f_61 : φk_50 (q 10) = some (.inl (cA 1, 8, .inl (fun j => nI ((ar 10) j)))) := by rw [hφk_50]; exact ups_n (fun h => absurd (hq 10 6 (by omega) (by omega) h) (by omega)) (ups_n (fun h => absurd (hq 10 5 (by omega) (by omega) h) (by omega)) (ups_n (fun h => absurd (hq 10 4 (by omega) (by omega) h) (by omega)) (f_44)))
                            have f_62 : φk_50 (q 11) = some (.inl (cA 1, 8, .inl (fun j => nI ((ar 11) j)))) := by rw [hφk_50]; exact ups_n (fun h => absurd (hq 11 6 (by omega) (by omega) h) (by omega)) (ups_n (fun h => absurd (hq 11 5 (by omega) (by omega) h) (by omega)) (ups_n (fun h => absurd (hq 11 4 (by omega) (by omega) h) (by omega)) (f_45)))
                            have f_63 : φk_50 (q 12) = some (.inl (cA 1, 6, .inl (fun j => nI ((ar 12) j)))) := by rw [hφk_50]; exact ups_n (fun h => absurd (hq 12 6 (by omega) (by omega) h) (by omega)) (ups_n (fun h => absurd (hq 12 5 (by omega) (by omega) h) (by omega)) (ups_n (fun h => absurd (hq 12 4 (by omega) (by omega) h) (by omega)) (f_46)))
                            have f_64 : φk_50 (q 13) = some (.inl (cA 1, 6, .inl (fun j => nI ((ar 13) j)))) := by rw [hφk_50]; exact ups_n (fun h => absurd (hq 13 6 (by omega) (by omega) h) (by omega)) (ups_n (fun h => absurd (hq 13 5 (by omega) (by omega) h) (by omega)) (ups_n (fun h => absurd (hq 13 4 (by omega) (by omega) h) (by omega)) (f_47)))
                            have f_65 : φk_50 (q 14) = some (.inl (cA 1, 8, .inl (fun j => nI ((ar 14) j)))) := by rw [hφk_50]; exact ups_n (fun h => absurd (hq 14 6 (by omega) (by omega) h) (by omega)) (ups_n (fun h => absurd (hq 14 5 (by omega) (by omega) h) (by omega)) (ups_n (fun h => absurd (hq 14 4 (by omega) (by omega) h) (by omega)) (f_48)))
                            refine lv_iload (pc := 98) S.1 S.2.1 dX9_cone_98 (lv_at hl 5 rfl) ?_
                            refine lv_bipush (pc := 100) (v := nI 6) S.1 S.2.1 dX9_cone_100 (by decide) ?_
                            refine hv_icmp_ge (pc := 102) (tgt := 185) (a := i) (b := 6) S.1 S.2.1 (by omega) (by omega) dX9_cone_102 (by decide) (fun c_66 => ?_) (fun c_66 => ?_)
                            · skip
                              exact absurd c_66 (by omega)
                            · skip
                              have hp1 : pF t1 i ≤ 10 + 5 * 6 := Nat.add_le_add_left (Nat.mul_le_mul hthi (by omega)) 10
                              have hgp : z1 * pF t1 i ≤ 500 * 40 := Nat.mul_le_mul hzhi (by omega)
                              have hsi := gB_le z1 t1 (i := i + 1) (by omega)
                              have hs2 : smN (gB z1 t1) (i + 1) = smN (gB z1 t1) i + gB z1 t1 i := rfl
                              refine lv_bipush (pc := 105) (v := nI 6) S.1 S.2.1 dX9_cone_105 (by decide) ?_
                              refine lv_aload_n (pc := 107) S.1 S.2.1 dX9_cone_107 rfl (lv_at hl 0 rfl) ?_
                              refine hv_get (pc := 108) (C := RX9) (T := TX9) (N := 22) (ref := RX9) S uwX9 hK hH f_51 rfl 5 (by decide) tw_950 (fun _ h9 => h9) rfl dX9_cone_108 ?_
                              refine lv_imul (pc := 111) S.1 S.2.1 dX9_cone_111 ?_
                              refine hv_ti (y := nI (6 * (sc 3))) (pk_mul _ _) ?_
                              refine lv_iload (pc := 112) S.1 S.2.1 dX9_cone_112 (lv_at hl 5 rfl) ?_
                              refine lv_iadd (pc := 114) S.1 S.2.1 dX9_cone_114 ?_
                              refine hv_ti (y := nI ((6 * (sc 3)) + i)) (nI_add _ _) ?_
                              refine lv_istore (pc := 115) (lv' := [(8, .int (nI ((6 * (sc 3)) + i))), (0, .ref (q 0)), (1, .int (nI x1)), (2, .int (nI z1)), (3, .int (nI t1)), (6, .int (nI (z1 - smN (gB z1 t1) i))), (7, .int (nI i))]) S.1 S.2.1 dX9_cone_115 hl (by decide) rfl (fun ls hl => ?_)
                              refine lv_aload_n (pc := 117) S.1 S.2.1 dX9_cone_117 rfl (lv_at hl 1 rfl) ?_
                              refine hv_get (pc := 118) (C := RX9) (T := TX9) (N := 22) (ref := RX9) S uwX9 hK hH f_51 rfl 7 (by decide) tw_952 (fun _ h9 => h9) rfl dX9_cone_118 ?_
                              refine lv_iload (pc := 121) S.1 S.2.1 dX9_cone_121 (lv_at hl 0 rfl) ?_
                              refine lv_sipush (pc := 123) (v := nI 1200) S.1 S.2.1 dX9_cone_123 (by decide) ?_
                              refine lv_sipush (pc := 126) (v := nI 150) S.1 S.2.1 dX9_cone_126 (by decide) ?_
                              refine lv_iload (pc := 129) S.1 S.2.1 dX9_cone_129 (lv_at hl 6 rfl) ?_
                              refine lv_imul (pc := 131) S.1 S.2.1 dX9_cone_131 ?_
                              refine hv_ti (y := nI (150 * i)) (pk_mul _ _) ?_
                              refine lv_isub (pc := 132) S.1 S.2.1 dX9_cone_132 ?_
                              refine hv_ti (y := nI (1200 - (150 * i))) (pk_sub (by omega)) ?_
                              refine hv_iast (pc := 133) S hK hH hS 1 f_55 rfl (vp_in_nI (by omega) (by omega)) dX9_cone_133 (fun H locs hH hS => ?_)
                              rw [hv_upd (by omega), show va_up (pfy (ar 4) (6 * sc 3) (fun b => 1200 - 150 * b) i) (6 * sc 3 + i) (1200 - 150 * i) = pfy (ar 4) (6 * sc 3) (fun b => 1200 - 150 * b) (i + 1) from pfy_up (ar 4) (6 * sc 3) (fun b => 1200 - 150 * b) i] at hH
                              replace hH := nup (e := .inl (cA 1, 72, .inl (fun j => nI ((pfy (ar 4) (6 * sc 3) (fun b => 1200 - 150 * b) (i + 1)) j)))) hH
                              obtain ⟨φ_67, hφ_67, fa_φ_67, fr_φ_67, hH⟩ := hH
                              have f_68 := fr_φ_67 _ _ (fun h => absurd (hq 0 4 (by omega) (by omega) h) (by omega)) f_51
                              have f_69 := fr_φ_67 _ _ (fun h => absurd (hq 1 4 (by omega) (by omega) h) (by omega)) f_52
                              have f_70 := fr_φ_67 _ _ (fun h => absurd (hq 2 4 (by omega) (by omega) h) (by omega)) f_53
                              have f_71 := fr_φ_67 _ _ (fun h => absurd (hq 3 4 (by omega) (by omega) h) (by omega)) f_54
                              have f_72 := fr_φ_67 _ _ (fun h => absurd (hq 5 4 (by omega) (by omega) h) (by omega)) f_56
                              have f_73 := fr_φ_67 _ _ (fun h => absurd (hq 6 4 (by omega) (by omega) h) (by omega)) f_57
                              have f_74 := fr_φ_67 _ _ (fun h => absurd (hq 7 4 (by omega) (by omega) h) (by omega)) f_58
                              have f_75 := fr_φ_67 _ _ (fun h => absurd (hq 8 4 (by omega) (by omega) h) (by omega)) f_59
                              have f_76 := fr_φ_67 _ _ (fun h => absurd (hq 9 4 (by omega) (by omega) h) (by omega)) f_60
                              have f_77 := fr_φ_67 _ _ (fun h => absurd (hq 10 4 (by omega) (by omega) h) (by omega)) f_61
                              have f_78 := fr_φ_67 _ _ (fun h => absurd (hq 11 4 (by omega) (by omega) h) (by omega)) f_62
                              have f_79 := fr_φ_67 _ _ (fun h => absurd (hq 12 4 (by omega) (by omega) h) (by omega)) f_63
                              have f_80 := fr_φ_67 _ _ (fun h => absurd (hq 13 4 (by omega) (by omega) h) (by omega)) f_64
                              have f_81 := fr_φ_67 _ _ (fun h => absurd (hq 14 4 (by omega) (by omega) h) (by omega)) f_65
                              refine lv_aload_n (pc := 134) S.1 S.2.1 dX9_cone_134 rfl (lv_at hl 1 rfl) ?_
                              refine hv_get (pc := 135) (C := RX9) (T := TX9) (N := 22) (ref := RX9) S uwX9 hK hH f_68 rfl 8 (by decide) tw_953 (fun _ h9 => h9) rfl dX9_cone_135 ?_
                              refine lv_iload (pc := 138) S.1 S.2.1 dX9_cone_138 (lv_at hl 0 rfl) ?_
                              refine lv_bipush (pc := 140) (v := nI 60) S.1 S.2.1 dX9_cone_140 (by decide) ?_
                              refine hv_iast (pc := 142) S hK hH hS 1 f_72 rfl (vp_in_nI (by omega) (by omega)) dX9_cone_142 (fun H locs hH hS => ?_)
                              rw [hv_upd (by omega), show va_up (pfy (ar 5) (6 * sc 3) (fun _ => 60) i) (6 * sc 3 + i) (60) = pfy (ar 5) (6 * sc 3) (fun _ => 60) (i + 1) from pfy_up (ar 5) (6 * sc 3) (fun _ => 60) i] at hH
                              replace hH := nup (e := .inl (cA 1, 72, .inl (fun j => nI ((pfy (ar 5) (6 * sc 3) (fun _ => 60) (i + 1)) j)))) hH
                              obtain ⟨φ_82, hφ_82, fa_φ_82, fr_φ_82, hH⟩ := hH
                              have f_83 := fr_φ_82 _ _ (fun h => absurd (hq 0 5 (by omega) (by omega) h) (by omega)) f_68
                              have f_84 := fr_φ_82 _ _ (fun h => absurd (hq 1 5 (by omega) (by omega) h) (by omega)) f_69
                              have f_85 := fr_φ_82 _ _ (fun h => absurd (hq 2 5 (by omega) (by omega) h) (by omega)) f_70
                              have f_86 := fr_φ_82 _ _ (fun h => absurd (hq 3 5 (by omega) (by omega) h) (by omega)) f_71
                              have f_87 := fr_φ_82 _ _ (fun h => absurd (hq 6 5 (by omega) (by omega) h) (by omega)) f_73
                              have f_88 := fr_φ_82 _ _ (fun h => absurd (hq 7 5 (by omega) (by omega) h) (by omega)) f_74
                              have f_89 := fr_φ_82 _ _ (fun h => absurd (hq 8 5 (by omega) (by omega) h) (by omega)) f_75
                              have f_90 := fr_φ_82 _ _ (fun h => absurd (hq 9 5 (by omega) (by omega) h) (by omega)) f_76
                              have f_91 := fr_φ_82 _ _ (fun h => absurd (hq 10 5 (by omega) (by omega) h) (by omega)) f_77
                              have f_92 := fr_φ_82 _ _ (fun h => absurd (hq 11 5 (by omega) (by omega) h) (by omega)) f_78
                              have f_93 := fr_φ_82 _ _ (fun h => absurd (hq 12 5 (by omega) (by omega) h) (by omega)) f_79
                              have f_94 := fr_φ_82 _ _ (fun h => absurd (hq 13 5 (by omega) (by omega) h) (by omega)) f_80
                              have f_95 := fr_φ_82 _ _ (fun h => absurd (hq 14 5 (by omega) (by omega) h) (by omega)) f_81
                              have f_96 := fr_φ_82 _ _ (fun h => absurd (hq 4 5 (by omega) (by omega) h) (by omega)) fa_φ_67
                              refine lv_aload_n (pc := 143) S.1 S.2.1 dX9_cone_143 rfl (lv_at hl 1 rfl) ?_
                              refine hv_get (pc := 144) (C := RX9) (T := TX9) (N := 22) (ref := RX9) S uwX9 hK hH f_83 rfl 9 (by decide) tw_954 (fun _ h9 => h9) rfl dX9_cone_144 ?_
                              refine lv_iload (pc := 147) S.1 S.2.1 dX9_cone_147 (lv_at hl 0 rfl) ?_
                              refine lv_iload_n (pc := 149) S.1 S.2.1 dX9_cone_149 rfl (lv_at hl 3 rfl) ?_
                              refine lv_bipush (pc := 150) (v := nI 10) S.1 S.2.1 dX9_cone_150 (by decide) ?_
                              refine lv_iload_n (pc := 152) S.1 S.2.1 dX9_cone_152 rfl (lv_at hl 4 rfl) ?_
                              refine lv_iload (pc := 153) S.1 S.2.1 dX9_cone_153 (lv_at hl 6 rfl) ?_
                              refine lv_imul (pc := 155) S.1 S.2.1 dX9_cone_155 ?_
                              refine hv_ti (y := nI (t1 * i)) (pk_mul _ _) ?_
                              refine lv_iadd (pc := 156) S.1 S.2.1 dX9_cone_156 ?_
                              refine hv_ti (y := nI (10 + (t1 * i))) (nI_add _ _) ?_
                              refine lv_imul (pc := 157) S.1 S.2.1 dX9_cone_157 ?_
                              refine hv_ti (y := nI (z1 * (10 + (t1 * i)))) (pk_mul _ _) ?_
                              refine lv_bipush (pc := 158) (v := nI 60) S.1 S.2.1 dX9_cone_158 (by decide) ?_
                              refine lv_bipush (pc := 160) (v := nI 15) S.1 S.2.1 dX9_cone_160 (by decide) ?_
                              refine lv_iload_n (pc := 162) S.1 S.2.1 dX9_cone_162 rfl (lv_at hl 4 rfl) ?_
                              refine lv_imul (pc := 163) S.1 S.2.1 dX9_cone_163 ?_
                              refine hv_ti (y := nI (15 * t1)) (pk_mul _ _) ?_
                              refine lv_iadd (pc := 164) S.1 S.2.1 dX9_cone_164 ?_
                              refine hv_ti (y := nI (60 + (15 * t1))) (nI_add _ _) ?_
                              have hne : ¬ nI (60 + 15 * t1) = 0 := nI_ne0 (by omega) (by omega)
                              refine lv_idiv (pc := 165) S.1 S.2.1 dX9_cone_165 (by assumption) ?_
                              refine hv_ti (y := nI (gB z1 t1 i)) (by rw [pk_div (show z1 * (10 + t1 * i) < 2 ^ 31 from Nat.lt_of_le_of_lt hgp (by omega)) (by omega) (by omega)]; congr 1; unfold gB; rw [hp6, Nat.mul_comm 15 t1]; rfl) ?_
                              refine hv_iast (pc := 166) S hK hH hS 1 f_87 rfl (vp_in_nI (by omega) (by omega)) dX9_cone_166 (fun H locs hH hS => ?_)
                              rw [hv_upd (by omega), show va_up (pfy (ar 6) (6 * sc 3) (gB z1 t1) i) (6 * sc 3 + i) (gB z1 t1 i) = pfy (ar 6) (6 * sc 3) (gB z1 t1) (i + 1) from pfy_up (ar 6) (6 * sc 3) (gB z1 t1) i] at hH
                              replace hH := nup (e := .inl (cA 1, 72, .inl (fun j => nI ((pfy (ar 6) (6 * sc 3) (gB z1 t1) (i + 1)) j)))) hH
                              obtain ⟨φ_97, hφ_97, fa_φ_97, fr_φ_97, hH⟩ := hH
                              have f_98 := fr_φ_97 _ _ (fun h => absurd (hq 0 6 (by omega) (by omega) h) (by omega)) f_83
                              have f_99 := fr_φ_97 _ _ (fun h => absurd (hq 1 6 (by omega) (by omega) h) (by omega)) f_84
                              have f_100 := fr_φ_97 _ _ (fun h => absurd (hq 2 6 (by omega) (by omega) h) (by omega)) f_85
                              have f_101 := fr_φ_97 _ _ (fun h => absurd (hq 3 6 (by omega) (by omega) h) (by omega)) f_86
                              have f_102 := fr_φ_97 _ _ (fun h => absurd (hq 7 6 (by omega) (by omega) h) (by omega)) f_88
                              have f_103 := fr_φ_97 _ _ (fun h => absurd (hq 8 6 (by omega) (by omega) h) (by omega)) f_89
                              have f_104 := fr_φ_97 _ _ (fun h => absurd (hq 9 6 (by omega) (by omega) h) (by omega)) f_90
                              have f_105 := fr_φ_97 _ _ (fun h => absurd (hq 10 6 (by omega) (by omega) h) (by omega)) f_91
                              have f_106 := fr_φ_97 _ _ (fun h => absurd (hq 11 6 (by omega) (by omega) h) (by omega)) f_92
                              have f_107 := fr_φ_97 _ _ (fun h => absurd (hq 12 6 (by omega) (by omega) h) (by omega)) f_93
                              have f_108 := fr_φ_97 _ _ (fun h => absurd (hq 13 6 (by omega) (by omega) h) (by omega)) f_94
                              have f_109 := fr_φ_97 _ _ (fun h => absurd (hq 14 6 (by omega) (by omega) h) (by omega)) f_95
                              have f_110 := fr_φ_97 _ _ (fun h => absurd (hq 4 6 (by omega) (by omega) h) (by omega)) f_96
                              have f_111 := fr_φ_97 _ _ (fun h => absurd (hq 5 6 (by omega) (by omega) h) (by omega)) fa_φ_82
                              refine lv_iload (pc := 167) S.1 S.2.1 dX9_cone_167 (lv_at hl 5 rfl) ?_
                              refine lv_aload_n (pc := 169) S.1 S.2.1 dX9_cone_169 rfl (lv_at hl 1 rfl) ?_
                              refine hv_get (pc := 170) (C := RX9) (T := TX9) (N := 22) (ref := RX9) S uwX9 hK hH f_98 rfl 9 (by decide) tw_954 (fun _ h9 => h9) rfl dX9_cone_170 ?_
                              refine lv_iload (pc := 173) S.1 S.2.1 dX9_cone_173 (lv_at hl 0 rfl) ?_
                              refine hv_iald (pc := 175) S hK hH 1 fa_φ_97 rfl (vp_in_nI (by omega) (by omega)) dX9_cone_175 ?_
                              refine hv_ti (y := nI ((pfy (ar 6) (6 * sc 3) (gB z1 t1) (i + 1)) ((6 * (sc 3)) + i))) (hv_ld (by omega)) ?_
                              refine hv_ti (y := nI (gB z1 t1 i)) (by rw [pfy_in (by omega)]) ?_
                              refine lv_isub (pc := 176) S.1 S.2.1 dX9_cone_176 ?_
                              refine hv_ti (y := nI (z1 - smN (gB z1 t1) (i + 1))) (by rw [pk_sub (by omega)]; congr 1; omega) ?_
                              refine lv_istore (pc := 177) (lv' := [(6, .int (nI (z1 - smN (gB z1 t1) (i + 1)))), (8, .int (nI ((6 * (sc 3)) + i))), (0, .ref (q 0)), (1, .int (nI x1)), (2, .int (nI z1)), (3, .int (nI t1)), (7, .int (nI i))]) S.1 S.2.1 dX9_cone_177 hl (by decide) rfl (fun ls hl => ?_)
                              refine lv_iinc (pc := 179) (v := nI (i + 1)) (lv' := [(7, .int (nI (i + 1))), (6, .int (nI (z1 - smN (gB z1 t1) (i + 1)))), (8, .int (nI ((6 * (sc 3)) + i))), (0, .ref (q 0)), (1, .int (nI x1)), (2, .int (nI z1)), (3, .int (nI t1))]) S.1 S.2.1 dX9_cone_179 hl (k := 6) rfl (by first | rfl | exact nI_add _ _) (by decide) rfl (fun ls hl => ?_)
                              refine lv_goto (pc := 182) (tgt := 98) S.1 S.2.1 dX9_cone_182 (by decide) ?_
                              have hi2 : ((i + 1) + n = 6) ∧ φ_97 = ups (ups (ups φ_33 (q 4) (.inl (cA 1, 72, .inl (fun j => nI ((pfy (ar 4) (6 * sc 3) (fun b => 1200 - 150 * b) (i + 1)) j))))) (q 5) (.inl (cA 1, 72, .inl (fun j => nI ((pfy (ar 5) (6 * sc 3) (fun _ => 60) (i + 1)) j))))) (q 6) (.inl (cA 1, 72, .inl (fun j => nI ((pfy (ar 6) (6 * sc 3) (gB z1 t1) (i + 1)) j)))) ∧ hp D (Af φ sz) φ_97 H := ⟨by omega, by rw [hφ_97, hφ_82, hφ_67, hφk_50]; funext x; by_cases e6 : x = q 6 <;> by_cases e5 : x = q 5 <;> by_cases e4 : x = q 4 <;> simp [ups, e6, e5, e4], hH⟩
                              have hl2 : lv_has ls 9 [(0, .ref (q 0)), (1, .int (nI x1)), (2, .int (nI z1)), (3, .int (nI t1)), (6, .int (nI (z1 - smN (gB z1 t1) (i + 1)))), (7, .int (nI (i + 1)))] := lv_sub hl [3, 4, 5, 6, 1, 0] rfl
                              apply ih (i := i + 1) (φk_50 := φ_97) <;> assumption
                          | zero =>
                            obtain ⟨hi, hφk_50, hH⟩ := hi
                            have f_112 : φk_50 (q 0) = some (.inr (13, [.int (nI (sc 0)), .long (Int64.ofNat (sc 1)), .int (nI (sc 2)), .ref (q 1), .ref (q 2), .int (nI (sc 3)), .ref (q 3), .ref (q 4), .ref (q 5), .ref (q 6), .ref (q 7), .ref (q 8), .ref (q 9), .int (nI (sc 4)), .ref (q 10), .ref (q 11), .int (nI (sc 5)), .ref (q 12), .ref (q 13), .ref (q 14), .int (nI (sc 6)), .int (nI 0)])) := by rw [hφk_50]; exact ups_n (fun h => absurd (hq 0 6 (by omega) (by omega) h) (by omega)) (ups_n (fun h => absurd (hq 0 5 (by omega) (by omega) h) (by omega)) (ups_n (fun h => absurd (hq 0 4 (by omega) (by omega) h) (by omega)) (f_34)))
                            have f_113 : φk_50 (q 1) = some (.inl (cA 1, 10, .inl (fun j => nI ((ar 1) j)))) := by rw [hφk_50]; exact ups_n (fun h => absurd (hq 1 6 (by omega) (by omega) h) (by omega)) (ups_n (fun h => absurd (hq 1 5 (by omega) (by omega) h) (by omega)) (ups_n (fun h => absurd (hq 1 4 (by omega) (by omega) h) (by omega)) (f_35)))
                            have f_114 : φk_50 (q 2) = some (.inl (cA 1, 10, .inl (fun j => nI ((ar 2) j)))) := by rw [hφk_50]; exact ups_n (fun h => absurd (hq 2 6 (by omega) (by omega) h) (by omega)) (ups_n (fun h => absurd (hq 2 5 (by omega) (by omega) h) (by omega)) (ups_n (fun h => absurd (hq 2 4 (by omega) (by omega) h) (by omega)) (f_36)))
                            have f_115 : φk_50 (q 3) = some (.inl (cA 1, 12, .inl (fun j => nI ((ar 3) j)))) := by rw [hφk_50]; exact ups_n (fun h => absurd (hq 3 6 (by omega) (by omega) h) (by omega)) (ups_n (fun h => absurd (hq 3 5 (by omega) (by omega) h) (by omega)) (ups_n (fun h => absurd (hq 3 4 (by omega) (by omega) h) (by omega)) (f_37)))
                            have f_116 : φk_50 (q 4) = some (.inl (cA 1, 72, .inl (fun j => nI ((pfy (ar 4) (6 * sc 3) (fun b => 1200 - 150 * b) i) j)))) := by rw [hφk_50]; exact ups_n (fun h => absurd (hq 4 6 (by omega) (by omega) h) (by omega)) (ups_n (fun h => absurd (hq 4 5 (by omega) (by omega) h) (by omega)) (ups_s _ _ _))
                            have f_117 : φk_50 (q 5) = some (.inl (cA 1, 72, .inl (fun j => nI ((pfy (ar 5) (6 * sc 3) (fun _ => 60) i) j)))) := by rw [hφk_50]; exact ups_n (fun h => absurd (hq 5 6 (by omega) (by omega) h) (by omega)) (ups_s _ _ _)
                            have f_118 : φk_50 (q 6) = some (.inl (cA 1, 72, .inl (fun j => nI ((pfy (ar 6) (6 * sc 3) (gB z1 t1) i) j)))) := by rw [hφk_50]; exact ups_s _ _ _
                            have f_119 : φk_50 (q 7) = some (.inl (cA 1, 12, .inl (fun j => nI ((ar 7) j)))) := by rw [hφk_50]; exact ups_n (fun h => absurd (hq 7 6 (by omega) (by omega) h) (by omega)) (ups_n (fun h => absurd (hq 7 5 (by omega) (by omega) h) (by omega)) (ups_n (fun h => absurd (hq 7 4 (by omega) (by omega) h) (by omega)) (f_41)))
                            have f_120 : φk_50 (q 8) = some (.inl (cA 2, 12, .inl (fun j => nI ((ar 8) j)))) := by rw [hφk_50]; exact ups_n (fun h => absurd (hq 8 6 (by omega) (by omega) h) (by omega)) (ups_n (fun h => absurd (hq 8 5 (by omega) (by omega) h) (by omega)) (ups_n (fun h => absurd (hq 8 4 (by omega) (by omega) h) (by omega)) (f_42)))
                            have f_121 : φk_50 (q 9) = some (.inl (cA 2, 12, .inl (fun j => nI ((ar 9) j)))) := by rw [hφk_50]; exact ups_n (fun h => absurd (hq 9 6 (by omega) (by omega) h) (by omega)) (ups_n (fun h => absurd (hq 9 5 (by omega) (by omega) h) (by omega)) (ups_n (fun h => absurd (hq 9 4 (by omega) (by omega) h) (by omega)) (f_43)))
                            have f_122 : φk_50 (q 10) = some (.inl (cA 1, 8, .inl (fun j => nI ((ar 10) j)))) := by rw [hφk_50]; exact ups_n (fun h => absurd (hq 10 6 (by omega) (by omega) h) (by omega)) (ups_n (fun h => absurd (hq 10 5 (by omega) (by omega) h) (by omega)) (ups_n (fun h => absurd (hq 10 4 (by omega) (by omega) h) (by omega)) (f_44)))
                            have f_123 : φk_50 (q 11) = some (.inl (cA 1, 8, .inl (fun j => nI ((ar 11) j)))) := by rw [hφk_50]; exact ups_n (fun h => absurd (hq 11 6 (by omega) (by omega) h) (by omega)) (ups_n (fun h => absurd (hq 11 5 (by omega) (by omega) h) (by omega)) (ups_n (fun h => absurd (hq 11 4 (by omega) (by omega) h) (by omega)) (f_45)))
                            have f_124 : φk_50 (q 12) = some (.inl (cA 1, 6, .inl (fun j => nI ((ar 12) j)))) := by rw [hφk_50]; exact ups_n (fun h => absurd (hq 12 6 (by omega) (by omega) h) (by omega)) (ups_n (fun h => absurd (hq 12 5 (by omega) (by omega) h) (by omega)) (ups_n (fun h => absurd (hq 12 4 (by omega) (by omega) h) (by omega)) (f_46)))
                            have f_125 : φk_50 (q 13) = some (.inl (cA 1, 6, .inl (fun j => nI ((ar 13) j)))) := by rw [hφk_50]; exact ups_n (fun h => absurd (hq 13 6 (by omega) (by omega) h) (by omega)) (ups_n (fun h => absurd (hq 13 5 (by omega) (by omega) h) (by omega)) (ups_n (fun h => absurd (hq 13 4 (by omega) (by omega) h) (by omega)) (f_47)))
                            have f_126 : φk_50 (q 14) = some (.inl (cA 1, 8, .inl (fun j => nI ((ar 14) j)))) := by rw [hφk_50]; exact ups_n (fun h => absurd (hq 14 6 (by omega) (by omega) h) (by omega)) (ups_n (fun h => absurd (hq 14 5 (by omega) (by omega) h) (by omega)) (ups_n (fun h => absurd (hq 14 4 (by omega) (by omega) h) (by omega)) (f_48)))
                            obtain rfl : i = 6 := by omega
                            refine lv_iload (pc := 98) S.1 S.2.1 dX9_cone_98 (lv_at hl 5 rfl) ?_
                            refine lv_bipush (pc := 100) (v := nI 6) S.1 S.2.1 dX9_cone_100 (by decide) ?_
                            refine hv_icmp_ge (pc := 102) (tgt := 185) (a := 6) (b := 6) S.1 S.2.1 (by omega) (by omega) dX9_cone_102 (by decide) (fun c_127 => ?_) (fun c_127 => ?_)
                            · skip
                              refine lv_aload_n (pc := 185) S.1 S.2.1 dX9_cone_185 rfl (lv_at hl 0 rfl) ?_
                              refine hv_get (pc := 186) (C := RX9) (T := TX9) (N := 22) (ref := RX9) S uwX9 hK hH f_112 rfl 9 (by decide) tw_954 (fun _ h9 => h9) rfl dX9_cone_186 ?_
                              refine lv_bipush (pc := 189) (v := nI 6) S.1 S.2.1 dX9_cone_189 (by decide) ?_
                              refine lv_aload_n (pc := 191) S.1 S.2.1 dX9_cone_191 rfl (lv_at hl 0 rfl) ?_
                              refine hv_get (pc := 192) (C := RX9) (T := TX9) (N := 22) (ref := RX9) S uwX9 hK hH f_112 rfl 5 (by decide) tw_950 (fun _ h9 => h9) rfl dX9_cone_192 ?_
                              refine lv_imul (pc := 195) S.1 S.2.1 dX9_cone_195 ?_
                              refine hv_ti (y := nI (6 * (sc 3))) (pk_mul _ _) ?_
                              refine lv_dup2_11 (pc := 196) S.1 S.2.1 dX9_cone_196 rfl rfl ?_
                              refine hv_iald (pc := 197) S hK hH 1 f_118 rfl (vp_in_nI (by omega) (by omega)) dX9_cone_197 ?_
                              refine hv_ti (y := nI ((pfy (ar 6) (6 * sc 3) (gB z1 t1) 6) (6 * (sc 3)))) (hv_ld (by omega)) ?_
                              refine hv_ti (y := nI (gB z1 t1 0)) (by rw [show pfy (ar 6) (6 * sc 3) (gB z1 t1) 6 (6 * sc 3) = gB z1 t1 0 from pfy_in (j := 0) (by omega)]) ?_
                              refine lv_iload (pc := 198) S.1 S.2.1 dX9_cone_198 (lv_at hl 4 rfl) ?_
                              refine lv_iadd (pc := 200) S.1 S.2.1 dX9_cone_200 ?_
                              refine hv_ti (y := nI ((gB z1 t1 0) + (z1 - smN (gB z1 t1) 6))) (nI_add _ _) ?_
                              refine hv_iast (pc := 201) S hK hH hS 1 f_118 rfl (vp_in_nI (by omega) (by omega)) dX9_cone_201 (fun H locs hH hS => ?_)
                              rw [hv_upd (by omega)] at hH
                              replace hH := nup (e := .inl (cA 1, 72, .inl (fun j => nI ((va_up (pfy (ar 6) (6 * sc 3) (gB z1 t1) 6) (6 * sc 3) (gB z1 t1 0 + (z1 - smN (gB z1 t1) 6))) j)))) hH
                              obtain ⟨φ_128, hφ_128, fa_φ_128, fr_φ_128, hH⟩ := hH
                              have f_129 := fr_φ_128 _ _ (fun h => absurd (hq 0 6 (by omega) (by omega) h) (by omega)) f_112
                              have f_130 := fr_φ_128 _ _ (fun h => absurd (hq 1 6 (by omega) (by omega) h) (by omega)) f_113
                              have f_131 := fr_φ_128 _ _ (fun h => absurd (hq 2 6 (by omega) (by omega) h) (by omega)) f_114
                              have f_132 := fr_φ_128 _ _ (fun h => absurd (hq 3 6 (by omega) (by omega) h) (by omega)) f_115
                              have f_133 := fr_φ_128 _ _ (fun h => absurd (hq 4 6 (by omega) (by omega) h) (by omega)) f_116
                              have f_134 := fr_φ_128 _ _ (fun h => absurd (hq 5 6 (by omega) (by omega) h) (by omega)) f_117
                              have f_135 := fr_φ_128 _ _ (fun h => absurd (hq 7 6 (by omega) (by omega) h) (by omega)) f_119
                              have f_136 := fr_φ_128 _ _ (fun h => absurd (hq 8 6 (by omega) (by omega) h) (by omega)) f_120
                              have f_137 := fr_φ_128 _ _ (fun h => absurd (hq 9 6 (by omega) (by omega) h) (by omega)) f_121
                              have f_138 := fr_φ_128 _ _ (fun h => absurd (hq 10 6 (by omega) (by omega) h) (by omega)) f_122
                              have f_139 := fr_φ_128 _ _ (fun h => absurd (hq 11 6 (by omega) (by omega) h) (by omega)) f_123
                              have f_140 := fr_φ_128 _ _ (fun h => absurd (hq 12 6 (by omega) (by omega) h) (by omega)) f_124
                              have f_141 := fr_φ_128 _ _ (fun h => absurd (hq 13 6 (by omega) (by omega) h) (by omega)) f_125
                              have f_142 := fr_φ_128 _ _ (fun h => absurd (hq 14 6 (by omega) (by omega) h) (by omega)) f_126
                              refine lv_aload_n (pc := 202) S.1 S.2.1 dX9_cone_202 rfl (lv_at hl 0 rfl) ?_
                              refine hv_get (pc := 203) (C := RX9) (T := TX9) (N := 22) (ref := RX9) S uwX9 hK hH f_129 rfl 4 (by decide) tw_949 (fun _ h9 => h9) rfl dX9_cone_203 ?_
                              refine lv_iload_n (pc := 206) S.1 S.2.1 dX9_cone_206 rfl (lv_at hl 1 rfl) ?_
                              refine lv_dup2_11 (pc := 207) S.1 S.2.1 dX9_cone_207 rfl rfl ?_
                              refine hv_iald (pc := 208) S hK hH 1 f_131 rfl (vp_in_nI (by omega) (by omega)) dX9_cone_208 ?_
                              refine hv_ti (y := nI ((ar 2) x1)) (hv_ld (by omega)) ?_
                              refine lv_iload_n (pc := 209) S.1 S.2.1 dX9_cone_209 rfl (lv_at hl 2 rfl) ?_
                              refine lv_isub (pc := 210) S.1 S.2.1 dX9_cone_210 ?_
                              refine hv_ti (y := nI (((ar 2) x1) - z1)) (pk_sub (by omega)) ?_
                              refine hv_iast (pc := 211) S hK hH hS 1 f_131 rfl (vp_in_nI (by omega) (by omega)) dX9_cone_211 (fun H locs hH hS => ?_)
                              rw [hv_upd (by omega)] at hH
                              replace hH := nup (e := .inl (cA 1, 10, .inl (fun j => nI ((va_up (ar 2) x1 (ar 2 x1 - z1)) j)))) hH
                              obtain ⟨φ_143, hφ_143, fa_φ_143, fr_φ_143, hH⟩ := hH
                              have f_144 := fr_φ_143 _ _ (fun h => absurd (hq 0 2 (by omega) (by omega) h) (by omega)) f_129
                              have f_145 := fr_φ_143 _ _ (fun h => absurd (hq 1 2 (by omega) (by omega) h) (by omega)) f_130
                              have f_146 := fr_φ_143 _ _ (fun h => absurd (hq 3 2 (by omega) (by omega) h) (by omega)) f_132
                              have f_147 := fr_φ_143 _ _ (fun h => absurd (hq 4 2 (by omega) (by omega) h) (by omega)) f_133
                              have f_148 := fr_φ_143 _ _ (fun h => absurd (hq 5 2 (by omega) (by omega) h) (by omega)) f_134
                              have f_149 := fr_φ_143 _ _ (fun h => absurd (hq 7 2 (by omega) (by omega) h) (by omega)) f_135
                              have f_150 := fr_φ_143 _ _ (fun h => absurd (hq 8 2 (by omega) (by omega) h) (by omega)) f_136
                              have f_151 := fr_φ_143 _ _ (fun h => absurd (hq 9 2 (by omega) (by omega) h) (by omega)) f_137
                              have f_152 := fr_φ_143 _ _ (fun h => absurd (hq 10 2 (by omega) (by omega) h) (by omega)) f_138
                              have f_153 := fr_φ_143 _ _ (fun h => absurd (hq 11 2 (by omega) (by omega) h) (by omega)) f_139
                              have f_154 := fr_φ_143 _ _ (fun h => absurd (hq 12 2 (by omega) (by omega) h) (by omega)) f_140
                              have f_155 := fr_φ_143 _ _ (fun h => absurd (hq 13 2 (by omega) (by omega) h) (by omega)) f_141
                              have f_156 := fr_φ_143 _ _ (fun h => absurd (hq 14 2 (by omega) (by omega) h) (by omega)) f_142
                              have f_157 := fr_φ_143 _ _ (fun h => absurd (hq 6 2 (by omega) (by omega) h) (by omega)) fa_φ_128
                              refine lv_aload_n (pc := 212) S.1 S.2.1 dX9_cone_212 rfl (lv_at hl 0 rfl) ?_
                              refine hv_get (pc := 213) (C := RX9) (T := TX9) (N := 22) (ref := RX9) S uwX9 hK hH f_144 rfl 6 (by decide) tw_951 (fun _ h9 => h9) rfl dX9_cone_213 ?_
                              refine lv_aload_n (pc := 216) S.1 S.2.1 dX9_cone_216 rfl (lv_at hl 0 rfl) ?_
                              refine hv_get (pc := 217) (C := RX9) (T := TX9) (N := 22) (ref := RX9) S uwX9 hK hH f_144 rfl 5 (by decide) tw_950 (fun _ h9 => h9) rfl dX9_cone_217 ?_
                              refine lv_aload_n (pc := 220) S.1 S.2.1 dX9_cone_220 rfl (lv_at hl 0 rfl) ?_
                              refine hv_get (pc := 221) (C := RX9) (T := TX9) (N := 22) (ref := RX9) S uwX9 hK hH f_144 rfl 3 (by decide) tw_948 (fun _ h9 => h9) rfl dX9_cone_221 ?_
                              refine lv_iload_n (pc := 224) S.1 S.2.1 dX9_cone_224 rfl (lv_at hl 1 rfl) ?_
                              refine hv_iald (pc := 225) S hK hH 1 f_145 rfl (vp_in_nI (by omega) (by omega)) dX9_cone_225 ?_
                              refine hv_ti (y := nI ((ar 1) x1)) (hv_ld (by omega)) ?_
                              refine hv_iast (pc := 226) S hK hH hS 1 f_146 rfl (vp_in_nI (by omega) (by omega)) dX9_cone_226 (fun H locs hH hS => ?_)
                              rw [hv_upd (by omega)] at hH
                              replace hH := nup (e := .inl (cA 1, 12, .inl (fun j => nI ((va_up (ar 3) (sc 3) (ar 1 x1)) j)))) hH
                              obtain ⟨φ_158, hφ_158, fa_φ_158, fr_φ_158, hH⟩ := hH
                              have f_159 := fr_φ_158 _ _ (fun h => absurd (hq 0 3 (by omega) (by omega) h) (by omega)) f_144
                              have f_160 := fr_φ_158 _ _ (fun h => absurd (hq 1 3 (by omega) (by omega) h) (by omega)) f_145
                              have f_161 := fr_φ_158 _ _ (fun h => absurd (hq 4 3 (by omega) (by omega) h) (by omega)) f_147
                              have f_162 := fr_φ_158 _ _ (fun h => absurd (hq 5 3 (by omega) (by omega) h) (by omega)) f_148
                              have f_163 := fr_φ_158 _ _ (fun h => absurd (hq 7 3 (by omega) (by omega) h) (by omega)) f_149
                              have f_164 := fr_φ_158 _ _ (fun h => absurd (hq 8 3 (by omega) (by omega) h) (by omega)) f_150
                              have f_165 := fr_φ_158 _ _ (fun h => absurd (hq 9 3 (by omega) (by omega) h) (by omega)) f_151
                              have f_166 := fr_φ_158 _ _ (fun h => absurd (hq 10 3 (by omega) (by omega) h) (by omega)) f_152
                              have f_167 := fr_φ_158 _ _ (fun h => absurd (hq 11 3 (by omega) (by omega) h) (by omega)) f_153
                              have f_168 := fr_φ_158 _ _ (fun h => absurd (hq 12 3 (by omega) (by omega) h) (by omega)) f_154
                              have f_169 := fr_φ_158 _ _ (fun h => absurd (hq 13 3 (by omega) (by omega) h) (by omega)) f_155
                              have f_170 := fr_φ_158 _ _ (fun h => absurd (hq 14 3 (by omega) (by omega) h) (by omega)) f_156
                              have f_171 := fr_φ_158 _ _ (fun h => absurd (hq 6 3 (by omega) (by omega) h) (by omega)) f_157
                              have f_172 := fr_φ_158 _ _ (fun h => absurd (hq 2 3 (by omega) (by omega) h) (by omega)) fa_φ_143
                              refine lv_aload_n (pc := 227) S.1 S.2.1 dX9_cone_227 rfl (lv_at hl 0 rfl) ?_
                              refine lv_dup (pc := 228) S.1 S.2.1 dX9_cone_228 rfl ?_
                              refine hv_get (pc := 229) (C := RX9) (T := TX9) (N := 22) (ref := RX9) S uwX9 hK hH f_159 rfl 5 (by decide) tw_950 (fun _ h9 => h9) rfl dX9_cone_229 ?_
                              refine lv_iconst (pc := 232) (v := nI 1) S.1 S.2.1 dX9_cone_232 (by decide) ?_
                              refine lv_iadd (pc := 233) S.1 S.2.1 dX9_cone_233 ?_
                              refine hv_ti (y := nI ((sc 3) + 1)) (nI_add _ _) ?_
                              refine hv_put (pc := 234) (ty := .int) (C := RX9) (T := TX9) (N := 22) (ref := RX9) S uwX9 tyX9 tyX9_ok nmX9 hK hH hS f_159 rfl 5 (by decide) tw_950 (fun _ h9 => h9) rfl (by decide +kernel) rfl rfl (Nat.le_of_ble_eq_true rfl) dX9_cone_234 (fun H locs hH hS => ?_)
                              replace hH := nup (e := .inr (13, [.int (nI (sc 0)), .long (Int64.ofNat (sc 1)), .int (nI (sc 2)), .ref (q 1), .ref (q 2), .int (nI ((sc 3) + 1)), .ref (q 3), .ref (q 4), .ref (q 5), .ref (q 6), .ref (q 7), .ref (q 8), .ref (q 9), .int (nI (sc 4)), .ref (q 10), .ref (q 11), .int (nI (sc 5)), .ref (q 12), .ref (q 13), .ref (q 14), .int (nI (sc 6)), .int (nI 0)])) hH
                              obtain ⟨φ_173, hφ_173, fa_φ_173, fr_φ_173, hH⟩ := hH
                              have f_174 := fr_φ_173 _ _ (fun h => absurd (hq 1 0 (by omega) (by omega) h) (by omega)) f_160
                              have f_175 := fr_φ_173 _ _ (fun h => absurd (hq 4 0 (by omega) (by omega) h) (by omega)) f_161
                              have f_176 := fr_φ_173 _ _ (fun h => absurd (hq 5 0 (by omega) (by omega) h) (by omega)) f_162
                              have f_177 := fr_φ_173 _ _ (fun h => absurd (hq 7 0 (by omega) (by omega) h) (by omega)) f_163
                              have f_178 := fr_φ_173 _ _ (fun h => absurd (hq 8 0 (by omega) (by omega) h) (by omega)) f_164
                              have f_179 := fr_φ_173 _ _ (fun h => absurd (hq 9 0 (by omega) (by omega) h) (by omega)) f_165
                              have f_180 := fr_φ_173 _ _ (fun h => absurd (hq 10 0 (by omega) (by omega) h) (by omega)) f_166
                              have f_181 := fr_φ_173 _ _ (fun h => absurd (hq 11 0 (by omega) (by omega) h) (by omega)) f_167
                              have f_182 := fr_φ_173 _ _ (fun h => absurd (hq 12 0 (by omega) (by omega) h) (by omega)) f_168
                              have f_183 := fr_φ_173 _ _ (fun h => absurd (hq 13 0 (by omega) (by omega) h) (by omega)) f_169
                              have f_184 := fr_φ_173 _ _ (fun h => absurd (hq 14 0 (by omega) (by omega) h) (by omega)) f_170
                              have f_185 := fr_φ_173 _ _ (fun h => absurd (hq 6 0 (by omega) (by omega) h) (by omega)) f_171
                              have f_186 := fr_φ_173 _ _ (fun h => absurd (hq 2 0 (by omega) (by omega) h) (by omega)) f_172
                              have f_187 := fr_φ_173 _ _ (fun h => absurd (hq 3 0 (by omega) (by omega) h) (by omega)) fa_φ_158
                              refine lv_aload_n (pc := 237) S.1 S.2.1 dX9_cone_237 rfl (lv_at hl 0 rfl) ?_
                              refine hv_get (pc := 238) (C := RX9) (T := TX9) (N := 22) (ref := RX9) S uwX9 hK hH fa_φ_173 rfl 5 (by decide) tw_950 (fun _ h9 => h9) rfl dX9_cone_238 ?_
                              refine lv_iconst (pc := 241) (v := nI 1) S.1 S.2.1 dX9_cone_241 (by decide) ?_
                              refine lv_isub (pc := 242) S.1 S.2.1 dX9_cone_242 ?_
                              refine hv_ti (y := nI (((sc 3) + 1) - 1)) (pk_sub (by omega)) ?_
                              exact hv_ret (pc := 243) (v := nI (((sc 3) + 1) - 1)) S hr rfl hlocks hH hS (by rw [if_pos eX]; exact ⟨x1, z1, t1, rfl, rfl, rfl, hxn, hzhi, hzlo, hthi, hzg, by omega, by rw [Nat.add_sub_cancel], ⟨fa_φ_173, f_174, f_186, f_187, f_175, f_176, f_185, f_177, f_178, f_179, f_180, f_181, f_182, f_183, f_184⟩⟩) (Nat.le_of_ble_eq_true rfl) (Nat.le_of_ble_eq_true rfl) dX9_cone_243
                            · skip
                              exact absurd c_127 (by omega)
                        · skip
                          exact absurd c_49 (by omega)
                      · skip
                        exact absurd c_31 (by omega)
                    · skip
                      refine hv_icmp_ge (pc := 76) (tgt := 83) (a := (ar 2) x1) (b := z1) S.1 S.2.1 (by omega) (by omega) dX9_cone_76 (by decide) (fun c_188 => ?_) (fun c_188 => ?_)
                      · skip
                        exact absurd c_188 (by omega)
                      · skip
                        refine lv_iconst (pc := 79) (v := nI 3) S.1 S.2.1 dX9_cone_79 (by decide) ?_
                        refine lv_goto (pc := 80) (tgt := 84) S.1 S.2.1 dX9_cone_80 (by decide) ?_
                        have eX : coneX (sc 2) (sc 3) (ar 2) (nI x1) (nI z1) (nI t1) = 2 := by rw [coneX, if_pos hx, if_pos hz, if_pos ht, if_pos (by omega), nx_nI hz31, nx_nI hx31, if_neg hzg]
                        refine hv_call (pc := 84) (va_runV (As := [.int (nI 3)]) (rest := []) S (c_m_goes l D cA ga φ H.size q sc ar (3) ⟨f0, f1, f2, f3, f4, f5, f6, f7, f8, f9, f10, f11, f12, f13, f14⟩ hq (by omega)) (cwV 1 S.2.2.2.2 (gV tw_1021 tw_1023 sw_32 tw_7 tw_1024) rfl rfl rfl (by decide +kernel) ⟨Nat.le_of_ble_eq_true rfl, Nat.le_of_ble_eq_true rfl⟩) (pre0_V hH hK hX hS hA (hH.recv hK f0 rfl)) rfl rfl hl.1 rfl (lv_room (Nat.le_of_ble_eq_true rfl)) dX9_cone_84 ⟨Nat.le_of_ble_eq_true rfl, Nat.le_of_ble_eq_true rfl⟩) hS (af_le hH hS hA) (fun v_189 φ_190 H locs hw_v_189 hH hS => ?_)
                        obtain ⟨rfl, hm9⟩ := hw_v_189
                        obtain ⟨f_191, f_192, f_193, f_194, f_195, f_196, f_197, f_198, f_199, f_200, f_201, f_202, f_203, f_204, f_205⟩ := hm9
                        change φ_190 (q 0) = some (.inr (13, [.int (nI (sc 0)), .long (Int64.ofNat (sc 1)), .int (nI (sc 2)), .ref (q 1), .ref (q 2), .int (nI (sc 3)), .ref (q 3), .ref (q 4), .ref (q 5), .ref (q 6), .ref (q 7), .ref (q 8), .ref (q 9), .int (nI (sc 4)), .ref (q 10), .ref (q 11), .int (nI (sc 5)), .ref (q 12), .ref (q 13), .ref (q 14), .int (nI (sc 6)), .int (nI 3)])) at f_191
                        refine hv_ti (y := nI 0) (rfl) ?_
                        refine hv_if_ne (pc := 87) (tgt := 92) (a := 0) S.1 S.2.1 (by omega) dX9_cone_87 (by decide) (fun c_206 => ?_) (fun c_206 => ?_)
                        · skip
                          exact absurd c_206 (by omega)
                        · skip
                          refine lv_iconst (pc := 90) (v := nI 0) S.1 S.2.1 dX9_cone_90 (by decide) ?_
                          exact hv_ret (pc := 91) (v := nI 0) S hr rfl hlocks hH hS (by rw [if_neg (by rw [eX]; decide), eX]; exact ⟨rfl, ⟨f_191, f_192, f_193, f_194, f_195, f_196, f_197, f_198, f_199, f_200, f_201, f_202, f_203, f_204, f_205⟩⟩) (Nat.le_of_ble_eq_true rfl) (Nat.le_of_ble_eq_true rfl) dX9_cone_91
              · skip
                exact absurd c_10 (by omega)
            · skip
              exact absurd c_9 (by omega)
        · skip
          refine hv_call (pc := 28) (va_runS (As := [.int (t), .int (nI 0), .int (nI 5)]) (rest := []) S (c_isIn l D cA ga φ H.size t (nI 0) (nI 5)) (va_cwS 3 S.2.2.2.2 (gS tw_1031 tw_1032 tw_7 tw_1033) rfl rfl rfl (by decide +kernel) ⟨Nat.le_of_ble_eq_true rfl, Nat.le_of_ble_eq_true rfl⟩) (pre0_S hH hK hX hS hA) rfl rfl hl.1 rfl (lv_room (Nat.le_of_ble_eq_true rfl)) dX9_cone_28 ⟨Nat.le_of_ble_eq_true rfl, Nat.le_of_ble_eq_true rfl⟩) hS (af_le hH hS hA) (fun v_207 φ_208 H locs hw_v_207 hH hS => ?_)
          obtain ⟨rfl, hqv_207⟩ := hw_v_207
          rw [hqv_207] at hH
          refine hv_ti (y := nI 0) (by rw [inB_R, if_neg ht]) ?_
          refine hv_if_eq (pc := 31) (tgt := 38) (a := 0) S.1 S.2.1 (by omega) dX9_cone_31 (by decide) (fun c_209 => ?_) (fun c_209 => ?_)
          · skip
            refine lv_iconst (pc := 38) (v := nI 0) S.1 S.2.1 dX9_cone_38 (by decide) ?_
            refine lv_istore (pc := 39) (lv' := [(5, .int (nI 0)), (4, .int (nI 1)), (0, .ref (q 0)), (1, .int (nI x1)), (2, .int (z)), (3, .int (t))]) S.1 S.2.1 dX9_cone_39 hl (by decide) rfl (fun ls hl => ?_)
            refine lv_aload_n (pc := 41) S.1 S.2.1 dX9_cone_41 rfl (lv_at hl 2 rfl) ?_
            refine lv_iload (pc := 42) S.1 S.2.1 dX9_cone_42 (lv_at hl 1 rfl) ?_
            refine hv_if_ne (pc := 44) (tgt := 51) (a := 1) S.1 S.2.1 (by omega) dX9_cone_44 (by decide) (fun c_210 => ?_) (fun c_210 => ?_)
            · skip
              refine lv_iload (pc := 51) S.1 S.2.1 dX9_cone_51 (lv_at hl 0 rfl) ?_
              refine hv_if_ne (pc := 53) (tgt := 60) (a := 0) S.1 S.2.1 (by omega) dX9_cone_53 (by decide) (fun c_211 => ?_) (fun c_211 => ?_)
              · skip
                exact absurd c_211 (by omega)
              · skip
                refine lv_iconst (pc := 56) (v := nI 2) S.1 S.2.1 dX9_cone_56 (by decide) ?_
                refine lv_goto (pc := 57) (tgt := 84) S.1 S.2.1 dX9_cone_57 (by decide) ?_
                have eX : coneX (sc 2) (sc 3) (ar 2) (nI x1) z t = 1 := by rw [coneX, if_pos hx, if_pos hz, if_neg ht]
                refine hv_call (pc := 84) (va_runV (As := [.int (nI 2)]) (rest := []) S (c_m_goes l D cA ga φ H.size q sc ar (2) ⟨f0, f1, f2, f3, f4, f5, f6, f7, f8, f9, f10, f11, f12, f13, f14⟩ hq (by omega)) (cwV 1 S.2.2.2.2 (gV tw_1021 tw_1023 sw_32 tw_7 tw_1024) rfl rfl rfl (by decide +kernel) ⟨Nat.le_of_ble_eq_true rfl, Nat.le_of_ble_eq_true rfl⟩) (pre0_V hH hK hX hS hA (hH.recv hK f0 rfl)) rfl rfl hl.1 rfl (lv_room (Nat.le_of_ble_eq_true rfl)) dX9_cone_84 ⟨Nat.le_of_ble_eq_true rfl, Nat.le_of_ble_eq_true rfl⟩) hS (af_le hH hS hA) (fun v_212 φ_213 H locs hw_v_212 hH hS => ?_)
                obtain ⟨rfl, hm9⟩ := hw_v_212
                obtain ⟨f_214, f_215, f_216, f_217, f_218, f_219, f_220, f_221, f_222, f_223, f_224, f_225, f_226, f_227, f_228⟩ := hm9
                change φ_213 (q 0) = some (.inr (13, [.int (nI (sc 0)), .long (Int64.ofNat (sc 1)), .int (nI (sc 2)), .ref (q 1), .ref (q 2), .int (nI (sc 3)), .ref (q 3), .ref (q 4), .ref (q 5), .ref (q 6), .ref (q 7), .ref (q 8), .ref (q 9), .int (nI (sc 4)), .ref (q 10), .ref (q 11), .int (nI (sc 5)), .ref (q 12), .ref (q 13), .ref (q 14), .int (nI (sc 6)), .int (nI 2)])) at f_214
                refine hv_ti (y := nI 0) (rfl) ?_
                refine hv_if_ne (pc := 87) (tgt := 92) (a := 0) S.1 S.2.1 (by omega) dX9_cone_87 (by decide) (fun c_229 => ?_) (fun c_229 => ?_)
                · skip
                  exact absurd c_229 (by omega)
                · skip
                  refine lv_iconst (pc := 90) (v := nI 0) S.1 S.2.1 dX9_cone_90 (by decide) ?_
                  exact hv_ret (pc := 91) (v := nI 0) S hr rfl hlocks hH hS (by rw [if_neg (by rw [eX]; decide), eX]; exact ⟨rfl, ⟨f_214, f_215, f_216, f_217, f_218, f_219, f_220, f_221, f_222, f_223, f_224, f_225, f_226, f_227, f_228⟩⟩) (Nat.le_of_ble_eq_true rfl) (Nat.le_of_ble_eq_true rfl) dX9_cone_91
            · skip
              exact absurd c_210 (by omega)
          · skip
            exact absurd c_209 (by omega)
    · skip
      refine hv_call (pc := 19) (va_runS (As := [.int (z), .int (nI 10), .int (nI 500)]) (rest := []) S (c_isIn l D cA ga φ H.size z (nI 10) (nI 500)) (va_cwS 3 S.2.2.2.2 (gS tw_1031 tw_1032 tw_7 tw_1033) rfl rfl rfl (by decide +kernel) ⟨Nat.le_of_ble_eq_true rfl, Nat.le_of_ble_eq_true rfl⟩) (pre0_S hH hK hX hS hA) rfl rfl hl.1 rfl (lv_room (Nat.le_of_ble_eq_true rfl)) dX9_cone_19 ⟨Nat.le_of_ble_eq_true rfl, Nat.le_of_ble_eq_true rfl⟩) hS (af_le hH hS hA) (fun v_230 φ_231 H locs hw_v_230 hH hS => ?_)
      obtain ⟨rfl, hqv_230⟩ := hw_v_230
      rw [hqv_230] at hH
      refine hv_ti (y := nI 0) (by rw [inB_R, if_neg hz]) ?_
      refine hv_if_eq (pc := 22) (tgt := 38) (a := 0) S.1 S.2.1 (by omega) dX9_cone_22 (by decide) (fun c_232 => ?_) (fun c_232 => ?_)
      · skip
        refine lv_iconst (pc := 38) (v := nI 0) S.1 S.2.1 dX9_cone_38 (by decide) ?_
        refine lv_istore (pc := 39) (lv' := [(5, .int (nI 0)), (4, .int (nI 1)), (0, .ref (q 0)), (1, .int (nI x1)), (2, .int (z)), (3, .int (t))]) S.1 S.2.1 dX9_cone_39 hl (by decide) rfl (fun ls hl => ?_)
        refine lv_aload_n (pc := 41) S.1 S.2.1 dX9_cone_41 rfl (lv_at hl 2 rfl) ?_
        refine lv_iload (pc := 42) S.1 S.2.1 dX9_cone_42 (lv_at hl 1 rfl) ?_
        refine hv_if_ne (pc := 44) (tgt := 51) (a := 1) S.1 S.2.1 (by omega) dX9_cone_44 (by decide) (fun c_233 => ?_) (fun c_233 => ?_)
        · skip
          refine lv_iload (pc := 51) S.1 S.2.1 dX9_cone_51 (lv_at hl 0 rfl) ?_
          refine hv_if_ne (pc := 53) (tgt := 60) (a := 0) S.1 S.2.1 (by omega) dX9_cone_53 (by decide) (fun c_234 => ?_) (fun c_234 => ?_)
          · skip
            exact absurd c_234 (by omega)
          · skip
            refine lv_iconst (pc := 56) (v := nI 2) S.1 S.2.1 dX9_cone_56 (by decide) ?_
            refine lv_goto (pc := 57) (tgt := 84) S.1 S.2.1 dX9_cone_57 (by decide) ?_
            have eX : coneX (sc 2) (sc 3) (ar 2) (nI x1) z t = 1 := by rw [coneX, if_pos hx, if_neg hz]
            refine hv_call (pc := 84) (va_runV (As := [.int (nI 2)]) (rest := []) S (c_m_goes l D cA ga φ H.size q sc ar (2) ⟨f0, f1, f2, f3, f4, f5, f6, f7, f8, f9, f10, f11, f12, f13, f14⟩ hq (by omega)) (cwV 1 S.2.2.2.2 (gV tw_1021 tw_1023 sw_32 tw_7 tw_1024) rfl rfl rfl (by decide +kernel) ⟨Nat.le_of_ble_eq_true rfl, Nat.le_of_ble_eq_true rfl⟩) (pre0_V hH hK hX hS hA (hH.recv hK f0 rfl)) rfl rfl hl.1 rfl (lv_room (Nat.le_of_ble_eq_true rfl)) dX9_cone_84 ⟨Nat.le_of_ble_eq_true rfl, Nat.le_of_ble_eq_true rfl⟩) hS (af_le hH hS hA) (fun v_235 φ_236 H locs hw_v_235 hH hS => ?_)
            obtain ⟨rfl, hm9⟩ := hw_v_235
            obtain ⟨f_237, f_238, f_239, f_240, f_241, f_242, f_243, f_244, f_245, f_246, f_247, f_248, f_249, f_250, f_251⟩ := hm9
            change φ_236 (q 0) = some (.inr (13, [.int (nI (sc 0)), .long (Int64.ofNat (sc 1)), .int (nI (sc 2)), .ref (q 1), .ref (q 2), .int (nI (sc 3)), .ref (q 3), .ref (q 4), .ref (q 5), .ref (q 6), .ref (q 7), .ref (q 8), .ref (q 9), .int (nI (sc 4)), .ref (q 10), .ref (q 11), .int (nI (sc 5)), .ref (q 12), .ref (q 13), .ref (q 14), .int (nI (sc 6)), .int (nI 2)])) at f_237
            refine hv_ti (y := nI 0) (rfl) ?_
            refine hv_if_ne (pc := 87) (tgt := 92) (a := 0) S.1 S.2.1 (by omega) dX9_cone_87 (by decide) (fun c_252 => ?_) (fun c_252 => ?_)
            · skip
              exact absurd c_252 (by omega)
            · skip
              refine lv_iconst (pc := 90) (v := nI 0) S.1 S.2.1 dX9_cone_90 (by decide) ?_
              exact hv_ret (pc := 91) (v := nI 0) S hr rfl hlocks hH hS (by rw [if_neg (by rw [eX]; decide), eX]; exact ⟨rfl, ⟨f_237, f_238, f_239, f_240, f_241, f_242, f_243, f_244, f_245, f_246, f_247, f_248, f_249, f_250, f_251⟩⟩) (Nat.le_of_ble_eq_true rfl) (Nat.le_of_ble_eq_true rfl) dX9_cone_91
        · skip
          exact absurd c_233 (by omega)
      · skip
        exact absurd c_232 (by omega)
  · skip
    refine hv_call (pc := 8) (va_runS (As := [.int (x), .int (nI 0), .int (nI (sc 2) - nI 1)]) (rest := []) S (c_isIn l D cA ga φ H.size x (nI 0) (nI (sc 2) - nI 1)) (va_cwS 3 S.2.2.2.2 (gS tw_1031 tw_1032 tw_7 tw_1033) rfl rfl rfl (by decide +kernel) ⟨Nat.le_of_ble_eq_true rfl, Nat.le_of_ble_eq_true rfl⟩) (pre0_S hH hK hX hS hA) rfl rfl hl.1 rfl (lv_room (Nat.le_of_ble_eq_true rfl)) dX9_cone_8 ⟨Nat.le_of_ble_eq_true rfl, Nat.le_of_ble_eq_true rfl⟩) hS (af_le hH hS hA) (fun v_253 φ_254 H locs hw_v_253 hH hS => ?_)
    obtain ⟨rfl, hqv_253⟩ := hw_v_253
    rw [hqv_253] at hH
    refine hv_ti (y := nI 0) (by rw [inB_N (by omega), if_neg hx]) ?_
    refine lv_istore (pc := 11) (lv' := [(4, .int (nI 0)), (0, .ref (q 0)), (1, .int (x)), (2, .int (z)), (3, .int (t))]) S.1 S.2.1 dX9_cone_11 hl (by decide) rfl (fun ls hl => ?_)
    refine lv_iload_n (pc := 13) S.1 S.2.1 dX9_cone_13 rfl (lv_at hl 3 rfl) ?_
    refine lv_bipush (pc := 14) (v := nI 10) S.1 S.2.1 dX9_cone_14 (by decide) ?_
    refine lv_sipush (pc := 16) (v := nI 500) S.1 S.2.1 dX9_cone_16 (by decide) ?_
    by_cases hz : inR z 10 500
    · skip
      refine hv_call (pc := 19) (va_runS (As := [.int (z), .int (nI 10), .int (nI 500)]) (rest := []) S (c_isIn l D cA ga φ H.size z (nI 10) (nI 500)) (va_cwS 3 S.2.2.2.2 (gS tw_1031 tw_1032 tw_7 tw_1033) rfl rfl rfl (by decide +kernel) ⟨Nat.le_of_ble_eq_true rfl, Nat.le_of_ble_eq_true rfl⟩) (pre0_S hH hK hX hS hA) rfl rfl hl.1 rfl (lv_room (Nat.le_of_ble_eq_true rfl)) dX9_cone_19 ⟨Nat.le_of_ble_eq_true rfl, Nat.le_of_ble_eq_true rfl⟩) hS (af_le hH hS hA) (fun v_255 φ_256 H locs hw_v_255 hH hS => ?_)
      obtain ⟨rfl, hqv_255⟩ := hw_v_255
      rw [hqv_255] at hH
      refine hv_ti (y := nI 1) (by rw [inB_R, if_pos hz]) ?_
      refine hv_if_eq (pc := 22) (tgt := 38) (a := 1) S.1 S.2.1 (by omega) dX9_cone_22 (by decide) (fun c_257 => ?_) (fun c_257 => ?_)
      · skip
        exact absurd c_257 (by omega)
      · skip
        refine lv_iload_n (pc := 25) S.1 S.2.1 dX9_cone_25 rfl (lv_at hl 4 rfl) ?_
        refine lv_iconst (pc := 26) (v := nI 0) S.1 S.2.1 dX9_cone_26 (by decide) ?_
        refine lv_iconst (pc := 27) (v := nI 5) S.1 S.2.1 dX9_cone_27 (by decide) ?_
        by_cases ht : inR t 0 5
        · skip
          refine hv_call (pc := 28) (va_runS (As := [.int (t), .int (nI 0), .int (nI 5)]) (rest := []) S (c_isIn l D cA ga φ H.size t (nI 0) (nI 5)) (va_cwS 3 S.2.2.2.2 (gS tw_1031 tw_1032 tw_7 tw_1033) rfl rfl rfl (by decide +kernel) ⟨Nat.le_of_ble_eq_true rfl, Nat.le_of_ble_eq_true rfl⟩) (pre0_S hH hK hX hS hA) rfl rfl hl.1 rfl (lv_room (Nat.le_of_ble_eq_true rfl)) dX9_cone_28 ⟨Nat.le_of_ble_eq_true rfl, Nat.le_of_ble_eq_true rfl⟩) hS (af_le hH hS hA) (fun v_258 φ_259 H locs hw_v_258 hH hS => ?_)
          obtain ⟨rfl, hqv_258⟩ := hw_v_258
          rw [hqv_258] at hH
          refine hv_ti (y := nI 1) (by rw [inB_R, if_pos ht]) ?_
          refine hv_if_eq (pc := 31) (tgt := 38) (a := 1) S.1 S.2.1 (by omega) dX9_cone_31 (by decide) (fun c_260 => ?_) (fun c_260 => ?_)
          · skip
            exact absurd c_260 (by omega)
          · skip
            refine lv_iconst (pc := 34) (v := nI 1) S.1 S.2.1 dX9_cone_34 (by decide) ?_
            refine lv_goto (pc := 35) (tgt := 39) S.1 S.2.1 dX9_cone_35 (by decide) ?_
            refine lv_istore (pc := 39) (lv' := [(5, .int (nI 1)), (4, .int (nI 0)), (0, .ref (q 0)), (1, .int (x)), (2, .int (z)), (3, .int (t))]) S.1 S.2.1 dX9_cone_39 hl (by decide) rfl (fun ls hl => ?_)
            refine lv_aload_n (pc := 41) S.1 S.2.1 dX9_cone_41 rfl (lv_at hl 2 rfl) ?_
            refine lv_iload (pc := 42) S.1 S.2.1 dX9_cone_42 (lv_at hl 1 rfl) ?_
            refine hv_if_ne (pc := 44) (tgt := 51) (a := 0) S.1 S.2.1 (by omega) dX9_cone_44 (by decide) (fun c_261 => ?_) (fun c_261 => ?_)
            · skip
              exact absurd c_261 (by omega)
            · skip
              refine lv_iconst (pc := 47) (v := nI 1) S.1 S.2.1 dX9_cone_47 (by decide) ?_
              refine lv_goto (pc := 48) (tgt := 84) S.1 S.2.1 dX9_cone_48 (by decide) ?_
              have eX : coneX (sc 2) (sc 3) (ar 2) x z t = 3 := by rw [coneX, if_neg hx]
              refine hv_call (pc := 84) (va_runV (As := [.int (nI 1)]) (rest := []) S (c_m_goes l D cA ga φ H.size q sc ar (1) ⟨f0, f1, f2, f3, f4, f5, f6, f7, f8, f9, f10, f11, f12, f13, f14⟩ hq (by omega)) (cwV 1 S.2.2.2.2 (gV tw_1021 tw_1023 sw_32 tw_7 tw_1024) rfl rfl rfl (by decide +kernel) ⟨Nat.le_of_ble_eq_true rfl, Nat.le_of_ble_eq_true rfl⟩) (pre0_V hH hK hX hS hA (hH.recv hK f0 rfl)) rfl rfl hl.1 rfl (lv_room (Nat.le_of_ble_eq_true rfl)) dX9_cone_84 ⟨Nat.le_of_ble_eq_true rfl, Nat.le_of_ble_eq_true rfl⟩) hS (af_le hH hS hA) (fun v_262 φ_263 H locs hw_v_262 hH hS => ?_)
              obtain ⟨rfl, hm9⟩ := hw_v_262
              obtain ⟨f_264, f_265, f_266, f_267, f_268, f_269, f_270, f_271, f_272, f_273, f_274, f_275, f_276, f_277, f_278⟩ := hm9
              change φ_263 (q 0) = some (.inr (13, [.int (nI (sc 0)), .long (Int64.ofNat (sc 1)), .int (nI (sc 2)), .ref (q 1), .ref (q 2), .int (nI (sc 3)), .ref (q 3), .ref (q 4), .ref (q 5), .ref (q 6), .ref (q 7), .ref (q 8), .ref (q 9), .int (nI (sc 4)), .ref (q 10), .ref (q 11), .int (nI (sc 5)), .ref (q 12), .ref (q 13), .ref (q 14), .int (nI (sc 6)), .int (nI 1)])) at f_264
              refine hv_ti (y := nI 0) (rfl) ?_
              refine hv_if_ne (pc := 87) (tgt := 92) (a := 0) S.1 S.2.1 (by omega) dX9_cone_87 (by decide) (fun c_279 => ?_) (fun c_279 => ?_)
              · skip
                exact absurd c_279 (by omega)
              · skip
                refine lv_iconst (pc := 90) (v := nI 0) S.1 S.2.1 dX9_cone_90 (by decide) ?_
                exact hv_ret (pc := 91) (v := nI 0) S hr rfl hlocks hH hS (by rw [if_neg (by rw [eX]; decide), eX]; exact ⟨rfl, ⟨f_264, f_265, f_266, f_267, f_268, f_269, f_270, f_271, f_272, f_273, f_274, f_275, f_276, f_277, f_278⟩⟩) (Nat.le_of_ble_eq_true rfl) (Nat.le_of_ble_eq_true rfl) dX9_cone_91
        · skip
          refine hv_call (pc := 28) (va_runS (As := [.int (t), .int (nI 0), .int (nI 5)]) (rest := []) S (c_isIn l D cA ga φ H.size t (nI 0) (nI 5)) (va_cwS 3 S.2.2.2.2 (gS tw_1031 tw_1032 tw_7 tw_1033) rfl rfl rfl (by decide +kernel) ⟨Nat.le_of_ble_eq_true rfl, Nat.le_of_ble_eq_true rfl⟩) (pre0_S hH hK hX hS hA) rfl rfl hl.1 rfl (lv_room (Nat.le_of_ble_eq_true rfl)) dX9_cone_28 ⟨Nat.le_of_ble_eq_true rfl, Nat.le_of_ble_eq_true rfl⟩) hS (af_le hH hS hA) (fun v_280 φ_281 H locs hw_v_280 hH hS => ?_)
          obtain ⟨rfl, hqv_280⟩ := hw_v_280
          rw [hqv_280] at hH
          refine hv_ti (y := nI 0) (by rw [inB_R, if_neg ht]) ?_
          refine hv_if_eq (pc := 31) (tgt := 38) (a := 0) S.1 S.2.1 (by omega) dX9_cone_31 (by decide) (fun c_282 => ?_) (fun c_282 => ?_)
          · skip
            refine lv_iconst (pc := 38) (v := nI 0) S.1 S.2.1 dX9_cone_38 (by decide) ?_
            refine lv_istore (pc := 39) (lv' := [(5, .int (nI 0)), (4, .int (nI 0)), (0, .ref (q 0)), (1, .int (x)), (2, .int (z)), (3, .int (t))]) S.1 S.2.1 dX9_cone_39 hl (by decide) rfl (fun ls hl => ?_)
            refine lv_aload_n (pc := 41) S.1 S.2.1 dX9_cone_41 rfl (lv_at hl 2 rfl) ?_
            refine lv_iload (pc := 42) S.1 S.2.1 dX9_cone_42 (lv_at hl 1 rfl) ?_
            refine hv_if_ne (pc := 44) (tgt := 51) (a := 0) S.1 S.2.1 (by omega) dX9_cone_44 (by decide) (fun c_283 => ?_) (fun c_283 => ?_)
            · skip
              exact absurd c_283 (by omega)
            · skip
              refine lv_iconst (pc := 47) (v := nI 1) S.1 S.2.1 dX9_cone_47 (by decide) ?_
              refine lv_goto (pc := 48) (tgt := 84) S.1 S.2.1 dX9_cone_48 (by decide) ?_
              have eX : coneX (sc 2) (sc 3) (ar 2) x z t = 3 := by rw [coneX, if_neg hx]
              refine hv_call (pc := 84) (va_runV (As := [.int (nI 1)]) (rest := []) S (c_m_goes l D cA ga φ H.size q sc ar (1) ⟨f0, f1, f2, f3, f4, f5, f6, f7, f8, f9, f10, f11, f12, f13, f14⟩ hq (by omega)) (cwV 1 S.2.2.2.2 (gV tw_1021 tw_1023 sw_32 tw_7 tw_1024) rfl rfl rfl (by decide +kernel) ⟨Nat.le_of_ble_eq_true rfl, Nat.le_of_ble_eq_true rfl⟩) (pre0_V hH hK hX hS hA (hH.recv hK f0 rfl)) rfl rfl hl.1 rfl (lv_room (Nat.le_of_ble_eq_true rfl)) dX9_cone_84 ⟨Nat.le_of_ble_eq_true rfl, Nat.le_of_ble_eq_true rfl⟩) hS (af_le hH hS hA) (fun v_284 φ_285 H locs hw_v_284 hH hS => ?_)
              obtain ⟨rfl, hm9⟩ := hw_v_284
              obtain ⟨f_286, f_287, f_288, f_289, f_290, f_291, f_292, f_293, f_294, f_295, f_296, f_297, f_298, f_299, f_300⟩ := hm9
              change φ_285 (q 0) = some (.inr (13, [.int (nI (sc 0)), .long (Int64.ofNat (sc 1)), .int (nI (sc 2)), .ref (q 1), .ref (q 2), .int (nI (sc 3)), .ref (q 3), .ref (q 4), .ref (q 5), .ref (q 6), .ref (q 7), .ref (q 8), .ref (q 9), .int (nI (sc 4)), .ref (q 10), .ref (q 11), .int (nI (sc 5)), .ref (q 12), .ref (q 13), .ref (q 14), .int (nI (sc 6)), .int (nI 1)])) at f_286
              refine hv_ti (y := nI 0) (rfl) ?_
              refine hv_if_ne (pc := 87) (tgt := 92) (a := 0) S.1 S.2.1 (by omega) dX9_cone_87 (by decide) (fun c_301 => ?_) (fun c_301 => ?_)
              · skip
                exact absurd c_301 (by omega)
              · skip
                refine lv_iconst (pc := 90) (v := nI 0) S.1 S.2.1 dX9_cone_90 (by decide) ?_
                exact hv_ret (pc := 91) (v := nI 0) S hr rfl hlocks hH hS (by rw [if_neg (by rw [eX]; decide), eX]; exact ⟨rfl, ⟨f_286, f_287, f_288, f_289, f_290, f_291, f_292, f_293, f_294, f_295, f_296, f_297, f_298, f_299, f_300⟩⟩) (Nat.le_of_ble_eq_true rfl) (Nat.le_of_ble_eq_true rfl) dX9_cone_91
          · skip
            exact absurd c_282 (by omega)
    · skip
      refine hv_call (pc := 19) (va_runS (As := [.int (z), .int (nI 10), .int (nI 500)]) (rest := []) S (c_isIn l D cA ga φ H.size z (nI 10) (nI 500)) (va_cwS 3 S.2.2.2.2 (gS tw_1031 tw_1032 tw_7 tw_1033) rfl rfl rfl (by decide +kernel) ⟨Nat.le_of_ble_eq_true rfl, Nat.le_of_ble_eq_true rfl⟩) (pre0_S hH hK hX hS hA) rfl rfl hl.1 rfl (lv_room (Nat.le_of_ble_eq_true rfl)) dX9_cone_19 ⟨Nat.le_of_ble_eq_true rfl, Nat.le_of_ble_eq_true rfl⟩) hS (af_le hH hS hA) (fun v_302 φ_303 H locs hw_v_302 hH hS => ?_)
      obtain ⟨rfl, hqv_302⟩ := hw_v_302
      rw [hqv_302] at hH
      refine hv_ti (y := nI 0) (by rw [inB_R, if_neg hz]) ?_
      refine hv_if_eq (pc := 22) (tgt := 38) (a := 0) S.1 S.2.1 (by omega) dX9_cone_22 (by decide) (fun c_304 => ?_) (fun c_304 => ?_)
      · skip
        refine lv_iconst (pc := 38) (v := nI 0) S.1 S.2.1 dX9_cone_38 (by decide) ?_
        refine lv_istore (pc := 39) (lv' := [(5, .int (nI 0)), (4, .int (nI 0)), (0, .ref (q 0)), (1, .int (x)), (2, .int (z)), (3, .int (t))]) S.1 S.2.1 dX9_cone_39 hl (by decide) rfl (fun ls hl => ?_)
        refine lv_aload_n (pc := 41) S.1 S.2.1 dX9_cone_41 rfl (lv_at hl 2 rfl) ?_
        refine lv_iload (pc := 42) S.1 S.2.1 dX9_cone_42 (lv_at hl 1 rfl) ?_
        refine hv_if_ne (pc := 44) (tgt := 51) (a := 0) S.1 S.2.1 (by omega) dX9_cone_44 (by decide) (fun c_305 => ?_) (fun c_305 => ?_)
        · skip
          exact absurd c_305 (by omega)
        · skip
          refine lv_iconst (pc := 47) (v := nI 1) S.1 S.2.1 dX9_cone_47 (by decide) ?_
          refine lv_goto (pc := 48) (tgt := 84) S.1 S.2.1 dX9_cone_48 (by decide) ?_
          have eX : coneX (sc 2) (sc 3) (ar 2) x z t = 3 := by rw [coneX, if_neg hx]
          refine hv_call (pc := 84) (va_runV (As := [.int (nI 1)]) (rest := []) S (c_m_goes l D cA ga φ H.size q sc ar (1) ⟨f0, f1, f2, f3, f4, f5, f6, f7, f8, f9, f10, f11, f12, f13, f14⟩ hq (by omega)) (cwV 1 S.2.2.2.2 (gV tw_1021 tw_1023 sw_32 tw_7 tw_1024) rfl rfl rfl (by decide +kernel) ⟨Nat.le_of_ble_eq_true rfl, Nat.le_of_ble_eq_true rfl⟩) (pre0_V hH hK hX hS hA (hH.recv hK f0 rfl)) rfl rfl hl.1 rfl (lv_room (Nat.le_of_ble_eq_true rfl)) dX9_cone_84 ⟨Nat.le_of_ble_eq_true rfl, Nat.le_of_ble_eq_true rfl⟩) hS (af_le hH hS hA) (fun v_306 φ_307 H locs hw_v_306 hH hS => ?_)
          obtain ⟨rfl, hm9⟩ := hw_v_306
          obtain ⟨f_308, f_309, f_310, f_311, f_312, f_313, f_314, f_315, f_316, f_317, f_318, f_319, f_320, f_321, f_322⟩ := hm9
          change φ_307 (q 0) = some (.inr (13, [.int (nI (sc 0)), .long (Int64.ofNat (sc 1)), .int (nI (sc 2)), .ref (q 1), .ref (q 2), .int (nI (sc 3)), .ref (q 3), .ref (q 4), .ref (q 5), .ref (q 6), .ref (q 7), .ref (q 8), .ref (q 9), .int (nI (sc 4)), .ref (q 10), .ref (q 11), .int (nI (sc 5)), .ref (q 12), .ref (q 13), .ref (q 14), .int (nI (sc 6)), .int (nI 1)])) at f_308
          refine hv_ti (y := nI 0) (rfl) ?_
          refine hv_if_ne (pc := 87) (tgt := 92) (a := 0) S.1 S.2.1 (by omega) dX9_cone_87 (by decide) (fun c_323 => ?_) (fun c_323 => ?_)
          · skip
            exact absurd c_323 (by omega)
          · skip
            refine lv_iconst (pc := 90) (v := nI 0) S.1 S.2.1 dX9_cone_90 (by decide) ?_
            exact hv_ret (pc := 91) (v := nI 0) S hr rfl hlocks hH hS (by rw [if_neg (by rw [eX]; decide), eX]; exact ⟨rfl, ⟨f_308, f_309, f_310, f_311, f_312, f_313, f_314, f_315, f_316, f_317, f_318, f_319, f_320, f_321, f_322⟩⟩) (Nat.le_of_ble_eq_true rfl) (Nat.le_of_ble_eq_true rfl) dX9_cone_91
      · skip
        exact absurd c_304 (by omega)
