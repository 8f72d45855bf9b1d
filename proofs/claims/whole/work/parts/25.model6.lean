/-- an array in which the first i places from b on have been set to f -/
def pfy (g : Nat → Nat) (b : Nat) (f : Nat → Nat) (i : Nat) : Nat → Nat := fun j => if b ≤ j ∧ j < b + i then f (j - b) else g j
theorem pfy_0 (g : Nat → Nat) (b : Nat) (f : Nat → Nat) : pfy g b f 0 = g := by
  funext j
  simp only [pfy, Nat.add_zero]
  rw [if_neg (by omega)]
theorem pfy_up (g : Nat → Nat) (b : Nat) (f : Nat → Nat) (i : Nat) : va_up (pfy g b f i) (b + i) (f i) = pfy g b f (i + 1) := by
  funext j
  by_cases h : j = b + i
  · subst h
    simp only [va_up, pfy, if_true]
    rw [if_pos (by omega), Nat.add_sub_cancel_left]
  · by_cases h2 : b ≤ j ∧ j < b + i
    · simp only [va_up, pfy, if_neg h, if_pos h2]
      rw [if_pos (by omega)]
    · simp only [va_up, pfy, if_neg h, if_neg h2]
      rw [if_neg (by omega)]
theorem pfy_at (g : Nat → Nat) (b : Nat) (f : Nat → Nat) (i : Nat) : pfy g b f i (b + i) = g (b + i) := by
  simp only [pfy]
  rw [if_neg (by omega)]
theorem pfy_in {g : Nat → Nat} {b : Nat} {f : Nat → Nat} {i j : Nat} (h : j < i) : pfy g b f i (b + j) = f j := by
  simp only [pfy]
  rw [if_pos (by omega), Nat.add_sub_cancel_left]
set_option maxHeartbeats 4000000 in
set_option maxRecDepth 100000 in
/-- fits -/
theorem c_m_fits (l : Launch) (D : va_G) (cA : Nat → ClassId) (ga : Nat → Nat → Nat) (φ : hpM) (sz : Nat) (q : Nat → Nat) (sc : Nat → Nat) (ar : Nat → Nat → Nat) (x : Int32) (hm : MP cA q sc ar φ) (hq : ∀ i j, i < 15 → j < 15 → q i = q j → i = j) (hnc : sc 3 ≤ 12) (hr2 : ∀ j, ar 14 j ≤ 200) (h4 : ∀ i, i < 6 * sc 3 → ar 4 i ≤ 1200) : hM l yX9_fits cX9_fits 2 (some .boolean) { frames := 10, cells := 0, slots := 0, locals := 320 } [.ref (q 0), .int (x)] D cA ga φ sz (fun v φ' => if inX (sc 3) x = 0 then (∃ x1 : Nat, x = nI x1 ∧ v = some (.int (nI (fiR (ar 4 (6 * x1)) (smN (ar 14) 8 * 785 / 1000)))) ∧ MP cA q (va_up sc 7 (0)) ar φ') else (v = some (.int (nI 0)) ∧ MP cA q (va_up sc 7 (mcd 9 9 1 (inX (sc 3) x))) ar φ')) 0 0 := by
  refine hM.of (by decide) (Nat.le_of_ble_eq_true rfl) rfl ?_
  intro p e s m args below meth c ls H locs S hr hlocks hnm hsz hHz hH hK hX hS hA hl
  obtain ⟨f0, f1, f2, f3, f4, f5, f6, f7, f8, f9, f10, f11, f12, f13, f14⟩ := hm
  refine lv_aload_n (pc := 0) S.1 S.2.1 dX9_fits_0 rfl (lv_at hl 0 rfl) ?_
  refine lv_aload_n (pc := 1) S.1 S.2.1 dX9_fits_1 rfl (lv_at hl 0 rfl) ?_
  refine lv_iload_n (pc := 2) S.1 S.2.1 dX9_fits_2 rfl (lv_at hl 1 rfl) ?_
  by_cases hx : inN x (sc 3)
  · skip
    obtain ⟨x1, rfl, hxn⟩ := hx.nat (by omega)
    refine hv_call (pc := 3) (va_runV (As := [.int (nI x1)]) (rest := [.ref (q 0)]) S (c_m_isCone l D cA ga φ H.size q sc ar (nI x1) ⟨f0, f1, f2, f3, f4, f5, f6, f7, f8, f9, f10, f11, f12, f13, f14⟩ hq hnc) (cwV 1 S.2.2.2.2 (gV tw_1057 tw_1059 sw_35 tw_7 tw_1060) rfl rfl rfl (by decide +kernel) ⟨Nat.le_of_ble_eq_true rfl, Nat.le_of_ble_eq_true rfl⟩) (pre0_V hH hK hX hS hA (hH.recv hK f0 rfl)) rfl rfl hl.1 rfl (lv_room (Nat.le_of_ble_eq_true rfl)) dX9_fits_3 ⟨Nat.le_of_ble_eq_true rfl, Nat.le_of_ble_eq_true rfl⟩) hS (af_le hH hS hA) (fun v_1 φ_2 H locs hw_v_1 hH hS => ?_)
    obtain ⟨rfl, hqv_1⟩ := hw_v_1
    rw [hqv_1] at hH
    refine hv_ti (y := nI 1) (by rw [if_pos hx]) ?_
    refine hv_if_eq (pc := 6) (tgt := 13) (a := 1) S.1 S.2.1 (by omega) dX9_fits_6 (by decide) (fun c_3 => ?_) (fun c_3 => ?_)
    · skip
      exact absurd c_3 (by omega)
    · skip
      refine lv_iconst (pc := 9) (v := nI 0) S.1 S.2.1 dX9_fits_9 (by decide) ?_
      refine lv_goto (pc := 10) (tgt := 14) S.1 S.2.1 dX9_fits_10 (by decide) ?_
      have eX : inX (sc 3) (nI x1) = 0 := by rw [inX, if_pos hx]
      refine hv_call (pc := 14) (va_runV (As := [.int (nI 0)]) (rest := []) S (c_m_goes l D cA ga φ H.size q sc ar (0) ⟨f0, f1, f2, f3, f4, f5, f6, f7, f8, f9, f10, f11, f12, f13, f14⟩ hq (by omega)) (cwV 1 S.2.2.2.2 (gV tw_1021 tw_1023 sw_32 tw_7 tw_1024) rfl rfl rfl (by decide +kernel) ⟨Nat.le_of_ble_eq_true rfl, Nat.le_of_ble_eq_true rfl⟩) (pre0_V hH hK hX hS hA (hH.recv hK f0 rfl)) rfl rfl hl.1 rfl (lv_room (Nat.le_of_ble_eq_true rfl)) dX9_fits_14 ⟨Nat.le_of_ble_eq_true rfl, Nat.le_of_ble_eq_true rfl⟩) hS (af_le hH hS hA) (fun v_4 φ_5 H locs hw_v_4 hH hS => ?_)
      obtain ⟨rfl, hm9⟩ := hw_v_4
      obtain ⟨f_6, f_7, f_8, f_9, f_10, f_11, f_12, f_13, f_14, f_15, f_16, f_17, f_18, f_19, f_20⟩ := hm9
      change φ_5 (q 0) = some (.inr (13, [.int (nI (sc 0)), .long (Int64.ofNat (sc 1)), .int (nI (sc 2)), .ref (q 1), .ref (q 2), .int (nI (sc 3)), .ref (q 3), .ref (q 4), .ref (q 5), .ref (q 6), .ref (q 7), .ref (q 8), .ref (q 9), .int (nI (sc 4)), .ref (q 10), .ref (q 11), .int (nI (sc 5)), .ref (q 12), .ref (q 13), .ref (q 14), .int (nI (sc 6)), .int (nI 0)])) at f_6
      refine hv_ti (y := nI 1) (rfl) ?_
      refine hv_if_eq (pc := 17) (tgt := 47) (a := 1) S.1 S.2.1 (by omega) dX9_fits_17 (by decide) (fun c_21 => ?_) (fun c_21 => ?_)
      · skip
        exact absurd c_21 (by omega)
      · skip
        have h4x := h4 (6 * x1) (by omega)
        have hs8 := smN_le hr2 8
        refine lv_aload_n (pc := 20) S.1 S.2.1 dX9_fits_20 rfl (lv_at hl 0 rfl) ?_
        refine hv_get (pc := 21) (C := RX9) (T := TX9) (N := 22) (ref := RX9) S uwX9 hK hH f_6 rfl 7 (by decide) tw_952 (fun _ h9 => h9) rfl dX9_fits_21 ?_
        refine lv_bipush (pc := 24) (v := nI 6) S.1 S.2.1 dX9_fits_24 (by decide) ?_
        refine lv_iload_n (pc := 26) S.1 S.2.1 dX9_fits_26 rfl (lv_at hl 1 rfl) ?_
        refine lv_imul (pc := 27) S.1 S.2.1 dX9_fits_27 ?_
        refine hv_ti (y := nI (6 * x1)) (pk_mul _ _) ?_
        refine hv_iald (pc := 28) S hK hH 1 f_10 rfl (vp_in_nI (by omega) (by omega)) dX9_fits_28 ?_
        refine hv_ti (y := nI ((ar 4) (6 * x1))) (hv_ld (by omega)) ?_
        refine lv_aload_n (pc := 29) S.1 S.2.1 dX9_fits_29 rfl (lv_at hl 0 rfl) ?_
        refine hv_call (pc := 30) (va_runV (As := []) (rest := [.int (nI ((ar 4) (6 * x1)))]) S (c_m_around l D cA ga φ_5 H.size q (va_up sc 7 (0)) ar  ⟨f_6, f_7, f_8, f_9, f_10, f_11, f_12, f_13, f_14, f_15, f_16, f_17, f_18, f_19, f_20⟩ hq hr2) (cwV 0 S.2.2.2.2 (gV tw_1164 tw_1166 sw_43 tw_7 tw_1167) rfl rfl rfl (by decide +kernel) ⟨Nat.le_of_ble_eq_true rfl, Nat.le_of_ble_eq_true rfl⟩) (pre0_V hH hK hX hS hA (hH.recv hK f_6 rfl)) rfl rfl hl.1 rfl (lv_room (Nat.le_of_ble_eq_true rfl)) dX9_fits_30 ⟨Nat.le_of_ble_eq_true rfl, Nat.le_of_ble_eq_true rfl⟩) hS (af_le hH hS hA) (fun v_22 φ_23 H locs hw_v_22 hH hS => ?_)
        obtain ⟨rfl, hqv_22⟩ := hw_v_22
        rw [hqv_22] at hH
        refine lv_isub (pc := 33) S.1 S.2.1 dX9_fits_33 ?_
        by_cases hle : smN (ar 14) 8 * 785 / 1000 ≤ ar 4 (6 * x1)
        · skip
          refine hv_ti (y := nI (ar 4 (6 * x1) - smN (ar 14) 8 * 785 / 1000)) (pk_sub hle) ?_
          refine lv_iconst (pc := 34) (v := nI 0) S.1 S.2.1 dX9_fits_34 (by decide) ?_
          refine lv_bipush (pc := 35) (v := nI 12) S.1 S.2.1 dX9_fits_35 (by decide) ?_
          refine hv_call (pc := 37) (va_runS (As := [.int (nI (ar 4 (6 * x1) - smN (ar 14) 8 * 785 / 1000)), .int (nI 0), .int (nI 12)]) (rest := []) S (c_isIn l D cA ga φ_5 H.size (nI (ar 4 (6 * x1) - smN (ar 14) 8 * 785 / 1000)) (nI 0) (nI 12)) (va_cwS 3 S.2.2.2.2 (gS tw_1031 tw_1032 tw_7 tw_1033) rfl rfl rfl (by decide +kernel) ⟨Nat.le_of_ble_eq_true rfl, Nat.le_of_ble_eq_true rfl⟩) (pre0_S hH hK hX hS hA) rfl rfl hl.1 rfl (lv_room (Nat.le_of_ble_eq_true rfl)) dX9_fits_37 ⟨Nat.le_of_ble_eq_true rfl, Nat.le_of_ble_eq_true rfl⟩) hS (af_le hH hS hA) (fun v_24 φ_25 H locs hw_v_24 hH hS => ?_)
          obtain ⟨rfl, hqv_24⟩ := hw_v_24
          rw [hqv_24] at hH
          by_cases h12 : ar 4 (6 * x1) ≤ smN (ar 14) 8 * 785 / 1000 + 12
          · skip
            refine hv_ti (y := nI 1) (by rw [inB_R, if_pos ((inR_nI (by omega) (by omega) (by omega)).mpr ⟨by omega, by omega⟩)]) ?_
            refine hv_if_eq (pc := 40) (tgt := 47) (a := 1) S.1 S.2.1 (by omega) dX9_fits_40 (by decide) (fun c_26 => ?_) (fun c_26 => ?_)
            · skip
              exact absurd c_26 (by omega)
            · skip
              refine lv_iconst (pc := 43) (v := nI 1) S.1 S.2.1 dX9_fits_43 (by decide) ?_
              refine lv_goto (pc := 44) (tgt := 48) S.1 S.2.1 dX9_fits_44 (by decide) ?_
              exact hv_ret (pc := 48) (v := nI 1) S hr rfl hlocks hH hS (by rw [if_pos eX]; exact ⟨x1, rfl, by rw [fiR, if_pos ⟨hle, h12⟩], ⟨f_6, f_7, f_8, f_9, f_10, f_11, f_12, f_13, f_14, f_15, f_16, f_17, f_18, f_19, f_20⟩⟩) (Nat.le_of_ble_eq_true rfl) (Nat.le_of_ble_eq_true rfl) dX9_fits_48
          · skip
            refine hv_ti (y := nI 0) (by rw [inB_R, if_neg (fun h => h12 (by have := (inR_nI (by omega) (by omega) (by omega)).mp h; omega))]) ?_
            refine hv_if_eq (pc := 40) (tgt := 47) (a := 0) S.1 S.2.1 (by omega) dX9_fits_40 (by decide) (fun c_27 => ?_) (fun c_27 => ?_)
            · skip
              refine lv_iconst (pc := 47) (v := nI 0) S.1 S.2.1 dX9_fits_47 (by decide) ?_
              exact hv_ret (pc := 48) (v := nI 0) S hr rfl hlocks hH hS (by rw [if_pos eX]; exact ⟨x1, rfl, by rw [fiR, if_neg (fun h => h12 h.2)], ⟨f_6, f_7, f_8, f_9, f_10, f_11, f_12, f_13, f_14, f_15, f_16, f_17, f_18, f_19, f_20⟩⟩) (Nat.le_of_ble_eq_true rfl) (Nat.le_of_ble_eq_true rfl) dX9_fits_48
            · skip
              exact absurd c_27 (by omega)
        · skip
          have hneg : nI (ar 4 (6 * x1)) - nI (smN (ar 14) 8 * 785 / 1000) < 0 := pk_sneg (by omega) (by omega)
          refine lv_iconst (pc := 34) (v := nI 0) S.1 S.2.1 dX9_fits_34 (by decide) ?_
          refine lv_bipush (pc := 35) (v := nI 12) S.1 S.2.1 dX9_fits_35 (by decide) ?_
          refine hv_call (pc := 37) (va_runS (As := [.int (nI ((ar 4) (6 * x1)) - nI (smN (ar 14) 8 * 785 / 1000)), .int (nI 0), .int (nI 12)]) (rest := []) S (c_isIn l D cA ga φ_5 H.size (nI (ar 4 (6 * x1)) - nI (smN (ar 14) 8 * 785 / 1000)) (nI 0) (nI 12)) (va_cwS 3 S.2.2.2.2 (gS tw_1031 tw_1032 tw_7 tw_1033) rfl rfl rfl (by decide +kernel) ⟨Nat.le_of_ble_eq_true rfl, Nat.le_of_ble_eq_true rfl⟩) (pre0_S hH hK hX hS hA) rfl rfl hl.1 rfl (lv_room (Nat.le_of_ble_eq_true rfl)) dX9_fits_37 ⟨Nat.le_of_ble_eq_true rfl, Nat.le_of_ble_eq_true rfl⟩) hS (af_le hH hS hA) (fun v_28 φ_29 H locs hw_v_28 hH hS => ?_)
          obtain ⟨rfl, hqv_28⟩ := hw_v_28
          rw [hqv_28] at hH
          refine hv_ti (y := nI 0) (by rw [inB, if_neg (fun h => i32_lt_nle hneg h.1)]) ?_
          refine hv_if_eq (pc := 40) (tgt := 47) (a := 0) S.1 S.2.1 (by omega) dX9_fits_40 (by decide) (fun c_30 => ?_) (fun c_30 => ?_)
          · skip
            refine lv_iconst (pc := 47) (v := nI 0) S.1 S.2.1 dX9_fits_47 (by decide) ?_
            exact hv_ret (pc := 48) (v := nI 0) S hr rfl hlocks hH hS (by rw [if_pos eX]; exact ⟨x1, rfl, by rw [fiR, if_neg (fun h => hle h.1)], ⟨f_6, f_7, f_8, f_9, f_10, f_11, f_12, f_13, f_14, f_15, f_16, f_17, f_18, f_19, f_20⟩⟩) (Nat.le_of_ble_eq_true rfl) (Nat.le_of_ble_eq_true rfl) dX9_fits_48
          · skip
            exact absurd c_30 (by omega)
  · skip
    refine hv_call (pc := 3) (va_runV (As := [.int (x)]) (rest := [.ref (q 0)]) S (c_m_isCone l D cA ga φ H.size q sc ar x ⟨f0, f1, f2, f3, f4, f5, f6, f7, f8, f9, f10, f11, f12, f13, f14⟩ hq hnc) (cwV 1 S.2.2.2.2 (gV tw_1057 tw_1059 sw_35 tw_7 tw_1060) rfl rfl rfl (by decide +kernel) ⟨Nat.le_of_ble_eq_true rfl, Nat.le_of_ble_eq_true rfl⟩) (pre0_V hH hK hX hS hA (hH.recv hK f0 rfl)) rfl rfl hl.1 rfl (lv_room (Nat.le_of_ble_eq_true rfl)) dX9_fits_3 ⟨Nat.le_of_ble_eq_true rfl, Nat.le_of_ble_eq_true rfl⟩) hS (af_le hH hS hA) (fun v_31 φ_32 H locs hw_v_31 hH hS => ?_)
    obtain ⟨rfl, hqv_31⟩ := hw_v_31
    rw [hqv_31] at hH
    refine hv_ti (y := nI 0) (by rw [if_neg hx]) ?_
    refine hv_if_eq (pc := 6) (tgt := 13) (a := 0) S.1 S.2.1 (by omega) dX9_fits_6 (by decide) (fun c_33 => ?_) (fun c_33 => ?_)
    · skip
      refine lv_iconst (pc := 13) (v := nI 1) S.1 S.2.1 dX9_fits_13 (by decide) ?_
      have eX : inX (sc 3) x = 3 := by rw [inX, if_neg hx]
      refine hv_call (pc := 14) (va_runV (As := [.int (nI 1)]) (rest := []) S (c_m_goes l D cA ga φ H.size q sc ar (1) ⟨f0, f1, f2, f3, f4, f5, f6, f7, f8, f9, f10, f11, f12, f13, f14⟩ hq (by omega)) (cwV 1 S.2.2.2.2 (gV tw_1021 tw_1023 sw_32 tw_7 tw_1024) rfl rfl rfl (by decide +kernel) ⟨Nat.le_of_ble_eq_true rfl, Nat.le_of_ble_eq_true rfl⟩) (pre0_V hH hK hX hS hA (hH.recv hK f0 rfl)) rfl rfl hl.1 rfl (lv_room (Nat.le_of_ble_eq_true rfl)) dX9_fits_14 ⟨Nat.le_of_ble_eq_true rfl, Nat.le_of_ble_eq_true rfl⟩) hS (af_le hH hS hA) (fun v_34 φ_35 H locs hw_v_34 hH hS => ?_)
      obtain ⟨rfl, hm9⟩ := hw_v_34
      obtain ⟨f_36, f_37, f_38, f_39, f_40, f_41, f_42, f_43, f_44, f_45, f_46, f_47, f_48, f_49, f_50⟩ := hm9
      change φ_35 (q 0) = some (.inr (13, [.int (nI (sc 0)), .long (Int64.ofNat (sc 1)), .int (nI (sc 2)), .ref (q 1), .ref (q 2), .int (nI (sc 3)), .ref (q 3), .ref (q 4), .ref (q 5), .ref (q 6), .ref (q 7), .ref (q 8), .ref (q 9), .int (nI (sc 4)), .ref (q 10), .ref (q 11), .int (nI (sc 5)), .ref (q 12), .ref (q 13), .ref (q 14), .int (nI (sc 6)), .int (nI 1)])) at f_36
      refine hv_ti (y := nI 0) (rfl) ?_
      refine hv_if_eq (pc := 17) (tgt := 47) (a := 0) S.1 S.2.1 (by omega) dX9_fits_17 (by decide) (fun c_51 => ?_) (fun c_51 => ?_)
      · skip
        refine lv_iconst (pc := 47) (v := nI 0) S.1 S.2.1 dX9_fits_47 (by decide) ?_
        exact hv_ret (pc := 48) (v := nI 0) S hr rfl hlocks hH hS (by rw [if_neg (by rw [eX]; decide), eX]; exact ⟨rfl, ⟨f_36, f_37, f_38, f_39, f_40, f_41, f_42, f_43, f_44, f_45, f_46, f_47, f_48, f_49, f_50⟩⟩) (Nat.le_of_ble_eq_true rfl) (Nat.le_of_ble_eq_true rfl) dX9_fits_48
      · skip
        exact absurd c_51 (by omega)
    · skip
      exact absurd c_33 (by omega)
