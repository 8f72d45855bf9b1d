def mcd (a b c X : Nat) : Nat := match X with
  | 1 => a
  | 2 => b
  | 3 => c
  | _ => 0
theorem wkO_lt (off tl : Nat) : ∀ n j r, wkO off tl n j = some r → r < j + n
  | 0, j, r, h => by simp [wkO] at h
  | n + 1, j, r, h => by
    unfold wkO at h
    split at h
    · cases h; omega
    · have := wkO_lt off tl n (j + 1) r h; omega
theorem nI_nm1 {a : Nat} (h : a < 2 ^ 31) : ¬ nI a = -1 := fun e => by
  have h1 := congrArg Int32.toInt e
  rw [nI_toInt h] at h1
  have h2 : (-1 : Int32).toInt = -1 := by decide
  omega
theorem jb_narZ2 : ∀ x, x < 2 → vp_nar .boolean (nI x) = nI x := by decide +kernel
set_option maxHeartbeats 4000000 in
set_option maxRecDepth 100000 in
/-- hand -/
theorem c_m_hand (l : Launch) (D : va_G) (cA : Nat → ClassId) (ga : Nat → Nat → Nat) (φ : hpM) (sz : Nat) (q : Nat → Nat) (sc : Nat → Nat) (ar : Nat → Nat → Nat) (hm : MP cA q sc ar φ) (hq : ∀ i j, i < 15 → j < 15 → q i = q j → i = j) (hk : sc 5 ≤ 6) : hM l yX9_hand cX9_hand 1 (some .int) { frames := 9, cells := 0, slots := 0, locals := 260 } [.ref (q 0)] D cA ga φ sz (fun v φ' => if handX (sc 5) = 0 then (v = some (.int (nI (sc 5))) ∧ MP cA q (va_up (va_up sc 5 (sc 5 + 1)) 7 (0)) ar φ') else (v = some (.int (nI 0)) ∧ MP cA q (va_up sc 7 (mcd 9 1 9 (handX (sc 5)))) ar φ')) 0 0 := by
  refine hM.of (by decide) (Nat.le_of_ble_eq_true rfl) rfl ?_
  intro p e s m args below meth c ls H locs S hr hlocks hnm hsz hHz hH hK hX hS hA hl
  obtain ⟨f0, f1, f2, f3, f4, f5, f6, f7, f8, f9, f10, f11, f12, f13, f14⟩ := hm
  refine lv_aload_n (pc := 0) S.1 S.2.1 dX9_hand_0 rfl (lv_at hl 0 rfl) ?_
  refine lv_aload_n (pc := 1) S.1 S.2.1 dX9_hand_1 rfl (lv_at hl 0 rfl) ?_
  refine hv_get (pc := 2) (C := RX9) (T := TX9) (N := 22) (ref := RX9) S uwX9 hK hH f0 rfl 16 (by decide) tw_961 (fun _ h9 => h9) rfl dX9_hand_2 ?_
  refine lv_bipush (pc := 5) (v := nI 6) S.1 S.2.1 dX9_hand_5 (by decide) ?_
  by_cases h6 : sc 5 = 6
  · skip
    refine hv_icmp_ne (pc := 7) (tgt := 14) (a := sc 5) (b := 6) S.1 S.2.1 (by omega) (by omega) dX9_hand_7 (by decide) (fun c_1 => ?_) (fun c_1 => ?_)
    · skip
      exact absurd c_1 (by omega)
    · skip
      refine lv_iconst (pc := 10) (v := nI 1) S.1 S.2.1 dX9_hand_10 (by decide) ?_
      refine lv_goto (pc := 11) (tgt := 15) S.1 S.2.1 dX9_hand_11 (by decide) ?_
      have eX : handX (sc 5) = 2 := by rw [handX, if_neg (by omega)]
      refine hv_call (pc := 15) (va_runV (As := [.int (nI 1)]) (rest := []) S (c_m_goes l D cA ga φ H.size q sc ar (1) ⟨f0, f1, f2, f3, f4, f5, f6, f7, f8, f9, f10, f11, f12, f13, f14⟩ hq (by omega)) (cwV 1 S.2.2.2.2 (gV tw_1021 tw_1023 sw_32 tw_7 tw_1024) rfl rfl rfl (by decide +kernel) ⟨Nat.le_of_ble_eq_true rfl, Nat.le_of_ble_eq_true rfl⟩) (pre0_V hH hK hX hS hA (hH.recv hK f0 rfl)) rfl rfl hl.1 rfl (lv_room (Nat.le_of_ble_eq_true rfl)) dX9_hand_15 ⟨Nat.le_of_ble_eq_true rfl, Nat.le_of_ble_eq_true rfl⟩) hS (af_le hH hS hA) (fun v_2 φ_3 H locs hw_v_2 hH hS => ?_)
      obtain ⟨rfl, hm9⟩ := hw_v_2
      obtain ⟨f_4, f_5, f_6, f_7, f_8, f_9, f_10, f_11, f_12, f_13, f_14, f_15, f_16, f_17, f_18⟩ := hm9
      change φ_3 (q 0) = some (.inr (13, [.int (nI (sc 0)), .long (Int64.ofNat (sc 1)), .int (nI (sc 2)), .ref (q 1), .ref (q 2), .int (nI (sc 3)), .ref (q 3), .ref (q 4), .ref (q 5), .ref (q 6), .ref (q 7), .ref (q 8), .ref (q 9), .int (nI (sc 4)), .ref (q 10), .ref (q 11), .int (nI (sc 5)), .ref (q 12), .ref (q 13), .ref (q 14), .int (nI (sc 6)), .int (nI 1)])) at f_4
      refine hv_ti (y := nI 0) (rfl) ?_
      refine hv_if_ne (pc := 18) (tgt := 23) (a := 0) S.1 S.2.1 (by omega) dX9_hand_18 (by decide) (fun c_19 => ?_) (fun c_19 => ?_)
      · skip
        exact absurd c_19 (by omega)
      · skip
        refine lv_iconst (pc := 21) (v := nI 0) S.1 S.2.1 dX9_hand_21 (by decide) ?_
        exact hv_ret (pc := 22) (v := nI 0) S hr rfl hlocks hH hS (by rw [if_neg (by rw [eX]; decide), eX]; exact ⟨rfl, ⟨f_4, f_5, f_6, f_7, f_8, f_9, f_10, f_11, f_12, f_13, f_14, f_15, f_16, f_17, f_18⟩⟩) (Nat.le_of_ble_eq_true rfl) (Nat.le_of_ble_eq_true rfl) dX9_hand_22
  · skip
    refine hv_icmp_ne (pc := 7) (tgt := 14) (a := sc 5) (b := 6) S.1 S.2.1 (by omega) (by omega) dX9_hand_7 (by decide) (fun c_20 => ?_) (fun c_20 => ?_)
    · skip
      refine lv_iconst (pc := 14) (v := nI 0) S.1 S.2.1 dX9_hand_14 (by decide) ?_
      have eX : handX (sc 5) = 0 := by rw [handX, if_pos (by omega)]
      refine hv_call (pc := 15) (va_runV (As := [.int (nI 0)]) (rest := []) S (c_m_goes l D cA ga φ H.size q sc ar (0) ⟨f0, f1, f2, f3, f4, f5, f6, f7, f8, f9, f10, f11, f12, f13, f14⟩ hq (by omega)) (cwV 1 S.2.2.2.2 (gV tw_1021 tw_1023 sw_32 tw_7 tw_1024) rfl rfl rfl (by decide +kernel) ⟨Nat.le_of_ble_eq_true rfl, Nat.le_of_ble_eq_true rfl⟩) (pre0_V hH hK hX hS hA (hH.recv hK f0 rfl)) rfl rfl hl.1 rfl (lv_room (Nat.le_of_ble_eq_true rfl)) dX9_hand_15 ⟨Nat.le_of_ble_eq_true rfl, Nat.le_of_ble_eq_true rfl⟩) hS (af_le hH hS hA) (fun v_21 φ_22 H locs hw_v_21 hH hS => ?_)
      obtain ⟨rfl, hm9⟩ := hw_v_21
      obtain ⟨f_23, f_24, f_25, f_26, f_27, f_28, f_29, f_30, f_31, f_32, f_33, f_34, f_35, f_36, f_37⟩ := hm9
      change φ_22 (q 0) = some (.inr (13, [.int (nI (sc 0)), .long (Int64.ofNat (sc 1)), .int (nI (sc 2)), .ref (q 1), .ref (q 2), .int (nI (sc 3)), .ref (q 3), .ref (q 4), .ref (q 5), .ref (q 6), .ref (q 7), .ref (q 8), .ref (q 9), .int (nI (sc 4)), .ref (q 10), .ref (q 11), .int (nI (sc 5)), .ref (q 12), .ref (q 13), .ref (q 14), .int (nI (sc 6)), .int (nI 0)])) at f_23
      refine hv_ti (y := nI 1) (rfl) ?_
      refine hv_if_ne (pc := 18) (tgt := 23) (a := 1) S.1 S.2.1 (by omega) dX9_hand_18 (by decide) (fun c_38 => ?_) (fun c_38 => ?_)
      · skip
        refine lv_aload_n (pc := 23) S.1 S.2.1 dX9_hand_23 rfl (lv_at hl 0 rfl) ?_
        refine lv_dup (pc := 24) S.1 S.2.1 dX9_hand_24 rfl ?_
        refine hv_get (pc := 25) (C := RX9) (T := TX9) (N := 22) (ref := RX9) S uwX9 hK hH f_23 rfl 16 (by decide) tw_961 (fun _ h9 => h9) rfl dX9_hand_25 ?_
        refine lv_iconst (pc := 28) (v := nI 1) S.1 S.2.1 dX9_hand_28 (by decide) ?_
        refine lv_iadd (pc := 29) S.1 S.2.1 dX9_hand_29 ?_
        refine hv_ti (y := nI ((sc 5) + 1)) (nI_add _ _) ?_
        refine hv_put (pc := 30) (ty := .int) (C := RX9) (T := TX9) (N := 22) (ref := RX9) S uwX9 tyX9 tyX9_ok nmX9 hK hH hS f_23 rfl 16 (by decide) tw_961 (fun _ h9 => h9) rfl (by decide +kernel) rfl rfl (Nat.le_of_ble_eq_true rfl) dX9_hand_30 (fun H locs hH hS => ?_)
        replace hH := nup (e := .inr (13, [.int (nI (sc 0)), .long (Int64.ofNat (sc 1)), .int (nI (sc 2)), .ref (q 1), .ref (q 2), .int (nI (sc 3)), .ref (q 3), .ref (q 4), .ref (q 5), .ref (q 6), .ref (q 7), .ref (q 8), .ref (q 9), .int (nI (sc 4)), .ref (q 10), .ref (q 11), .int (nI ((sc 5) + 1)), .ref (q 12), .ref (q 13), .ref (q 14), .int (nI (sc 6)), .int (nI 0)])) hH
        obtain ⟨φ_39, hφ_39, fa_φ_39, fr_φ_39, hH⟩ := hH
        have f_40 := fr_φ_39 _ _ (fun h => absurd (hq 1 0 (by omega) (by omega) h) (by omega)) f_24
        have f_41 := fr_φ_39 _ _ (fun h => absurd (hq 2 0 (by omega) (by omega) h) (by omega)) f_25
        have f_42 := fr_φ_39 _ _ (fun h => absurd (hq 3 0 (by omega) (by omega) h) (by omega)) f_26
        have f_43 := fr_φ_39 _ _ (fun h => absurd (hq 4 0 (by omega) (by omega) h) (by omega)) f_27
        have f_44 := fr_φ_39 _ _ (fun h => absurd (hq 5 0 (by omega) (by omega) h) (by omega)) f_28
        have f_45 := fr_φ_39 _ _ (fun h => absurd (hq 6 0 (by omega) (by omega) h) (by omega)) f_29
        have f_46 := fr_φ_39 _ _ (fun h => absurd (hq 7 0 (by omega) (by omega) h) (by omega)) f_30
        have f_47 := fr_φ_39 _ _ (fun h => absurd (hq 8 0 (by omega) (by omega) h) (by omega)) f_31
        have f_48 := fr_φ_39 _ _ (fun h => absurd (hq 9 0 (by omega) (by omega) h) (by omega)) f_32
        have f_49 := fr_φ_39 _ _ (fun h => absurd (hq 10 0 (by omega) (by omega) h) (by omega)) f_33
        have f_50 := fr_φ_39 _ _ (fun h => absurd (hq 11 0 (by omega) (by omega) h) (by omega)) f_34
        have f_51 := fr_φ_39 _ _ (fun h => absurd (hq 12 0 (by omega) (by omega) h) (by omega)) f_35
        have f_52 := fr_φ_39 _ _ (fun h => absurd (hq 13 0 (by omega) (by omega) h) (by omega)) f_36
        have f_53 := fr_φ_39 _ _ (fun h => absurd (hq 14 0 (by omega) (by omega) h) (by omega)) f_37
        refine lv_aload_n (pc := 33) S.1 S.2.1 dX9_hand_33 rfl (lv_at hl 0 rfl) ?_
        refine hv_get (pc := 34) (C := RX9) (T := TX9) (N := 22) (ref := RX9) S uwX9 hK hH fa_φ_39 rfl 16 (by decide) tw_961 (fun _ h9 => h9) rfl dX9_hand_34 ?_
        refine lv_iconst (pc := 37) (v := nI 1) S.1 S.2.1 dX9_hand_37 (by decide) ?_
        refine lv_isub (pc := 38) S.1 S.2.1 dX9_hand_38 ?_
        refine hv_ti (y := nI (((sc 5) + 1) - 1)) (pk_sub (by omega)) ?_
        exact hv_ret (pc := 39) (v := nI (((sc 5) + 1) - 1)) S hr rfl hlocks hH hS (by rw [if_pos eX]; exact ⟨by rw [Nat.add_sub_cancel], ⟨fa_φ_39, f_40, f_41, f_42, f_43, f_44, f_45, f_46, f_47, f_48, f_49, f_50, f_51, f_52, f_53⟩⟩) (Nat.le_of_ble_eq_true rfl) (Nat.le_of_ble_eq_true rfl) dX9_hand_39
      · skip
        exact absurd c_38 (by omega)
    · skip
      exact absurd c_20 (by omega)

set_option maxHeartbeats 4000000 in
set_option maxRecDepth 100000 in
/-- lot -/
theorem c_m_lot (l : Launch) (D : va_G) (cA : Nat → ClassId) (ga : Nat → Nat → Nat) (φ : hpM) (sz : Nat) (q : Nat → Nat) (sc : Nat → Nat) (ar : Nat → Nat → Nat) (x : Int32) (hm : MP cA q sc ar φ) (hq : ∀ i j, i < 15 → j < 15 → q i = q j → i = j) (hk : sc 2 ≤ 10) (hty : sc 1 < 2 ^ 62) : hM l yX9_lot cX9_lot 3 (some .int) { frames := 10, cells := 0, slots := 0, locals := 320 } [.ref (q 0), .int (x)] D cA ga φ sz (fun v φ' => if lotX (sc 2) x = 0 then ((wkO 0 (sc 1) 4 0 = none ∧ v = some (.int (-1)) ∧ MP cA q (va_up (va_up (va_up sc 0 (0)) 1 (0)) 7 (0)) ar φ') ∨ (∃ fu x1 : Nat, wkO 0 (sc 1) 4 0 = some fu ∧ x = nI x1 ∧ x1 < 2 ^ 31 ∧ v = some (.int (nI (sc 2))) ∧ MP cA q (va_up (va_up (va_up (va_up sc 0 (0)) 1 (0)) 2 (sc 2 + 1)) 7 (0)) (va_up (va_up ar 1 (va_up (ar 1) (sc 2) fu)) 2 (va_up (ar 2) (sc 2) x1)) φ')) else (v = some (.int (nI 0)) ∧ MP cA q (va_up sc 7 (mcd 1 2 9 (lotX (sc 2) x))) ar φ')) 0 0 := by
  refine hM.of (by decide) (Nat.le_of_ble_eq_true rfl) rfl ?_
  intro p e s m args below meth c ls H locs S hr hlocks hnm hsz hHz hH hK hX hS hA hl
  obtain ⟨f0, f1, f2, f3, f4, f5, f6, f7, f8, f9, f10, f11, f12, f13, f14⟩ := hm
  refine lv_aload_n (pc := 0) S.1 S.2.1 dX9_lot_0 rfl (lv_at hl 0 rfl) ?_
  refine lv_iload_n (pc := 1) S.1 S.2.1 dX9_lot_1 rfl (lv_at hl 1 rfl) ?_
  refine lv_iconst (pc := 2) (v := nI 1) S.1 S.2.1 dX9_lot_2 (by decide) ?_
  refine lv_sipush (pc := 3) (v := nI 5000) S.1 S.2.1 dX9_lot_3 (by decide) ?_
  by_cases hx : inR x 1 5000
  · skip
    obtain ⟨x1, rfl, hxlo, hxhi⟩ := hx.nat (by omega) (by omega)
    refine hv_call (pc := 6) (va_runS (As := [.int (nI x1), .int (nI 1), .int (nI 5000)]) (rest := [.ref (q 0)]) S (c_isIn l D cA ga φ H.size (nI x1) (nI 1) (nI 5000)) (va_cwS 3 S.2.2.2.2 (gS tw_1031 tw_1032 tw_7 tw_1033) rfl rfl rfl (by decide +kernel) ⟨Nat.le_of_ble_eq_true rfl, Nat.le_of_ble_eq_true rfl⟩) (pre0_S hH hK hX hS hA) rfl rfl hl.1 rfl (lv_room (Nat.le_of_ble_eq_true rfl)) dX9_lot_6 ⟨Nat.le_of_ble_eq_true rfl, Nat.le_of_ble_eq_true rfl⟩) hS (af_le hH hS hA) (fun v_1 φ_2 H locs hw_v_1 hH hS => ?_)
    obtain ⟨rfl, hqv_1⟩ := hw_v_1
    rw [hqv_1] at hH
    refine hv_ti (y := nI 1) (by rw [inB_R, if_pos hx]) ?_
    refine hv_if_ne (pc := 9) (tgt := 16) (a := 1) S.1 S.2.1 (by omega) dX9_lot_9 (by decide) (fun c_3 => ?_) (fun c_3 => ?_)
    · skip
      refine lv_aload_n (pc := 16) S.1 S.2.1 dX9_lot_16 rfl (lv_at hl 0 rfl) ?_
      refine hv_get (pc := 17) (C := RX9) (T := TX9) (N := 22) (ref := RX9) S uwX9 hK hH f0 rfl 2 (by decide) tw_947 (fun _ h9 => h9) rfl dX9_lot_17 ?_
      refine lv_bipush (pc := 20) (v := nI 10) S.1 S.2.1 dX9_lot_20 (by decide) ?_
      by_cases h10 : sc 2 = 10
      · skip
        refine hv_icmp_ne (pc := 22) (tgt := 29) (a := sc 2) (b := 10) S.1 S.2.1 (by omega) (by omega) dX9_lot_22 (by decide) (fun c_4 => ?_) (fun c_4 => ?_)
        · skip
          exact absurd c_4 (by omega)
        · skip
          refine lv_iconst (pc := 25) (v := nI 2) S.1 S.2.1 dX9_lot_25 (by decide) ?_
          refine lv_goto (pc := 26) (tgt := 30) S.1 S.2.1 dX9_lot_26 (by decide) ?_
          have eX : lotX (sc 2) (nI x1) = 2 := by rw [lotX, if_pos hx, if_neg (by omega)]
          refine hv_call (pc := 30) (va_runV (As := [.int (nI 2)]) (rest := []) S (c_m_goes l D cA ga φ H.size q sc ar (2) ⟨f0, f1, f2, f3, f4, f5, f6, f7, f8, f9, f10, f11, f12, f13, f14⟩ hq (by omega)) (cwV 1 S.2.2.2.2 (gV tw_1021 tw_1023 sw_32 tw_7 tw_1024) rfl rfl rfl (by decide +kernel) ⟨Nat.le_of_ble_eq_true rfl, Nat.le_of_ble_eq_true rfl⟩) (pre0_V hH hK hX hS hA (hH.recv hK f0 rfl)) rfl rfl hl.1 rfl (lv_room (Nat.le_of_ble_eq_true rfl)) dX9_lot_30 ⟨Nat.le_of_ble_eq_true rfl, Nat.le_of_ble_eq_true rfl⟩) hS (af_le hH hS hA) (fun v_5 φ_6 H locs hw_v_5 hH hS => ?_)
          obtain ⟨rfl, hm9⟩ := hw_v_5
          obtain ⟨f_7, f_8, f_9, f_10, f_11, f_12, f_13, f_14, f_15, f_16, f_17, f_18, f_19, f_20, f_21⟩ := hm9
          change φ_6 (q 0) = some (.inr (13, [.int (nI (sc 0)), .long (Int64.ofNat (sc 1)), .int (nI (sc 2)), .ref (q 1), .ref (q 2), .int (nI (sc 3)), .ref (q 3), .ref (q 4), .ref (q 5), .ref (q 6), .ref (q 7), .ref (q 8), .ref (q 9), .int (nI (sc 4)), .ref (q 10), .ref (q 11), .int (nI (sc 5)), .ref (q 12), .ref (q 13), .ref (q 14), .int (nI (sc 6)), .int (nI 2)])) at f_7
          refine hv_ti (y := nI 0) (rfl) ?_
          refine hv_if_ne (pc := 33) (tgt := 38) (a := 0) S.1 S.2.1 (by omega) dX9_lot_33 (by decide) (fun c_22 => ?_) (fun c_22 => ?_)
          · skip
            exact absurd c_22 (by omega)
          · skip
            refine lv_iconst (pc := 36) (v := nI 0) S.1 S.2.1 dX9_lot_36 (by decide) ?_
            exact hv_ret (pc := 37) (v := nI 0) S hr rfl hlocks hH hS (by rw [if_neg (by rw [eX]; decide), eX]; exact ⟨rfl, ⟨f_7, f_8, f_9, f_10, f_11, f_12, f_13, f_14, f_15, f_16, f_17, f_18, f_19, f_20, f_21⟩⟩) (Nat.le_of_ble_eq_true rfl) (Nat.le_of_ble_eq_true rfl) dX9_lot_37
      · skip
        refine hv_icmp_ne (pc := 22) (tgt := 29) (a := sc 2) (b := 10) S.1 S.2.1 (by omega) (by omega) dX9_lot_22 (by decide) (fun c_23 => ?_) (fun c_23 => ?_)
        · skip
          refine lv_iconst (pc := 29) (v := nI 0) S.1 S.2.1 dX9_lot_29 (by decide) ?_
          have eX : lotX (sc 2) (nI x1) = 0 := by rw [lotX, if_pos hx, if_pos (by omega)]
          refine hv_call (pc := 30) (va_runV (As := [.int (nI 0)]) (rest := []) S (c_m_goes l D cA ga φ H.size q sc ar (0) ⟨f0, f1, f2, f3, f4, f5, f6, f7, f8, f9, f10, f11, f12, f13, f14⟩ hq (by omega)) (cwV 1 S.2.2.2.2 (gV tw_1021 tw_1023 sw_32 tw_7 tw_1024) rfl rfl rfl (by decide +kernel) ⟨Nat.le_of_ble_eq_true rfl, Nat.le_of_ble_eq_true rfl⟩) (pre0_V hH hK hX hS hA (hH.recv hK f0 rfl)) rfl rfl hl.1 rfl (lv_room (Nat.le_of_ble_eq_true rfl)) dX9_lot_30 ⟨Nat.le_of_ble_eq_true rfl, Nat.le_of_ble_eq_true rfl⟩) hS (af_le hH hS hA) (fun v_24 φ_25 H locs hw_v_24 hH hS => ?_)
          obtain ⟨rfl, hm9⟩ := hw_v_24
          obtain ⟨f_26, f_27, f_28, f_29, f_30, f_31, f_32, f_33, f_34, f_35, f_36, f_37, f_38, f_39, f_40⟩ := hm9
          change φ_25 (q 0) = some (.inr (13, [.int (nI (sc 0)), .long (Int64.ofNat (sc 1)), .int (nI (sc 2)), .ref (q 1), .ref (q 2), .int (nI (sc 3)), .ref (q 3), .ref (q 4), .ref (q 5), .ref (q 6), .ref (q 7), .ref (q 8), .ref (q 9), .int (nI (sc 4)), .ref (q 10), .ref (q 11), .int (nI (sc 5)), .ref (q 12), .ref (q 13), .ref (q 14), .int (nI (sc 6)), .int (nI 0)])) at f_26
          refine hv_ti (y := nI 1) (rfl) ?_
          refine hv_if_ne (pc := 33) (tgt := 38) (a := 1) S.1 S.2.1 (by omega) dX9_lot_33 (by decide) (fun c_41 => ?_) (fun c_41 => ?_)
          · skip
            refine lv_aload_n (pc := 38) S.1 S.2.1 dX9_lot_38 rfl (lv_at hl 0 rfl) ?_
            refine hv_call (pc := 39) (va_runV (As := []) (rest := []) S (c_m_fur l D cA ga φ_25 H.size q (va_up sc 7 (0)) ar  ⟨f_26, f_27, f_28, f_29, f_30, f_31, f_32, f_33, f_34, f_35, f_36, f_37, f_38, f_39, f_40⟩ hq hty) (cwV 0 S.2.2.2.2 (gV tw_1034 tw_1036 sw_33 tw_7 tw_1037) rfl rfl rfl (by decide +kernel) ⟨Nat.le_of_ble_eq_true rfl, Nat.le_of_ble_eq_true rfl⟩) (pre0_V hH hK hX hS hA (hH.recv hK f_26 rfl)) rfl rfl hl.1 rfl (lv_room (Nat.le_of_ble_eq_true rfl)) dX9_lot_39 ⟨Nat.le_of_ble_eq_true rfl, Nat.le_of_ble_eq_true rfl⟩) hS (af_le hH hS hA) (fun v_42 φ_43 H locs hw_v_42 hH hS => ?_)
            obtain ⟨rfl, hqv_42⟩ := hw_v_42
            rw [hqv_42] at hH
            refine hv_ti (y := wkI (wkO 0 (sc 1) 4 0)) (rfl) ?_
            have hwl := wkO_lt 0 (sc 1) 4 0
            rcases hf : wkO 0 (sc 1) 4 0 with _ | fu
            · skip
              refine hv_ti (y := (-1 : Int32)) (rfl) ?_
              refine lv_istore_n (pc := 42) (lv' := [(2, .int ((-1 : Int32))), (0, .ref (q 0)), (1, .int (nI x1))]) S.1 S.2.1 dX9_lot_42 rfl hl (by decide) rfl (fun ls hl => ?_)
              refine lv_aload_n (pc := 43) S.1 S.2.1 dX9_lot_43 rfl (lv_at hl 1 rfl) ?_
              refine hv_call (pc := 44) (va_runV (As := []) (rest := []) S (c_m_empties l D cA ga φ_25 H.size q (va_up sc 7 (0)) ar ⟨f_26, f_27, f_28, f_29, f_30, f_31, f_32, f_33, f_34, f_35, f_36, f_37, f_38, f_39, f_40⟩ hq) (cwV 0 S.2.2.2.2 (gV tw_1041 tw_1043 sw_34 tw_7 tw_1044) rfl rfl rfl (by decide +kernel) ⟨Nat.le_of_ble_eq_true rfl, Nat.le_of_ble_eq_true rfl⟩) (pre0_V hH hK hX hS hA (hH.recv hK f_26 rfl)) rfl rfl hl.1 rfl (lv_room (Nat.le_of_ble_eq_true rfl)) dX9_lot_44 ⟨Nat.le_of_ble_eq_true rfl, Nat.le_of_ble_eq_true rfl⟩) hS (af_le hH hS hA) (fun v_44 φ_45 H locs hw_v_44 hH hS => ?_)
              obtain ⟨rfl, hm8⟩ := hw_v_44
              obtain ⟨f_46, f_47, f_48, f_49, f_50, f_51, f_52, f_53, f_54, f_55, f_56, f_57, f_58, f_59, f_60⟩ := hm8
              change φ_45 (q 0) = some (.inr (13, [.int (nI 0), .long (Int64.ofNat (0)), .int (nI (sc 2)), .ref (q 1), .ref (q 2), .int (nI (sc 3)), .ref (q 3), .ref (q 4), .ref (q 5), .ref (q 6), .ref (q 7), .ref (q 8), .ref (q 9), .int (nI (sc 4)), .ref (q 10), .ref (q 11), .int (nI (sc 5)), .ref (q 12), .ref (q 13), .ref (q 14), .int (nI (sc 6)), .int (nI 0)])) at f_46
              refine lv_iload_n (pc := 47) S.1 S.2.1 dX9_lot_47 rfl (lv_at hl 0 rfl) ?_
              refine lv_iconst (pc := 48) (v := -1) S.1 S.2.1 dX9_lot_48 (by decide) ?_
              refine lv_icmp_ne (pc := 49) (tgt := 54) S.1 S.2.1 dX9_lot_49 (by decide) (fun c_61 => ?_) (fun c_61 => ?_)
              · skip
                exact absurd rfl c_61
              · skip
                refine lv_iconst (pc := 52) (v := -1) S.1 S.2.1 dX9_lot_52 (by decide) ?_
                exact hv_ret (pc := 53) (v := (-1 : Int32)) S hr rfl hlocks hH hS (by rw [if_pos eX]; exact Or.inl ⟨rfl, rfl, ⟨f_46, f_47, f_48, f_49, f_50, f_51, f_52, f_53, f_54, f_55, f_56, f_57, f_58, f_59, f_60⟩⟩) (Nat.le_of_ble_eq_true rfl) (Nat.le_of_ble_eq_true rfl) dX9_lot_53
            · skip
              have hfu := hwl fu hf
              refine hv_ti (y := nI fu) (rfl) ?_
              refine lv_istore_n (pc := 42) (lv' := [(2, .int (nI fu)), (0, .ref (q 0)), (1, .int (nI x1))]) S.1 S.2.1 dX9_lot_42 rfl hl (by decide) rfl (fun ls hl => ?_)
              refine lv_aload_n (pc := 43) S.1 S.2.1 dX9_lot_43 rfl (lv_at hl 1 rfl) ?_
              refine hv_call (pc := 44) (va_runV (As := []) (rest := []) S (c_m_empties l D cA ga φ_25 H.size q (va_up sc 7 (0)) ar ⟨f_26, f_27, f_28, f_29, f_30, f_31, f_32, f_33, f_34, f_35, f_36, f_37, f_38, f_39, f_40⟩ hq) (cwV 0 S.2.2.2.2 (gV tw_1041 tw_1043 sw_34 tw_7 tw_1044) rfl rfl rfl (by decide +kernel) ⟨Nat.le_of_ble_eq_true rfl, Nat.le_of_ble_eq_true rfl⟩) (pre0_V hH hK hX hS hA (hH.recv hK f_26 rfl)) rfl rfl hl.1 rfl (lv_room (Nat.le_of_ble_eq_true rfl)) dX9_lot_44 ⟨Nat.le_of_ble_eq_true rfl, Nat.le_of_ble_eq_true rfl⟩) hS (af_le hH hS hA) (fun v_62 φ_63 H locs hw_v_62 hH hS => ?_)
              obtain ⟨rfl, hm8⟩ := hw_v_62
              obtain ⟨f_64, f_65, f_66, f_67, f_68, f_69, f_70, f_71, f_72, f_73, f_74, f_75, f_76, f_77, f_78⟩ := hm8
              change φ_63 (q 0) = some (.inr (13, [.int (nI 0), .long (Int64.ofNat (0)), .int (nI (sc 2)), .ref (q 1), .ref (q 2), .int (nI (sc 3)), .ref (q 3), .ref (q 4), .ref (q 5), .ref (q 6), .ref (q 7), .ref (q 8), .ref (q 9), .int (nI (sc 4)), .ref (q 10), .ref (q 11), .int (nI (sc 5)), .ref (q 12), .ref (q 13), .ref (q 14), .int (nI (sc 6)), .int (nI 0)])) at f_64
              refine lv_iload_n (pc := 47) S.1 S.2.1 dX9_lot_47 rfl (lv_at hl 0 rfl) ?_
              refine lv_iconst (pc := 48) (v := -1) S.1 S.2.1 dX9_lot_48 (by decide) ?_
              refine lv_icmp_ne (pc := 49) (tgt := 54) S.1 S.2.1 dX9_lot_49 (by decide) (fun c_79 => ?_) (fun c_79 => ?_)
              · skip
                refine lv_aload_n (pc := 54) S.1 S.2.1 dX9_lot_54 rfl (lv_at hl 1 rfl) ?_
                refine hv_get (pc := 55) (C := RX9) (T := TX9) (N := 22) (ref := RX9) S uwX9 hK hH f_64 rfl 3 (by decide) tw_948 (fun _ h9 => h9) rfl dX9_lot_55 ?_
                refine lv_aload_n (pc := 58) S.1 S.2.1 dX9_lot_58 rfl (lv_at hl 1 rfl) ?_
                refine hv_get (pc := 59) (C := RX9) (T := TX9) (N := 22) (ref := RX9) S uwX9 hK hH f_64 rfl 2 (by decide) tw_947 (fun _ h9 => h9) rfl dX9_lot_59 ?_
                refine lv_iload_n (pc := 62) S.1 S.2.1 dX9_lot_62 rfl (lv_at hl 0 rfl) ?_
                refine hv_iast (pc := 63) S hK hH hS 1 f_65 rfl (vp_in_nI (by omega) (by omega)) dX9_lot_63 (fun H locs hH hS => ?_)
                rw [hv_upd (by omega)] at hH
                replace hH := nup (e := .inl (cA 1, 10, .inl (fun j => nI ((va_up (ar 1) (sc 2) fu) j)))) hH
                obtain ⟨φ_80, hφ_80, fa_φ_80, fr_φ_80, hH⟩ := hH
                have f_81 := fr_φ_80 _ _ (fun h => absurd (hq 0 1 (by omega) (by omega) h) (by omega)) f_64
                have f_82 := fr_φ_80 _ _ (fun h => absurd (hq 2 1 (by omega) (by omega) h) (by omega)) f_66
                have f_83 := fr_φ_80 _ _ (fun h => absurd (hq 3 1 (by omega) (by omega) h) (by omega)) f_67
                have f_84 := fr_φ_80 _ _ (fun h => absurd (hq 4 1 (by omega) (by omega) h) (by omega)) f_68
                have f_85 := fr_φ_80 _ _ (fun h => absurd (hq 5 1 (by omega) (by omega) h) (by omega)) f_69
                have f_86 := fr_φ_80 _ _ (fun h => absurd (hq 6 1 (by omega) (by omega) h) (by omega)) f_70
                have f_87 := fr_φ_80 _ _ (fun h => absurd (hq 7 1 (by omega) (by omega) h) (by omega)) f_71
                have f_88 := fr_φ_80 _ _ (fun h => absurd (hq 8 1 (by omega) (by omega) h) (by omega)) f_72
                have f_89 := fr_φ_80 _ _ (fun h => absurd (hq 9 1 (by omega) (by omega) h) (by omega)) f_73
                have f_90 := fr_φ_80 _ _ (fun h => absurd (hq 10 1 (by omega) (by omega) h) (by omega)) f_74
                have f_91 := fr_φ_80 _ _ (fun h => absurd (hq 11 1 (by omega) (by omega) h) (by omega)) f_75
                have f_92 := fr_φ_80 _ _ (fun h => absurd (hq 12 1 (by omega) (by omega) h) (by omega)) f_76
                have f_93 := fr_φ_80 _ _ (fun h => absurd (hq 13 1 (by omega) (by omega) h) (by omega)) f_77
                have f_94 := fr_φ_80 _ _ (fun h => absurd (hq 14 1 (by omega) (by omega) h) (by omega)) f_78
                refine lv_aload_n (pc := 64) S.1 S.2.1 dX9_lot_64 rfl (lv_at hl 1 rfl) ?_
                refine hv_get (pc := 65) (C := RX9) (T := TX9) (N := 22) (ref := RX9) S uwX9 hK hH f_81 rfl 4 (by decide) tw_949 (fun _ h9 => h9) rfl dX9_lot_65 ?_
                refine lv_aload_n (pc := 68) S.1 S.2.1 dX9_lot_68 rfl (lv_at hl 1 rfl) ?_
                refine hv_get (pc := 69) (C := RX9) (T := TX9) (N := 22) (ref := RX9) S uwX9 hK hH f_81 rfl 2 (by decide) tw_947 (fun _ h9 => h9) rfl dX9_lot_69 ?_
                refine lv_iload_n (pc := 72) S.1 S.2.1 dX9_lot_72 rfl (lv_at hl 2 rfl) ?_
                refine hv_iast (pc := 73) S hK hH hS 1 f_82 rfl (vp_in_nI (by omega) (by omega)) dX9_lot_73 (fun H locs hH hS => ?_)
                rw [hv_upd (by omega)] at hH
                replace hH := nup (e := .inl (cA 1, 10, .inl (fun j => nI ((va_up (ar 2) (sc 2) x1) j)))) hH
                obtain ⟨φ_95, hφ_95, fa_φ_95, fr_φ_95, hH⟩ := hH
                have f_96 := fr_φ_95 _ _ (fun h => absurd (hq 0 2 (by omega) (by omega) h) (by omega)) f_81
                have f_97 := fr_φ_95 _ _ (fun h => absurd (hq 3 2 (by omega) (by omega) h) (by omega)) f_83
                have f_98 := fr_φ_95 _ _ (fun h => absurd (hq 4 2 (by omega) (by omega) h) (by omega)) f_84
                have f_99 := fr_φ_95 _ _ (fun h => absurd (hq 5 2 (by omega) (by omega) h) (by omega)) f_85
                have f_100 := fr_φ_95 _ _ (fun h => absurd (hq 6 2 (by omega) (by omega) h) (by omega)) f_86
                have f_101 := fr_φ_95 _ _ (fun h => absurd (hq 7 2 (by omega) (by omega) h) (by omega)) f_87
                have f_102 := fr_φ_95 _ _ (fun h => absurd (hq 8 2 (by omega) (by omega) h) (by omega)) f_88
                have f_103 := fr_φ_95 _ _ (fun h => absurd (hq 9 2 (by omega) (by omega) h) (by omega)) f_89
                have f_104 := fr_φ_95 _ _ (fun h => absurd (hq 10 2 (by omega) (by omega) h) (by omega)) f_90
                have f_105 := fr_φ_95 _ _ (fun h => absurd (hq 11 2 (by omega) (by omega) h) (by omega)) f_91
                have f_106 := fr_φ_95 _ _ (fun h => absurd (hq 12 2 (by omega) (by omega) h) (by omega)) f_92
                have f_107 := fr_φ_95 _ _ (fun h => absurd (hq 13 2 (by omega) (by omega) h) (by omega)) f_93
                have f_108 := fr_φ_95 _ _ (fun h => absurd (hq 14 2 (by omega) (by omega) h) (by omega)) f_94
                have f_109 := fr_φ_95 _ _ (fun h => absurd (hq 1 2 (by omega) (by omega) h) (by omega)) fa_φ_80
                refine lv_aload_n (pc := 74) S.1 S.2.1 dX9_lot_74 rfl (lv_at hl 1 rfl) ?_
                refine lv_dup (pc := 75) S.1 S.2.1 dX9_lot_75 rfl ?_
                refine hv_get (pc := 76) (C := RX9) (T := TX9) (N := 22) (ref := RX9) S uwX9 hK hH f_96 rfl 2 (by decide) tw_947 (fun _ h9 => h9) rfl dX9_lot_76 ?_
                refine lv_iconst (pc := 79) (v := nI 1) S.1 S.2.1 dX9_lot_79 (by decide) ?_
                refine lv_iadd (pc := 80) S.1 S.2.1 dX9_lot_80 ?_
                refine hv_ti (y := nI ((sc 2) + 1)) (nI_add _ _) ?_
                refine hv_put (pc := 81) (ty := .int) (C := RX9) (T := TX9) (N := 22) (ref := RX9) S uwX9 tyX9 tyX9_ok nmX9 hK hH hS f_96 rfl 2 (by decide) tw_947 (fun _ h9 => h9) rfl (by decide +kernel) rfl rfl (Nat.le_of_ble_eq_true rfl) dX9_lot_81 (fun H locs hH hS => ?_)
                replace hH := nup (e := .inr (13, [.int (nI 0), .long (Int64.ofNat (0)), .int (nI ((sc 2) + 1)), .ref (q 1), .ref (q 2), .int (nI (sc 3)), .ref (q 3), .ref (q 4), .ref (q 5), .ref (q 6), .ref (q 7), .ref (q 8), .ref (q 9), .int (nI (sc 4)), .ref (q 10), .ref (q 11), .int (nI (sc 5)), .ref (q 12), .ref (q 13), .ref (q 14), .int (nI (sc 6)), .int (nI 0)])) hH
                obtain ⟨φ_110, hφ_110, fa_φ_110, fr_φ_110, hH⟩ := hH
                have f_111 := fr_φ_110 _ _ (fun h => absurd (hq 3 0 (by omega) (by omega) h) (by omega)) f_97
                have f_112 := fr_φ_110 _ _ (fun h => absurd (hq 4 0 (by omega) (by omega) h) (by omega)) f_98
                have f_113 := fr_φ_110 _ _ (fun h => absurd (hq 5 0 (by omega) (by omega) h) (by omega)) f_99
                have f_114 := fr_φ_110 _ _ (fun h => absurd (hq 6 0 (by omega) (by omega) h) (by omega)) f_100
                have f_115 := fr_φ_110 _ _ (fun h => absurd (hq 7 0 (by omega) (by omega) h) (by omega)) f_101
                have f_116 := fr_φ_110 _ _ (fun h => absurd (hq 8 0 (by omega) (by omega) h) (by omega)) f_102
                have f_117 := fr_φ_110 _ _ (fun h => absurd (hq 9 0 (by omega) (by omega) h) (by omega)) f_103
                have f_118 := fr_φ_110 _ _ (fun h => absurd (hq 10 0 (by omega) (by omega) h) (by omega)) f_104
                have f_119 := fr_φ_110 _ _ (fun h => absurd (hq 11 0 (by omega) (by omega) h) (by omega)) f_105
                have f_120 := fr_φ_110 _ _ (fun h => absurd (hq 12 0 (by omega) (by omega) h) (by omega)) f_106
                have f_121 := fr_φ_110 _ _ (fun h => absurd (hq 13 0 (by omega) (by omega) h) (by omega)) f_107
                have f_122 := fr_φ_110 _ _ (fun h => absurd (hq 14 0 (by omega) (by omega) h) (by omega)) f_108
                have f_123 := fr_φ_110 _ _ (fun h => absurd (hq 1 0 (by omega) (by omega) h) (by omega)) f_109
                have f_124 := fr_φ_110 _ _ (fun h => absurd (hq 2 0 (by omega) (by omega) h) (by omega)) fa_φ_95
                refine lv_aload_n (pc := 84) S.1 S.2.1 dX9_lot_84 rfl (lv_at hl 1 rfl) ?_
                refine hv_get (pc := 85) (C := RX9) (T := TX9) (N := 22) (ref := RX9) S uwX9 hK hH fa_φ_110 rfl 2 (by decide) tw_947 (fun _ h9 => h9) rfl dX9_lot_85 ?_
                refine lv_iconst (pc := 88) (v := nI 1) S.1 S.2.1 dX9_lot_88 (by decide) ?_
                refine lv_isub (pc := 89) S.1 S.2.1 dX9_lot_89 ?_
                refine hv_ti (y := nI (((sc 2) + 1) - 1)) (pk_sub (by omega)) ?_
                exact hv_ret (pc := 90) (v := nI (((sc 2) + 1) - 1)) S hr rfl hlocks hH hS (by rw [if_pos eX]; exact Or.inr ⟨fu, x1, rfl, rfl, by omega, by rw [Nat.add_sub_cancel], ⟨fa_φ_110, f_123, f_124, f_111, f_112, f_113, f_114, f_115, f_116, f_117, f_118, f_119, f_120, f_121, f_122⟩⟩) (Nat.le_of_ble_eq_true rfl) (Nat.le_of_ble_eq_true rfl) dX9_lot_90
              · skip
                exact absurd c_79 (nI_nm1 (by omega))
          · skip
            exact absurd c_41 (by omega)
        · skip
          exact absurd c_23 (by omega)
    · skip
      exact absurd c_3 (by omega)
  · skip
    refine hv_call (pc := 6) (va_runS (As := [.int (x), .int (nI 1), .int (nI 5000)]) (rest := [.ref (q 0)]) S (c_isIn l D cA ga φ H.size x (nI 1) (nI 5000)) (va_cwS 3 S.2.2.2.2 (gS tw_1031 tw_1032 tw_7 tw_1033) rfl rfl rfl (by decide +kernel) ⟨Nat.le_of_ble_eq_true rfl, Nat.le_of_ble_eq_true rfl⟩) (pre0_S hH hK hX hS hA) rfl rfl hl.1 rfl (lv_room (Nat.le_of_ble_eq_true rfl)) dX9_lot_6 ⟨Nat.le_of_ble_eq_true rfl, Nat.le_of_ble_eq_true rfl⟩) hS (af_le hH hS hA) (fun v_125 φ_126 H locs hw_v_125 hH hS => ?_)
    obtain ⟨rfl, hqv_125⟩ := hw_v_125
    rw [hqv_125] at hH
    refine hv_ti (y := nI 0) (by rw [inB_R, if_neg hx]) ?_
    refine hv_if_ne (pc := 9) (tgt := 16) (a := 0) S.1 S.2.1 (by omega) dX9_lot_9 (by decide) (fun c_127 => ?_) (fun c_127 => ?_)
    · skip
      exact absurd c_127 (by omega)
    · skip
      refine lv_iconst (pc := 12) (v := nI 1) S.1 S.2.1 dX9_lot_12 (by decide) ?_
      refine lv_goto (pc := 13) (tgt := 30) S.1 S.2.1 dX9_lot_13 (by decide) ?_
      have eX : lotX (sc 2) x = 1 := by rw [lotX, if_neg hx]
      refine hv_call (pc := 30) (va_runV (As := [.int (nI 1)]) (rest := []) S (c_m_goes l D cA ga φ H.size q sc ar (1) ⟨f0, f1, f2, f3, f4, f5, f6, f7, f8, f9, f10, f11, f12, f13, f14⟩ hq (by omega)) (cwV 1 S.2.2.2.2 (gV tw_1021 tw_1023 sw_32 tw_7 tw_1024) rfl rfl rfl (by decide +kernel) ⟨Nat.le_of_ble_eq_true rfl, Nat.le_of_ble_eq_true rfl⟩) (pre0_V hH hK hX hS hA (hH.recv hK f0 rfl)) rfl rfl hl.1 rfl (lv_room (Nat.le_of_ble_eq_true rfl)) dX9_lot_30 ⟨Nat.le_of_ble_eq_true rfl, Nat.le_of_ble_eq_true rfl⟩) hS (af_le hH hS hA) (fun v_128 φ_129 H locs hw_v_128 hH hS => ?_)
      obtain ⟨rfl, hm9⟩ := hw_v_128
      obtain ⟨f_130, f_131, f_132, f_133, f_134, f_135, f_136, f_137, f_138, f_139, f_140, f_141, f_142, f_143, f_144⟩ := hm9
      change φ_129 (q 0) = some (.inr (13, [.int (nI (sc 0)), .long (Int64.ofNat (sc 1)), .int (nI (sc 2)), .ref (q 1), .ref (q 2), .int (nI (sc 3)), .ref (q 3), .ref (q 4), .ref (q 5), .ref (q 6), .ref (q 7), .ref (q 8), .ref (q 9), .int (nI (sc 4)), .ref (q 10), .ref (q 11), .int (nI (sc 5)), .ref (q 12), .ref (q 13), .ref (q 14), .int (nI (sc 6)), .int (nI 1)])) at f_130
      refine hv_ti (y := nI 0) (rfl) ?_
      refine hv_if_ne (pc := 33) (tgt := 38) (a := 0) S.1 S.2.1 (by omega) dX9_lot_33 (by decide) (fun c_145 => ?_) (fun c_145 => ?_)
      · skip
        exact absurd c_145 (by omega)
      · skip
        refine lv_iconst (pc := 36) (v := nI 0) S.1 S.2.1 dX9_lot_36 (by decide) ?_
        exact hv_ret (pc := 37) (v := nI 0) S hr rfl hlocks hH hS (by rw [if_neg (by rw [eX]; decide), eX]; exact ⟨rfl, ⟨f_130, f_131, f_132, f_133, f_134, f_135, f_136, f_137, f_138, f_139, f_140, f_141, f_142, f_143, f_144⟩⟩) (Nat.le_of_ble_eq_true rfl) (Nat.le_of_ble_eq_true rfl) dX9_lot_37

set_option maxHeartbeats 4000000 in
set_option maxRecDepth 100000 in
/-- letter -/
theorem c_m_letter (l : Launch) (D : va_G) (cA : Nat → ClassId) (ga : Nat → Nat → Nat) (φ : hpM) (sz : Nat) (q : Nat → Nat) (sc : Nat → Nat) (ar : Nat → Nat → Nat) (x : Int32) (hm : MP cA q sc ar φ) (hq : ∀ i j, i < 15 → j < 15 → q i = q j → i = j) (hk : sc 0 ≤ 7) : hM l yX9_letter cX9_letter 2 (some .int) { frames := 9, cells := 0, slots := 0, locals := 260 } [.ref (q 0), .int (x)] D cA ga φ sz (fun v φ' => if letterX (sc 0) x = 0 then (∃ x1 : Nat, x = nI x1 ∧ 97 ≤ x1 ∧ x1 ≤ 122 ∧ v = some (.int (nI (sc 0 + 1))) ∧ MP cA q (va_up (va_up (va_up sc 0 (sc 0 + 1)) 1 (27 * sc 1 + (x1 - 96))) 7 (0)) ar φ') else (v = some (.int (nI 0)) ∧ MP cA q (va_up sc 7 (mcd 1 2 9 (letterX (sc 0) x))) ar φ')) 0 0 := by
  refine hM.of (by decide) (Nat.le_of_ble_eq_true rfl) rfl ?_
  intro p e s m args below meth c ls H locs S hr hlocks hnm hsz hHz hH hK hX hS hA hl
  obtain ⟨f0, f1, f2, f3, f4, f5, f6, f7, f8, f9, f10, f11, f12, f13, f14⟩ := hm
  by_cases hx : inR x 97 122
  · skip
    obtain ⟨x1, rfl, hxlo, hxhi⟩ := hx.nat (by omega) (by omega)
    refine lv_aload_n (pc := 0) S.1 S.2.1 dX9_letter_0 rfl (lv_at hl 0 rfl) ?_
    refine lv_iload_n (pc := 1) S.1 S.2.1 dX9_letter_1 rfl (lv_at hl 1 rfl) ?_
    refine lv_bipush (pc := 2) (v := nI 97) S.1 S.2.1 dX9_letter_2 (by decide) ?_
    refine hv_icmp_lt (pc := 4) (tgt := 13) (a := x1) (b := 97) S.1 S.2.1 (by omega) (by omega) dX9_letter_4 (by decide) (fun c_1 => ?_) (fun c_1 => ?_)
    · skip
      exact absurd c_1 (by omega)
    · skip
      refine lv_iload_n (pc := 7) S.1 S.2.1 dX9_letter_7 rfl (lv_at hl 1 rfl) ?_
      refine lv_bipush (pc := 8) (v := nI 122) S.1 S.2.1 dX9_letter_8 (by decide) ?_
      refine hv_icmp_le (pc := 10) (tgt := 17) (a := x1) (b := 122) S.1 S.2.1 (by omega) (by omega) dX9_letter_10 (by decide) (fun c_2 => ?_) (fun c_2 => ?_)
      · skip
        refine lv_aload_n (pc := 17) S.1 S.2.1 dX9_letter_17 rfl (lv_at hl 0 rfl) ?_
        refine hv_get (pc := 18) (C := RX9) (T := TX9) (N := 22) (ref := RX9) S uwX9 hK hH f0 rfl 0 (by decide) tw_945 (fun _ h9 => h9) rfl dX9_letter_18 ?_
        refine lv_bipush (pc := 21) (v := nI 7) S.1 S.2.1 dX9_letter_21 (by decide) ?_
        by_cases hk7 : sc 0 = 7
        · skip
          refine hv_icmp_ne (pc := 23) (tgt := 30) (a := sc 0) (b := 7) S.1 S.2.1 (by omega) (by omega) dX9_letter_23 (by decide) (fun c_3 => ?_) (fun c_3 => ?_)
          · skip
            exact absurd c_3 (by omega)
          · skip
            refine lv_iconst (pc := 26) (v := nI 2) S.1 S.2.1 dX9_letter_26 (by decide) ?_
            refine lv_goto (pc := 27) (tgt := 31) S.1 S.2.1 dX9_letter_27 (by decide) ?_
            have eX : letterX (sc 0) (nI x1) = 2 := by rw [letterX, if_pos hx, if_neg (by omega)]
            refine hv_call (pc := 31) (va_runV (As := [.int (nI 2)]) (rest := []) S (c_m_goes l D cA ga φ H.size q sc ar (2) ⟨f0, f1, f2, f3, f4, f5, f6, f7, f8, f9, f10, f11, f12, f13, f14⟩ hq (by omega)) (cwV 1 S.2.2.2.2 (gV tw_1021 tw_1023 sw_32 tw_7 tw_1024) rfl rfl rfl (by decide +kernel) ⟨Nat.le_of_ble_eq_true rfl, Nat.le_of_ble_eq_true rfl⟩) (pre0_V hH hK hX hS hA (hH.recv hK f0 rfl)) rfl rfl hl.1 rfl (lv_room (Nat.le_of_ble_eq_true rfl)) dX9_letter_31 ⟨Nat.le_of_ble_eq_true rfl, Nat.le_of_ble_eq_true rfl⟩) hS (af_le hH hS hA) (fun v_4 φ_5 H locs hw_v_4 hH hS => ?_)
            obtain ⟨rfl, hm9⟩ := hw_v_4
            obtain ⟨f_6, f_7, f_8, f_9, f_10, f_11, f_12, f_13, f_14, f_15, f_16, f_17, f_18, f_19, f_20⟩ := hm9
            change φ_5 (q 0) = some (.inr (13, [.int (nI (sc 0)), .long (Int64.ofNat (sc 1)), .int (nI (sc 2)), .ref (q 1), .ref (q 2), .int (nI (sc 3)), .ref (q 3), .ref (q 4), .ref (q 5), .ref (q 6), .ref (q 7), .ref (q 8), .ref (q 9), .int (nI (sc 4)), .ref (q 10), .ref (q 11), .int (nI (sc 5)), .ref (q 12), .ref (q 13), .ref (q 14), .int (nI (sc 6)), .int (nI 2)])) at f_6
            refine hv_ti (y := nI 0) (rfl) ?_
            refine hv_if_ne (pc := 34) (tgt := 39) (a := 0) S.1 S.2.1 (by omega) dX9_letter_34 (by decide) (fun c_21 => ?_) (fun c_21 => ?_)
            · skip
              exact absurd c_21 (by omega)
            · skip
              refine lv_iconst (pc := 37) (v := nI 0) S.1 S.2.1 dX9_letter_37 (by decide) ?_
              exact hv_ret (pc := 38) (v := nI 0) S hr rfl hlocks hH hS (by rw [if_neg (by rw [eX]; decide), eX]; exact ⟨rfl, ⟨f_6, f_7, f_8, f_9, f_10, f_11, f_12, f_13, f_14, f_15, f_16, f_17, f_18, f_19, f_20⟩⟩) (Nat.le_of_ble_eq_true rfl) (Nat.le_of_ble_eq_true rfl) dX9_letter_38
        · skip
          refine hv_icmp_ne (pc := 23) (tgt := 30) (a := sc 0) (b := 7) S.1 S.2.1 (by omega) (by omega) dX9_letter_23 (by decide) (fun c_22 => ?_) (fun c_22 => ?_)
          · skip
            refine lv_iconst (pc := 30) (v := nI 0) S.1 S.2.1 dX9_letter_30 (by decide) ?_
            have eX : letterX (sc 0) (nI x1) = 0 := by rw [letterX, if_pos hx, if_pos (by omega)]
            refine hv_call (pc := 31) (va_runV (As := [.int (nI 0)]) (rest := []) S (c_m_goes l D cA ga φ H.size q sc ar (0) ⟨f0, f1, f2, f3, f4, f5, f6, f7, f8, f9, f10, f11, f12, f13, f14⟩ hq (by omega)) (cwV 1 S.2.2.2.2 (gV tw_1021 tw_1023 sw_32 tw_7 tw_1024) rfl rfl rfl (by decide +kernel) ⟨Nat.le_of_ble_eq_true rfl, Nat.le_of_ble_eq_true rfl⟩) (pre0_V hH hK hX hS hA (hH.recv hK f0 rfl)) rfl rfl hl.1 rfl (lv_room (Nat.le_of_ble_eq_true rfl)) dX9_letter_31 ⟨Nat.le_of_ble_eq_true rfl, Nat.le_of_ble_eq_true rfl⟩) hS (af_le hH hS hA) (fun v_23 φ_24 H locs hw_v_23 hH hS => ?_)
            obtain ⟨rfl, hm9⟩ := hw_v_23
            obtain ⟨f_25, f_26, f_27, f_28, f_29, f_30, f_31, f_32, f_33, f_34, f_35, f_36, f_37, f_38, f_39⟩ := hm9
            change φ_24 (q 0) = some (.inr (13, [.int (nI (sc 0)), .long (Int64.ofNat (sc 1)), .int (nI (sc 2)), .ref (q 1), .ref (q 2), .int (nI (sc 3)), .ref (q 3), .ref (q 4), .ref (q 5), .ref (q 6), .ref (q 7), .ref (q 8), .ref (q 9), .int (nI (sc 4)), .ref (q 10), .ref (q 11), .int (nI (sc 5)), .ref (q 12), .ref (q 13), .ref (q 14), .int (nI (sc 6)), .int (nI 0)])) at f_25
            refine hv_ti (y := nI 1) (rfl) ?_
            refine hv_if_ne (pc := 34) (tgt := 39) (a := 1) S.1 S.2.1 (by omega) dX9_letter_34 (by decide) (fun c_40 => ?_) (fun c_40 => ?_)
            · skip
              refine lv_aload_n (pc := 39) S.1 S.2.1 dX9_letter_39 rfl (lv_at hl 0 rfl) ?_
              refine lv_ldc2 (pc := 40) (v := Int64.ofNat 27) S.1 S.2.1 S.2.2.2.1 (S.2.2.2.2 _ tw_1025) dX9_letter_40 ?_
              refine lv_aload_n (pc := 43) S.1 S.2.1 dX9_letter_43 rfl (lv_at hl 0 rfl) ?_
              refine hv_get (pc := 44) (C := RX9) (T := TX9) (N := 22) (ref := RX9) S uwX9 hK hH f_25 rfl 1 (by decide) tw_946 (fun _ h9 => h9) rfl dX9_letter_44 ?_
              refine lv_lmul (pc := 47) S.1 S.2.1 dX9_letter_47 ?_
              refine lv_iload_n (pc := 48) S.1 S.2.1 dX9_letter_48 rfl (lv_at hl 1 rfl) ?_
              refine lv_i2l (pc := 49) (v := (nI (x1)).toInt64) S.1 S.2.1 dX9_letter_49 rfl ?_
              refine lv_ladd (pc := 50) S.1 S.2.1 dX9_letter_50 ?_
              refine lv_ldc2 (pc := 51) (v := Int64.ofNat 97) S.1 S.2.1 S.2.2.2.1 (S.2.2.2.2 _ tw_1026) dX9_letter_51 ?_
              refine lv_lsub (pc := 54) S.1 S.2.1 dX9_letter_54 ?_
              refine lv_lconst (pc := 55) (v := Int64.ofNat 1) S.1 S.2.1 dX9_letter_55 rfl ?_
              refine lv_ladd (pc := 56) S.1 S.2.1 dX9_letter_56 ?_
              refine hv_tv (y := .long (Int64.ofNat (27 * sc 1 + (x1 - 96)))) (congrArg Value.long (jL_step (by omega) hxlo)) ?_
              refine hv_put (pc := 57) (ty := .long) (C := RX9) (T := TX9) (N := 22) (ref := RX9) S uwX9 tyX9 tyX9_ok nmX9 hK hH hS f_25 rfl 1 (by decide) tw_946 (fun _ h9 => h9) rfl (by decide +kernel) rfl rfl (Nat.le_of_ble_eq_true rfl) dX9_letter_57 (fun H locs hH hS => ?_)
              replace hH := nup (e := .inr (13, [.int (nI (sc 0)), .long (Int64.ofNat (27 * sc 1 + (x1 - 96))), .int (nI (sc 2)), .ref (q 1), .ref (q 2), .int (nI (sc 3)), .ref (q 3), .ref (q 4), .ref (q 5), .ref (q 6), .ref (q 7), .ref (q 8), .ref (q 9), .int (nI (sc 4)), .ref (q 10), .ref (q 11), .int (nI (sc 5)), .ref (q 12), .ref (q 13), .ref (q 14), .int (nI (sc 6)), .int (nI 0)])) hH
              obtain ⟨φ_41, hφ_41, fa_φ_41, fr_φ_41, hH⟩ := hH
              have f_42 := fr_φ_41 _ _ (fun h => absurd (hq 1 0 (by omega) (by omega) h) (by omega)) f_26
              have f_43 := fr_φ_41 _ _ (fun h => absurd (hq 2 0 (by omega) (by omega) h) (by omega)) f_27
              have f_44 := fr_φ_41 _ _ (fun h => absurd (hq 3 0 (by omega) (by omega) h) (by omega)) f_28
              have f_45 := fr_φ_41 _ _ (fun h => absurd (hq 4 0 (by omega) (by omega) h) (by omega)) f_29
              have f_46 := fr_φ_41 _ _ (fun h => absurd (hq 5 0 (by omega) (by omega) h) (by omega)) f_30
              have f_47 := fr_φ_41 _ _ (fun h => absurd (hq 6 0 (by omega) (by omega) h) (by omega)) f_31
              have f_48 := fr_φ_41 _ _ (fun h => absurd (hq 7 0 (by omega) (by omega) h) (by omega)) f_32
              have f_49 := fr_φ_41 _ _ (fun h => absurd (hq 8 0 (by omega) (by omega) h) (by omega)) f_33
              have f_50 := fr_φ_41 _ _ (fun h => absurd (hq 9 0 (by omega) (by omega) h) (by omega)) f_34
              have f_51 := fr_φ_41 _ _ (fun h => absurd (hq 10 0 (by omega) (by omega) h) (by omega)) f_35
              have f_52 := fr_φ_41 _ _ (fun h => absurd (hq 11 0 (by omega) (by omega) h) (by omega)) f_36
              have f_53 := fr_φ_41 _ _ (fun h => absurd (hq 12 0 (by omega) (by omega) h) (by omega)) f_37
              have f_54 := fr_φ_41 _ _ (fun h => absurd (hq 13 0 (by omega) (by omega) h) (by omega)) f_38
              have f_55 := fr_φ_41 _ _ (fun h => absurd (hq 14 0 (by omega) (by omega) h) (by omega)) f_39
              refine lv_aload_n (pc := 60) S.1 S.2.1 dX9_letter_60 rfl (lv_at hl 0 rfl) ?_
              refine lv_dup (pc := 61) S.1 S.2.1 dX9_letter_61 rfl ?_
              refine hv_get (pc := 62) (C := RX9) (T := TX9) (N := 22) (ref := RX9) S uwX9 hK hH fa_φ_41 rfl 0 (by decide) tw_945 (fun _ h9 => h9) rfl dX9_letter_62 ?_
              refine lv_iconst (pc := 65) (v := nI 1) S.1 S.2.1 dX9_letter_65 (by decide) ?_
              refine lv_iadd (pc := 66) S.1 S.2.1 dX9_letter_66 ?_
              refine hv_ti (y := nI ((sc 0) + 1)) (nI_add _ _) ?_
              refine hv_put (pc := 67) (ty := .int) (C := RX9) (T := TX9) (N := 22) (ref := RX9) S uwX9 tyX9 tyX9_ok nmX9 hK hH hS fa_φ_41 rfl 0 (by decide) tw_945 (fun _ h9 => h9) rfl (by decide +kernel) rfl rfl (Nat.le_of_ble_eq_true rfl) dX9_letter_67 (fun H locs hH hS => ?_)
              replace hH := nup (e := .inr (13, [.int (nI ((sc 0) + 1)), .long (Int64.ofNat (27 * sc 1 + (x1 - 96))), .int (nI (sc 2)), .ref (q 1), .ref (q 2), .int (nI (sc 3)), .ref (q 3), .ref (q 4), .ref (q 5), .ref (q 6), .ref (q 7), .ref (q 8), .ref (q 9), .int (nI (sc 4)), .ref (q 10), .ref (q 11), .int (nI (sc 5)), .ref (q 12), .ref (q 13), .ref (q 14), .int (nI (sc 6)), .int (nI 0)])) hH
              obtain ⟨φ_56, hφ_56, fa_φ_56, fr_φ_56, hH⟩ := hH
              have f_57 := fr_φ_56 _ _ (fun h => absurd (hq 1 0 (by omega) (by omega) h) (by omega)) f_42
              have f_58 := fr_φ_56 _ _ (fun h => absurd (hq 2 0 (by omega) (by omega) h) (by omega)) f_43
              have f_59 := fr_φ_56 _ _ (fun h => absurd (hq 3 0 (by omega) (by omega) h) (by omega)) f_44
              have f_60 := fr_φ_56 _ _ (fun h => absurd (hq 4 0 (by omega) (by omega) h) (by omega)) f_45
              have f_61 := fr_φ_56 _ _ (fun h => absurd (hq 5 0 (by omega) (by omega) h) (by omega)) f_46
              have f_62 := fr_φ_56 _ _ (fun h => absurd (hq 6 0 (by omega) (by omega) h) (by omega)) f_47
              have f_63 := fr_φ_56 _ _ (fun h => absurd (hq 7 0 (by omega) (by omega) h) (by omega)) f_48
              have f_64 := fr_φ_56 _ _ (fun h => absurd (hq 8 0 (by omega) (by omega) h) (by omega)) f_49
              have f_65 := fr_φ_56 _ _ (fun h => absurd (hq 9 0 (by omega) (by omega) h) (by omega)) f_50
              have f_66 := fr_φ_56 _ _ (fun h => absurd (hq 10 0 (by omega) (by omega) h) (by omega)) f_51
              have f_67 := fr_φ_56 _ _ (fun h => absurd (hq 11 0 (by omega) (by omega) h) (by omega)) f_52
              have f_68 := fr_φ_56 _ _ (fun h => absurd (hq 12 0 (by omega) (by omega) h) (by omega)) f_53
              have f_69 := fr_φ_56 _ _ (fun h => absurd (hq 13 0 (by omega) (by omega) h) (by omega)) f_54
              have f_70 := fr_φ_56 _ _ (fun h => absurd (hq 14 0 (by omega) (by omega) h) (by omega)) f_55
              refine lv_aload_n (pc := 70) S.1 S.2.1 dX9_letter_70 rfl (lv_at hl 0 rfl) ?_
              refine hv_get (pc := 71) (C := RX9) (T := TX9) (N := 22) (ref := RX9) S uwX9 hK hH fa_φ_56 rfl 0 (by decide) tw_945 (fun _ h9 => h9) rfl dX9_letter_71 ?_
              exact hv_ret (pc := 74) (v := nI ((sc 0) + 1)) S hr rfl hlocks hH hS (by rw [if_pos eX]; exact ⟨x1, rfl, hxlo, hxhi, rfl, ⟨fa_φ_56, f_57, f_58, f_59, f_60, f_61, f_62, f_63, f_64, f_65, f_66, f_67, f_68, f_69, f_70⟩⟩) (Nat.le_of_ble_eq_true rfl) (Nat.le_of_ble_eq_true rfl) dX9_letter_74
            · skip
              exact absurd c_40 (by omega)
          · skip
            exact absurd c_22 (by omega)
      · skip
        exact absurd c_2 (by omega)
  · skip
    refine lv_aload_n (pc := 0) S.1 S.2.1 dX9_letter_0 rfl (lv_at hl 0 rfl) ?_
    refine lv_iload_n (pc := 1) S.1 S.2.1 dX9_letter_1 rfl (lv_at hl 1 rfl) ?_
    refine lv_bipush (pc := 2) (v := nI 97) S.1 S.2.1 dX9_letter_2 (by decide) ?_
    refine lv_icmp_lt (pc := 4) (tgt := 13) S.1 S.2.1 dX9_letter_4 (by decide) (fun c_71 => ?_) (fun c_71 => ?_)
    · skip
      refine lv_iconst (pc := 13) (v := nI 1) S.1 S.2.1 dX9_letter_13 (by decide) ?_
      refine lv_goto (pc := 14) (tgt := 31) S.1 S.2.1 dX9_letter_14 (by decide) ?_
      have eX : letterX (sc 0) x = 1 := by rw [letterX, if_neg hx]
      refine hv_call (pc := 31) (va_runV (As := [.int (nI 1)]) (rest := []) S (c_m_goes l D cA ga φ H.size q sc ar (1) ⟨f0, f1, f2, f3, f4, f5, f6, f7, f8, f9, f10, f11, f12, f13, f14⟩ hq (by omega)) (cwV 1 S.2.2.2.2 (gV tw_1021 tw_1023 sw_32 tw_7 tw_1024) rfl rfl rfl (by decide +kernel) ⟨Nat.le_of_ble_eq_true rfl, Nat.le_of_ble_eq_true rfl⟩) (pre0_V hH hK hX hS hA (hH.recv hK f0 rfl)) rfl rfl hl.1 rfl (lv_room (Nat.le_of_ble_eq_true rfl)) dX9_letter_31 ⟨Nat.le_of_ble_eq_true rfl, Nat.le_of_ble_eq_true rfl⟩) hS (af_le hH hS hA) (fun v_72 φ_73 H locs hw_v_72 hH hS => ?_)
      obtain ⟨rfl, hm9⟩ := hw_v_72
      obtain ⟨f_74, f_75, f_76, f_77, f_78, f_79, f_80, f_81, f_82, f_83, f_84, f_85, f_86, f_87, f_88⟩ := hm9
      change φ_73 (q 0) = some (.inr (13, [.int (nI (sc 0)), .long (Int64.ofNat (sc 1)), .int (nI (sc 2)), .ref (q 1), .ref (q 2), .int (nI (sc 3)), .ref (q 3), .ref (q 4), .ref (q 5), .ref (q 6), .ref (q 7), .ref (q 8), .ref (q 9), .int (nI (sc 4)), .ref (q 10), .ref (q 11), .int (nI (sc 5)), .ref (q 12), .ref (q 13), .ref (q 14), .int (nI (sc 6)), .int (nI 1)])) at f_74
      refine hv_ti (y := nI 0) (rfl) ?_
      refine hv_if_ne (pc := 34) (tgt := 39) (a := 0) S.1 S.2.1 (by omega) dX9_letter_34 (by decide) (fun c_89 => ?_) (fun c_89 => ?_)
      · skip
        exact absurd c_89 (by omega)
      · skip
        refine lv_iconst (pc := 37) (v := nI 0) S.1 S.2.1 dX9_letter_37 (by decide) ?_
        exact hv_ret (pc := 38) (v := nI 0) S hr rfl hlocks hH hS (by rw [if_neg (by rw [eX]; decide), eX]; exact ⟨rfl, ⟨f_74, f_75, f_76, f_77, f_78, f_79, f_80, f_81, f_82, f_83, f_84, f_85, f_86, f_87, f_88⟩⟩) (Nat.le_of_ble_eq_true rfl) (Nat.le_of_ble_eq_true rfl) dX9_letter_38
    · skip
      refine lv_iload_n (pc := 7) S.1 S.2.1 dX9_letter_7 rfl (lv_at hl 1 rfl) ?_
      refine lv_bipush (pc := 8) (v := nI 122) S.1 S.2.1 dX9_letter_8 (by decide) ?_
      refine lv_icmp_le (pc := 10) (tgt := 17) S.1 S.2.1 dX9_letter_10 (by decide) (fun c_90 => ?_) (fun c_90 => ?_)
      · skip
        exact absurd ⟨i32_nlt c_71, c_90⟩ hx
      · skip
        refine lv_iconst (pc := 13) (v := nI 1) S.1 S.2.1 dX9_letter_13 (by decide) ?_
        refine lv_goto (pc := 14) (tgt := 31) S.1 S.2.1 dX9_letter_14 (by decide) ?_
        have eX : letterX (sc 0) x = 1 := by rw [letterX, if_neg hx]
        refine hv_call (pc := 31) (va_runV (As := [.int (nI 1)]) (rest := []) S (c_m_goes l D cA ga φ H.size q sc ar (1) ⟨f0, f1, f2, f3, f4, f5, f6, f7, f8, f9, f10, f11, f12, f13, f14⟩ hq (by omega)) (cwV 1 S.2.2.2.2 (gV tw_1021 tw_1023 sw_32 tw_7 tw_1024) rfl rfl rfl (by decide +kernel) ⟨Nat.le_of_ble_eq_true rfl, Nat.le_of_ble_eq_true rfl⟩) (pre0_V hH hK hX hS hA (hH.recv hK f0 rfl)) rfl rfl hl.1 rfl (lv_room (Nat.le_of_ble_eq_true rfl)) dX9_letter_31 ⟨Nat.le_of_ble_eq_true rfl, Nat.le_of_ble_eq_true rfl⟩) hS (af_le hH hS hA) (fun v_91 φ_92 H locs hw_v_91 hH hS => ?_)
        obtain ⟨rfl, hm9⟩ := hw_v_91
        obtain ⟨f_93, f_94, f_95, f_96, f_97, f_98, f_99, f_100, f_101, f_102, f_103, f_104, f_105, f_106, f_107⟩ := hm9
        change φ_92 (q 0) = some (.inr (13, [.int (nI (sc 0)), .long (Int64.ofNat (sc 1)), .int (nI (sc 2)), .ref (q 1), .ref (q 2), .int (nI (sc 3)), .ref (q 3), .ref (q 4), .ref (q 5), .ref (q 6), .ref (q 7), .ref (q 8), .ref (q 9), .int (nI (sc 4)), .ref (q 10), .ref (q 11), .int (nI (sc 5)), .ref (q 12), .ref (q 13), .ref (q 14), .int (nI (sc 6)), .int (nI 1)])) at f_93
        refine hv_ti (y := nI 0) (rfl) ?_
        refine hv_if_ne (pc := 34) (tgt := 39) (a := 0) S.1 S.2.1 (by omega) dX9_letter_34 (by decide) (fun c_108 => ?_) (fun c_108 => ?_)
        · skip
          exact absurd c_108 (by omega)
        · skip
          refine lv_iconst (pc := 37) (v := nI 0) S.1 S.2.1 dX9_letter_37 (by decide) ?_
          exact hv_ret (pc := 38) (v := nI 0) S hr rfl hlocks hH hS (by rw [if_neg (by rw [eX]; decide), eX]; exact ⟨rfl, ⟨f_93, f_94, f_95, f_96, f_97, f_98, f_99, f_100, f_101, f_102, f_103, f_104, f_105, f_106, f_107⟩⟩) (Nat.le_of_ble_eq_true rfl) (Nat.le_of_ble_eq_true rfl) dX9_letter_38

set_option maxHeartbeats 4000000 in
set_option maxRecDepth 100000 in
/-- block -/
theorem c_m_block (l : Launch) (D : va_G) (cA : Nat → ClassId) (ga : Nat → Nat → Nat) (φ : hpM) (sz : Nat) (q : Nat → Nat) (sc : Nat → Nat) (ar : Nat → Nat → Nat) (x z : Int32) (hm : MP cA q sc ar φ) (hq : ∀ i j, i < 15 → j < 15 → q i = q j → i = j) (hk : sc 4 ≤ 8) : hM l yX9_block cX9_block 3 (some .int) { frames := 9, cells := 0, slots := 0, locals := 260 } [.ref (q 0), .int (x), .int (z)] D cA ga φ sz (fun v φ' => if blockX (sc 4) x z = 0 then (∃ x1 z1 : Nat, x = nI x1 ∧ z = nI z1 ∧ 300 ≤ x1 ∧ x1 ≤ 700 ∧ 1 ≤ z1 ∧ z1 ≤ 6 ∧ v = some (.int (nI (sc 4))) ∧ MP cA q (va_up (va_up sc 4 (sc 4 + 1)) 7 (0)) (va_up (va_up ar 10 (va_up (ar 10) (sc 4) x1)) 11 (va_up (ar 11) (sc 4) z1)) φ') else (v = some (.int (nI 0)) ∧ MP cA q (va_up sc 7 (mcd 1 2 9 (blockX (sc 4) x z))) ar φ')) 0 0 := by
  refine hM.of (by decide) (Nat.le_of_ble_eq_true rfl) rfl ?_
  intro p e s m args below meth c ls H locs S hr hlocks hnm hsz hHz hH hK hX hS hA hl
  obtain ⟨f0, f1, f2, f3, f4, f5, f6, f7, f8, f9, f10, f11, f12, f13, f14⟩ := hm
  refine lv_aload_n (pc := 0) S.1 S.2.1 dX9_block_0 rfl (lv_at hl 0 rfl) ?_
  refine lv_iload_n (pc := 1) S.1 S.2.1 dX9_block_1 rfl (lv_at hl 1 rfl) ?_
  refine lv_sipush (pc := 2) (v := nI 300) S.1 S.2.1 dX9_block_2 (by decide) ?_
  refine lv_sipush (pc := 5) (v := nI 700) S.1 S.2.1 dX9_block_5 (by decide) ?_
  by_cases hx : inR x 300 700
  · skip
    obtain ⟨x1, rfl, hxlo, hxhi⟩ := hx.nat (by omega) (by omega)
    refine hv_call (pc := 8) (va_runS (As := [.int (nI x1), .int (nI 300), .int (nI 700)]) (rest := [.ref (q 0)]) S (c_isIn l D cA ga φ H.size (nI x1) (nI 300) (nI 700)) (va_cwS 3 S.2.2.2.2 (gS tw_1031 tw_1032 tw_7 tw_1033) rfl rfl rfl (by decide +kernel) ⟨Nat.le_of_ble_eq_true rfl, Nat.le_of_ble_eq_true rfl⟩) (pre0_S hH hK hX hS hA) rfl rfl hl.1 rfl (lv_room (Nat.le_of_ble_eq_true rfl)) dX9_block_8 ⟨Nat.le_of_ble_eq_true rfl, Nat.le_of_ble_eq_true rfl⟩) hS (af_le hH hS hA) (fun v_1 φ_2 H locs hw_v_1 hH hS => ?_)
    obtain ⟨rfl, hqv_1⟩ := hw_v_1
    rw [hqv_1] at hH
    refine hv_ti (y := nI 1) (by rw [inB_R, if_pos hx]) ?_
    refine hv_if_eq (pc := 11) (tgt := 24) (a := 1) S.1 S.2.1 (by omega) dX9_block_11 (by decide) (fun c_3 => ?_) (fun c_3 => ?_)
    · skip
      exact absurd c_3 (by omega)
    · skip
      refine lv_iload_n (pc := 14) S.1 S.2.1 dX9_block_14 rfl (lv_at hl 2 rfl) ?_
      refine lv_iconst (pc := 15) (v := nI 1) S.1 S.2.1 dX9_block_15 (by decide) ?_
      refine lv_bipush (pc := 16) (v := nI 6) S.1 S.2.1 dX9_block_16 (by decide) ?_
      by_cases hz : inR z 1 6
      · skip
        obtain ⟨z1, rfl, hzlo, hzhi⟩ := hz.nat (by omega) (by omega)
        refine hv_call (pc := 18) (va_runS (As := [.int (nI z1), .int (nI 1), .int (nI 6)]) (rest := [.ref (q 0)]) S (c_isIn l D cA ga φ H.size (nI z1) (nI 1) (nI 6)) (va_cwS 3 S.2.2.2.2 (gS tw_1031 tw_1032 tw_7 tw_1033) rfl rfl rfl (by decide +kernel) ⟨Nat.le_of_ble_eq_true rfl, Nat.le_of_ble_eq_true rfl⟩) (pre0_S hH hK hX hS hA) rfl rfl hl.1 rfl (lv_room (Nat.le_of_ble_eq_true rfl)) dX9_block_18 ⟨Nat.le_of_ble_eq_true rfl, Nat.le_of_ble_eq_true rfl⟩) hS (af_le hH hS hA) (fun v_4 φ_5 H locs hw_v_4 hH hS => ?_)
        obtain ⟨rfl, hqv_4⟩ := hw_v_4
        rw [hqv_4] at hH
        refine hv_ti (y := nI 1) (by rw [inB_R, if_pos hz]) ?_
        refine hv_if_ne (pc := 21) (tgt := 28) (a := 1) S.1 S.2.1 (by omega) dX9_block_21 (by decide) (fun c_6 => ?_) (fun c_6 => ?_)
        · skip
          refine lv_aload_n (pc := 28) S.1 S.2.1 dX9_block_28 rfl (lv_at hl 0 rfl) ?_
          refine hv_get (pc := 29) (C := RX9) (T := TX9) (N := 22) (ref := RX9) S uwX9 hK hH f0 rfl 13 (by decide) tw_958 (fun _ h9 => h9) rfl dX9_block_29 ?_
          refine lv_bipush (pc := 32) (v := nI 8) S.1 S.2.1 dX9_block_32 (by decide) ?_
          by_cases h8 : sc 4 = 8
          · skip
            refine hv_icmp_ne (pc := 34) (tgt := 41) (a := sc 4) (b := 8) S.1 S.2.1 (by omega) (by omega) dX9_block_34 (by decide) (fun c_7 => ?_) (fun c_7 => ?_)
            · skip
              exact absurd c_7 (by omega)
            · skip
              refine lv_iconst (pc := 37) (v := nI 2) S.1 S.2.1 dX9_block_37 (by decide) ?_
              refine lv_goto (pc := 38) (tgt := 42) S.1 S.2.1 dX9_block_38 (by decide) ?_
              have eX : blockX (sc 4) (nI x1) (nI z1) = 2 := by rw [blockX, if_pos hx, if_pos hz, if_neg (by omega)]
              refine hv_call (pc := 42) (va_runV (As := [.int (nI 2)]) (rest := []) S (c_m_goes l D cA ga φ H.size q sc ar (2) ⟨f0, f1, f2, f3, f4, f5, f6, f7, f8, f9, f10, f11, f12, f13, f14⟩ hq (by omega)) (cwV 1 S.2.2.2.2 (gV tw_1021 tw_1023 sw_32 tw_7 tw_1024) rfl rfl rfl (by decide +kernel) ⟨Nat.le_of_ble_eq_true rfl, Nat.le_of_ble_eq_true rfl⟩) (pre0_V hH hK hX hS hA (hH.recv hK f0 rfl)) rfl rfl hl.1 rfl (lv_room (Nat.le_of_ble_eq_true rfl)) dX9_block_42 ⟨Nat.le_of_ble_eq_true rfl, Nat.le_of_ble_eq_true rfl⟩) hS (af_le hH hS hA) (fun v_8 φ_9 H locs hw_v_8 hH hS => ?_)
              obtain ⟨rfl, hm9⟩ := hw_v_8
              obtain ⟨f_10, f_11, f_12, f_13, f_14, f_15, f_16, f_17, f_18, f_19, f_20, f_21, f_22, f_23, f_24⟩ := hm9
              change φ_9 (q 0) = some (.inr (13, [.int (nI (sc 0)), .long (Int64.ofNat (sc 1)), .int (nI (sc 2)), .ref (q 1), .ref (q 2), .int (nI (sc 3)), .ref (q 3), .ref (q 4), .ref (q 5), .ref (q 6), .ref (q 7), .ref (q 8), .ref (q 9), .int (nI (sc 4)), .ref (q 10), .ref (q 11), .int (nI (sc 5)), .ref (q 12), .ref (q 13), .ref (q 14), .int (nI (sc 6)), .int (nI 2)])) at f_10
              refine hv_ti (y := nI 0) (rfl) ?_
              refine hv_if_ne (pc := 45) (tgt := 50) (a := 0) S.1 S.2.1 (by omega) dX9_block_45 (by decide) (fun c_25 => ?_) (fun c_25 => ?_)
              · skip
                exact absurd c_25 (by omega)
              · skip
                refine lv_iconst (pc := 48) (v := nI 0) S.1 S.2.1 dX9_block_48 (by decide) ?_
                exact hv_ret (pc := 49) (v := nI 0) S hr rfl hlocks hH hS (by rw [if_neg (by rw [eX]; decide), eX]; exact ⟨rfl, ⟨f_10, f_11, f_12, f_13, f_14, f_15, f_16, f_17, f_18, f_19, f_20, f_21, f_22, f_23, f_24⟩⟩) (Nat.le_of_ble_eq_true rfl) (Nat.le_of_ble_eq_true rfl) dX9_block_49
          · skip
            refine hv_icmp_ne (pc := 34) (tgt := 41) (a := sc 4) (b := 8) S.1 S.2.1 (by omega) (by omega) dX9_block_34 (by decide) (fun c_26 => ?_) (fun c_26 => ?_)
            · skip
              refine lv_iconst (pc := 41) (v := nI 0) S.1 S.2.1 dX9_block_41 (by decide) ?_
              have eX : blockX (sc 4) (nI x1) (nI z1) = 0 := by rw [blockX, if_pos hx, if_pos hz, if_pos (by omega)]
              refine hv_call (pc := 42) (va_runV (As := [.int (nI 0)]) (rest := []) S (c_m_goes l D cA ga φ H.size q sc ar (0) ⟨f0, f1, f2, f3, f4, f5, f6, f7, f8, f9, f10, f11, f12, f13, f14⟩ hq (by omega)) (cwV 1 S.2.2.2.2 (gV tw_1021 tw_1023 sw_32 tw_7 tw_1024) rfl rfl rfl (by decide +kernel) ⟨Nat.le_of_ble_eq_true rfl, Nat.le_of_ble_eq_true rfl⟩) (pre0_V hH hK hX hS hA (hH.recv hK f0 rfl)) rfl rfl hl.1 rfl (lv_room (Nat.le_of_ble_eq_true rfl)) dX9_block_42 ⟨Nat.le_of_ble_eq_true rfl, Nat.le_of_ble_eq_true rfl⟩) hS (af_le hH hS hA) (fun v_27 φ_28 H locs hw_v_27 hH hS => ?_)
              obtain ⟨rfl, hm9⟩ := hw_v_27
              obtain ⟨f_29, f_30, f_31, f_32, f_33, f_34, f_35, f_36, f_37, f_38, f_39, f_40, f_41, f_42, f_43⟩ := hm9
              change φ_28 (q 0) = some (.inr (13, [.int (nI (sc 0)), .long (Int64.ofNat (sc 1)), .int (nI (sc 2)), .ref (q 1), .ref (q 2), .int (nI (sc 3)), .ref (q 3), .ref (q 4), .ref (q 5), .ref (q 6), .ref (q 7), .ref (q 8), .ref (q 9), .int (nI (sc 4)), .ref (q 10), .ref (q 11), .int (nI (sc 5)), .ref (q 12), .ref (q 13), .ref (q 14), .int (nI (sc 6)), .int (nI 0)])) at f_29
              refine hv_ti (y := nI 1) (rfl) ?_
              refine hv_if_ne (pc := 45) (tgt := 50) (a := 1) S.1 S.2.1 (by omega) dX9_block_45 (by decide) (fun c_44 => ?_) (fun c_44 => ?_)
              · skip
                refine lv_aload_n (pc := 50) S.1 S.2.1 dX9_block_50 rfl (lv_at hl 0 rfl) ?_
                refine hv_get (pc := 51) (C := RX9) (T := TX9) (N := 22) (ref := RX9) S uwX9 hK hH f_29 rfl 14 (by decide) tw_959 (fun _ h9 => h9) rfl dX9_block_51 ?_
                refine lv_aload_n (pc := 54) S.1 S.2.1 dX9_block_54 rfl (lv_at hl 0 rfl) ?_
                refine hv_get (pc := 55) (C := RX9) (T := TX9) (N := 22) (ref := RX9) S uwX9 hK hH f_29 rfl 13 (by decide) tw_958 (fun _ h9 => h9) rfl dX9_block_55 ?_
                refine lv_iload_n (pc := 58) S.1 S.2.1 dX9_block_58 rfl (lv_at hl 1 rfl) ?_
                refine hv_iast (pc := 59) S hK hH hS 1 f_39 rfl (vp_in_nI (by omega) (by omega)) dX9_block_59 (fun H locs hH hS => ?_)
                rw [hv_upd (by omega)] at hH
                replace hH := nup (e := .inl (cA 1, 8, .inl (fun j => nI ((va_up (ar 10) (sc 4) x1) j)))) hH
                obtain ⟨φ_45, hφ_45, fa_φ_45, fr_φ_45, hH⟩ := hH
                have f_46 := fr_φ_45 _ _ (fun h => absurd (hq 0 10 (by omega) (by omega) h) (by omega)) f_29
                have f_47 := fr_φ_45 _ _ (fun h => absurd (hq 1 10 (by omega) (by omega) h) (by omega)) f_30
                have f_48 := fr_φ_45 _ _ (fun h => absurd (hq 2 10 (by omega) (by omega) h) (by omega)) f_31
                have f_49 := fr_φ_45 _ _ (fun h => absurd (hq 3 10 (by omega) (by omega) h) (by omega)) f_32
                have f_50 := fr_φ_45 _ _ (fun h => absurd (hq 4 10 (by omega) (by omega) h) (by omega)) f_33
                have f_51 := fr_φ_45 _ _ (fun h => absurd (hq 5 10 (by omega) (by omega) h) (by omega)) f_34
                have f_52 := fr_φ_45 _ _ (fun h => absurd (hq 6 10 (by omega) (by omega) h) (by omega)) f_35
                have f_53 := fr_φ_45 _ _ (fun h => absurd (hq 7 10 (by omega) (by omega) h) (by omega)) f_36
                have f_54 := fr_φ_45 _ _ (fun h => absurd (hq 8 10 (by omega) (by omega) h) (by omega)) f_37
                have f_55 := fr_φ_45 _ _ (fun h => absurd (hq 9 10 (by omega) (by omega) h) (by omega)) f_38
                have f_56 := fr_φ_45 _ _ (fun h => absurd (hq 11 10 (by omega) (by omega) h) (by omega)) f_40
                have f_57 := fr_φ_45 _ _ (fun h => absurd (hq 12 10 (by omega) (by omega) h) (by omega)) f_41
                have f_58 := fr_φ_45 _ _ (fun h => absurd (hq 13 10 (by omega) (by omega) h) (by omega)) f_42
                have f_59 := fr_φ_45 _ _ (fun h => absurd (hq 14 10 (by omega) (by omega) h) (by omega)) f_43
                refine lv_aload_n (pc := 60) S.1 S.2.1 dX9_block_60 rfl (lv_at hl 0 rfl) ?_
                refine hv_get (pc := 61) (C := RX9) (T := TX9) (N := 22) (ref := RX9) S uwX9 hK hH f_46 rfl 15 (by decide) tw_960 (fun _ h9 => h9) rfl dX9_block_61 ?_
                refine lv_aload_n (pc := 64) S.1 S.2.1 dX9_block_64 rfl (lv_at hl 0 rfl) ?_
                refine hv_get (pc := 65) (C := RX9) (T := TX9) (N := 22) (ref := RX9) S uwX9 hK hH f_46 rfl 13 (by decide) tw_958 (fun _ h9 => h9) rfl dX9_block_65 ?_
                refine lv_iload_n (pc := 68) S.1 S.2.1 dX9_block_68 rfl (lv_at hl 2 rfl) ?_
                refine hv_iast (pc := 69) S hK hH hS 1 f_56 rfl (vp_in_nI (by omega) (by omega)) dX9_block_69 (fun H locs hH hS => ?_)
                rw [hv_upd (by omega)] at hH
                replace hH := nup (e := .inl (cA 1, 8, .inl (fun j => nI ((va_up (ar 11) (sc 4) z1) j)))) hH
                obtain ⟨φ_60, hφ_60, fa_φ_60, fr_φ_60, hH⟩ := hH
                have f_61 := fr_φ_60 _ _ (fun h => absurd (hq 0 11 (by omega) (by omega) h) (by omega)) f_46
                have f_62 := fr_φ_60 _ _ (fun h => absurd (hq 1 11 (by omega) (by omega) h) (by omega)) f_47
                have f_63 := fr_φ_60 _ _ (fun h => absurd (hq 2 11 (by omega) (by omega) h) (by omega)) f_48
                have f_64 := fr_φ_60 _ _ (fun h => absurd (hq 3 11 (by omega) (by omega) h) (by omega)) f_49
                have f_65 := fr_φ_60 _ _ (fun h => absurd (hq 4 11 (by omega) (by omega) h) (by omega)) f_50
                have f_66 := fr_φ_60 _ _ (fun h => absurd (hq 5 11 (by omega) (by omega) h) (by omega)) f_51
                have f_67 := fr_φ_60 _ _ (fun h => absurd (hq 6 11 (by omega) (by omega) h) (by omega)) f_52
                have f_68 := fr_φ_60 _ _ (fun h => absurd (hq 7 11 (by omega) (by omega) h) (by omega)) f_53
                have f_69 := fr_φ_60 _ _ (fun h => absurd (hq 8 11 (by omega) (by omega) h) (by omega)) f_54
                have f_70 := fr_φ_60 _ _ (fun h => absurd (hq 9 11 (by omega) (by omega) h) (by omega)) f_55
                have f_71 := fr_φ_60 _ _ (fun h => absurd (hq 12 11 (by omega) (by omega) h) (by omega)) f_57
                have f_72 := fr_φ_60 _ _ (fun h => absurd (hq 13 11 (by omega) (by omega) h) (by omega)) f_58
                have f_73 := fr_φ_60 _ _ (fun h => absurd (hq 14 11 (by omega) (by omega) h) (by omega)) f_59
                have f_74 := fr_φ_60 _ _ (fun h => absurd (hq 10 11 (by omega) (by omega) h) (by omega)) fa_φ_45
                refine lv_aload_n (pc := 70) S.1 S.2.1 dX9_block_70 rfl (lv_at hl 0 rfl) ?_
                refine lv_dup (pc := 71) S.1 S.2.1 dX9_block_71 rfl ?_
                refine hv_get (pc := 72) (C := RX9) (T := TX9) (N := 22) (ref := RX9) S uwX9 hK hH f_61 rfl 13 (by decide) tw_958 (fun _ h9 => h9) rfl dX9_block_72 ?_
                refine lv_iconst (pc := 75) (v := nI 1) S.1 S.2.1 dX9_block_75 (by decide) ?_
                refine lv_iadd (pc := 76) S.1 S.2.1 dX9_block_76 ?_
                refine hv_ti (y := nI ((sc 4) + 1)) (nI_add _ _) ?_
                refine hv_put (pc := 77) (ty := .int) (C := RX9) (T := TX9) (N := 22) (ref := RX9) S uwX9 tyX9 tyX9_ok nmX9 hK hH hS f_61 rfl 13 (by decide) tw_958 (fun _ h9 => h9) rfl (by decide +kernel) rfl rfl (Nat.le_of_ble_eq_true rfl) dX9_block_77 (fun H locs hH hS => ?_)
                replace hH := nup (e := .inr (13, [.int (nI (sc 0)), .long (Int64.ofNat (sc 1)), .int (nI (sc 2)), .ref (q 1), .ref (q 2), .int (nI (sc 3)), .ref (q 3), .ref (q 4), .ref (q 5), .ref (q 6), .ref (q 7), .ref (q 8), .ref (q 9), .int (nI ((sc 4) + 1)), .ref (q 10), .ref (q 11), .int (nI (sc 5)), .ref (q 12), .ref (q 13), .ref (q 14), .int (nI (sc 6)), .int (nI 0)])) hH
                obtain ⟨φ_75, hφ_75, fa_φ_75, fr_φ_75, hH⟩ := hH
                have f_76 := fr_φ_75 _ _ (fun h => absurd (hq 1 0 (by omega) (by omega) h) (by omega)) f_62
                have f_77 := fr_φ_75 _ _ (fun h => absurd (hq 2 0 (by omega) (by omega) h) (by omega)) f_63
                have f_78 := fr_φ_75 _ _ (fun h => absurd (hq 3 0 (by omega) (by omega) h) (by omega)) f_64
                have f_79 := fr_φ_75 _ _ (fun h => absurd (hq 4 0 (by omega) (by omega) h) (by omega)) f_65
                have f_80 := fr_φ_75 _ _ (fun h => absurd (hq 5 0 (by omega) (by omega) h) (by omega)) f_66
                have f_81 := fr_φ_75 _ _ (fun h => absurd (hq 6 0 (by omega) (by omega) h) (by omega)) f_67
                have f_82 := fr_φ_75 _ _ (fun h => absurd (hq 7 0 (by omega) (by omega) h) (by omega)) f_68
                have f_83 := fr_φ_75 _ _ (fun h => absurd (hq 8 0 (by omega) (by omega) h) (by omega)) f_69
                have f_84 := fr_φ_75 _ _ (fun h => absurd (hq 9 0 (by omega) (by omega) h) (by omega)) f_70
                have f_85 := fr_φ_75 _ _ (fun h => absurd (hq 12 0 (by omega) (by omega) h) (by omega)) f_71
                have f_86 := fr_φ_75 _ _ (fun h => absurd (hq 13 0 (by omega) (by omega) h) (by omega)) f_72
                have f_87 := fr_φ_75 _ _ (fun h => absurd (hq 14 0 (by omega) (by omega) h) (by omega)) f_73
                have f_88 := fr_φ_75 _ _ (fun h => absurd (hq 10 0 (by omega) (by omega) h) (by omega)) f_74
                have f_89 := fr_φ_75 _ _ (fun h => absurd (hq 11 0 (by omega) (by omega) h) (by omega)) fa_φ_60
                refine lv_aload_n (pc := 80) S.1 S.2.1 dX9_block_80 rfl (lv_at hl 0 rfl) ?_
                refine hv_get (pc := 81) (C := RX9) (T := TX9) (N := 22) (ref := RX9) S uwX9 hK hH fa_φ_75 rfl 13 (by decide) tw_958 (fun _ h9 => h9) rfl dX9_block_81 ?_
                refine lv_iconst (pc := 84) (v := nI 1) S.1 S.2.1 dX9_block_84 (by decide) ?_
                refine lv_isub (pc := 85) S.1 S.2.1 dX9_block_85 ?_
                refine hv_ti (y := nI (((sc 4) + 1) - 1)) (pk_sub (by omega)) ?_
                exact hv_ret (pc := 86) (v := nI (((sc 4) + 1) - 1)) S hr rfl hlocks hH hS (by rw [if_pos eX]; exact ⟨x1, z1, rfl, rfl, hxlo, hxhi, hzlo, hzhi, by rw [Nat.add_sub_cancel], ⟨fa_φ_75, f_76, f_77, f_78, f_79, f_80, f_81, f_82, f_83, f_84, f_88, f_89, f_85, f_86, f_87⟩⟩) (Nat.le_of_ble_eq_true rfl) (Nat.le_of_ble_eq_true rfl) dX9_block_86
              · skip
                exact absurd c_44 (by omega)
            · skip
              exact absurd c_26 (by omega)
        · skip
          exact absurd c_6 (by omega)
      · skip
        refine hv_call (pc := 18) (va_runS (As := [.int (z), .int (nI 1), .int (nI 6)]) (rest := [.ref (q 0)]) S (c_isIn l D cA ga φ H.size z (nI 1) (nI 6)) (va_cwS 3 S.2.2.2.2 (gS tw_1031 tw_1032 tw_7 tw_1033) rfl rfl rfl (by decide +kernel) ⟨Nat.le_of_ble_eq_true rfl, Nat.le_of_ble_eq_true rfl⟩) (pre0_S hH hK hX hS hA) rfl rfl hl.1 rfl (lv_room (Nat.le_of_ble_eq_true rfl)) dX9_block_18 ⟨Nat.le_of_ble_eq_true rfl, Nat.le_of_ble_eq_true rfl⟩) hS (af_le hH hS hA) (fun v_90 φ_91 H locs hw_v_90 hH hS => ?_)
        obtain ⟨rfl, hqv_90⟩ := hw_v_90
        rw [hqv_90] at hH
        refine hv_ti (y := nI 0) (by rw [inB_R, if_neg hz]) ?_
        refine hv_if_ne (pc := 21) (tgt := 28) (a := 0) S.1 S.2.1 (by omega) dX9_block_21 (by decide) (fun c_92 => ?_) (fun c_92 => ?_)
        · skip
          exact absurd c_92 (by omega)
        · skip
          refine lv_iconst (pc := 24) (v := nI 1) S.1 S.2.1 dX9_block_24 (by decide) ?_
          refine lv_goto (pc := 25) (tgt := 42) S.1 S.2.1 dX9_block_25 (by decide) ?_
          have eX : blockX (sc 4) (nI x1) z = 1 := by rw [blockX, if_pos hx, if_neg hz]
          refine hv_call (pc := 42) (va_runV (As := [.int (nI 1)]) (rest := []) S (c_m_goes l D cA ga φ H.size q sc ar (1) ⟨f0, f1, f2, f3, f4, f5, f6, f7, f8, f9, f10, f11, f12, f13, f14⟩ hq (by omega)) (cwV 1 S.2.2.2.2 (gV tw_1021 tw_1023 sw_32 tw_7 tw_1024) rfl rfl rfl (by decide +kernel) ⟨Nat.le_of_ble_eq_true rfl, Nat.le_of_ble_eq_true rfl⟩) (pre0_V hH hK hX hS hA (hH.recv hK f0 rfl)) rfl rfl hl.1 rfl (lv_room (Nat.le_of_ble_eq_true rfl)) dX9_block_42 ⟨Nat.le_of_ble_eq_true rfl, Nat.le_of_ble_eq_true rfl⟩) hS (af_le hH hS hA) (fun v_93 φ_94 H locs hw_v_93 hH hS => ?_)
          obtain ⟨rfl, hm9⟩ := hw_v_93
          obtain ⟨f_95, f_96, f_97, f_98, f_99, f_100, f_101, f_102, f_103, f_104, f_105, f_106, f_107, f_108, f_109⟩ := hm9
          change φ_94 (q 0) = some (.inr (13, [.int (nI (sc 0)), .long (Int64.ofNat (sc 1)), .int (nI (sc 2)), .ref (q 1), .ref (q 2), .int (nI (sc 3)), .ref (q 3), .ref (q 4), .ref (q 5), .ref (q 6), .ref (q 7), .ref (q 8), .ref (q 9), .int (nI (sc 4)), .ref (q 10), .ref (q 11), .int (nI (sc 5)), .ref (q 12), .ref (q 13), .ref (q 14), .int (nI (sc 6)), .int (nI 1)])) at f_95
          refine hv_ti (y := nI 0) (rfl) ?_
          refine hv_if_ne (pc := 45) (tgt := 50) (a := 0) S.1 S.2.1 (by omega) dX9_block_45 (by decide) (fun c_110 => ?_) (fun c_110 => ?_)
          · skip
            exact absurd c_110 (by omega)
          · skip
            refine lv_iconst (pc := 48) (v := nI 0) S.1 S.2.1 dX9_block_48 (by decide) ?_
            exact hv_ret (pc := 49) (v := nI 0) S hr rfl hlocks hH hS (by rw [if_neg (by rw [eX]; decide), eX]; exact ⟨rfl, ⟨f_95, f_96, f_97, f_98, f_99, f_100, f_101, f_102, f_103, f_104, f_105, f_106, f_107, f_108, f_109⟩⟩) (Nat.le_of_ble_eq_true rfl) (Nat.le_of_ble_eq_true rfl) dX9_block_49
  · skip
    refine hv_call (pc := 8) (va_runS (As := [.int (x), .int (nI 300), .int (nI 700)]) (rest := [.ref (q 0)]) S (c_isIn l D cA ga φ H.size x (nI 300) (nI 700)) (va_cwS 3 S.2.2.2.2 (gS tw_1031 tw_1032 tw_7 tw_1033) rfl rfl rfl (by decide +kernel) ⟨Nat.le_of_ble_eq_true rfl, Nat.le_of_ble_eq_true rfl⟩) (pre0_S hH hK hX hS hA) rfl rfl hl.1 rfl (lv_room (Nat.le_of_ble_eq_true rfl)) dX9_block_8 ⟨Nat.le_of_ble_eq_true rfl, Nat.le_of_ble_eq_true rfl⟩) hS (af_le hH hS hA) (fun v_111 φ_112 H locs hw_v_111 hH hS => ?_)
    obtain ⟨rfl, hqv_111⟩ := hw_v_111
    rw [hqv_111] at hH
    refine hv_ti (y := nI 0) (by rw [inB_R, if_neg hx]) ?_
    refine hv_if_eq (pc := 11) (tgt := 24) (a := 0) S.1 S.2.1 (by omega) dX9_block_11 (by decide) (fun c_113 => ?_) (fun c_113 => ?_)
    · skip
      refine lv_iconst (pc := 24) (v := nI 1) S.1 S.2.1 dX9_block_24 (by decide) ?_
      refine lv_goto (pc := 25) (tgt := 42) S.1 S.2.1 dX9_block_25 (by decide) ?_
      have eX : blockX (sc 4) x z = 1 := by rw [blockX, if_neg hx]
      refine hv_call (pc := 42) (va_runV (As := [.int (nI 1)]) (rest := []) S (c_m_goes l D cA ga φ H.size q sc ar (1) ⟨f0, f1, f2, f3, f4, f5, f6, f7, f8, f9, f10, f11, f12, f13, f14⟩ hq (by omega)) (cwV 1 S.2.2.2.2 (gV tw_1021 tw_1023 sw_32 tw_7 tw_1024) rfl rfl rfl (by decide +kernel) ⟨Nat.le_of_ble_eq_true rfl, Nat.le_of_ble_eq_true rfl⟩) (pre0_V hH hK hX hS hA (hH.recv hK f0 rfl)) rfl rfl hl.1 rfl (lv_room (Nat.le_of_ble_eq_true rfl)) dX9_block_42 ⟨Nat.le_of_ble_eq_true rfl, Nat.le_of_ble_eq_true rfl⟩) hS (af_le hH hS hA) (fun v_114 φ_115 H locs hw_v_114 hH hS => ?_)
      obtain ⟨rfl, hm9⟩ := hw_v_114
      obtain ⟨f_116, f_117, f_118, f_119, f_120, f_121, f_122, f_123, f_124, f_125, f_126, f_127, f_128, f_129, f_130⟩ := hm9
      change φ_115 (q 0) = some (.inr (13, [.int (nI (sc 0)), .long (Int64.ofNat (sc 1)), .int (nI (sc 2)), .ref (q 1), .ref (q 2), .int (nI (sc 3)), .ref (q 3), .ref (q 4), .ref (q 5), .ref (q 6), .ref (q 7), .ref (q 8), .ref (q 9), .int (nI (sc 4)), .ref (q 10), .ref (q 11), .int (nI (sc 5)), .ref (q 12), .ref (q 13), .ref (q 14), .int (nI (sc 6)), .int (nI 1)])) at f_116
      refine hv_ti (y := nI 0) (rfl) ?_
      refine hv_if_ne (pc := 45) (tgt := 50) (a := 0) S.1 S.2.1 (by omega) dX9_block_45 (by decide) (fun c_131 => ?_) (fun c_131 => ?_)
      · skip
        exact absurd c_131 (by omega)
      · skip
        refine lv_iconst (pc := 48) (v := nI 0) S.1 S.2.1 dX9_block_48 (by decide) ?_
        exact hv_ret (pc := 49) (v := nI 0) S hr rfl hlocks hH hS (by rw [if_neg (by rw [eX]; decide), eX]; exact ⟨rfl, ⟨f_116, f_117, f_118, f_119, f_120, f_121, f_122, f_123, f_124, f_125, f_126, f_127, f_128, f_129, f_130⟩⟩) (Nat.le_of_ble_eq_true rfl) (Nat.le_of_ble_eq_true rfl) dX9_block_49
    · skip
      exact absurd c_113 (by omega)

theorem in8 (z : Int32) : inR z 0 7 ↔ inN z 8 := by
  constructor
  · intro h
    obtain ⟨a, rfl, h1, h2⟩ := h.nat (by omega) (by omega)
    exact (inN_nI (by omega) (by omega)).mpr (by omega)
  · intro h
    obtain ⟨a, rfl, h1⟩ := h.nat (by omega)
    exact (inR_nI (by omega) (by omega) (by omega)).mpr ⟨by omega, by omega⟩
set_option maxHeartbeats 4000000 in
set_option maxRecDepth 100000 in
/-- measure -/
theorem c_m_measure (l : Launch) (D : va_G) (cA : Nat → ClassId) (ga : Nat → Nat → Nat) (φ : hpM) (sz : Nat) (q : Nat → Nat) (sc : Nat → Nat) (ar : Nat → Nat → Nat) (x z : Int32) (hm : MP cA q sc ar φ) (hq : ∀ i j, i < 15 → j < 15 → q i = q j → i = j) (hr2 : ∀ j, ar 14 j ≤ 200) : hM l yX9_measure cX9_measure 3 (some .int) { frames := 9, cells := 0, slots := 0, locals := 260 } [.ref (q 0), .int (x), .int (z)] D cA ga φ sz (fun v φ' => if measX x z = 0 then (∃ x1 z1 : Nat, x = nI x1 ∧ z = nI z1 ∧ x1 < 8 ∧ z1 ≤ 200 ∧ v = some (.int (nI (smN (va_up (ar 14) x1 z1) 8 * 785 / 1000))) ∧ MP cA q (va_up sc 7 (0)) (va_up ar 14 (va_up (ar 14) x1 z1)) φ') else (v = some (.int (nI 0)) ∧ MP cA q (va_up sc 7 (mcd 2 9 1 (measX x z))) ar φ')) 0 0 := by
  refine hM.of (by decide) (Nat.le_of_ble_eq_true rfl) rfl ?_
  intro p e s m args below meth c ls H locs S hr hlocks hnm hsz hHz hH hK hX hS hA hl
  obtain ⟨f0, f1, f2, f3, f4, f5, f6, f7, f8, f9, f10, f11, f12, f13, f14⟩ := hm
  refine lv_aload_n (pc := 0) S.1 S.2.1 dX9_measure_0 rfl (lv_at hl 0 rfl) ?_
  refine lv_iload_n (pc := 1) S.1 S.2.1 dX9_measure_1 rfl (lv_at hl 1 rfl) ?_
  refine lv_iconst (pc := 2) (v := nI 0) S.1 S.2.1 dX9_measure_2 (by decide) ?_
  refine lv_bipush (pc := 3) (v := nI 7) S.1 S.2.1 dX9_measure_3 (by decide) ?_
  by_cases hx : inN x 8
  · skip
    obtain ⟨x1, rfl, hxn⟩ := hx.nat (by omega)
    refine hv_call (pc := 5) (va_runS (As := [.int (nI x1), .int (nI 0), .int (nI 7)]) (rest := [.ref (q 0)]) S (c_isIn l D cA ga φ H.size (nI x1) (nI 0) (nI 7)) (va_cwS 3 S.2.2.2.2 (gS tw_1031 tw_1032 tw_7 tw_1033) rfl rfl rfl (by decide +kernel) ⟨Nat.le_of_ble_eq_true rfl, Nat.le_of_ble_eq_true rfl⟩) (pre0_S hH hK hX hS hA) rfl rfl hl.1 rfl (lv_room (Nat.le_of_ble_eq_true rfl)) dX9_measure_5 ⟨Nat.le_of_ble_eq_true rfl, Nat.le_of_ble_eq_true rfl⟩) hS (af_le hH hS hA) (fun v_1 φ_2 H locs hw_v_1 hH hS => ?_)
    obtain ⟨rfl, hqv_1⟩ := hw_v_1
    rw [hqv_1] at hH
    refine hv_ti (y := nI 1) (by rw [inB_R, if_pos ((inR_nI (by omega) (by omega) (by omega)).mpr ⟨by omega, by omega⟩)]) ?_
    refine hv_if_ne (pc := 8) (tgt := 15) (a := 1) S.1 S.2.1 (by omega) dX9_measure_8 (by decide) (fun c_3 => ?_) (fun c_3 => ?_)
    · skip
      refine lv_iload_n (pc := 15) S.1 S.2.1 dX9_measure_15 rfl (lv_at hl 2 rfl) ?_
      refine lv_iconst (pc := 16) (v := nI 0) S.1 S.2.1 dX9_measure_16 (by decide) ?_
      refine lv_sipush (pc := 17) (v := nI 200) S.1 S.2.1 dX9_measure_17 (by decide) ?_
      by_cases hz : inR z 0 200
      · skip
        obtain ⟨z1, rfl, hzlo, hzhi⟩ := hz.nat (by omega) (by omega)
        refine hv_call (pc := 20) (va_runS (As := [.int (nI z1), .int (nI 0), .int (nI 200)]) (rest := [.ref (q 0)]) S (c_isIn l D cA ga φ H.size (nI z1) (nI 0) (nI 200)) (va_cwS 3 S.2.2.2.2 (gS tw_1031 tw_1032 tw_7 tw_1033) rfl rfl rfl (by decide +kernel) ⟨Nat.le_of_ble_eq_true rfl, Nat.le_of_ble_eq_true rfl⟩) (pre0_S hH hK hX hS hA) rfl rfl hl.1 rfl (lv_room (Nat.le_of_ble_eq_true rfl)) dX9_measure_20 ⟨Nat.le_of_ble_eq_true rfl, Nat.le_of_ble_eq_true rfl⟩) hS (af_le hH hS hA) (fun v_4 φ_5 H locs hw_v_4 hH hS => ?_)
        obtain ⟨rfl, hqv_4⟩ := hw_v_4
        rw [hqv_4] at hH
        refine hv_ti (y := nI 1) (by rw [inB_R, if_pos hz]) ?_
        refine hv_if_eq (pc := 23) (tgt := 30) (a := 1) S.1 S.2.1 (by omega) dX9_measure_23 (by decide) (fun c_6 => ?_) (fun c_6 => ?_)
        · skip
          exact absurd c_6 (by omega)
        · skip
          refine lv_iconst (pc := 26) (v := nI 0) S.1 S.2.1 dX9_measure_26 (by decide) ?_
          refine lv_goto (pc := 27) (tgt := 31) S.1 S.2.1 dX9_measure_27 (by decide) ?_
          have eX : measX (nI x1) (nI z1) = 0 := by rw [measX, if_pos hx, if_pos hz]
          refine hv_call (pc := 31) (va_runV (As := [.int (nI 0)]) (rest := []) S (c_m_goes l D cA ga φ H.size q sc ar (0) ⟨f0, f1, f2, f3, f4, f5, f6, f7, f8, f9, f10, f11, f12, f13, f14⟩ hq (by omega)) (cwV 1 S.2.2.2.2 (gV tw_1021 tw_1023 sw_32 tw_7 tw_1024) rfl rfl rfl (by decide +kernel) ⟨Nat.le_of_ble_eq_true rfl, Nat.le_of_ble_eq_true rfl⟩) (pre0_V hH hK hX hS hA (hH.recv hK f0 rfl)) rfl rfl hl.1 rfl (lv_room (Nat.le_of_ble_eq_true rfl)) dX9_measure_31 ⟨Nat.le_of_ble_eq_true rfl, Nat.le_of_ble_eq_true rfl⟩) hS (af_le hH hS hA) (fun v_7 φ_8 H locs hw_v_7 hH hS => ?_)
          obtain ⟨rfl, hm9⟩ := hw_v_7
          obtain ⟨f_9, f_10, f_11, f_12, f_13, f_14, f_15, f_16, f_17, f_18, f_19, f_20, f_21, f_22, f_23⟩ := hm9
          change φ_8 (q 0) = some (.inr (13, [.int (nI (sc 0)), .long (Int64.ofNat (sc 1)), .int (nI (sc 2)), .ref (q 1), .ref (q 2), .int (nI (sc 3)), .ref (q 3), .ref (q 4), .ref (q 5), .ref (q 6), .ref (q 7), .ref (q 8), .ref (q 9), .int (nI (sc 4)), .ref (q 10), .ref (q 11), .int (nI (sc 5)), .ref (q 12), .ref (q 13), .ref (q 14), .int (nI (sc 6)), .int (nI 0)])) at f_9
          refine hv_ti (y := nI 1) (rfl) ?_
          refine hv_if_ne (pc := 34) (tgt := 39) (a := 1) S.1 S.2.1 (by omega) dX9_measure_34 (by decide) (fun c_24 => ?_) (fun c_24 => ?_)
          · skip
            refine lv_aload_n (pc := 39) S.1 S.2.1 dX9_measure_39 rfl (lv_at hl 0 rfl) ?_
            refine hv_get (pc := 40) (C := RX9) (T := TX9) (N := 22) (ref := RX9) S uwX9 hK hH f_9 rfl 19 (by decide) tw_964 (fun _ h9 => h9) rfl dX9_measure_40 ?_
            refine lv_iload_n (pc := 43) S.1 S.2.1 dX9_measure_43 rfl (lv_at hl 1 rfl) ?_
            refine lv_iload_n (pc := 44) S.1 S.2.1 dX9_measure_44 rfl (lv_at hl 2 rfl) ?_
            refine hv_iast (pc := 45) S hK hH hS 1 f_23 rfl (vp_in_nI (by omega) (by omega)) dX9_measure_45 (fun H locs hH hS => ?_)
            rw [hv_upd (by omega)] at hH
            replace hH := nup (e := .inl (cA 1, 8, .inl (fun j => nI ((va_up (ar 14) x1 z1) j)))) hH
            obtain ⟨φ_25, hφ_25, fa_φ_25, fr_φ_25, hH⟩ := hH
            have f_26 := fr_φ_25 _ _ (fun h => absurd (hq 0 14 (by omega) (by omega) h) (by omega)) f_9
            have f_27 := fr_φ_25 _ _ (fun h => absurd (hq 1 14 (by omega) (by omega) h) (by omega)) f_10
            have f_28 := fr_φ_25 _ _ (fun h => absurd (hq 2 14 (by omega) (by omega) h) (by omega)) f_11
            have f_29 := fr_φ_25 _ _ (fun h => absurd (hq 3 14 (by omega) (by omega) h) (by omega)) f_12
            have f_30 := fr_φ_25 _ _ (fun h => absurd (hq 4 14 (by omega) (by omega) h) (by omega)) f_13
            have f_31 := fr_φ_25 _ _ (fun h => absurd (hq 5 14 (by omega) (by omega) h) (by omega)) f_14
            have f_32 := fr_φ_25 _ _ (fun h => absurd (hq 6 14 (by omega) (by omega) h) (by omega)) f_15
            have f_33 := fr_φ_25 _ _ (fun h => absurd (hq 7 14 (by omega) (by omega) h) (by omega)) f_16
            have f_34 := fr_φ_25 _ _ (fun h => absurd (hq 8 14 (by omega) (by omega) h) (by omega)) f_17
            have f_35 := fr_φ_25 _ _ (fun h => absurd (hq 9 14 (by omega) (by omega) h) (by omega)) f_18
            have f_36 := fr_φ_25 _ _ (fun h => absurd (hq 10 14 (by omega) (by omega) h) (by omega)) f_19
            have f_37 := fr_φ_25 _ _ (fun h => absurd (hq 11 14 (by omega) (by omega) h) (by omega)) f_20
            have f_38 := fr_φ_25 _ _ (fun h => absurd (hq 12 14 (by omega) (by omega) h) (by omega)) f_21
            have f_39 := fr_φ_25 _ _ (fun h => absurd (hq 13 14 (by omega) (by omega) h) (by omega)) f_22
            have hr3 : ∀ j, va_up (ar 14) x1 z1 j ≤ 200 := fun j => by unfold va_up; split; exact hzhi; exact hr2 j
            refine lv_aload_n (pc := 46) S.1 S.2.1 dX9_measure_46 rfl (lv_at hl 0 rfl) ?_
            refine hv_call (pc := 47) (va_runV (As := []) (rest := []) S (c_m_around l D cA ga φ_25 H.size q (va_up sc 7 (0)) (va_up ar 14 (va_up (ar 14) x1 z1))  ⟨f_26, f_27, f_28, f_29, f_30, f_31, f_32, f_33, f_34, f_35, f_36, f_37, f_38, f_39, fa_φ_25⟩ hq hr3) (cwV 0 S.2.2.2.2 (gV tw_1164 tw_1166 sw_43 tw_7 tw_1167) rfl rfl rfl (by decide +kernel) ⟨Nat.le_of_ble_eq_true rfl, Nat.le_of_ble_eq_true rfl⟩) (pre0_V hH hK hX hS hA (hH.recv hK f_26 rfl)) rfl rfl hl.1 rfl (lv_room (Nat.le_of_ble_eq_true rfl)) dX9_measure_47 ⟨Nat.le_of_ble_eq_true rfl, Nat.le_of_ble_eq_true rfl⟩) hS (af_le hH hS hA) (fun v_40 φ_41 H locs hw_v_40 hH hS => ?_)
            obtain ⟨rfl, hqv_40⟩ := hw_v_40
            rw [hqv_40] at hH
            exact hv_ret (pc := 50) (v := nI (smN (va_up (ar 14) x1 z1) 8 * 785 / 1000)) S hr rfl hlocks hH hS (by rw [if_pos eX]; exact ⟨x1, z1, rfl, rfl, hxn, hzhi, rfl, ⟨f_26, f_27, f_28, f_29, f_30, f_31, f_32, f_33, f_34, f_35, f_36, f_37, f_38, f_39, fa_φ_25⟩⟩) (Nat.le_of_ble_eq_true rfl) (Nat.le_of_ble_eq_true rfl) dX9_measure_50
          · skip
            exact absurd c_24 (by omega)
      · skip
        refine hv_call (pc := 20) (va_runS (As := [.int (z), .int (nI 0), .int (nI 200)]) (rest := [.ref (q 0)]) S (c_isIn l D cA ga φ H.size z (nI 0) (nI 200)) (va_cwS 3 S.2.2.2.2 (gS tw_1031 tw_1032 tw_7 tw_1033) rfl rfl rfl (by decide +kernel) ⟨Nat.le_of_ble_eq_true rfl, Nat.le_of_ble_eq_true rfl⟩) (pre0_S hH hK hX hS hA) rfl rfl hl.1 rfl (lv_room (Nat.le_of_ble_eq_true rfl)) dX9_measure_20 ⟨Nat.le_of_ble_eq_true rfl, Nat.le_of_ble_eq_true rfl⟩) hS (af_le hH hS hA) (fun v_42 φ_43 H locs hw_v_42 hH hS => ?_)
        obtain ⟨rfl, hqv_42⟩ := hw_v_42
        rw [hqv_42] at hH
        refine hv_ti (y := nI 0) (by rw [inB_R, if_neg hz]) ?_
        refine hv_if_eq (pc := 23) (tgt := 30) (a := 0) S.1 S.2.1 (by omega) dX9_measure_23 (by decide) (fun c_44 => ?_) (fun c_44 => ?_)
        · skip
          refine lv_iconst (pc := 30) (v := nI 2) S.1 S.2.1 dX9_measure_30 (by decide) ?_
          have eX : measX (nI x1) z = 1 := by rw [measX, if_pos hx, if_neg hz]
          refine hv_call (pc := 31) (va_runV (As := [.int (nI 2)]) (rest := []) S (c_m_goes l D cA ga φ H.size q sc ar (2) ⟨f0, f1, f2, f3, f4, f5, f6, f7, f8, f9, f10, f11, f12, f13, f14⟩ hq (by omega)) (cwV 1 S.2.2.2.2 (gV tw_1021 tw_1023 sw_32 tw_7 tw_1024) rfl rfl rfl (by decide +kernel) ⟨Nat.le_of_ble_eq_true rfl, Nat.le_of_ble_eq_true rfl⟩) (pre0_V hH hK hX hS hA (hH.recv hK f0 rfl)) rfl rfl hl.1 rfl (lv_room (Nat.le_of_ble_eq_true rfl)) dX9_measure_31 ⟨Nat.le_of_ble_eq_true rfl, Nat.le_of_ble_eq_true rfl⟩) hS (af_le hH hS hA) (fun v_45 φ_46 H locs hw_v_45 hH hS => ?_)
          obtain ⟨rfl, hm9⟩ := hw_v_45
          obtain ⟨f_47, f_48, f_49, f_50, f_51, f_52, f_53, f_54, f_55, f_56, f_57, f_58, f_59, f_60, f_61⟩ := hm9
          change φ_46 (q 0) = some (.inr (13, [.int (nI (sc 0)), .long (Int64.ofNat (sc 1)), .int (nI (sc 2)), .ref (q 1), .ref (q 2), .int (nI (sc 3)), .ref (q 3), .ref (q 4), .ref (q 5), .ref (q 6), .ref (q 7), .ref (q 8), .ref (q 9), .int (nI (sc 4)), .ref (q 10), .ref (q 11), .int (nI (sc 5)), .ref (q 12), .ref (q 13), .ref (q 14), .int (nI (sc 6)), .int (nI 2)])) at f_47
          refine hv_ti (y := nI 0) (rfl) ?_
          refine hv_if_ne (pc := 34) (tgt := 39) (a := 0) S.1 S.2.1 (by omega) dX9_measure_34 (by decide) (fun c_62 => ?_) (fun c_62 => ?_)
          · skip
            exact absurd c_62 (by omega)
          · skip
            refine lv_iconst (pc := 37) (v := nI 0) S.1 S.2.1 dX9_measure_37 (by decide) ?_
            exact hv_ret (pc := 38) (v := nI 0) S hr rfl hlocks hH hS (by rw [if_neg (by rw [eX]; decide), eX]; exact ⟨rfl, ⟨f_47, f_48, f_49, f_50, f_51, f_52, f_53, f_54, f_55, f_56, f_57, f_58, f_59, f_60, f_61⟩⟩) (Nat.le_of_ble_eq_true rfl) (Nat.le_of_ble_eq_true rfl) dX9_measure_38
        · skip
          exact absurd c_44 (by omega)
    · skip
      exact absurd c_3 (by omega)
  · skip
    refine hv_call (pc := 5) (va_runS (As := [.int (x), .int (nI 0), .int (nI 7)]) (rest := [.ref (q 0)]) S (c_isIn l D cA ga φ H.size x (nI 0) (nI 7)) (va_cwS 3 S.2.2.2.2 (gS tw_1031 tw_1032 tw_7 tw_1033) rfl rfl rfl (by decide +kernel) ⟨Nat.le_of_ble_eq_true rfl, Nat.le_of_ble_eq_true rfl⟩) (pre0_S hH hK hX hS hA) rfl rfl hl.1 rfl (lv_room (Nat.le_of_ble_eq_true rfl)) dX9_measure_5 ⟨Nat.le_of_ble_eq_true rfl, Nat.le_of_ble_eq_true rfl⟩) hS (af_le hH hS hA) (fun v_63 φ_64 H locs hw_v_63 hH hS => ?_)
    obtain ⟨rfl, hqv_63⟩ := hw_v_63
    rw [hqv_63] at hH
    refine hv_ti (y := nI 0) (by rw [inB_R, if_neg (fun h => hx ((in8 x).mp h))]) ?_
    refine hv_if_ne (pc := 8) (tgt := 15) (a := 0) S.1 S.2.1 (by omega) dX9_measure_8 (by decide) (fun c_65 => ?_) (fun c_65 => ?_)
    · skip
      exact absurd c_65 (by omega)
    · skip
      refine lv_iconst (pc := 11) (v := nI 1) S.1 S.2.1 dX9_measure_11 (by decide) ?_
      refine lv_goto (pc := 12) (tgt := 31) S.1 S.2.1 dX9_measure_12 (by decide) ?_
      have eX : measX x z = 3 := by rw [measX, if_neg hx]
      refine hv_call (pc := 31) (va_runV (As := [.int (nI 1)]) (rest := []) S (c_m_goes l D cA ga φ H.size q sc ar (1) ⟨f0, f1, f2, f3, f4, f5, f6, f7, f8, f9, f10, f11, f12, f13, f14⟩ hq (by omega)) (cwV 1 S.2.2.2.2 (gV tw_1021 tw_1023 sw_32 tw_7 tw_1024) rfl rfl rfl (by decide +kernel) ⟨Nat.le_of_ble_eq_true rfl, Nat.le_of_ble_eq_true rfl⟩) (pre0_V hH hK hX hS hA (hH.recv hK f0 rfl)) rfl rfl hl.1 rfl (lv_room (Nat.le_of_ble_eq_true rfl)) dX9_measure_31 ⟨Nat.le_of_ble_eq_true rfl, Nat.le_of_ble_eq_true rfl⟩) hS (af_le hH hS hA) (fun v_66 φ_67 H locs hw_v_66 hH hS => ?_)
      obtain ⟨rfl, hm9⟩ := hw_v_66
      obtain ⟨f_68, f_69, f_70, f_71, f_72, f_73, f_74, f_75, f_76, f_77, f_78, f_79, f_80, f_81, f_82⟩ := hm9
      change φ_67 (q 0) = some (.inr (13, [.int (nI (sc 0)), .long (Int64.ofNat (sc 1)), .int (nI (sc 2)), .ref (q 1), .ref (q 2), .int (nI (sc 3)), .ref (q 3), .ref (q 4), .ref (q 5), .ref (q 6), .ref (q 7), .ref (q 8), .ref (q 9), .int (nI (sc 4)), .ref (q 10), .ref (q 11), .int (nI (sc 5)), .ref (q 12), .ref (q 13), .ref (q 14), .int (nI (sc 6)), .int (nI 1)])) at f_68
      refine hv_ti (y := nI 0) (rfl) ?_
      refine hv_if_ne (pc := 34) (tgt := 39) (a := 0) S.1 S.2.1 (by omega) dX9_measure_34 (by decide) (fun c_83 => ?_) (fun c_83 => ?_)
      · skip
        exact absurd c_83 (by omega)
      · skip
        refine lv_iconst (pc := 37) (v := nI 0) S.1 S.2.1 dX9_measure_37 (by decide) ?_
        exact hv_ret (pc := 38) (v := nI 0) S hr rfl hlocks hH hS (by rw [if_neg (by rw [eX]; decide), eX]; exact ⟨rfl, ⟨f_68, f_69, f_70, f_71, f_72, f_73, f_74, f_75, f_76, f_77, f_78, f_79, f_80, f_81, f_82⟩⟩) (Nat.le_of_ble_eq_true rfl) (Nat.le_of_ble_eq_true rfl) dX9_measure_38

set_option maxHeartbeats 4000000 in
set_option maxRecDepth 100000 in
/-- grams -/
theorem c_m_grams (l : Launch) (D : va_G) (cA : Nat → ClassId) (ga : Nat → Nat → Nat) (φ : hpM) (sz : Nat) (q : Nat → Nat) (sc : Nat → Nat) (ar : Nat → Nat → Nat) (x : Int32) (hm : MP cA q sc ar φ) (hq : ∀ i j, i < 15 → j < 15 → q i = q j → i = j) (hk : sc 2 ≤ 10) : hM l yX9_grams cX9_grams 2 (some .int) { frames := 9, cells := 0, slots := 0, locals := 260 } [.ref (q 0), .int (x)] D cA ga φ sz (fun v φ' => if inX (sc 2) x = 0 then (∃ x1 : Nat, x = nI x1 ∧ x1 < 2 ^ 31 ∧ v = some (.int (nI (ar 2 x1))) ∧ MP cA q (va_up sc 7 (0)) ar φ') else (v = some (.int (nI 0)) ∧ MP cA q (va_up sc 7 (mcd 9 9 1 (inX (sc 2) x))) ar φ')) 0 0 := by
  refine hM.of (by decide) (Nat.le_of_ble_eq_true rfl) rfl ?_
  intro p e s m args below meth c ls H locs S hr hlocks hnm hsz hHz hH hK hX hS hA hl
  obtain ⟨f0, f1, f2, f3, f4, f5, f6, f7, f8, f9, f10, f11, f12, f13, f14⟩ := hm
  refine lv_aload_n (pc := 0) S.1 S.2.1 dX9_grams_0 rfl (lv_at hl 0 rfl) ?_
  refine lv_iload_n (pc := 1) S.1 S.2.1 dX9_grams_1 rfl (lv_at hl 1 rfl) ?_
  refine lv_iconst (pc := 2) (v := nI 0) S.1 S.2.1 dX9_grams_2 (by decide) ?_
  refine lv_aload_n (pc := 3) S.1 S.2.1 dX9_grams_3 rfl (lv_at hl 0 rfl) ?_
  refine hv_get (pc := 4) (C := RX9) (T := TX9) (N := 22) (ref := RX9) S uwX9 hK hH f0 rfl 2 (by decide) tw_947 (fun _ h9 => h9) rfl dX9_grams_4 ?_
  refine lv_iconst (pc := 7) (v := nI 1) S.1 S.2.1 dX9_grams_7 (by decide) ?_
  refine lv_isub (pc := 8) S.1 S.2.1 dX9_grams_8 ?_
  by_cases hx : inN x (sc 2)
  · skip
    obtain ⟨x1, rfl, hxn⟩ := hx.nat (by omega)
    refine hv_call (pc := 9) (va_runS (As := [.int (nI x1), .int (nI 0), .int (nI (sc 2) - nI 1)]) (rest := [.ref (q 0)]) S (c_isIn l D cA ga φ H.size (nI x1) (nI 0) (nI (sc 2) - nI 1)) (va_cwS 3 S.2.2.2.2 (gS tw_1031 tw_1032 tw_7 tw_1033) rfl rfl rfl (by decide +kernel) ⟨Nat.le_of_ble_eq_true rfl, Nat.le_of_ble_eq_true rfl⟩) (pre0_S hH hK hX hS hA) rfl rfl hl.1 rfl (lv_room (Nat.le_of_ble_eq_true rfl)) dX9_grams_9 ⟨Nat.le_of_ble_eq_true rfl, Nat.le_of_ble_eq_true rfl⟩) hS (af_le hH hS hA) (fun v_1 φ_2 H locs hw_v_1 hH hS => ?_)
    obtain ⟨rfl, hqv_1⟩ := hw_v_1
    rw [hqv_1] at hH
    refine hv_ti (y := nI 1) (by rw [inB_N (by omega), if_pos hx]) ?_
    refine hv_if_eq (pc := 12) (tgt := 19) (a := 1) S.1 S.2.1 (by omega) dX9_grams_12 (by decide) (fun c_3 => ?_) (fun c_3 => ?_)
    · skip
      exact absurd c_3 (by omega)
    · skip
      refine lv_iconst (pc := 15) (v := nI 0) S.1 S.2.1 dX9_grams_15 (by decide) ?_
      refine lv_goto (pc := 16) (tgt := 20) S.1 S.2.1 dX9_grams_16 (by decide) ?_
      have eX : inX (sc 2) (nI x1) = 0 := by rw [inX, if_pos hx]
      refine hv_call (pc := 20) (va_runV (As := [.int (nI 0)]) (rest := []) S (c_m_goes l D cA ga φ H.size q sc ar (0) ⟨f0, f1, f2, f3, f4, f5, f6, f7, f8, f9, f10, f11, f12, f13, f14⟩ hq (by omega)) (cwV 1 S.2.2.2.2 (gV tw_1021 tw_1023 sw_32 tw_7 tw_1024) rfl rfl rfl (by decide +kernel) ⟨Nat.le_of_ble_eq_true rfl, Nat.le_of_ble_eq_true rfl⟩) (pre0_V hH hK hX hS hA (hH.recv hK f0 rfl)) rfl rfl hl.1 rfl (lv_room (Nat.le_of_ble_eq_true rfl)) dX9_grams_20 ⟨Nat.le_of_ble_eq_true rfl, Nat.le_of_ble_eq_true rfl⟩) hS (af_le hH hS hA) (fun v_4 φ_5 H locs hw_v_4 hH hS => ?_)
      obtain ⟨rfl, hm9⟩ := hw_v_4
      obtain ⟨f_6, f_7, f_8, f_9, f_10, f_11, f_12, f_13, f_14, f_15, f_16, f_17, f_18, f_19, f_20⟩ := hm9
      change φ_5 (q 0) = some (.inr (13, [.int (nI (sc 0)), .long (Int64.ofNat (sc 1)), .int (nI (sc 2)), .ref (q 1), .ref (q 2), .int (nI (sc 3)), .ref (q 3), .ref (q 4), .ref (q 5), .ref (q 6), .ref (q 7), .ref (q 8), .ref (q 9), .int (nI (sc 4)), .ref (q 10), .ref (q 11), .int (nI (sc 5)), .ref (q 12), .ref (q 13), .ref (q 14), .int (nI (sc 6)), .int (nI 0)])) at f_6
      refine hv_ti (y := nI 1) (rfl) ?_
      refine hv_if_eq (pc := 23) (tgt := 35) (a := 1) S.1 S.2.1 (by omega) dX9_grams_23 (by decide) (fun c_21 => ?_) (fun c_21 => ?_)
      · skip
        exact absurd c_21 (by omega)
      · skip
        refine lv_aload_n (pc := 26) S.1 S.2.1 dX9_grams_26 rfl (lv_at hl 0 rfl) ?_
        refine hv_get (pc := 27) (C := RX9) (T := TX9) (N := 22) (ref := RX9) S uwX9 hK hH f_6 rfl 4 (by decide) tw_949 (fun _ h9 => h9) rfl dX9_grams_27 ?_
        refine lv_iload_n (pc := 30) S.1 S.2.1 dX9_grams_30 rfl (lv_at hl 1 rfl) ?_
        refine hv_iald (pc := 31) S hK hH 1 f_8 rfl (vp_in_nI (by omega) (by omega)) dX9_grams_31 ?_
        refine hv_ti (y := nI ((ar 2) x1)) (hv_ld (by omega)) ?_
        refine lv_goto (pc := 32) (tgt := 36) S.1 S.2.1 dX9_grams_32 (by decide) ?_
        exact hv_ret (pc := 36) (v := nI ((ar 2) x1)) S hr rfl hlocks hH hS (by rw [if_pos eX]; exact ⟨x1, rfl, by omega, rfl, ⟨f_6, f_7, f_8, f_9, f_10, f_11, f_12, f_13, f_14, f_15, f_16, f_17, f_18, f_19, f_20⟩⟩) (Nat.le_of_ble_eq_true rfl) (Nat.le_of_ble_eq_true rfl) dX9_grams_36
  · skip
    refine hv_call (pc := 9) (va_runS (As := [.int (x), .int (nI 0), .int (nI (sc 2) - nI 1)]) (rest := [.ref (q 0)]) S (c_isIn l D cA ga φ H.size x (nI 0) (nI (sc 2) - nI 1)) (va_cwS 3 S.2.2.2.2 (gS tw_1031 tw_1032 tw_7 tw_1033) rfl rfl rfl (by decide +kernel) ⟨Nat.le_of_ble_eq_true rfl, Nat.le_of_ble_eq_true rfl⟩) (pre0_S hH hK hX hS hA) rfl rfl hl.1 rfl (lv_room (Nat.le_of_ble_eq_true rfl)) dX9_grams_9 ⟨Nat.le_of_ble_eq_true rfl, Nat.le_of_ble_eq_true rfl⟩) hS (af_le hH hS hA) (fun v_22 φ_23 H locs hw_v_22 hH hS => ?_)
    obtain ⟨rfl, hqv_22⟩ := hw_v_22
    rw [hqv_22] at hH
    refine hv_ti (y := nI 0) (by rw [inB_N (by omega), if_neg hx]) ?_
    refine hv_if_eq (pc := 12) (tgt := 19) (a := 0) S.1 S.2.1 (by omega) dX9_grams_12 (by decide) (fun c_24 => ?_) (fun c_24 => ?_)
    · skip
      refine lv_iconst (pc := 19) (v := nI 1) S.1 S.2.1 dX9_grams_19 (by decide) ?_
      have eX : inX (sc 2) x = 3 := by rw [inX, if_neg hx]
      refine hv_call (pc := 20) (va_runV (As := [.int (nI 1)]) (rest := []) S (c_m_goes l D cA ga φ H.size q sc ar (1) ⟨f0, f1, f2, f3, f4, f5, f6, f7, f8, f9, f10, f11, f12, f13, f14⟩ hq (by omega)) (cwV 1 S.2.2.2.2 (gV tw_1021 tw_1023 sw_32 tw_7 tw_1024) rfl rfl rfl (by decide +kernel) ⟨Nat.le_of_ble_eq_true rfl, Nat.le_of_ble_eq_true rfl⟩) (pre0_V hH hK hX hS hA (hH.recv hK f0 rfl)) rfl rfl hl.1 rfl (lv_room (Nat.le_of_ble_eq_true rfl)) dX9_grams_20 ⟨Nat.le_of_ble_eq_true rfl, Nat.le_of_ble_eq_true rfl⟩) hS (af_le hH hS hA) (fun v_25 φ_26 H locs hw_v_25 hH hS => ?_)
      obtain ⟨rfl, hm9⟩ := hw_v_25
      obtain ⟨f_27, f_28, f_29, f_30, f_31, f_32, f_33, f_34, f_35, f_36, f_37, f_38, f_39, f_40, f_41⟩ := hm9
      change φ_26 (q 0) = some (.inr (13, [.int (nI (sc 0)), .long (Int64.ofNat (sc 1)), .int (nI (sc 2)), .ref (q 1), .ref (q 2), .int (nI (sc 3)), .ref (q 3), .ref (q 4), .ref (q 5), .ref (q 6), .ref (q 7), .ref (q 8), .ref (q 9), .int (nI (sc 4)), .ref (q 10), .ref (q 11), .int (nI (sc 5)), .ref (q 12), .ref (q 13), .ref (q 14), .int (nI (sc 6)), .int (nI 1)])) at f_27
      refine hv_ti (y := nI 0) (rfl) ?_
      refine hv_if_eq (pc := 23) (tgt := 35) (a := 0) S.1 S.2.1 (by omega) dX9_grams_23 (by decide) (fun c_42 => ?_) (fun c_42 => ?_)
      · skip
        refine lv_iconst (pc := 35) (v := nI 0) S.1 S.2.1 dX9_grams_35 (by decide) ?_
        exact hv_ret (pc := 36) (v := nI 0) S hr rfl hlocks hH hS (by rw [if_neg (by rw [eX]; decide), eX]; exact ⟨rfl, ⟨f_27, f_28, f_29, f_30, f_31, f_32, f_33, f_34, f_35, f_36, f_37, f_38, f_39, f_40, f_41⟩⟩) (Nat.le_of_ble_eq_true rfl) (Nat.le_of_ble_eq_true rfl) dX9_grams_36
      · skip
        exact absurd c_42 (by omega)
    · skip
      exact absurd c_24 (by omega)

set_option maxHeartbeats 4000000 in
set_option maxRecDepth 100000 in
/-- air -/
theorem c_m_air (l : Launch) (D : va_G) (cA : Nat → ClassId) (ga : Nat → Nat → Nat) (φ : hpM) (sz : Nat) (q : Nat → Nat) (sc : Nat → Nat) (ar : Nat → Nat → Nat) (x z : Int32) (hm : MP cA q sc ar φ) (hq : ∀ i j, i < 15 → j < 15 → q i = q j → i = j) (hk : sc 5 ≤ 6) : hM l yX9_air cX9_air 3 (some .int) { frames := 9, cells := 0, slots := 0, locals := 260 } [.ref (q 0), .int (x), .int (z)] D cA ga φ sz (fun v φ' => if inX (sc 5) x = 0 then (∃ x1 : Nat, x = nI x1 ∧ x1 < 2 ^ 31 ∧ v = some (.int (nI (if z = 0 then ar 13 x1 else ar 12 x1))) ∧ MP cA q (va_up sc 7 (0)) ar φ') else (v = some (.int (nI 0)) ∧ MP cA q (va_up sc 7 (mcd 9 9 1 (inX (sc 5) x))) ar φ')) 0 0 := by
  refine hM.of (by decide) (Nat.le_of_ble_eq_true rfl) rfl ?_
  intro p e s m args below meth c ls H locs S hr hlocks hnm hsz hHz hH hK hX hS hA hl
  obtain ⟨f0, f1, f2, f3, f4, f5, f6, f7, f8, f9, f10, f11, f12, f13, f14⟩ := hm
  refine lv_aload_n (pc := 0) S.1 S.2.1 dX9_air_0 rfl (lv_at hl 0 rfl) ?_
  refine lv_iload_n (pc := 1) S.1 S.2.1 dX9_air_1 rfl (lv_at hl 1 rfl) ?_
  refine lv_iconst (pc := 2) (v := nI 0) S.1 S.2.1 dX9_air_2 (by decide) ?_
  refine lv_aload_n (pc := 3) S.1 S.2.1 dX9_air_3 rfl (lv_at hl 0 rfl) ?_
  refine hv_get (pc := 4) (C := RX9) (T := TX9) (N := 22) (ref := RX9) S uwX9 hK hH f0 rfl 16 (by decide) tw_961 (fun _ h9 => h9) rfl dX9_air_4 ?_
  refine lv_iconst (pc := 7) (v := nI 1) S.1 S.2.1 dX9_air_7 (by decide) ?_
  refine lv_isub (pc := 8) S.1 S.2.1 dX9_air_8 ?_
  by_cases hx : inN x (sc 5)
  · skip
    obtain ⟨x1, rfl, hxn⟩ := hx.nat (by omega)
    refine hv_call (pc := 9) (va_runS (As := [.int (nI x1), .int (nI 0), .int (nI (sc 5) - nI 1)]) (rest := [.ref (q 0)]) S (c_isIn l D cA ga φ H.size (nI x1) (nI 0) (nI (sc 5) - nI 1)) (va_cwS 3 S.2.2.2.2 (gS tw_1031 tw_1032 tw_7 tw_1033) rfl rfl rfl (by decide +kernel) ⟨Nat.le_of_ble_eq_true rfl, Nat.le_of_ble_eq_true rfl⟩) (pre0_S hH hK hX hS hA) rfl rfl hl.1 rfl (lv_room (Nat.le_of_ble_eq_true rfl)) dX9_air_9 ⟨Nat.le_of_ble_eq_true rfl, Nat.le_of_ble_eq_true rfl⟩) hS (af_le hH hS hA) (fun v_1 φ_2 H locs hw_v_1 hH hS => ?_)
    obtain ⟨rfl, hqv_1⟩ := hw_v_1
    rw [hqv_1] at hH
    refine hv_ti (y := nI 1) (by rw [inB_N (by omega), if_pos hx]) ?_
    refine hv_if_eq (pc := 12) (tgt := 19) (a := 1) S.1 S.2.1 (by omega) dX9_air_12 (by decide) (fun c_3 => ?_) (fun c_3 => ?_)
    · skip
      exact absurd c_3 (by omega)
    · skip
      refine lv_iconst (pc := 15) (v := nI 0) S.1 S.2.1 dX9_air_15 (by decide) ?_
      refine lv_goto (pc := 16) (tgt := 20) S.1 S.2.1 dX9_air_16 (by decide) ?_
      have eX : inX (sc 5) (nI x1) = 0 := by rw [inX, if_pos hx]
      refine hv_call (pc := 20) (va_runV (As := [.int (nI 0)]) (rest := []) S (c_m_goes l D cA ga φ H.size q sc ar (0) ⟨f0, f1, f2, f3, f4, f5, f6, f7, f8, f9, f10, f11, f12, f13, f14⟩ hq (by omega)) (cwV 1 S.2.2.2.2 (gV tw_1021 tw_1023 sw_32 tw_7 tw_1024) rfl rfl rfl (by decide +kernel) ⟨Nat.le_of_ble_eq_true rfl, Nat.le_of_ble_eq_true rfl⟩) (pre0_V hH hK hX hS hA (hH.recv hK f0 rfl)) rfl rfl hl.1 rfl (lv_room (Nat.le_of_ble_eq_true rfl)) dX9_air_20 ⟨Nat.le_of_ble_eq_true rfl, Nat.le_of_ble_eq_true rfl⟩) hS (af_le hH hS hA) (fun v_4 φ_5 H locs hw_v_4 hH hS => ?_)
      obtain ⟨rfl, hm9⟩ := hw_v_4
      obtain ⟨f_6, f_7, f_8, f_9, f_10, f_11, f_12, f_13, f_14, f_15, f_16, f_17, f_18, f_19, f_20⟩ := hm9
      change φ_5 (q 0) = some (.inr (13, [.int (nI (sc 0)), .long (Int64.ofNat (sc 1)), .int (nI (sc 2)), .ref (q 1), .ref (q 2), .int (nI (sc 3)), .ref (q 3), .ref (q 4), .ref (q 5), .ref (q 6), .ref (q 7), .ref (q 8), .ref (q 9), .int (nI (sc 4)), .ref (q 10), .ref (q 11), .int (nI (sc 5)), .ref (q 12), .ref (q 13), .ref (q 14), .int (nI (sc 6)), .int (nI 0)])) at f_6
      refine hv_ti (y := nI 1) (rfl) ?_
      refine hv_if_ne (pc := 23) (tgt := 30) (a := 1) S.1 S.2.1 (by omega) dX9_air_23 (by decide) (fun c_21 => ?_) (fun c_21 => ?_)
      · skip
        refine lv_iload_n (pc := 30) S.1 S.2.1 dX9_air_30 rfl (lv_at hl 2 rfl) ?_
        refine lv_if_eq (pc := 31) (tgt := 43) S.1 S.2.1 dX9_air_31 (by decide) (fun c_22 => ?_) (fun c_22 => ?_)
        · skip
          refine lv_aload_n (pc := 43) S.1 S.2.1 dX9_air_43 rfl (lv_at hl 0 rfl) ?_
          refine hv_get (pc := 44) (C := RX9) (T := TX9) (N := 22) (ref := RX9) S uwX9 hK hH f_6 rfl 18 (by decide) tw_963 (fun _ h9 => h9) rfl dX9_air_44 ?_
          refine lv_iload_n (pc := 47) S.1 S.2.1 dX9_air_47 rfl (lv_at hl 1 rfl) ?_
          refine hv_iald (pc := 48) S hK hH 1 f_19 rfl (vp_in_nI (by omega) (by omega)) dX9_air_48 ?_
          refine hv_ti (y := nI ((ar 13) x1)) (hv_ld (by omega)) ?_
          exact hv_ret (pc := 49) (v := nI ((ar 13) x1)) S hr rfl hlocks hH hS (by rw [if_pos eX]; exact ⟨x1, rfl, by omega, by rw [if_pos c_22], ⟨f_6, f_7, f_8, f_9, f_10, f_11, f_12, f_13, f_14, f_15, f_16, f_17, f_18, f_19, f_20⟩⟩) (Nat.le_of_ble_eq_true rfl) (Nat.le_of_ble_eq_true rfl) dX9_air_49
        · skip
          refine lv_aload_n (pc := 34) S.1 S.2.1 dX9_air_34 rfl (lv_at hl 0 rfl) ?_
          refine hv_get (pc := 35) (C := RX9) (T := TX9) (N := 22) (ref := RX9) S uwX9 hK hH f_6 rfl 17 (by decide) tw_962 (fun _ h9 => h9) rfl dX9_air_35 ?_
          refine lv_iload_n (pc := 38) S.1 S.2.1 dX9_air_38 rfl (lv_at hl 1 rfl) ?_
          refine hv_iald (pc := 39) S hK hH 1 f_18 rfl (vp_in_nI (by omega) (by omega)) dX9_air_39 ?_
          refine hv_ti (y := nI ((ar 12) x1)) (hv_ld (by omega)) ?_
          refine lv_goto (pc := 40) (tgt := 49) S.1 S.2.1 dX9_air_40 (by decide) ?_
          exact hv_ret (pc := 49) (v := nI ((ar 12) x1)) S hr rfl hlocks hH hS (by rw [if_pos eX]; exact ⟨x1, rfl, by omega, by rw [if_neg c_22], ⟨f_6, f_7, f_8, f_9, f_10, f_11, f_12, f_13, f_14, f_15, f_16, f_17, f_18, f_19, f_20⟩⟩) (Nat.le_of_ble_eq_true rfl) (Nat.le_of_ble_eq_true rfl) dX9_air_49
      · skip
        exact absurd c_21 (by omega)
  · skip
    refine hv_call (pc := 9) (va_runS (As := [.int (x), .int (nI 0), .int (nI (sc 5) - nI 1)]) (rest := [.ref (q 0)]) S (c_isIn l D cA ga φ H.size x (nI 0) (nI (sc 5) - nI 1)) (va_cwS 3 S.2.2.2.2 (gS tw_1031 tw_1032 tw_7 tw_1033) rfl rfl rfl (by decide +kernel) ⟨Nat.le_of_ble_eq_true rfl, Nat.le_of_ble_eq_true rfl⟩) (pre0_S hH hK hX hS hA) rfl rfl hl.1 rfl (lv_room (Nat.le_of_ble_eq_true rfl)) dX9_air_9 ⟨Nat.le_of_ble_eq_true rfl, Nat.le_of_ble_eq_true rfl⟩) hS (af_le hH hS hA) (fun v_23 φ_24 H locs hw_v_23 hH hS => ?_)
    obtain ⟨rfl, hqv_23⟩ := hw_v_23
    rw [hqv_23] at hH
    refine hv_ti (y := nI 0) (by rw [inB_N (by omega), if_neg hx]) ?_
    refine hv_if_eq (pc := 12) (tgt := 19) (a := 0) S.1 S.2.1 (by omega) dX9_air_12 (by decide) (fun c_25 => ?_) (fun c_25 => ?_)
    · skip
      refine lv_iconst (pc := 19) (v := nI 1) S.1 S.2.1 dX9_air_19 (by decide) ?_
      have eX : inX (sc 5) x = 3 := by rw [inX, if_neg hx]
      refine hv_call (pc := 20) (va_runV (As := [.int (nI 1)]) (rest := []) S (c_m_goes l D cA ga φ H.size q sc ar (1) ⟨f0, f1, f2, f3, f4, f5, f6, f7, f8, f9, f10, f11, f12, f13, f14⟩ hq (by omega)) (cwV 1 S.2.2.2.2 (gV tw_1021 tw_1023 sw_32 tw_7 tw_1024) rfl rfl rfl (by decide +kernel) ⟨Nat.le_of_ble_eq_true rfl, Nat.le_of_ble_eq_true rfl⟩) (pre0_V hH hK hX hS hA (hH.recv hK f0 rfl)) rfl rfl hl.1 rfl (lv_room (Nat.le_of_ble_eq_true rfl)) dX9_air_20 ⟨Nat.le_of_ble_eq_true rfl, Nat.le_of_ble_eq_true rfl⟩) hS (af_le hH hS hA) (fun v_26 φ_27 H locs hw_v_26 hH hS => ?_)
      obtain ⟨rfl, hm9⟩ := hw_v_26
      obtain ⟨f_28, f_29, f_30, f_31, f_32, f_33, f_34, f_35, f_36, f_37, f_38, f_39, f_40, f_41, f_42⟩ := hm9
      change φ_27 (q 0) = some (.inr (13, [.int (nI (sc 0)), .long (Int64.ofNat (sc 1)), .int (nI (sc 2)), .ref (q 1), .ref (q 2), .int (nI (sc 3)), .ref (q 3), .ref (q 4), .ref (q 5), .ref (q 6), .ref (q 7), .ref (q 8), .ref (q 9), .int (nI (sc 4)), .ref (q 10), .ref (q 11), .int (nI (sc 5)), .ref (q 12), .ref (q 13), .ref (q 14), .int (nI (sc 6)), .int (nI 1)])) at f_28
      refine hv_ti (y := nI 0) (rfl) ?_
      refine hv_if_ne (pc := 23) (tgt := 30) (a := 0) S.1 S.2.1 (by omega) dX9_air_23 (by decide) (fun c_43 => ?_) (fun c_43 => ?_)
      · skip
        exact absurd c_43 (by omega)
      · skip
        refine lv_iconst (pc := 26) (v := nI 0) S.1 S.2.1 dX9_air_26 (by decide) ?_
        refine lv_goto (pc := 27) (tgt := 49) S.1 S.2.1 dX9_air_27 (by decide) ?_
        exact hv_ret (pc := 49) (v := nI 0) S hr rfl hlocks hH hS (by rw [if_neg (by rw [eX]; decide), eX]; exact ⟨rfl, ⟨f_28, f_29, f_30, f_31, f_32, f_33, f_34, f_35, f_36, f_37, f_38, f_39, f_40, f_41, f_42⟩⟩) (Nat.le_of_ble_eq_true rfl) (Nat.le_of_ble_eq_true rfl) dX9_air_49
    · skip
      exact absurd c_25 (by omega)

set_option maxHeartbeats 4000000 in
set_option maxRecDepth 100000 in
/-- pass -/
theorem c_m_pass (l : Launch) (D : va_G) (cA : Nat → ClassId) (ga : Nat → Nat → Nat) (φ : hpM) (sz : Nat) (q : Nat → Nat) (sc : Nat → Nat) (ar : Nat → Nat → Nat) (x : Int32) (hm : MP cA q sc ar φ) (hq : ∀ i j, i < 15 → j < 15 → q i = q j → i = j) (hd : sc 6 + 30 < 2 ^ 30) : hM l yX9_pass cX9_pass 3 (some .int) { frames := 9, cells := 0, slots := 0, locals := 260 } [.ref (q 0), .int (x)] D cA ga φ sz (fun v φ' => if passX x = 0 then (∃ x1 : Nat, x = nI x1 ∧ 1 ≤ x1 ∧ x1 ≤ 30 ∧ v = some (.int (nI ((sc 6 + x1) / 10))) ∧ MP cA q (va_up (va_up sc 6 (sc 6 + x1)) 7 (0)) (va_up ar 12 (pfx zr (ar 12) 6)) φ') else (v = some (.int (nI 0)) ∧ MP cA q (va_up sc 7 (mcd 1 9 9 (passX x))) ar φ')) 0 0 := by
  refine hM.of (by decide) (Nat.le_of_ble_eq_true rfl) rfl ?_
  intro p e s m args below meth c ls H locs S hr hlocks hnm hsz hHz hH hK hX hS hA hl
  obtain ⟨f0, f1, f2, f3, f4, f5, f6, f7, f8, f9, f10, f11, f12, f13, f14⟩ := hm
  refine lv_aload_n (pc := 0) S.1 S.2.1 dX9_pass_0 rfl (lv_at hl 0 rfl) ?_
  refine lv_iload_n (pc := 1) S.1 S.2.1 dX9_pass_1 rfl (lv_at hl 1 rfl) ?_
  refine lv_iconst (pc := 2) (v := nI 1) S.1 S.2.1 dX9_pass_2 (by decide) ?_
  refine lv_bipush (pc := 3) (v := nI 30) S.1 S.2.1 dX9_pass_3 (by decide) ?_
  by_cases hx : inR x 1 30
  · skip
    obtain ⟨x1, rfl, hxlo, hxhi⟩ := hx.nat (by omega) (by omega)
    refine hv_call (pc := 5) (va_runS (As := [.int (nI x1), .int (nI 1), .int (nI 30)]) (rest := [.ref (q 0)]) S (c_isIn l D cA ga φ H.size (nI x1) (nI 1) (nI 30)) (va_cwS 3 S.2.2.2.2 (gS tw_1031 tw_1032 tw_7 tw_1033) rfl rfl rfl (by decide +kernel) ⟨Nat.le_of_ble_eq_true rfl, Nat.le_of_ble_eq_true rfl⟩) (pre0_S hH hK hX hS hA) rfl rfl hl.1 rfl (lv_room (Nat.le_of_ble_eq_true rfl)) dX9_pass_5 ⟨Nat.le_of_ble_eq_true rfl, Nat.le_of_ble_eq_true rfl⟩) hS (af_le hH hS hA) (fun v_1 φ_2 H locs hw_v_1 hH hS => ?_)
    obtain ⟨rfl, hqv_1⟩ := hw_v_1
    rw [hqv_1] at hH
    refine hv_ti (y := nI 1) (by rw [inB_R, if_pos hx]) ?_
    refine hv_if_eq (pc := 8) (tgt := 15) (a := 1) S.1 S.2.1 (by omega) dX9_pass_8 (by decide) (fun c_3 => ?_) (fun c_3 => ?_)
    · skip
      exact absurd c_3 (by omega)
    · skip
      refine lv_iconst (pc := 11) (v := nI 0) S.1 S.2.1 dX9_pass_11 (by decide) ?_
      refine lv_goto (pc := 12) (tgt := 16) S.1 S.2.1 dX9_pass_12 (by decide) ?_
      have eX : passX (nI x1) = 0 := by rw [passX, if_pos hx]
      refine hv_call (pc := 16) (va_runV (As := [.int (nI 0)]) (rest := []) S (c_m_goes l D cA ga φ H.size q sc ar (0) ⟨f0, f1, f2, f3, f4, f5, f6, f7, f8, f9, f10, f11, f12, f13, f14⟩ hq (by omega)) (cwV 1 S.2.2.2.2 (gV tw_1021 tw_1023 sw_32 tw_7 tw_1024) rfl rfl rfl (by decide +kernel) ⟨Nat.le_of_ble_eq_true rfl, Nat.le_of_ble_eq_true rfl⟩) (pre0_V hH hK hX hS hA (hH.recv hK f0 rfl)) rfl rfl hl.1 rfl (lv_room (Nat.le_of_ble_eq_true rfl)) dX9_pass_16 ⟨Nat.le_of_ble_eq_true rfl, Nat.le_of_ble_eq_true rfl⟩) hS (af_le hH hS hA) (fun v_4 φ_5 H locs hw_v_4 hH hS => ?_)
      obtain ⟨rfl, hm9⟩ := hw_v_4
      obtain ⟨f_6, f_7, f_8, f_9, f_10, f_11, f_12, f_13, f_14, f_15, f_16, f_17, f_18, f_19, f_20⟩ := hm9
      change φ_5 (q 0) = some (.inr (13, [.int (nI (sc 0)), .long (Int64.ofNat (sc 1)), .int (nI (sc 2)), .ref (q 1), .ref (q 2), .int (nI (sc 3)), .ref (q 3), .ref (q 4), .ref (q 5), .ref (q 6), .ref (q 7), .ref (q 8), .ref (q 9), .int (nI (sc 4)), .ref (q 10), .ref (q 11), .int (nI (sc 5)), .ref (q 12), .ref (q 13), .ref (q 14), .int (nI (sc 6)), .int (nI 0)])) at f_6
      refine hv_ti (y := nI 1) (rfl) ?_
      refine hv_if_ne (pc := 19) (tgt := 24) (a := 1) S.1 S.2.1 (by omega) dX9_pass_19 (by decide) (fun c_21 => ?_) (fun c_21 => ?_)
      · skip
        refine lv_aload_n (pc := 24) S.1 S.2.1 dX9_pass_24 rfl (lv_at hl 0 rfl) ?_
        refine lv_dup (pc := 25) S.1 S.2.1 dX9_pass_25 rfl ?_
        refine hv_get (pc := 26) (C := RX9) (T := TX9) (N := 22) (ref := RX9) S uwX9 hK hH f_6 rfl 20 (by decide) tw_965 (fun _ h9 => h9) rfl dX9_pass_26 ?_
        refine lv_iload_n (pc := 29) S.1 S.2.1 dX9_pass_29 rfl (lv_at hl 1 rfl) ?_
        refine lv_iadd (pc := 30) S.1 S.2.1 dX9_pass_30 ?_
        refine hv_ti (y := nI ((sc 6) + x1)) (nI_add _ _) ?_
        refine hv_put (pc := 31) (ty := .int) (C := RX9) (T := TX9) (N := 22) (ref := RX9) S uwX9 tyX9 tyX9_ok nmX9 hK hH hS f_6 rfl 20 (by decide) tw_965 (fun _ h9 => h9) rfl (by decide +kernel) rfl rfl (Nat.le_of_ble_eq_true rfl) dX9_pass_31 (fun H locs hH hS => ?_)
        replace hH := nup (e := .inr (13, [.int (nI (sc 0)), .long (Int64.ofNat (sc 1)), .int (nI (sc 2)), .ref (q 1), .ref (q 2), .int (nI (sc 3)), .ref (q 3), .ref (q 4), .ref (q 5), .ref (q 6), .ref (q 7), .ref (q 8), .ref (q 9), .int (nI (sc 4)), .ref (q 10), .ref (q 11), .int (nI (sc 5)), .ref (q 12), .ref (q 13), .ref (q 14), .int (nI ((sc 6) + x1)), .int (nI 0)])) hH
        obtain ⟨φ_22, hφ_22, fa_φ_22, fr_φ_22, hH⟩ := hH
        have f_23 := fr_φ_22 _ _ (fun h => absurd (hq 1 0 (by omega) (by omega) h) (by omega)) f_7
        have f_24 := fr_φ_22 _ _ (fun h => absurd (hq 2 0 (by omega) (by omega) h) (by omega)) f_8
        have f_25 := fr_φ_22 _ _ (fun h => absurd (hq 3 0 (by omega) (by omega) h) (by omega)) f_9
        have f_26 := fr_φ_22 _ _ (fun h => absurd (hq 4 0 (by omega) (by omega) h) (by omega)) f_10
        have f_27 := fr_φ_22 _ _ (fun h => absurd (hq 5 0 (by omega) (by omega) h) (by omega)) f_11
        have f_28 := fr_φ_22 _ _ (fun h => absurd (hq 6 0 (by omega) (by omega) h) (by omega)) f_12
        have f_29 := fr_φ_22 _ _ (fun h => absurd (hq 7 0 (by omega) (by omega) h) (by omega)) f_13
        have f_30 := fr_φ_22 _ _ (fun h => absurd (hq 8 0 (by omega) (by omega) h) (by omega)) f_14
        have f_31 := fr_φ_22 _ _ (fun h => absurd (hq 9 0 (by omega) (by omega) h) (by omega)) f_15
        have f_32 := fr_φ_22 _ _ (fun h => absurd (hq 10 0 (by omega) (by omega) h) (by omega)) f_16
        have f_33 := fr_φ_22 _ _ (fun h => absurd (hq 11 0 (by omega) (by omega) h) (by omega)) f_17
        have f_34 := fr_φ_22 _ _ (fun h => absurd (hq 12 0 (by omega) (by omega) h) (by omega)) f_18
        have f_35 := fr_φ_22 _ _ (fun h => absurd (hq 13 0 (by omega) (by omega) h) (by omega)) f_19
        have f_36 := fr_φ_22 _ _ (fun h => absurd (hq 14 0 (by omega) (by omega) h) (by omega)) f_20
        refine lv_iconst (pc := 34) (v := nI 0) S.1 S.2.1 dX9_pass_34 (by decide) ?_
        refine lv_istore_n (pc := 35) (lv' := [(2, .int (nI 0)), (0, .ref (q 0)), (1, .int (nI x1))]) S.1 S.2.1 dX9_pass_35 rfl hl (by decide) rfl (fun ls hl => ?_)
        have hg : ∃ (n i : Nat) (φk_37 : hpM), ((i + n = 6) ∧ φk_37 = ups φ_22 (q 12) (.inl (cA 1, 6, .inl (fun j => nI ((pfx zr (ar 12) i) j)))) ∧ hp D (Af φ sz) φk_37 H) ∧ lv_has ls 3 [(0, .ref (q 0)), (1, .int (nI x1)), (2, .int (nI i))] := ⟨6, 0, φ_22, ⟨rfl, by rw [pfx_0]; exact ups_id f_34, hH⟩, lv_sub hl [1, 2, 0] rfl⟩
        clear hl hH
        try clear hHz
        obtain ⟨n, i, φk_37, hi, hl⟩ := hg
        induction n generalizing ls H locs i φk_37 with
        | zero =>
          obtain ⟨hi, hφk_37, hH⟩ := hi
          have f_38 : φk_37 (q 0) = some (.inr (13, [.int (nI (sc 0)), .long (Int64.ofNat (sc 1)), .int (nI (sc 2)), .ref (q 1), .ref (q 2), .int (nI (sc 3)), .ref (q 3), .ref (q 4), .ref (q 5), .ref (q 6), .ref (q 7), .ref (q 8), .ref (q 9), .int (nI (sc 4)), .ref (q 10), .ref (q 11), .int (nI (sc 5)), .ref (q 12), .ref (q 13), .ref (q 14), .int (nI ((sc 6) + x1)), .int (nI 0)])) := by rw [hφk_37]; exact ups_n (fun h => absurd (hq 0 12 (by omega) (by omega) h) (by omega)) fa_φ_22
          have f_39 : φk_37 (q 1) = some (.inl (cA 1, 10, .inl (fun j => nI ((ar 1) j)))) := by rw [hφk_37]; exact ups_n (fun h => absurd (hq 1 12 (by omega) (by omega) h) (by omega)) f_23
          have f_40 : φk_37 (q 2) = some (.inl (cA 1, 10, .inl (fun j => nI ((ar 2) j)))) := by rw [hφk_37]; exact ups_n (fun h => absurd (hq 2 12 (by omega) (by omega) h) (by omega)) f_24
          have f_41 : φk_37 (q 3) = some (.inl (cA 1, 12, .inl (fun j => nI ((ar 3) j)))) := by rw [hφk_37]; exact ups_n (fun h => absurd (hq 3 12 (by omega) (by omega) h) (by omega)) f_25
          have f_42 : φk_37 (q 4) = some (.inl (cA 1, 72, .inl (fun j => nI ((ar 4) j)))) := by rw [hφk_37]; exact ups_n (fun h => absurd (hq 4 12 (by omega) (by omega) h) (by omega)) f_26
          have f_43 : φk_37 (q 5) = some (.inl (cA 1, 72, .inl (fun j => nI ((ar 5) j)))) := by rw [hφk_37]; exact ups_n (fun h => absurd (hq 5 12 (by omega) (by omega) h) (by omega)) f_27
          have f_44 : φk_37 (q 6) = some (.inl (cA 1, 72, .inl (fun j => nI ((ar 6) j)))) := by rw [hφk_37]; exact ups_n (fun h => absurd (hq 6 12 (by omega) (by omega) h) (by omega)) f_28
          have f_45 : φk_37 (q 7) = some (.inl (cA 1, 12, .inl (fun j => nI ((ar 7) j)))) := by rw [hφk_37]; exact ups_n (fun h => absurd (hq 7 12 (by omega) (by omega) h) (by omega)) f_29
          have f_46 : φk_37 (q 8) = some (.inl (cA 2, 12, .inl (fun j => nI ((ar 8) j)))) := by rw [hφk_37]; exact ups_n (fun h => absurd (hq 8 12 (by omega) (by omega) h) (by omega)) f_30
          have f_47 : φk_37 (q 9) = some (.inl (cA 2, 12, .inl (fun j => nI ((ar 9) j)))) := by rw [hφk_37]; exact ups_n (fun h => absurd (hq 9 12 (by omega) (by omega) h) (by omega)) f_31
          have f_48 : φk_37 (q 10) = some (.inl (cA 1, 8, .inl (fun j => nI ((ar 10) j)))) := by rw [hφk_37]; exact ups_n (fun h => absurd (hq 10 12 (by omega) (by omega) h) (by omega)) f_32
          have f_49 : φk_37 (q 11) = some (.inl (cA 1, 8, .inl (fun j => nI ((ar 11) j)))) := by rw [hφk_37]; exact ups_n (fun h => absurd (hq 11 12 (by omega) (by omega) h) (by omega)) f_33
          have f_50 : φk_37 (q 12) = some (.inl (cA 1, 6, .inl (fun j => nI ((pfx zr (ar 12) i) j)))) := by rw [hφk_37]; exact ups_s _ _ _
          have f_51 : φk_37 (q 13) = some (.inl (cA 1, 6, .inl (fun j => nI ((ar 13) j)))) := by rw [hφk_37]; exact ups_n (fun h => absurd (hq 13 12 (by omega) (by omega) h) (by omega)) f_35
          have f_52 : φk_37 (q 14) = some (.inl (cA 1, 8, .inl (fun j => nI ((ar 14) j)))) := by rw [hφk_37]; exact ups_n (fun h => absurd (hq 14 12 (by omega) (by omega) h) (by omega)) f_36
          obtain rfl : i = 6 := by omega
          refine lv_iload_n (pc := 36) S.1 S.2.1 dX9_pass_36 rfl (lv_at hl 2 rfl) ?_
          refine lv_bipush (pc := 37) (v := nI 6) S.1 S.2.1 dX9_pass_37 (by decide) ?_
          refine hv_icmp_ge (pc := 39) (tgt := 55) (a := 6) (b := 6) S.1 S.2.1 (by omega) (by omega) dX9_pass_39 (by decide) (fun c_53 => ?_) (fun c_53 => ?_)
          · skip
            refine lv_aload_n (pc := 55) S.1 S.2.1 dX9_pass_55 rfl (lv_at hl 0 rfl) ?_
            refine hv_get (pc := 56) (C := RX9) (T := TX9) (N := 22) (ref := RX9) S uwX9 hK hH f_38 rfl 20 (by decide) tw_965 (fun _ h9 => h9) rfl dX9_pass_56 ?_
            refine lv_bipush (pc := 59) (v := nI 10) S.1 S.2.1 dX9_pass_59 (by decide) ?_
            refine lv_idiv (pc := 61) S.1 S.2.1 dX9_pass_61 (by decide) ?_
            refine hv_ti (y := nI (((sc 6) + x1) / 10)) (pk_div (by omega) (by omega) (by omega)) ?_
            exact hv_ret (pc := 62) (v := nI (((sc 6) + x1) / 10)) S hr rfl hlocks hH hS (by rw [if_pos eX]; exact ⟨x1, rfl, hxlo, hxhi, rfl, ⟨f_38, f_39, f_40, f_41, f_42, f_43, f_44, f_45, f_46, f_47, f_48, f_49, f_50, f_51, f_52⟩⟩) (Nat.le_of_ble_eq_true rfl) (Nat.le_of_ble_eq_true rfl) dX9_pass_62
          · skip
            exact absurd c_53 (by omega)
        | succ n ih =>
          obtain ⟨hi, hφk_37, hH⟩ := hi
          have f_54 : φk_37 (q 0) = some (.inr (13, [.int (nI (sc 0)), .long (Int64.ofNat (sc 1)), .int (nI (sc 2)), .ref (q 1), .ref (q 2), .int (nI (sc 3)), .ref (q 3), .ref (q 4), .ref (q 5), .ref (q 6), .ref (q 7), .ref (q 8), .ref (q 9), .int (nI (sc 4)), .ref (q 10), .ref (q 11), .int (nI (sc 5)), .ref (q 12), .ref (q 13), .ref (q 14), .int (nI ((sc 6) + x1)), .int (nI 0)])) := by rw [hφk_37]; exact ups_n (fun h => absurd (hq 0 12 (by omega) (by omega) h) (by omega)) fa_φ_22
          have f_55 : φk_37 (q 1) = some (.inl (cA 1, 10, .inl (fun j => nI ((ar 1) j)))) := by rw [hφk_37]; exact ups_n (fun h => absurd (hq 1 12 (by omega) (by omega) h) (by omega)) f_23
          have f_56 : φk_37 (q 2) = some (.inl (cA 1, 10, .inl (fun j => nI ((ar 2) j)))) := by rw [hφk_37]; exact ups_n (fun h => absurd (hq 2 12 (by omega) (by omega) h) (by omega)) f_24
          have f_57 : φk_37 (q 3) = some (.inl (cA 1, 12, .inl (fun j => nI ((ar 3) j)))) := by rw [hφk_37]; exact ups_n (fun h => absurd (hq 3 12 (by omega) (by omega) h) (by omega)) f_25
          have f_58 : φk_37 (q 4) = some (.inl (cA 1, 72, .inl (fun j => nI ((ar 4) j)))) := by rw [hφk_37]; exact ups_n (fun h => absurd (hq 4 12 (by omega) (by omega) h) (by omega)) f_26
          have f_59 : φk_37 (q 5) = some (.inl (cA 1, 72, .inl (fun j => nI ((ar 5) j)))) := by rw [hφk_37]; exact ups_n (fun h => absurd (hq 5 12 (by omega) (by omega) h) (by omega)) f_27
          have f_60 : φk_37 (q 6) = some (.inl (cA 1, 72, .inl (fun j => nI ((ar 6) j)))) := by rw [hφk_37]; exact ups_n (fun h => absurd (hq 6 12 (by omega) (by omega) h) (by omega)) f_28
          have f_61 : φk_37 (q 7) = some (.inl (cA 1, 12, .inl (fun j => nI ((ar 7) j)))) := by rw [hφk_37]; exact ups_n (fun h => absurd (hq 7 12 (by omega) (by omega) h) (by omega)) f_29
          have f_62 : φk_37 (q 8) = some (.inl (cA 2, 12, .inl (fun j => nI ((ar 8) j)))) := by rw [hφk_37]; exact ups_n (fun h => absurd (hq 8 12 (by omega) (by omega) h) (by omega)) f_30
          have f_63 : φk_37 (q 9) = some (.inl (cA 2, 12, .inl (fun j => nI ((ar 9) j)))) := by rw [hφk_37]; exact ups_n (fun h => absurd (hq 9 12 (by omega) (by omega) h) (by omega)) f_31
          have f_64 : φk_37 (q 10) = some (.inl (cA 1, 8, .inl (fun j => nI ((ar 10) j)))) := by rw [hφk_37]; exact ups_n (fun h => absurd (hq 10 12 (by omega) (by omega) h) (by omega)) f_32
          have f_65 : φk_37 (q 11) = some (.inl (cA 1, 8, .inl (fun j => nI ((ar 11) j)))) := by rw [hφk_37]; exact ups_n (fun h => absurd (hq 11 12 (by omega) (by omega) h) (by omega)) f_33
          have f_66 : φk_37 (q 12) = some (.inl (cA 1, 6, .inl (fun j => nI ((pfx zr (ar 12) i) j)))) := by rw [hφk_37]; exact ups_s _ _ _
          have f_67 : φk_37 (q 13) = some (.inl (cA 1, 6, .inl (fun j => nI ((ar 13) j)))) := by rw [hφk_37]; exact ups_n (fun h => absurd (hq 13 12 (by omega) (by omega) h) (by omega)) f_35
          have f_68 : φk_37 (q 14) = some (.inl (cA 1, 8, .inl (fun j => nI ((ar 14) j)))) := by rw [hφk_37]; exact ups_n (fun h => absurd (hq 14 12 (by omega) (by omega) h) (by omega)) f_36
          refine lv_iload_n (pc := 36) S.1 S.2.1 dX9_pass_36 rfl (lv_at hl 2 rfl) ?_
          refine lv_bipush (pc := 37) (v := nI 6) S.1 S.2.1 dX9_pass_37 (by decide) ?_
          refine hv_icmp_ge (pc := 39) (tgt := 55) (a := i) (b := 6) S.1 S.2.1 (by omega) (by omega) dX9_pass_39 (by decide) (fun c_69 => ?_) (fun c_69 => ?_)
          · skip
            exact absurd c_69 (by omega)
          · skip
            refine lv_aload_n (pc := 42) S.1 S.2.1 dX9_pass_42 rfl (lv_at hl 0 rfl) ?_
            refine hv_get (pc := 43) (C := RX9) (T := TX9) (N := 22) (ref := RX9) S uwX9 hK hH f_54 rfl 17 (by decide) tw_962 (fun _ h9 => h9) rfl dX9_pass_43 ?_
            refine lv_iload_n (pc := 46) S.1 S.2.1 dX9_pass_46 rfl (lv_at hl 2 rfl) ?_
            refine lv_iconst (pc := 47) (v := nI 0) S.1 S.2.1 dX9_pass_47 (by decide) ?_
            refine hv_iast (pc := 48) S hK hH hS 1 f_66 rfl (vp_in_nI (by omega) (by omega)) dX9_pass_48 (fun H locs hH hS => ?_)
            rw [hv_upd (by omega), show va_up (pfx zr (ar 12) i) i 0 = pfx zr (ar 12) (i + 1) from pfx_up zr (ar 12) i] at hH
            replace hH := nup (e := .inl (cA 1, 6, .inl (fun j => nI ((pfx zr (ar 12) (i + 1)) j)))) hH
            obtain ⟨φ_70, hφ_70, fa_φ_70, fr_φ_70, hH⟩ := hH
            have f_71 := fr_φ_70 _ _ (fun h => absurd (hq 0 12 (by omega) (by omega) h) (by omega)) f_54
            have f_72 := fr_φ_70 _ _ (fun h => absurd (hq 1 12 (by omega) (by omega) h) (by omega)) f_55
            have f_73 := fr_φ_70 _ _ (fun h => absurd (hq 2 12 (by omega) (by omega) h) (by omega)) f_56
            have f_74 := fr_φ_70 _ _ (fun h => absurd (hq 3 12 (by omega) (by omega) h) (by omega)) f_57
            have f_75 := fr_φ_70 _ _ (fun h => absurd (hq 4 12 (by omega) (by omega) h) (by omega)) f_58
            have f_76 := fr_φ_70 _ _ (fun h => absurd (hq 5 12 (by omega) (by omega) h) (by omega)) f_59
            have f_77 := fr_φ_70 _ _ (fun h => absurd (hq 6 12 (by omega) (by omega) h) (by omega)) f_60
            have f_78 := fr_φ_70 _ _ (fun h => absurd (hq 7 12 (by omega) (by omega) h) (by omega)) f_61
            have f_79 := fr_φ_70 _ _ (fun h => absurd (hq 8 12 (by omega) (by omega) h) (by omega)) f_62
            have f_80 := fr_φ_70 _ _ (fun h => absurd (hq 9 12 (by omega) (by omega) h) (by omega)) f_63
            have f_81 := fr_φ_70 _ _ (fun h => absurd (hq 10 12 (by omega) (by omega) h) (by omega)) f_64
            have f_82 := fr_φ_70 _ _ (fun h => absurd (hq 11 12 (by omega) (by omega) h) (by omega)) f_65
            have f_83 := fr_φ_70 _ _ (fun h => absurd (hq 13 12 (by omega) (by omega) h) (by omega)) f_67
            have f_84 := fr_φ_70 _ _ (fun h => absurd (hq 14 12 (by omega) (by omega) h) (by omega)) f_68
            refine lv_iinc (pc := 49) (v := nI (i + 1)) (lv' := [(2, .int (nI (i + 1))), (0, .ref (q 0)), (1, .int (nI x1))]) S.1 S.2.1 dX9_pass_49 hl (k := 2) rfl (by first | rfl | exact nI_add _ _) (by decide) rfl (fun ls hl => ?_)
            refine lv_goto (pc := 52) (tgt := 36) S.1 S.2.1 dX9_pass_52 (by decide) ?_
            have hi2 : ((i + 1) + n = 6) ∧ φ_70 = ups φ_22 (q 12) (.inl (cA 1, 6, .inl (fun j => nI ((pfx zr (ar 12) (i + 1)) j)))) ∧ hp D (Af φ sz) φ_70 H := ⟨by omega, by rw [hφ_70, hφk_37, ups_ups], hH⟩
            have hl2 : lv_has ls 3 [(0, .ref (q 0)), (1, .int (nI x1)), (2, .int (nI (i + 1)))] := lv_sub hl [1, 2, 0] rfl
            apply ih (i := i + 1) (φk_37 := φ_70) <;> assumption
      · skip
        exact absurd c_21 (by omega)
  · skip
    refine hv_call (pc := 5) (va_runS (As := [.int (x), .int (nI 1), .int (nI 30)]) (rest := [.ref (q 0)]) S (c_isIn l D cA ga φ H.size x (nI 1) (nI 30)) (va_cwS 3 S.2.2.2.2 (gS tw_1031 tw_1032 tw_7 tw_1033) rfl rfl rfl (by decide +kernel) ⟨Nat.le_of_ble_eq_true rfl, Nat.le_of_ble_eq_true rfl⟩) (pre0_S hH hK hX hS hA) rfl rfl hl.1 rfl (lv_room (Nat.le_of_ble_eq_true rfl)) dX9_pass_5 ⟨Nat.le_of_ble_eq_true rfl, Nat.le_of_ble_eq_true rfl⟩) hS (af_le hH hS hA) (fun v_85 φ_86 H locs hw_v_85 hH hS => ?_)
    obtain ⟨rfl, hqv_85⟩ := hw_v_85
    rw [hqv_85] at hH
    refine hv_ti (y := nI 0) (by rw [inB_R, if_neg hx]) ?_
    refine hv_if_eq (pc := 8) (tgt := 15) (a := 0) S.1 S.2.1 (by omega) dX9_pass_8 (by decide) (fun c_87 => ?_) (fun c_87 => ?_)
    · skip
      refine lv_iconst (pc := 15) (v := nI 1) S.1 S.2.1 dX9_pass_15 (by decide) ?_
      have eX : passX x = 1 := by rw [passX, if_neg hx]
      refine hv_call (pc := 16) (va_runV (As := [.int (nI 1)]) (rest := []) S (c_m_goes l D cA ga φ H.size q sc ar (1) ⟨f0, f1, f2, f3, f4, f5, f6, f7, f8, f9, f10, f11, f12, f13, f14⟩ hq (by omega)) (cwV 1 S.2.2.2.2 (gV tw_1021 tw_1023 sw_32 tw_7 tw_1024) rfl rfl rfl (by decide +kernel) ⟨Nat.le_of_ble_eq_true rfl, Nat.le_of_ble_eq_true rfl⟩) (pre0_V hH hK hX hS hA (hH.recv hK f0 rfl)) rfl rfl hl.1 rfl (lv_room (Nat.le_of_ble_eq_true rfl)) dX9_pass_16 ⟨Nat.le_of_ble_eq_true rfl, Nat.le_of_ble_eq_true rfl⟩) hS (af_le hH hS hA) (fun v_88 φ_89 H locs hw_v_88 hH hS => ?_)
      obtain ⟨rfl, hm9⟩ := hw_v_88
      obtain ⟨f_90, f_91, f_92, f_93, f_94, f_95, f_96, f_97, f_98, f_99, f_100, f_101, f_102, f_103, f_104⟩ := hm9
      change φ_89 (q 0) = some (.inr (13, [.int (nI (sc 0)), .long (Int64.ofNat (sc 1)), .int (nI (sc 2)), .ref (q 1), .ref (q 2), .int (nI (sc 3)), .ref (q 3), .ref (q 4), .ref (q 5), .ref (q 6), .ref (q 7), .ref (q 8), .ref (q 9), .int (nI (sc 4)), .ref (q 10), .ref (q 11), .int (nI (sc 5)), .ref (q 12), .ref (q 13), .ref (q 14), .int (nI (sc 6)), .int (nI 1)])) at f_90
      refine hv_ti (y := nI 0) (rfl) ?_
      refine hv_if_ne (pc := 19) (tgt := 24) (a := 0) S.1 S.2.1 (by omega) dX9_pass_19 (by decide) (fun c_105 => ?_) (fun c_105 => ?_)
      · skip
        exact absurd c_105 (by omega)
      · skip
        refine lv_iconst (pc := 22) (v := nI 0) S.1 S.2.1 dX9_pass_22 (by decide) ?_
        exact hv_ret (pc := 23) (v := nI 0) S hr rfl hlocks hH hS (by rw [if_neg (by rw [eX]; decide), eX]; exact ⟨rfl, ⟨f_90, f_91, f_92, f_93, f_94, f_95, f_96, f_97, f_98, f_99, f_100, f_101, f_102, f_103, f_104⟩⟩) (Nat.le_of_ble_eq_true rfl) (Nat.le_of_ble_eq_true rfl) dX9_pass_23
    · skip
      exact absurd c_87 (by omega)
