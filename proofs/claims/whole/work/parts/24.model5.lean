set_option maxHeartbeats 4000000 in
set_option maxRecDepth 100000 in
/-- rows -/
theorem c_m_rows (l : Launch) (D : va_G) (cA : Nat → ClassId) (ga : Nat → Nat → Nat) (φ : hpM) (sz : Nat) (q : Nat → Nat) (sc : Nat → Nat) (ar : Nat → Nat → Nat) (x : Int32) (hm : MP cA q sc ar φ) (hq : ∀ i j, i < 15 → j < 15 → q i = q j → i = j) (hty : sc 1 < 2 ^ 62) : hM l yX9_rows cX9_rows 5 (some .int) { frames := 10, cells := 0, slots := 0, locals := 320 } [.ref (q 0), .int (x)] D cA ga φ sz (fun v φ' => if rowsX x = 0 then (∃ x1 : Nat, x = nI x1 ∧ x1 < 2 ^ 31 ∧ v = some (.int (rwR (wkO 7 (sc 1) 4 0) x1)) ∧ MP cA q (va_up (va_up (va_up sc 0 (0)) 1 (0)) 7 (0)) ar φ') else (v = some (.int (nI 0)) ∧ MP cA q (va_up sc 7 (mcd 1 9 9 (rowsX x))) ar φ')) 0 0 := by
  refine hM.of (by decide) (Nat.le_of_ble_eq_true rfl) rfl ?_
  intro p e s m args below meth c ls H locs S hr hlocks hnm hsz hHz hH hK hX hS hA hl
  obtain ⟨f0, f1, f2, f3, f4, f5, f6, f7, f8, f9, f10, f11, f12, f13, f14⟩ := hm
  refine lv_aload_n (pc := 0) S.1 S.2.1 dX9_rows_0 rfl (lv_at hl 0 rfl) ?_
  refine lv_iload_n (pc := 1) S.1 S.2.1 dX9_rows_1 rfl (lv_at hl 1 rfl) ?_
  refine lv_iconst (pc := 2) (v := nI 1) S.1 S.2.1 dX9_rows_2 (by decide) ?_
  refine lv_sipush (pc := 3) (v := nI 2000) S.1 S.2.1 dX9_rows_3 (by decide) ?_
  by_cases hx : inR x 1 2000
  · skip
    obtain ⟨x1, rfl, hxlo, hxhi⟩ := hx.nat (by omega) (by omega)
    refine hv_call (pc := 6) (va_runS (As := [.int (nI x1), .int (nI 1), .int (nI 2000)]) (rest := [.ref (q 0)]) S (c_isIn l D cA ga φ H.size (nI x1) (nI 1) (nI 2000)) (va_cwS 3 S.2.2.2.2 (gS tw_1031 tw_1032 tw_7 tw_1033) rfl rfl rfl (by decide +kernel) ⟨Nat.le_of_ble_eq_true rfl, Nat.le_of_ble_eq_true rfl⟩) (pre0_S hH hK hX hS hA) rfl rfl hl.1 rfl (lv_room (Nat.le_of_ble_eq_true rfl)) dX9_rows_6 ⟨Nat.le_of_ble_eq_true rfl, Nat.le_of_ble_eq_true rfl⟩) hS (af_le hH hS hA) (fun v_1 φ_2 H locs hw_v_1 hH hS => ?_)
    obtain ⟨rfl, hqv_1⟩ := hw_v_1
    rw [hqv_1] at hH
    refine hv_ti (y := nI 1) (by rw [inB_R, if_pos hx]) ?_
    refine hv_if_eq (pc := 9) (tgt := 16) (a := 1) S.1 S.2.1 (by omega) dX9_rows_9 (by decide) (fun c_3 => ?_) (fun c_3 => ?_)
    · skip
      exact absurd c_3 (by omega)
    · skip
      refine lv_iconst (pc := 12) (v := nI 0) S.1 S.2.1 dX9_rows_12 (by decide) ?_
      refine lv_goto (pc := 13) (tgt := 17) S.1 S.2.1 dX9_rows_13 (by decide) ?_
      have eX : rowsX (nI x1) = 0 := by rw [rowsX, if_pos hx]
      refine hv_call (pc := 17) (va_runV (As := [.int (nI 0)]) (rest := []) S (c_m_goes l D cA ga φ H.size q sc ar (0) ⟨f0, f1, f2, f3, f4, f5, f6, f7, f8, f9, f10, f11, f12, f13, f14⟩ hq (by omega)) (cwV 1 S.2.2.2.2 (gV tw_1021 tw_1023 sw_32 tw_7 tw_1024) rfl rfl rfl (by decide +kernel) ⟨Nat.le_of_ble_eq_true rfl, Nat.le_of_ble_eq_true rfl⟩) (pre0_V hH hK hX hS hA (hH.recv hK f0 rfl)) rfl rfl hl.1 rfl (lv_room (Nat.le_of_ble_eq_true rfl)) dX9_rows_17 ⟨Nat.le_of_ble_eq_true rfl, Nat.le_of_ble_eq_true rfl⟩) hS (af_le hH hS hA) (fun v_4 φ_5 H locs hw_v_4 hH hS => ?_)
      obtain ⟨rfl, hm9⟩ := hw_v_4
      obtain ⟨f_6, f_7, f_8, f_9, f_10, f_11, f_12, f_13, f_14, f_15, f_16, f_17, f_18, f_19, f_20⟩ := hm9
      change φ_5 (q 0) = some (.inr (13, [.int (nI (sc 0)), .long (Int64.ofNat (sc 1)), .int (nI (sc 2)), .ref (q 1), .ref (q 2), .int (nI (sc 3)), .ref (q 3), .ref (q 4), .ref (q 5), .ref (q 6), .ref (q 7), .ref (q 8), .ref (q 9), .int (nI (sc 4)), .ref (q 10), .ref (q 11), .int (nI (sc 5)), .ref (q 12), .ref (q 13), .ref (q 14), .int (nI (sc 6)), .int (nI 0)])) at f_6
      refine hv_ti (y := nI 1) (rfl) ?_
      refine hv_if_ne (pc := 20) (tgt := 25) (a := 1) S.1 S.2.1 (by omega) dX9_rows_20 (by decide) (fun c_21 => ?_) (fun c_21 => ?_)
      · skip
        refine lv_aload_n (pc := 25) S.1 S.2.1 dX9_rows_25 rfl (lv_at hl 0 rfl) ?_
        refine hv_call (pc := 26) (va_runV (As := []) (rest := []) S (c_m_kind l D cA ga φ_5 H.size q (va_up sc 7 (0)) ar  ⟨f_6, f_7, f_8, f_9, f_10, f_11, f_12, f_13, f_14, f_15, f_16, f_17, f_18, f_19, f_20⟩ hq hty) (cwV 0 S.2.2.2.2 (gV tw_1145 tw_1147 sw_42 tw_7 tw_1148) rfl rfl rfl (by decide +kernel) ⟨Nat.le_of_ble_eq_true rfl, Nat.le_of_ble_eq_true rfl⟩) (pre0_V hH hK hX hS hA (hH.recv hK f_6 rfl)) rfl rfl hl.1 rfl (lv_room (Nat.le_of_ble_eq_true rfl)) dX9_rows_26 ⟨Nat.le_of_ble_eq_true rfl, Nat.le_of_ble_eq_true rfl⟩) hS (af_le hH hS hA) (fun v_22 φ_23 H locs hw_v_22 hH hS => ?_)
        obtain ⟨rfl, hqv_22⟩ := hw_v_22
        rw [hqv_22] at hH
        refine hv_ti (y := wkI (wkO 7 (sc 1) 4 0)) (rfl) ?_
        have hwl := wkO_lt 7 (sc 1) 4 0
        rcases hf : wkO 7 (sc 1) 4 0 with _ | fu
        · skip
          refine hv_ti (y := (-1 : Int32)) (rfl) ?_
          refine lv_istore_n (pc := 29) (lv' := [(2, .int ((-1 : Int32))), (0, .ref (q 0)), (1, .int (nI x1))]) S.1 S.2.1 dX9_rows_29 rfl hl (by decide) rfl (fun ls hl => ?_)
          refine lv_aload_n (pc := 30) S.1 S.2.1 dX9_rows_30 rfl (lv_at hl 1 rfl) ?_
          refine hv_call (pc := 31) (va_runV (As := []) (rest := []) S (c_m_empties l D cA ga φ_5 H.size q (va_up sc 7 (0)) ar ⟨f_6, f_7, f_8, f_9, f_10, f_11, f_12, f_13, f_14, f_15, f_16, f_17, f_18, f_19, f_20⟩ hq) (cwV 0 S.2.2.2.2 (gV tw_1041 tw_1043 sw_34 tw_7 tw_1044) rfl rfl rfl (by decide +kernel) ⟨Nat.le_of_ble_eq_true rfl, Nat.le_of_ble_eq_true rfl⟩) (pre0_V hH hK hX hS hA (hH.recv hK f_6 rfl)) rfl rfl hl.1 rfl (lv_room (Nat.le_of_ble_eq_true rfl)) dX9_rows_31 ⟨Nat.le_of_ble_eq_true rfl, Nat.le_of_ble_eq_true rfl⟩) hS (af_le hH hS hA) (fun v_24 φ_25 H locs hw_v_24 hH hS => ?_)
          obtain ⟨rfl, hm8⟩ := hw_v_24
          obtain ⟨f_26, f_27, f_28, f_29, f_30, f_31, f_32, f_33, f_34, f_35, f_36, f_37, f_38, f_39, f_40⟩ := hm8
          change φ_25 (q 0) = some (.inr (13, [.int (nI 0), .long (Int64.ofNat (0)), .int (nI (sc 2)), .ref (q 1), .ref (q 2), .int (nI (sc 3)), .ref (q 3), .ref (q 4), .ref (q 5), .ref (q 6), .ref (q 7), .ref (q 8), .ref (q 9), .int (nI (sc 4)), .ref (q 10), .ref (q 11), .int (nI (sc 5)), .ref (q 12), .ref (q 13), .ref (q 14), .int (nI (sc 6)), .int (nI 0)])) at f_26
          refine lv_iconst (pc := 34) (v := nI 1) S.1 S.2.1 dX9_rows_34 (by decide) ?_
          refine lv_istore_n (pc := 35) (lv' := [(3, .int (nI 1)), (2, .int ((-1 : Int32))), (0, .ref (q 0)), (1, .int (nI x1))]) S.1 S.2.1 dX9_rows_35 rfl hl (by decide) rfl (fun ls hl => ?_)
          refine lv_bipush (pc := 36) (v := nI 6) S.1 S.2.1 dX9_rows_36 (by decide) ?_
          refine lv_istore (pc := 38) (lv' := [(4, .int (nI 6)), (3, .int (nI 1)), (2, .int ((-1 : Int32))), (0, .ref (q 0)), (1, .int (nI x1))]) S.1 S.2.1 dX9_rows_38 hl (by decide) rfl (fun ls hl => ?_)
          refine lv_iload_n (pc := 40) S.1 S.2.1 dX9_rows_40 rfl (lv_at hl 2 rfl) ?_
          refine lv_iconst (pc := 41) (v := -1) S.1 S.2.1 dX9_rows_41 (by decide) ?_
          refine lv_icmp_eq (pc := 42) (tgt := 74) S.1 S.2.1 dX9_rows_42 (by decide) (fun c_41 => ?_) (fun c_41 => ?_)
          · skip
            refine lv_iload_n (pc := 74) S.1 S.2.1 dX9_rows_74 rfl (lv_at hl 2 rfl) ?_
            refine lv_iconst (pc := 75) (v := -1) S.1 S.2.1 dX9_rows_75 (by decide) ?_
            refine lv_icmp_eq (pc := 76) (tgt := 85) S.1 S.2.1 dX9_rows_76 (by decide) (fun c_42 => ?_) (fun c_42 => ?_)
            · skip
              refine lv_iconst (pc := 85) (v := -1) S.1 S.2.1 dX9_rows_85 (by decide) ?_
              refine lv_goto (pc := 86) (tgt := 90) S.1 S.2.1 dX9_rows_86 (by decide) ?_
              exact hv_ret (pc := 90) (v := (-1 : Int32)) S hr rfl hlocks hH hS (by rw [if_pos eX]; exact ⟨x1, rfl, by omega, rfl, ⟨f_26, f_27, f_28, f_29, f_30, f_31, f_32, f_33, f_34, f_35, f_36, f_37, f_38, f_39, f_40⟩⟩) (Nat.le_of_ble_eq_true rfl) (Nat.le_of_ble_eq_true rfl) dX9_rows_90
            · skip
              exact absurd rfl c_42
          · skip
            exact absurd rfl c_41
        · skip
          have hfu := hwl fu hf
          refine hv_ti (y := nI fu) (rfl) ?_
          refine lv_istore_n (pc := 29) (lv' := [(2, .int (nI fu)), (0, .ref (q 0)), (1, .int (nI x1))]) S.1 S.2.1 dX9_rows_29 rfl hl (by decide) rfl (fun ls hl => ?_)
          refine lv_aload_n (pc := 30) S.1 S.2.1 dX9_rows_30 rfl (lv_at hl 1 rfl) ?_
          refine hv_call (pc := 31) (va_runV (As := []) (rest := []) S (c_m_empties l D cA ga φ_5 H.size q (va_up sc 7 (0)) ar ⟨f_6, f_7, f_8, f_9, f_10, f_11, f_12, f_13, f_14, f_15, f_16, f_17, f_18, f_19, f_20⟩ hq) (cwV 0 S.2.2.2.2 (gV tw_1041 tw_1043 sw_34 tw_7 tw_1044) rfl rfl rfl (by decide +kernel) ⟨Nat.le_of_ble_eq_true rfl, Nat.le_of_ble_eq_true rfl⟩) (pre0_V hH hK hX hS hA (hH.recv hK f_6 rfl)) rfl rfl hl.1 rfl (lv_room (Nat.le_of_ble_eq_true rfl)) dX9_rows_31 ⟨Nat.le_of_ble_eq_true rfl, Nat.le_of_ble_eq_true rfl⟩) hS (af_le hH hS hA) (fun v_43 φ_44 H locs hw_v_43 hH hS => ?_)
          obtain ⟨rfl, hm8⟩ := hw_v_43
          obtain ⟨f_45, f_46, f_47, f_48, f_49, f_50, f_51, f_52, f_53, f_54, f_55, f_56, f_57, f_58, f_59⟩ := hm8
          change φ_44 (q 0) = some (.inr (13, [.int (nI 0), .long (Int64.ofNat (0)), .int (nI (sc 2)), .ref (q 1), .ref (q 2), .int (nI (sc 3)), .ref (q 3), .ref (q 4), .ref (q 5), .ref (q 6), .ref (q 7), .ref (q 8), .ref (q 9), .int (nI (sc 4)), .ref (q 10), .ref (q 11), .int (nI (sc 5)), .ref (q 12), .ref (q 13), .ref (q 14), .int (nI (sc 6)), .int (nI 0)])) at f_45
          refine lv_iconst (pc := 34) (v := nI 1) S.1 S.2.1 dX9_rows_34 (by decide) ?_
          refine lv_istore_n (pc := 35) (lv' := [(3, .int (nI 1)), (2, .int (nI fu)), (0, .ref (q 0)), (1, .int (nI x1))]) S.1 S.2.1 dX9_rows_35 rfl hl (by decide) rfl (fun ls hl => ?_)
          refine lv_bipush (pc := 36) (v := nI 6) S.1 S.2.1 dX9_rows_36 (by decide) ?_
          refine lv_istore (pc := 38) (lv' := [(4, .int (nI 6)), (3, .int (nI 1)), (2, .int (nI fu)), (0, .ref (q 0)), (1, .int (nI x1))]) S.1 S.2.1 dX9_rows_38 hl (by decide) rfl (fun ls hl => ?_)
          have hg : ∃ (n j : Nat), (j + n = 999 ∧ rcF fu x1 1000 0 = rcF fu x1 (n + 1) j) ∧ lv_has ls 5 [(0, .ref (q 0)), (1, .int (nI x1)), (2, .int (nI fu)), (3, .int (nI (j + 1))), (4, .int (nI (sN fu j)))] := ⟨999, 0, ⟨rfl, rfl⟩, lv_sub hl [3, 4, 2, 1, 0] rfl⟩
          clear hl
          try clear hHz
          obtain ⟨n, j, hi, hl⟩ := hg
          induction n generalizing ls H locs j with
          | zero =>
            obtain ⟨hj9, hrc⟩ := hi
            have hsn := sN_le fu j
            refine lv_iload_n (pc := 40) S.1 S.2.1 dX9_rows_40 rfl (lv_at hl 2 rfl) ?_
            refine lv_iconst (pc := 41) (v := -1) S.1 S.2.1 dX9_rows_41 (by decide) ?_
            refine lv_icmp_eq (pc := 42) (tgt := 74) S.1 S.2.1 dX9_rows_42 (by decide) (fun c_60 => ?_) (fun c_60 => ?_)
            · skip
              exact absurd c_60 (nI_nm1 (by omega))
            · skip
              refine lv_iload (pc := 45) S.1 S.2.1 dX9_rows_45 (lv_at hl 4 rfl) ?_
              refine lv_iload_n (pc := 47) S.1 S.2.1 dX9_rows_47 rfl (lv_at hl 1 rfl) ?_
              refine hv_icmp_ge (pc := 48) (tgt := 74) (a := sN fu j) (b := x1) S.1 S.2.1 (by omega) (by omega) dX9_rows_48 (by decide) (fun c_61 => ?_) (fun c_61 => ?_)
              · skip
                refine lv_iload_n (pc := 74) S.1 S.2.1 dX9_rows_74 rfl (lv_at hl 2 rfl) ?_
                refine lv_iconst (pc := 75) (v := -1) S.1 S.2.1 dX9_rows_75 (by decide) ?_
                refine lv_icmp_eq (pc := 76) (tgt := 85) S.1 S.2.1 dX9_rows_76 (by decide) (fun c_62 => ?_) (fun c_62 => ?_)
                · skip
                  exact absurd c_62 (nI_nm1 (by omega))
                · skip
                  refine lv_iload (pc := 79) S.1 S.2.1 dX9_rows_79 (lv_at hl 4 rfl) ?_
                  refine lv_iload_n (pc := 81) S.1 S.2.1 dX9_rows_81 rfl (lv_at hl 1 rfl) ?_
                  refine hv_icmp_ge (pc := 82) (tgt := 89) (a := sN fu j) (b := x1) S.1 S.2.1 (by omega) (by omega) dX9_rows_82 (by decide) (fun c_63 => ?_) (fun c_63 => ?_)
                  · skip
                    refine lv_iload_n (pc := 89) S.1 S.2.1 dX9_rows_89 rfl (lv_at hl 3 rfl) ?_
                    exact hv_ret (pc := 90) (v := nI (j + 1)) S hr rfl hlocks hH hS (by rw [if_pos eX]; exact ⟨x1, rfl, by omega, by rw [show rwR (some fu) x1 = rcI (rcF fu x1 1000 0) from rfl, hrc, rcF, if_pos (by omega)]; rfl, ⟨f_45, f_46, f_47, f_48, f_49, f_50, f_51, f_52, f_53, f_54, f_55, f_56, f_57, f_58, f_59⟩⟩) (Nat.le_of_ble_eq_true rfl) (Nat.le_of_ble_eq_true rfl) dX9_rows_90
                  · skip
                    exact absurd c_63 (by omega)
              · skip
                refine lv_iload_n (pc := 51) S.1 S.2.1 dX9_rows_51 rfl (lv_at hl 3 rfl) ?_
                refine lv_sipush (pc := 52) (v := nI 1000) S.1 S.2.1 dX9_rows_52 (by decide) ?_
                refine hv_icmp_ge (pc := 55) (tgt := 74) (a := j + 1) (b := 1000) S.1 S.2.1 (by omega) (by omega) dX9_rows_55 (by decide) (fun c_64 => ?_) (fun c_64 => ?_)
                · skip
                  refine lv_iload_n (pc := 74) S.1 S.2.1 dX9_rows_74 rfl (lv_at hl 2 rfl) ?_
                  refine lv_iconst (pc := 75) (v := -1) S.1 S.2.1 dX9_rows_75 (by decide) ?_
                  refine lv_icmp_eq (pc := 76) (tgt := 85) S.1 S.2.1 dX9_rows_76 (by decide) (fun c_65 => ?_) (fun c_65 => ?_)
                  · skip
                    exact absurd c_65 (nI_nm1 (by omega))
                  · skip
                    refine lv_iload (pc := 79) S.1 S.2.1 dX9_rows_79 (lv_at hl 4 rfl) ?_
                    refine lv_iload_n (pc := 81) S.1 S.2.1 dX9_rows_81 rfl (lv_at hl 1 rfl) ?_
                    refine hv_icmp_ge (pc := 82) (tgt := 89) (a := sN fu j) (b := x1) S.1 S.2.1 (by omega) (by omega) dX9_rows_82 (by decide) (fun c_66 => ?_) (fun c_66 => ?_)
                    · skip
                      exact absurd c_66 (by omega)
                    · skip
                      refine lv_iconst (pc := 85) (v := -1) S.1 S.2.1 dX9_rows_85 (by decide) ?_
                      refine lv_goto (pc := 86) (tgt := 90) S.1 S.2.1 dX9_rows_86 (by decide) ?_
                      exact hv_ret (pc := 90) (v := (-1 : Int32)) S hr rfl hlocks hH hS (by rw [if_pos eX]; exact ⟨x1, rfl, by omega, by rw [show rwR (some fu) x1 = rcI (rcF fu x1 1000 0) from rfl, hrc, rcF, if_neg (by omega)]; rfl, ⟨f_45, f_46, f_47, f_48, f_49, f_50, f_51, f_52, f_53, f_54, f_55, f_56, f_57, f_58, f_59⟩⟩) (Nat.le_of_ble_eq_true rfl) (Nat.le_of_ble_eq_true rfl) dX9_rows_90
                · skip
                  exact absurd c_64 (by omega)
          | succ n ih =>
            obtain ⟨hj9, hrc⟩ := hi
            have hsn := sN_le fu j
            refine lv_iload_n (pc := 40) S.1 S.2.1 dX9_rows_40 rfl (lv_at hl 2 rfl) ?_
            refine lv_iconst (pc := 41) (v := -1) S.1 S.2.1 dX9_rows_41 (by decide) ?_
            refine lv_icmp_eq (pc := 42) (tgt := 74) S.1 S.2.1 dX9_rows_42 (by decide) (fun c_67 => ?_) (fun c_67 => ?_)
            · skip
              exact absurd c_67 (nI_nm1 (by omega))
            · skip
              refine lv_iload (pc := 45) S.1 S.2.1 dX9_rows_45 (lv_at hl 4 rfl) ?_
              refine lv_iload_n (pc := 47) S.1 S.2.1 dX9_rows_47 rfl (lv_at hl 1 rfl) ?_
              refine hv_icmp_ge (pc := 48) (tgt := 74) (a := sN fu j) (b := x1) S.1 S.2.1 (by omega) (by omega) dX9_rows_48 (by decide) (fun c_68 => ?_) (fun c_68 => ?_)
              · skip
                refine lv_iload_n (pc := 74) S.1 S.2.1 dX9_rows_74 rfl (lv_at hl 2 rfl) ?_
                refine lv_iconst (pc := 75) (v := -1) S.1 S.2.1 dX9_rows_75 (by decide) ?_
                refine lv_icmp_eq (pc := 76) (tgt := 85) S.1 S.2.1 dX9_rows_76 (by decide) (fun c_69 => ?_) (fun c_69 => ?_)
                · skip
                  exact absurd c_69 (nI_nm1 (by omega))
                · skip
                  refine lv_iload (pc := 79) S.1 S.2.1 dX9_rows_79 (lv_at hl 4 rfl) ?_
                  refine lv_iload_n (pc := 81) S.1 S.2.1 dX9_rows_81 rfl (lv_at hl 1 rfl) ?_
                  refine hv_icmp_ge (pc := 82) (tgt := 89) (a := sN fu j) (b := x1) S.1 S.2.1 (by omega) (by omega) dX9_rows_82 (by decide) (fun c_70 => ?_) (fun c_70 => ?_)
                  · skip
                    refine lv_iload_n (pc := 89) S.1 S.2.1 dX9_rows_89 rfl (lv_at hl 3 rfl) ?_
                    exact hv_ret (pc := 90) (v := nI (j + 1)) S hr rfl hlocks hH hS (by rw [if_pos eX]; exact ⟨x1, rfl, by omega, by rw [show rwR (some fu) x1 = rcI (rcF fu x1 1000 0) from rfl, hrc, rcF, if_pos (by omega)]; rfl, ⟨f_45, f_46, f_47, f_48, f_49, f_50, f_51, f_52, f_53, f_54, f_55, f_56, f_57, f_58, f_59⟩⟩) (Nat.le_of_ble_eq_true rfl) (Nat.le_of_ble_eq_true rfl) dX9_rows_90
                  · skip
                    exact absurd c_70 (by omega)
              · skip
                refine lv_iload_n (pc := 51) S.1 S.2.1 dX9_rows_51 rfl (lv_at hl 3 rfl) ?_
                refine lv_sipush (pc := 52) (v := nI 1000) S.1 S.2.1 dX9_rows_52 (by decide) ?_
                refine hv_icmp_ge (pc := 55) (tgt := 74) (a := j + 1) (b := 1000) S.1 S.2.1 (by omega) (by omega) dX9_rows_55 (by decide) (fun c_71 => ?_) (fun c_71 => ?_)
                · skip
                  exact absurd c_71 (by omega)
                · skip
                  refine lv_iinc (pc := 58) (v := nI (j + 1 + 1)) (lv' := [(3, .int (nI (j + 1 + 1))), (0, .ref (q 0)), (1, .int (nI x1)), (2, .int (nI fu)), (4, .int (nI (sN fu j)))]) S.1 S.2.1 dX9_rows_58 hl (k := 3) rfl (by first | rfl | exact nI_add _ _) (by decide) rfl (fun ls hl => ?_)
                  refine lv_iload (pc := 61) S.1 S.2.1 dX9_rows_61 (lv_at hl 4 rfl) ?_
                  refine lv_iload_n (pc := 63) S.1 S.2.1 dX9_rows_63 rfl (lv_at hl 3 rfl) ?_
                  refine lv_iload_n (pc := 64) S.1 S.2.1 dX9_rows_64 rfl (lv_at hl 0 rfl) ?_
                  refine hv_call (pc := 65) (va_runS (As := [.int (nI fu), .int (nI (j + 1 + 1))]) (rest := [.int (nI (sN fu j))]) S (c_m_gain l D cA ga φ_44 H.size fu (j + 1 + 1) hfu (by omega)) (va_cwS 2 S.2.2.2.2 (gS tw_1149 tw_1150 tw_7 tw_1151) rfl rfl rfl (by decide +kernel) ⟨Nat.le_of_ble_eq_true rfl, Nat.le_of_ble_eq_true rfl⟩) (pre0_S hH hK hX hS hA) rfl rfl hl.1 rfl (lv_room (Nat.le_of_ble_eq_true rfl)) dX9_rows_65 ⟨Nat.le_of_ble_eq_true rfl, Nat.le_of_ble_eq_true rfl⟩) hS (af_le hH hS hA) (fun v_72 φ_73 H locs hw_v_72 hH hS => ?_)
                  obtain ⟨rfl, hqv_72⟩ := hw_v_72
                  rw [hqv_72] at hH
                  refine lv_iadd (pc := 68) S.1 S.2.1 dX9_rows_68 ?_
                  refine hv_ti (y := nI ((sN fu j) + (gN fu (j + 1 + 1)))) (nI_add _ _) ?_
                  refine lv_istore (pc := 69) (lv' := [(4, .int (nI ((sN fu j) + (gN fu (j + 1 + 1))))), (3, .int (nI (j + 1 + 1))), (0, .ref (q 0)), (1, .int (nI x1)), (2, .int (nI fu))]) S.1 S.2.1 dX9_rows_69 hl (by decide) rfl (fun ls hl => ?_)
                  refine lv_goto (pc := 71) (tgt := 40) S.1 S.2.1 dX9_rows_71 (by decide) ?_
                  have hi2 : (j + 1) + n = 999 ∧ rcF fu x1 1000 0 = rcF fu x1 (n + 1) (j + 1) := ⟨by omega, by rw [hrc, rcF, if_neg (by omega)]⟩
                  have hl2 : lv_has ls 5 [(0, .ref (q 0)), (1, .int (nI x1)), (2, .int (nI fu)), (3, .int (nI ((j + 1) + 1))), (4, .int (nI (sN fu (j + 1))))] := lv_sub hl [2, 3, 4, 1, 0] rfl
                  apply ih (j := j + 1) <;> assumption
      · skip
        exact absurd c_21 (by omega)
  · skip
    refine hv_call (pc := 6) (va_runS (As := [.int (x), .int (nI 1), .int (nI 2000)]) (rest := [.ref (q 0)]) S (c_isIn l D cA ga φ H.size x (nI 1) (nI 2000)) (va_cwS 3 S.2.2.2.2 (gS tw_1031 tw_1032 tw_7 tw_1033) rfl rfl rfl (by decide +kernel) ⟨Nat.le_of_ble_eq_true rfl, Nat.le_of_ble_eq_true rfl⟩) (pre0_S hH hK hX hS hA) rfl rfl hl.1 rfl (lv_room (Nat.le_of_ble_eq_true rfl)) dX9_rows_6 ⟨Nat.le_of_ble_eq_true rfl, Nat.le_of_ble_eq_true rfl⟩) hS (af_le hH hS hA) (fun v_74 φ_75 H locs hw_v_74 hH hS => ?_)
    obtain ⟨rfl, hqv_74⟩ := hw_v_74
    rw [hqv_74] at hH
    refine hv_ti (y := nI 0) (by rw [inB_R, if_neg hx]) ?_
    refine hv_if_eq (pc := 9) (tgt := 16) (a := 0) S.1 S.2.1 (by omega) dX9_rows_9 (by decide) (fun c_76 => ?_) (fun c_76 => ?_)
    · skip
      refine lv_iconst (pc := 16) (v := nI 1) S.1 S.2.1 dX9_rows_16 (by decide) ?_
      have eX : rowsX x = 1 := by rw [rowsX, if_neg hx]
      refine hv_call (pc := 17) (va_runV (As := [.int (nI 1)]) (rest := []) S (c_m_goes l D cA ga φ H.size q sc ar (1) ⟨f0, f1, f2, f3, f4, f5, f6, f7, f8, f9, f10, f11, f12, f13, f14⟩ hq (by omega)) (cwV 1 S.2.2.2.2 (gV tw_1021 tw_1023 sw_32 tw_7 tw_1024) rfl rfl rfl (by decide +kernel) ⟨Nat.le_of_ble_eq_true rfl, Nat.le_of_ble_eq_true rfl⟩) (pre0_V hH hK hX hS hA (hH.recv hK f0 rfl)) rfl rfl hl.1 rfl (lv_room (Nat.le_of_ble_eq_true rfl)) dX9_rows_17 ⟨Nat.le_of_ble_eq_true rfl, Nat.le_of_ble_eq_true rfl⟩) hS (af_le hH hS hA) (fun v_77 φ_78 H locs hw_v_77 hH hS => ?_)
      obtain ⟨rfl, hm9⟩ := hw_v_77
      obtain ⟨f_79, f_80, f_81, f_82, f_83, f_84, f_85, f_86, f_87, f_88, f_89, f_90, f_91, f_92, f_93⟩ := hm9
      change φ_78 (q 0) = some (.inr (13, [.int (nI (sc 0)), .long (Int64.ofNat (sc 1)), .int (nI (sc 2)), .ref (q 1), .ref (q 2), .int (nI (sc 3)), .ref (q 3), .ref (q 4), .ref (q 5), .ref (q 6), .ref (q 7), .ref (q 8), .ref (q 9), .int (nI (sc 4)), .ref (q 10), .ref (q 11), .int (nI (sc 5)), .ref (q 12), .ref (q 13), .ref (q 14), .int (nI (sc 6)), .int (nI 1)])) at f_79
      refine hv_ti (y := nI 0) (rfl) ?_
      refine hv_if_ne (pc := 20) (tgt := 25) (a := 0) S.1 S.2.1 (by omega) dX9_rows_20 (by decide) (fun c_94 => ?_) (fun c_94 => ?_)
      · skip
        exact absurd c_94 (by omega)
      · skip
        refine lv_iconst (pc := 23) (v := nI 0) S.1 S.2.1 dX9_rows_23 (by decide) ?_
        exact hv_ret (pc := 24) (v := nI 0) S hr rfl hlocks hH hS (by rw [if_neg (by rw [eX]; decide), eX]; exact ⟨rfl, ⟨f_79, f_80, f_81, f_82, f_83, f_84, f_85, f_86, f_87, f_88, f_89, f_90, f_91, f_92, f_93⟩⟩) (Nat.le_of_ble_eq_true rfl) (Nat.le_of_ble_eq_true rfl) dX9_rows_24
    · skip
      exact absurd c_76 (by omega)

def trM (o : Option Nat) (d : Nat) : Nat := if d / 10 < wkP o then 1 else 0
theorem wkP_le (o : Option Nat) : wkP o ≤ 1000000000 := by unfold wkP; split <;> omega
set_option maxHeartbeats 4000000 in
set_option maxRecDepth 100000 in
/-- trim -/
theorem c_m_trim (l : Launch) (D : va_G) (cA : Nat → ClassId) (ga : Nat → Nat → Nat) (φ : hpM) (sz : Nat) (q : Nat → Nat) (sc : Nat → Nat) (ar : Nat → Nat → Nat) (x : Int32) (hm : MP cA q sc ar φ) (hq : ∀ i j, i < 15 → j < 15 → q i = q j → i = j) (hnc : sc 3 ≤ 12) (hty : sc 1 < 2 ^ 62) (hd : sc 6 < 2 ^ 30) (h9 : ∀ i, ar 9 i ≤ 1) : hM l yX9_trim cX9_trim 3 (some .boolean) { frames := 10, cells := 0, slots := 0, locals := 320 } [.ref (q 0), .int (x)] D cA ga φ sz (fun v φ' => if trimX (sc 3) (ar 9) x = 0 then (∃ x1 : Nat, x = nI x1 ∧ x1 < 2 ^ 31 ∧ v = some (.int (nI (trM (wkO 4 (sc 1) 3 0) (sc 6)))) ∧ MP cA q (va_up (va_up (va_up sc 0 (0)) 1 (0)) 7 (0)) (va_up ar 9 (va_up (ar 9) x1 (trM (wkO 4 (sc 1) 3 0) (sc 6)))) φ') else (v = some (.int (nI 0)) ∧ MP cA q (va_up sc 7 (mcd 9 2 1 (trimX (sc 3) (ar 9) x))) ar φ')) 0 0 := by
  refine hM.of (by decide) (Nat.le_of_ble_eq_true rfl) rfl ?_
  intro p e s m args below meth c ls H locs S hr hlocks hnm hsz hHz hH hK hX hS hA hl
  obtain ⟨f0, f1, f2, f3, f4, f5, f6, f7, f8, f9, f10, f11, f12, f13, f14⟩ := hm
  refine lv_aload_n (pc := 0) S.1 S.2.1 dX9_trim_0 rfl (lv_at hl 0 rfl) ?_
  refine lv_iload_n (pc := 1) S.1 S.2.1 dX9_trim_1 rfl (lv_at hl 1 rfl) ?_
  by_cases hx : inN x (sc 3)
  · skip
    obtain ⟨x1, rfl, hxn⟩ := hx.nat (by omega)
    have hx31 : x1 < 2 ^ 31 := by omega
    have h91 := h9 x1
    refine hv_call (pc := 2) (va_runV (As := [.int (nI x1)]) (rest := []) S (c_m_isCone l D cA ga φ H.size q sc ar (nI x1) ⟨f0, f1, f2, f3, f4, f5, f6, f7, f8, f9, f10, f11, f12, f13, f14⟩ hq hnc) (cwV 1 S.2.2.2.2 (gV tw_1057 tw_1059 sw_35 tw_7 tw_1060) rfl rfl rfl (by decide +kernel) ⟨Nat.le_of_ble_eq_true rfl, Nat.le_of_ble_eq_true rfl⟩) (pre0_V hH hK hX hS hA (hH.recv hK f0 rfl)) rfl rfl hl.1 rfl (lv_room (Nat.le_of_ble_eq_true rfl)) dX9_trim_2 ⟨Nat.le_of_ble_eq_true rfl, Nat.le_of_ble_eq_true rfl⟩) hS (af_le hH hS hA) (fun v_1 φ_2 H locs hw_v_1 hH hS => ?_)
    obtain ⟨rfl, hqv_1⟩ := hw_v_1
    rw [hqv_1] at hH
    refine hv_ti (y := nI 1) (by rw [if_pos hx]) ?_
    refine lv_istore_n (pc := 5) (lv' := [(2, .int (nI 1)), (0, .ref (q 0)), (1, .int (nI x1))]) S.1 S.2.1 dX9_trim_5 rfl hl (by decide) rfl (fun ls hl => ?_)
    refine lv_aload_n (pc := 6) S.1 S.2.1 dX9_trim_6 rfl (lv_at hl 1 rfl) ?_
    refine lv_iload_n (pc := 7) S.1 S.2.1 dX9_trim_7 rfl (lv_at hl 0 rfl) ?_
    refine hv_if_ne (pc := 8) (tgt := 15) (a := 1) S.1 S.2.1 (by omega) dX9_trim_8 (by decide) (fun c_3 => ?_) (fun c_3 => ?_)
    · skip
      refine lv_aload_n (pc := 15) S.1 S.2.1 dX9_trim_15 rfl (lv_at hl 1 rfl) ?_
      refine hv_get (pc := 16) (C := RX9) (T := TX9) (N := 22) (ref := RX9) S uwX9 hK hH f0 rfl 12 (by decide) tw_957 (fun _ h9 => h9) rfl dX9_trim_16 ?_
      refine lv_iload_n (pc := 19) S.1 S.2.1 dX9_trim_19 rfl (lv_at hl 2 rfl) ?_
      refine hv_zald (pc := 20) S hK hH 2 f9 rfl (vp_in_nI (by omega) (by omega)) dX9_trim_20 ?_
      refine hv_ti (y := nI ((ar 9) x1)) (hv_ld (by omega)) ?_
      by_cases ht : ar 9 x1 = 0
      · skip
        refine hv_if_eq (pc := 21) (tgt := 28) (a := (ar 9) x1) S.1 S.2.1 (by omega) dX9_trim_21 (by decide) (fun c_4 => ?_) (fun c_4 => ?_)
        · skip
          refine lv_iconst (pc := 28) (v := nI 0) S.1 S.2.1 dX9_trim_28 (by decide) ?_
          have eX : trimX (sc 3) (ar 9) (nI x1) = 0 := by rw [trimX, if_pos hx, nx_nI hx31, if_pos ht]
          refine hv_call (pc := 29) (va_runV (As := [.int (nI 0)]) (rest := []) S (c_m_goes l D cA ga φ H.size q sc ar (0) ⟨f0, f1, f2, f3, f4, f5, f6, f7, f8, f9, f10, f11, f12, f13, f14⟩ hq (by omega)) (cwV 1 S.2.2.2.2 (gV tw_1021 tw_1023 sw_32 tw_7 tw_1024) rfl rfl rfl (by decide +kernel) ⟨Nat.le_of_ble_eq_true rfl, Nat.le_of_ble_eq_true rfl⟩) (pre0_V hH hK hX hS hA (hH.recv hK f0 rfl)) rfl rfl hl.1 rfl (lv_room (Nat.le_of_ble_eq_true rfl)) dX9_trim_29 ⟨Nat.le_of_ble_eq_true rfl, Nat.le_of_ble_eq_true rfl⟩) hS (af_le hH hS hA) (fun v_5 φ_6 H locs hw_v_5 hH hS => ?_)
          obtain ⟨rfl, hm9⟩ := hw_v_5
          obtain ⟨f_7, f_8, f_9, f_10, f_11, f_12, f_13, f_14, f_15, f_16, f_17, f_18, f_19, f_20, f_21⟩ := hm9
          change φ_6 (q 0) = some (.inr (13, [.int (nI (sc 0)), .long (Int64.ofNat (sc 1)), .int (nI (sc 2)), .ref (q 1), .ref (q 2), .int (nI (sc 3)), .ref (q 3), .ref (q 4), .ref (q 5), .ref (q 6), .ref (q 7), .ref (q 8), .ref (q 9), .int (nI (sc 4)), .ref (q 10), .ref (q 11), .int (nI (sc 5)), .ref (q 12), .ref (q 13), .ref (q 14), .int (nI (sc 6)), .int (nI 0)])) at f_7
          refine hv_ti (y := nI 1) (rfl) ?_
          refine hv_if_ne (pc := 32) (tgt := 37) (a := 1) S.1 S.2.1 (by omega) dX9_trim_32 (by decide) (fun c_22 => ?_) (fun c_22 => ?_)
          · skip
            refine lv_aload_n (pc := 37) S.1 S.2.1 dX9_trim_37 rfl (lv_at hl 1 rfl) ?_
            refine hv_get (pc := 38) (C := RX9) (T := TX9) (N := 22) (ref := RX9) S uwX9 hK hH f_7 rfl 12 (by decide) tw_957 (fun _ h9 => h9) rfl dX9_trim_38 ?_
            refine lv_iload_n (pc := 41) S.1 S.2.1 dX9_trim_41 rfl (lv_at hl 2 rfl) ?_
            refine lv_aload_n (pc := 42) S.1 S.2.1 dX9_trim_42 rfl (lv_at hl 1 rfl) ?_
            refine hv_get (pc := 43) (C := RX9) (T := TX9) (N := 22) (ref := RX9) S uwX9 hK hH f_7 rfl 20 (by decide) tw_965 (fun _ h9 => h9) rfl dX9_trim_43 ?_
            refine lv_bipush (pc := 46) (v := nI 10) S.1 S.2.1 dX9_trim_46 (by decide) ?_
            refine lv_idiv (pc := 48) S.1 S.2.1 dX9_trim_48 (by decide) ?_
            refine hv_ti (y := nI ((sc 6) / 10)) (pk_div (by omega) (by omega) (by omega)) ?_
            refine lv_aload_n (pc := 49) S.1 S.2.1 dX9_trim_49 rfl (lv_at hl 1 rfl) ?_
            refine hv_call (pc := 50) (va_runV (As := []) (rest := [.int (nI ((sc 6) / 10)), .int (nI x1), .ref (q 9)]) S (c_m_feather l D cA ga φ_6 H.size q (va_up sc 7 (0)) ar  ⟨f_7, f_8, f_9, f_10, f_11, f_12, f_13, f_14, f_15, f_16, f_17, f_18, f_19, f_20, f_21⟩ hq hty) (cwV 0 S.2.2.2.2 (gV tw_1101 tw_1103 sw_39 tw_7 tw_1104) rfl rfl rfl (by decide +kernel) ⟨Nat.le_of_ble_eq_true rfl, Nat.le_of_ble_eq_true rfl⟩) (pre0_V hH hK hX hS hA (hH.recv hK f_7 rfl)) rfl rfl hl.1 rfl (lv_room (Nat.le_of_ble_eq_true rfl)) dX9_trim_50 ⟨Nat.le_of_ble_eq_true rfl, Nat.le_of_ble_eq_true rfl⟩) hS (af_le hH hS hA) (fun v_23 φ_24 H locs hw_v_23 hH hS => ?_)
            obtain ⟨rfl, hqv_23⟩ := hw_v_23
            rw [hqv_23] at hH
            refine hv_ti (y := nI (wkP (wkO 4 (sc 1) 3 0))) (rfl) ?_
            have hwp := wkP_le (wkO 4 (sc 1) 3 0)
            by_cases hlt : sc 6 / 10 < wkP (wkO 4 (sc 1) 3 0)
            · skip
              have et : trM (wkO 4 (sc 1) 3 0) (sc 6) = 1 := by rw [trM, if_pos hlt]
              refine hv_icmp_ge (pc := 53) (tgt := 60) (a := (sc 6) / 10) (b := wkP (wkO 4 (sc 1) 3 0)) S.1 S.2.1 (by omega) (by omega) dX9_trim_53 (by decide) (fun c_25 => ?_) (fun c_25 => ?_)
              · skip
                exact absurd c_25 (by omega)
              · skip
                refine lv_iconst (pc := 56) (v := nI 1) S.1 S.2.1 dX9_trim_56 (by decide) ?_
                refine lv_goto (pc := 57) (tgt := 61) S.1 S.2.1 dX9_trim_57 (by decide) ?_
                refine hv_zast (pc := 61) S hK hH hS 2 f_16 rfl (vp_in_nI (by omega) (by omega)) dX9_trim_61 (fun H locs hH hS => ?_)
                rw [jb_narZ2 _ (by omega), hv_upd (by omega)] at hH
                replace hH := nup (e := .inl (cA 2, 12, .inl (fun j => nI ((va_up (ar 9) x1 1) j)))) hH
                obtain ⟨φ_26, hφ_26, fa_φ_26, fr_φ_26, hH⟩ := hH
                have f_27 := fr_φ_26 _ _ (fun h => absurd (hq 0 9 (by omega) (by omega) h) (by omega)) f_7
                have f_28 := fr_φ_26 _ _ (fun h => absurd (hq 1 9 (by omega) (by omega) h) (by omega)) f_8
                have f_29 := fr_φ_26 _ _ (fun h => absurd (hq 2 9 (by omega) (by omega) h) (by omega)) f_9
                have f_30 := fr_φ_26 _ _ (fun h => absurd (hq 3 9 (by omega) (by omega) h) (by omega)) f_10
                have f_31 := fr_φ_26 _ _ (fun h => absurd (hq 4 9 (by omega) (by omega) h) (by omega)) f_11
                have f_32 := fr_φ_26 _ _ (fun h => absurd (hq 5 9 (by omega) (by omega) h) (by omega)) f_12
                have f_33 := fr_φ_26 _ _ (fun h => absurd (hq 6 9 (by omega) (by omega) h) (by omega)) f_13
                have f_34 := fr_φ_26 _ _ (fun h => absurd (hq 7 9 (by omega) (by omega) h) (by omega)) f_14
                have f_35 := fr_φ_26 _ _ (fun h => absurd (hq 8 9 (by omega) (by omega) h) (by omega)) f_15
                have f_36 := fr_φ_26 _ _ (fun h => absurd (hq 10 9 (by omega) (by omega) h) (by omega)) f_17
                have f_37 := fr_φ_26 _ _ (fun h => absurd (hq 11 9 (by omega) (by omega) h) (by omega)) f_18
                have f_38 := fr_φ_26 _ _ (fun h => absurd (hq 12 9 (by omega) (by omega) h) (by omega)) f_19
                have f_39 := fr_φ_26 _ _ (fun h => absurd (hq 13 9 (by omega) (by omega) h) (by omega)) f_20
                have f_40 := fr_φ_26 _ _ (fun h => absurd (hq 14 9 (by omega) (by omega) h) (by omega)) f_21
                refine lv_aload_n (pc := 62) S.1 S.2.1 dX9_trim_62 rfl (lv_at hl 1 rfl) ?_
                refine hv_call (pc := 63) (va_runV (As := []) (rest := []) S (c_m_empties l D cA ga φ_26 H.size q (va_up sc 7 (0)) (va_up ar 9 (va_up (ar 9) x1 1)) ⟨f_27, f_28, f_29, f_30, f_31, f_32, f_33, f_34, f_35, fa_φ_26, f_36, f_37, f_38, f_39, f_40⟩ hq) (cwV 0 S.2.2.2.2 (gV tw_1041 tw_1043 sw_34 tw_7 tw_1044) rfl rfl rfl (by decide +kernel) ⟨Nat.le_of_ble_eq_true rfl, Nat.le_of_ble_eq_true rfl⟩) (pre0_V hH hK hX hS hA (hH.recv hK f_27 rfl)) rfl rfl hl.1 rfl (lv_room (Nat.le_of_ble_eq_true rfl)) dX9_trim_63 ⟨Nat.le_of_ble_eq_true rfl, Nat.le_of_ble_eq_true rfl⟩) hS (af_le hH hS hA) (fun v_41 φ_42 H locs hw_v_41 hH hS => ?_)
                obtain ⟨rfl, hm8⟩ := hw_v_41
                obtain ⟨f_43, f_44, f_45, f_46, f_47, f_48, f_49, f_50, f_51, f_52, f_53, f_54, f_55, f_56, f_57⟩ := hm8
                change φ_42 (q 0) = some (.inr (13, [.int (nI 0), .long (Int64.ofNat (0)), .int (nI (sc 2)), .ref (q 1), .ref (q 2), .int (nI (sc 3)), .ref (q 3), .ref (q 4), .ref (q 5), .ref (q 6), .ref (q 7), .ref (q 8), .ref (q 9), .int (nI (sc 4)), .ref (q 10), .ref (q 11), .int (nI (sc 5)), .ref (q 12), .ref (q 13), .ref (q 14), .int (nI (sc 6)), .int (nI 0)])) at f_43
                refine lv_aload_n (pc := 66) S.1 S.2.1 dX9_trim_66 rfl (lv_at hl 1 rfl) ?_
                refine hv_get (pc := 67) (C := RX9) (T := TX9) (N := 22) (ref := RX9) S uwX9 hK hH f_43 rfl 12 (by decide) tw_957 (fun _ h9 => h9) rfl dX9_trim_67 ?_
                refine lv_iload_n (pc := 70) S.1 S.2.1 dX9_trim_70 rfl (lv_at hl 2 rfl) ?_
                refine hv_zald (pc := 71) S hK hH 2 f_52 rfl (vp_in_nI (by omega) (by omega)) dX9_trim_71 ?_
                refine hv_ti (y := nI ((va_up (ar 9) x1 1) x1)) (hv_ld (by omega)) ?_
                refine hv_ti (y := nI 1) (by simp [va_up]) ?_
                exact hv_ret (pc := 72) (v := nI 1) S hr rfl hlocks hH hS (by rw [if_pos eX]; exact ⟨x1, rfl, by omega, by rw [et], by rw [et]; exact ⟨f_43, f_44, f_45, f_46, f_47, f_48, f_49, f_50, f_51, f_52, f_53, f_54, f_55, f_56, f_57⟩⟩) (Nat.le_of_ble_eq_true rfl) (Nat.le_of_ble_eq_true rfl) dX9_trim_72
            · skip
              have et : trM (wkO 4 (sc 1) 3 0) (sc 6) = 0 := by rw [trM, if_neg hlt]
              refine hv_icmp_ge (pc := 53) (tgt := 60) (a := (sc 6) / 10) (b := wkP (wkO 4 (sc 1) 3 0)) S.1 S.2.1 (by omega) (by omega) dX9_trim_53 (by decide) (fun c_58 => ?_) (fun c_58 => ?_)
              · skip
                refine lv_iconst (pc := 60) (v := nI 0) S.1 S.2.1 dX9_trim_60 (by decide) ?_
                refine hv_zast (pc := 61) S hK hH hS 2 f_16 rfl (vp_in_nI (by omega) (by omega)) dX9_trim_61 (fun H locs hH hS => ?_)
                rw [jb_narZ2 _ (by omega), hv_upd (by omega)] at hH
                replace hH := nup (e := .inl (cA 2, 12, .inl (fun j => nI ((va_up (ar 9) x1 0) j)))) hH
                obtain ⟨φ_59, hφ_59, fa_φ_59, fr_φ_59, hH⟩ := hH
                have f_60 := fr_φ_59 _ _ (fun h => absurd (hq 0 9 (by omega) (by omega) h) (by omega)) f_7
                have f_61 := fr_φ_59 _ _ (fun h => absurd (hq 1 9 (by omega) (by omega) h) (by omega)) f_8
                have f_62 := fr_φ_59 _ _ (fun h => absurd (hq 2 9 (by omega) (by omega) h) (by omega)) f_9
                have f_63 := fr_φ_59 _ _ (fun h => absurd (hq 3 9 (by omega) (by omega) h) (by omega)) f_10
                have f_64 := fr_φ_59 _ _ (fun h => absurd (hq 4 9 (by omega) (by omega) h) (by omega)) f_11
                have f_65 := fr_φ_59 _ _ (fun h => absurd (hq 5 9 (by omega) (by omega) h) (by omega)) f_12
                have f_66 := fr_φ_59 _ _ (fun h => absurd (hq 6 9 (by omega) (by omega) h) (by omega)) f_13
                have f_67 := fr_φ_59 _ _ (fun h => absurd (hq 7 9 (by omega) (by omega) h) (by omega)) f_14
                have f_68 := fr_φ_59 _ _ (fun h => absurd (hq 8 9 (by omega) (by omega) h) (by omega)) f_15
                have f_69 := fr_φ_59 _ _ (fun h => absurd (hq 10 9 (by omega) (by omega) h) (by omega)) f_17
                have f_70 := fr_φ_59 _ _ (fun h => absurd (hq 11 9 (by omega) (by omega) h) (by omega)) f_18
                have f_71 := fr_φ_59 _ _ (fun h => absurd (hq 12 9 (by omega) (by omega) h) (by omega)) f_19
                have f_72 := fr_φ_59 _ _ (fun h => absurd (hq 13 9 (by omega) (by omega) h) (by omega)) f_20
                have f_73 := fr_φ_59 _ _ (fun h => absurd (hq 14 9 (by omega) (by omega) h) (by omega)) f_21
                refine lv_aload_n (pc := 62) S.1 S.2.1 dX9_trim_62 rfl (lv_at hl 1 rfl) ?_
                refine hv_call (pc := 63) (va_runV (As := []) (rest := []) S (c_m_empties l D cA ga φ_59 H.size q (va_up sc 7 (0)) (va_up ar 9 (va_up (ar 9) x1 0)) ⟨f_60, f_61, f_62, f_63, f_64, f_65, f_66, f_67, f_68, fa_φ_59, f_69, f_70, f_71, f_72, f_73⟩ hq) (cwV 0 S.2.2.2.2 (gV tw_1041 tw_1043 sw_34 tw_7 tw_1044) rfl rfl rfl (by decide +kernel) ⟨Nat.le_of_ble_eq_true rfl, Nat.le_of_ble_eq_true rfl⟩) (pre0_V hH hK hX hS hA (hH.recv hK f_60 rfl)) rfl rfl hl.1 rfl (lv_room (Nat.le_of_ble_eq_true rfl)) dX9_trim_63 ⟨Nat.le_of_ble_eq_true rfl, Nat.le_of_ble_eq_true rfl⟩) hS (af_le hH hS hA) (fun v_74 φ_75 H locs hw_v_74 hH hS => ?_)
                obtain ⟨rfl, hm8⟩ := hw_v_74
                obtain ⟨f_76, f_77, f_78, f_79, f_80, f_81, f_82, f_83, f_84, f_85, f_86, f_87, f_88, f_89, f_90⟩ := hm8
                change φ_75 (q 0) = some (.inr (13, [.int (nI 0), .long (Int64.ofNat (0)), .int (nI (sc 2)), .ref (q 1), .ref (q 2), .int (nI (sc 3)), .ref (q 3), .ref (q 4), .ref (q 5), .ref (q 6), .ref (q 7), .ref (q 8), .ref (q 9), .int (nI (sc 4)), .ref (q 10), .ref (q 11), .int (nI (sc 5)), .ref (q 12), .ref (q 13), .ref (q 14), .int (nI (sc 6)), .int (nI 0)])) at f_76
                refine lv_aload_n (pc := 66) S.1 S.2.1 dX9_trim_66 rfl (lv_at hl 1 rfl) ?_
                refine hv_get (pc := 67) (C := RX9) (T := TX9) (N := 22) (ref := RX9) S uwX9 hK hH f_76 rfl 12 (by decide) tw_957 (fun _ h9 => h9) rfl dX9_trim_67 ?_
                refine lv_iload_n (pc := 70) S.1 S.2.1 dX9_trim_70 rfl (lv_at hl 2 rfl) ?_
                refine hv_zald (pc := 71) S hK hH 2 f_85 rfl (vp_in_nI (by omega) (by omega)) dX9_trim_71 ?_
                refine hv_ti (y := nI ((va_up (ar 9) x1 0) x1)) (hv_ld (by omega)) ?_
                refine hv_ti (y := nI 0) (by simp [va_up]) ?_
                exact hv_ret (pc := 72) (v := nI 0) S hr rfl hlocks hH hS (by rw [if_pos eX]; exact ⟨x1, rfl, by omega, by rw [et], by rw [et]; exact ⟨f_76, f_77, f_78, f_79, f_80, f_81, f_82, f_83, f_84, f_85, f_86, f_87, f_88, f_89, f_90⟩⟩) (Nat.le_of_ble_eq_true rfl) (Nat.le_of_ble_eq_true rfl) dX9_trim_72
              · skip
                exact absurd c_58 (by omega)
          · skip
            exact absurd c_22 (by omega)
        · skip
          exact absurd c_4 (by omega)
      · skip
        refine hv_if_eq (pc := 21) (tgt := 28) (a := (ar 9) x1) S.1 S.2.1 (by omega) dX9_trim_21 (by decide) (fun c_91 => ?_) (fun c_91 => ?_)
        · skip
          exact absurd c_91 (by omega)
        · skip
          refine lv_iconst (pc := 24) (v := nI 2) S.1 S.2.1 dX9_trim_24 (by decide) ?_
          refine lv_goto (pc := 25) (tgt := 29) S.1 S.2.1 dX9_trim_25 (by decide) ?_
          have eX : trimX (sc 3) (ar 9) (nI x1) = 2 := by rw [trimX, if_pos hx, nx_nI hx31, if_neg ht]
          refine hv_call (pc := 29) (va_runV (As := [.int (nI 2)]) (rest := []) S (c_m_goes l D cA ga φ H.size q sc ar (2) ⟨f0, f1, f2, f3, f4, f5, f6, f7, f8, f9, f10, f11, f12, f13, f14⟩ hq (by omega)) (cwV 1 S.2.2.2.2 (gV tw_1021 tw_1023 sw_32 tw_7 tw_1024) rfl rfl rfl (by decide +kernel) ⟨Nat.le_of_ble_eq_true rfl, Nat.le_of_ble_eq_true rfl⟩) (pre0_V hH hK hX hS hA (hH.recv hK f0 rfl)) rfl rfl hl.1 rfl (lv_room (Nat.le_of_ble_eq_true rfl)) dX9_trim_29 ⟨Nat.le_of_ble_eq_true rfl, Nat.le_of_ble_eq_true rfl⟩) hS (af_le hH hS hA) (fun v_92 φ_93 H locs hw_v_92 hH hS => ?_)
          obtain ⟨rfl, hm9⟩ := hw_v_92
          obtain ⟨f_94, f_95, f_96, f_97, f_98, f_99, f_100, f_101, f_102, f_103, f_104, f_105, f_106, f_107, f_108⟩ := hm9
          change φ_93 (q 0) = some (.inr (13, [.int (nI (sc 0)), .long (Int64.ofNat (sc 1)), .int (nI (sc 2)), .ref (q 1), .ref (q 2), .int (nI (sc 3)), .ref (q 3), .ref (q 4), .ref (q 5), .ref (q 6), .ref (q 7), .ref (q 8), .ref (q 9), .int (nI (sc 4)), .ref (q 10), .ref (q 11), .int (nI (sc 5)), .ref (q 12), .ref (q 13), .ref (q 14), .int (nI (sc 6)), .int (nI 2)])) at f_94
          refine hv_ti (y := nI 0) (rfl) ?_
          refine hv_if_ne (pc := 32) (tgt := 37) (a := 0) S.1 S.2.1 (by omega) dX9_trim_32 (by decide) (fun c_109 => ?_) (fun c_109 => ?_)
          · skip
            exact absurd c_109 (by omega)
          · skip
            refine lv_iconst (pc := 35) (v := nI 0) S.1 S.2.1 dX9_trim_35 (by decide) ?_
            exact hv_ret (pc := 36) (v := nI 0) S hr rfl hlocks hH hS (by rw [if_neg (by rw [eX]; decide), eX]; exact ⟨rfl, ⟨f_94, f_95, f_96, f_97, f_98, f_99, f_100, f_101, f_102, f_103, f_104, f_105, f_106, f_107, f_108⟩⟩) (Nat.le_of_ble_eq_true rfl) (Nat.le_of_ble_eq_true rfl) dX9_trim_36
    · skip
      exact absurd c_3 (by omega)
  · skip
    refine hv_call (pc := 2) (va_runV (As := [.int (x)]) (rest := []) S (c_m_isCone l D cA ga φ H.size q sc ar x ⟨f0, f1, f2, f3, f4, f5, f6, f7, f8, f9, f10, f11, f12, f13, f14⟩ hq hnc) (cwV 1 S.2.2.2.2 (gV tw_1057 tw_1059 sw_35 tw_7 tw_1060) rfl rfl rfl (by decide +kernel) ⟨Nat.le_of_ble_eq_true rfl, Nat.le_of_ble_eq_true rfl⟩) (pre0_V hH hK hX hS hA (hH.recv hK f0 rfl)) rfl rfl hl.1 rfl (lv_room (Nat.le_of_ble_eq_true rfl)) dX9_trim_2 ⟨Nat.le_of_ble_eq_true rfl, Nat.le_of_ble_eq_true rfl⟩) hS (af_le hH hS hA) (fun v_110 φ_111 H locs hw_v_110 hH hS => ?_)
    obtain ⟨rfl, hqv_110⟩ := hw_v_110
    rw [hqv_110] at hH
    refine hv_ti (y := nI 0) (by rw [if_neg hx]) ?_
    refine lv_istore_n (pc := 5) (lv' := [(2, .int (nI 0)), (0, .ref (q 0)), (1, .int (x))]) S.1 S.2.1 dX9_trim_5 rfl hl (by decide) rfl (fun ls hl => ?_)
    refine lv_aload_n (pc := 6) S.1 S.2.1 dX9_trim_6 rfl (lv_at hl 1 rfl) ?_
    refine lv_iload_n (pc := 7) S.1 S.2.1 dX9_trim_7 rfl (lv_at hl 0 rfl) ?_
    refine hv_if_ne (pc := 8) (tgt := 15) (a := 0) S.1 S.2.1 (by omega) dX9_trim_8 (by decide) (fun c_112 => ?_) (fun c_112 => ?_)
    · skip
      exact absurd c_112 (by omega)
    · skip
      refine lv_iconst (pc := 11) (v := nI 1) S.1 S.2.1 dX9_trim_11 (by decide) ?_
      refine lv_goto (pc := 12) (tgt := 29) S.1 S.2.1 dX9_trim_12 (by decide) ?_
      have eX : trimX (sc 3) (ar 9) x = 3 := by rw [trimX, if_neg hx]
      refine hv_call (pc := 29) (va_runV (As := [.int (nI 1)]) (rest := []) S (c_m_goes l D cA ga φ H.size q sc ar (1) ⟨f0, f1, f2, f3, f4, f5, f6, f7, f8, f9, f10, f11, f12, f13, f14⟩ hq (by omega)) (cwV 1 S.2.2.2.2 (gV tw_1021 tw_1023 sw_32 tw_7 tw_1024) rfl rfl rfl (by decide +kernel) ⟨Nat.le_of_ble_eq_true rfl, Nat.le_of_ble_eq_true rfl⟩) (pre0_V hH hK hX hS hA (hH.recv hK f0 rfl)) rfl rfl hl.1 rfl (lv_room (Nat.le_of_ble_eq_true rfl)) dX9_trim_29 ⟨Nat.le_of_ble_eq_true rfl, Nat.le_of_ble_eq_true rfl⟩) hS (af_le hH hS hA) (fun v_113 φ_114 H locs hw_v_113 hH hS => ?_)
      obtain ⟨rfl, hm9⟩ := hw_v_113
      obtain ⟨f_115, f_116, f_117, f_118, f_119, f_120, f_121, f_122, f_123, f_124, f_125, f_126, f_127, f_128, f_129⟩ := hm9
      change φ_114 (q 0) = some (.inr (13, [.int (nI (sc 0)), .long (Int64.ofNat (sc 1)), .int (nI (sc 2)), .ref (q 1), .ref (q 2), .int (nI (sc 3)), .ref (q 3), .ref (q 4), .ref (q 5), .ref (q 6), .ref (q 7), .ref (q 8), .ref (q 9), .int (nI (sc 4)), .ref (q 10), .ref (q 11), .int (nI (sc 5)), .ref (q 12), .ref (q 13), .ref (q 14), .int (nI (sc 6)), .int (nI 1)])) at f_115
      refine hv_ti (y := nI 0) (rfl) ?_
      refine hv_if_ne (pc := 32) (tgt := 37) (a := 0) S.1 S.2.1 (by omega) dX9_trim_32 (by decide) (fun c_130 => ?_) (fun c_130 => ?_)
      · skip
        exact absurd c_130 (by omega)
      · skip
        refine lv_iconst (pc := 35) (v := nI 0) S.1 S.2.1 dX9_trim_35 (by decide) ?_
        exact hv_ret (pc := 36) (v := nI 0) S hr rfl hlocks hH hS (by rw [if_neg (by rw [eX]; decide), eX]; exact ⟨rfl, ⟨f_115, f_116, f_117, f_118, f_119, f_120, f_121, f_122, f_123, f_124, f_125, f_126, f_127, f_128, f_129⟩⟩) (Nat.le_of_ble_eq_true rfl) (Nat.le_of_ble_eq_true rfl) dX9_trim_36
