theorem fAlo_le2 (k : Nat) : fAlo k ≤ 9 := by
  match k with
  | 0 | 1 | 2 | 3 => decide
  | k + 4 => exact Nat.zero_le _
set_option maxHeartbeats 4000000 in
set_option maxRecDepth 100000 in
/-- cycle -/
theorem c_m_cycle (l : Launch) (D : va_G) (cA : Nat → ClassId) (ga : Nat → Nat → Nat) (φ : hpM) (sz : Nat) (q : Nat → Nat) (sc : Nat → Nat) (ar : Nat → Nat → Nat) (x z : Int32) (hm : MP cA q sc ar φ) (hq : ∀ i j, i < 15 → j < 15 → q i = q j → i = j) (hnc : sc 3 ≤ 12) (hwb : ∀ i, i < 6 * sc 3 → (0 < ar 4 i ∧ ar 4 i ≤ 1200) ∧ (0 < ar 5 i ∧ ar 5 i ≤ 60) ∧ ar 6 i ≤ 500) (hnh : sc 5 ≤ 6) (h3 : ∀ i, ar 3 i < 4) (h7 : ∀ i, ar 7 i ≤ 12) (h8 : ∀ i, ar 8 i ≤ 1) (h12 : ∀ i, ar 12 i ≤ 30) (h13 : ∀ i, ar 13 i < 2 ^ 30) : hM l yX9_cycle cX9_cycle 8 (some .int) { frames := 10, cells := 0, slots := 0, locals := 320 } [.ref (q 0), .int (x), .int (z)] D cA ga φ sz (fun v φ' => if cycleX (sc 3) (sc 5) (ar 3) (ar 7) (ar 12) (ar 8) x z = 0 then (∃ x1 z1 : Nat, x = nI x1 ∧ z = nI z1 ∧ x1 < sc 3 ∧ z1 < sc 5 ∧ ar 12 z1 + fAir (ar 3 x1) ≤ 30 ∧ ar 8 x1 = 0 ∧ ar 7 x1 < 12 ∧ v = some (.int (nI (shA (ar 3 x1) (ar 4 (6 * x1))))) ∧ MP cA q (va_up sc 7 (0)) (va_up (va_up (va_up (va_up (va_up ar 4 (pfy (ar 4) (6 * x1) (fun b => shA (ar 3 x1) (ar 4 (6 * x1 + b))) 6)) 5 (pfy (ar 5) (6 * x1) (fun b => shL (ar 3 x1) (ar 5 (6 * x1 + b))) 6)) 7 (va_up (ar 7) x1 (ar 7 x1 + 1))) 12 (va_up (ar 12) z1 (ar 12 z1 + fAir (ar 3 x1)))) 13 (va_up (ar 13) z1 (ar 13 z1 + fAir (ar 3 x1)))) φ') else (v = some (.int (nI 0)) ∧ MP cA q (va_up sc 7 (mcd 9 2 1 (cycleX (sc 3) (sc 5) (ar 3) (ar 7) (ar 12) (ar 8) x z))) ar φ')) 0 0 := by
  refine hM.of (by decide) (Nat.le_of_ble_eq_true rfl) rfl ?_
  intro p e s m args below meth c ls H locs S hr hlocks hnm hsz hHz hH hK hX hS hA hl
  obtain ⟨f0, f1, f2, f3, f4, f5, f6, f7, f8, f9, f10, f11, f12, f13, f14⟩ := hm
  refine lv_aload_n (pc := 0) S.1 S.2.1 dX9_cycle_0 rfl (lv_at hl 0 rfl) ?_
  refine lv_iload_n (pc := 1) S.1 S.2.1 dX9_cycle_1 rfl (lv_at hl 1 rfl) ?_
  by_cases hx : inN x (sc 3)
  · skip
    obtain ⟨x1, rfl, hxn⟩ := hx.nat (by omega)
    refine hv_call (pc := 2) (va_runV (As := [.int (nI x1)]) (rest := []) S (c_m_isCone l D cA ga φ H.size q sc ar (nI x1) ⟨f0, f1, f2, f3, f4, f5, f6, f7, f8, f9, f10, f11, f12, f13, f14⟩ hq hnc) (cwV 1 S.2.2.2.2 (gV tw_1057 tw_1059 sw_35 tw_7 tw_1060) rfl rfl rfl (by decide +kernel) ⟨Nat.le_of_ble_eq_true rfl, Nat.le_of_ble_eq_true rfl⟩) (pre0_V hH hK hX hS hA (hH.recv hK f0 rfl)) rfl rfl hl.1 rfl (lv_room (Nat.le_of_ble_eq_true rfl)) dX9_cycle_2 ⟨Nat.le_of_ble_eq_true rfl, Nat.le_of_ble_eq_true rfl⟩) hS (af_le hH hS hA) (fun v_1 φ_2 H locs hw_v_1 hH hS => ?_)
    obtain ⟨rfl, hqv_1⟩ := hw_v_1
    rw [hqv_1] at hH
    refine hv_ti (y := nI 1) (by rw [if_pos hx]) ?_
    refine hv_if_eq (pc := 5) (tgt := 26) (a := 1) S.1 S.2.1 (by omega) dX9_cycle_5 (by decide) (fun c_3 => ?_) (fun c_3 => ?_)
    · skip
      exact absurd c_3 (by omega)
    · skip
      refine lv_iload_n (pc := 8) S.1 S.2.1 dX9_cycle_8 rfl (lv_at hl 2 rfl) ?_
      refine lv_iconst (pc := 9) (v := nI 0) S.1 S.2.1 dX9_cycle_9 (by decide) ?_
      refine lv_aload_n (pc := 10) S.1 S.2.1 dX9_cycle_10 rfl (lv_at hl 0 rfl) ?_
      refine hv_get (pc := 11) (C := RX9) (T := TX9) (N := 22) (ref := RX9) S uwX9 hK hH f0 rfl 16 (by decide) tw_961 (fun _ h9 => h9) rfl dX9_cycle_11 ?_
      refine lv_iconst (pc := 14) (v := nI 1) S.1 S.2.1 dX9_cycle_14 (by decide) ?_
      refine lv_isub (pc := 15) S.1 S.2.1 dX9_cycle_15 ?_
      by_cases hz : inN z (sc 5)
      · skip
        obtain ⟨z1, rfl, hzn⟩ := hz.nat (by omega)
        refine hv_call (pc := 16) (va_runS (As := [.int (nI z1), .int (nI 0), .int (nI (sc 5) - nI 1)]) (rest := []) S (c_isIn l D cA ga φ H.size (nI z1) (nI 0) (nI (sc 5) - nI 1)) (va_cwS 3 S.2.2.2.2 (gS tw_1031 tw_1032 tw_7 tw_1033) rfl rfl rfl (by decide +kernel) ⟨Nat.le_of_ble_eq_true rfl, Nat.le_of_ble_eq_true rfl⟩) (pre0_S hH hK hX hS hA) rfl rfl hl.1 rfl (lv_room (Nat.le_of_ble_eq_true rfl)) dX9_cycle_16 ⟨Nat.le_of_ble_eq_true rfl, Nat.le_of_ble_eq_true rfl⟩) hS (af_le hH hS hA) (fun v_4 φ_5 H locs hw_v_4 hH hS => ?_)
        obtain ⟨rfl, hqv_4⟩ := hw_v_4
        rw [hqv_4] at hH
        refine hv_ti (y := nI 1) (by rw [inB_N (by omega), if_pos hz]) ?_
        refine hv_if_eq (pc := 19) (tgt := 26) (a := 1) S.1 S.2.1 (by omega) dX9_cycle_19 (by decide) (fun c_6 => ?_) (fun c_6 => ?_)
        · skip
          exact absurd c_6 (by omega)
        · skip
          have hx31 : x1 < 2 ^ 31 := by omega
          have hz31 : z1 < 2 ^ 31 := by omega
          have h3x := h3 x1
          have h7x := h7 x1
          have h8x := h8 x1
          have h12z := h12 z1
          have h13z := h13 z1
          have hfa := fAir_le (ar 3 x1)
          refine lv_iconst (pc := 22) (v := nI 1) S.1 S.2.1 dX9_cycle_22 (by decide) ?_
          refine lv_goto (pc := 23) (tgt := 27) S.1 S.2.1 dX9_cycle_23 (by decide) ?_
          refine lv_istore_n (pc := 27) (lv' := [(3, .int (nI 1)), (0, .ref (q 0)), (1, .int (nI x1)), (2, .int (nI z1))]) S.1 S.2.1 dX9_cycle_27 rfl hl (by decide) rfl (fun ls hl => ?_)
          refine lv_iload_n (pc := 28) S.1 S.2.1 dX9_cycle_28 rfl (lv_at hl 0 rfl) ?_
          refine hv_if_eq (pc := 29) (tgt := 77) (a := 1) S.1 S.2.1 (by omega) dX9_cycle_29 (by decide) (fun c_7 => ?_) (fun c_7 => ?_)
          · skip
            exact absurd c_7 (by omega)
          · skip
            refine lv_aload_n (pc := 32) S.1 S.2.1 dX9_cycle_32 rfl (lv_at hl 1 rfl) ?_
            refine hv_get (pc := 33) (C := RX9) (T := TX9) (N := 22) (ref := RX9) S uwX9 hK hH f0 rfl 17 (by decide) tw_962 (fun _ h9 => h9) rfl dX9_cycle_33 ?_
            refine lv_iload_n (pc := 36) S.1 S.2.1 dX9_cycle_36 rfl (lv_at hl 3 rfl) ?_
            refine hv_iald (pc := 37) S hK hH 1 f12 rfl (vp_in_nI (by omega) (by omega)) dX9_cycle_37 ?_
            refine hv_ti (y := nI ((ar 12) z1)) (hv_ld (by omega)) ?_
            refine lv_aload_n (pc := 38) S.1 S.2.1 dX9_cycle_38 rfl (lv_at hl 1 rfl) ?_
            refine hv_get (pc := 39) (C := RX9) (T := TX9) (N := 22) (ref := RX9) S uwX9 hK hH f0 rfl 6 (by decide) tw_951 (fun _ h9 => h9) rfl dX9_cycle_39 ?_
            refine lv_iload_n (pc := 42) S.1 S.2.1 dX9_cycle_42 rfl (lv_at hl 2 rfl) ?_
            refine hv_iald (pc := 43) S hK hH 1 f3 rfl (vp_in_nI (by omega) (by omega)) dX9_cycle_43 ?_
            refine hv_ti (y := nI ((ar 3) x1)) (hv_ld (by omega)) ?_
            refine hv_call (pc := 44) (va_runS (As := [.int (nI ((ar 3) x1))]) (rest := [.int (nI ((ar 12) z1))]) S (c_m_airOf l D cA ga φ H.size (ar 3 x1) h3x) (va_cwS 1 S.2.2.2.2 (gS tw_1061 tw_1062 tw_7 tw_1063) rfl rfl rfl (by decide +kernel) ⟨Nat.le_of_ble_eq_true rfl, Nat.le_of_ble_eq_true rfl⟩) (pre0_S hH hK hX hS hA) rfl rfl hl.1 rfl (lv_room (Nat.le_of_ble_eq_true rfl)) dX9_cycle_44 ⟨Nat.le_of_ble_eq_true rfl, Nat.le_of_ble_eq_true rfl⟩) hS (af_le hH hS hA) (fun v_8 φ_9 H locs hw_v_8 hH hS => ?_)
            obtain ⟨rfl, hqv_8⟩ := hw_v_8
            rw [hqv_8] at hH
            refine lv_iadd (pc := 47) S.1 S.2.1 dX9_cycle_47 ?_
            refine hv_ti (y := nI (((ar 12) z1) + (fAir (ar 3 x1)))) (nI_add _ _) ?_
            refine lv_bipush (pc := 48) (v := nI 30) S.1 S.2.1 dX9_cycle_48 (by decide) ?_
            by_cases ha : ar 12 z1 + fAir (ar 3 x1) ≤ 30
            · skip
              refine hv_icmp_gt (pc := 50) (tgt := 77) (a := ((ar 12) z1) + (fAir (ar 3 x1))) (b := 30) S.1 S.2.1 (by omega) (by omega) dX9_cycle_50 (by decide) (fun c_10 => ?_) (fun c_10 => ?_)
              · skip
                exact absurd c_10 (by omega)
              · skip
                refine lv_aload_n (pc := 53) S.1 S.2.1 dX9_cycle_53 rfl (lv_at hl 1 rfl) ?_
                refine hv_get (pc := 54) (C := RX9) (T := TX9) (N := 22) (ref := RX9) S uwX9 hK hH f0 rfl 11 (by decide) tw_956 (fun _ h9 => h9) rfl dX9_cycle_54 ?_
                refine lv_iload_n (pc := 57) S.1 S.2.1 dX9_cycle_57 rfl (lv_at hl 2 rfl) ?_
                refine hv_zald (pc := 58) S hK hH 2 f8 rfl (vp_in_nI (by omega) (by omega)) dX9_cycle_58 ?_
                refine hv_ti (y := nI ((ar 8) x1)) (hv_ld (by omega)) ?_
                by_cases hd : ar 8 x1 = 0
                · skip
                  refine hv_if_ne (pc := 59) (tgt := 77) (a := (ar 8) x1) S.1 S.2.1 (by omega) dX9_cycle_59 (by decide) (fun c_11 => ?_) (fun c_11 => ?_)
                  · skip
                    exact absurd c_11 (by omega)
                  · skip
                    refine lv_aload_n (pc := 62) S.1 S.2.1 dX9_cycle_62 rfl (lv_at hl 1 rfl) ?_
                    refine hv_get (pc := 63) (C := RX9) (T := TX9) (N := 22) (ref := RX9) S uwX9 hK hH f0 rfl 10 (by decide) tw_955 (fun _ h9 => h9) rfl dX9_cycle_63 ?_
                    refine lv_iload_n (pc := 66) S.1 S.2.1 dX9_cycle_66 rfl (lv_at hl 2 rfl) ?_
                    refine hv_iald (pc := 67) S hK hH 1 f7 rfl (vp_in_nI (by omega) (by omega)) dX9_cycle_67 ?_
                    refine hv_ti (y := nI ((ar 7) x1)) (hv_ld (by omega)) ?_
                    refine lv_bipush (pc := 68) (v := nI 12) S.1 S.2.1 dX9_cycle_68 (by decide) ?_
                    by_cases hc : ar 7 x1 < 12
                    · skip
                      refine hv_icmp_ge (pc := 70) (tgt := 77) (a := (ar 7) x1) (b := 12) S.1 S.2.1 (by omega) (by omega) dX9_cycle_70 (by decide) (fun c_12 => ?_) (fun c_12 => ?_)
                      · skip
                        exact absurd c_12 (by omega)
                      · skip
                        refine lv_iconst (pc := 73) (v := nI 1) S.1 S.2.1 dX9_cycle_73 (by decide) ?_
                        refine lv_goto (pc := 74) (tgt := 78) S.1 S.2.1 dX9_cycle_74 (by decide) ?_
                        refine lv_istore (pc := 78) (lv' := [(4, .int (nI 1)), (3, .int (nI 1)), (0, .ref (q 0)), (1, .int (nI x1)), (2, .int (nI z1))]) S.1 S.2.1 dX9_cycle_78 hl (by decide) rfl (fun ls hl => ?_)
                        refine lv_aload_n (pc := 80) S.1 S.2.1 dX9_cycle_80 rfl (lv_at hl 2 rfl) ?_
                        refine lv_iload_n (pc := 81) S.1 S.2.1 dX9_cycle_81 rfl (lv_at hl 1 rfl) ?_
                        refine hv_if_ne (pc := 82) (tgt := 89) (a := 1) S.1 S.2.1 (by omega) dX9_cycle_82 (by decide) (fun c_13 => ?_) (fun c_13 => ?_)
                        · skip
                          refine lv_iload (pc := 89) S.1 S.2.1 dX9_cycle_89 (lv_at hl 0 rfl) ?_
                          refine hv_if_eq (pc := 91) (tgt := 98) (a := 1) S.1 S.2.1 (by omega) dX9_cycle_91 (by decide) (fun c_14 => ?_) (fun c_14 => ?_)
                          · skip
                            exact absurd c_14 (by omega)
                          · skip
                            refine lv_iconst (pc := 94) (v := nI 0) S.1 S.2.1 dX9_cycle_94 (by decide) ?_
                            refine lv_goto (pc := 95) (tgt := 99) S.1 S.2.1 dX9_cycle_95 (by decide) ?_
                            have eX : cycleX (sc 3) (sc 5) (ar 3) (ar 7) (ar 12) (ar 8) (nI x1) (nI z1) = 0 := by rw [cycleX, if_pos hx, if_pos hz, nx_nI hx31, nx_nI hz31, if_pos ha, if_pos hd, if_pos hc]
                            refine hv_call (pc := 99) (va_runV (As := [.int (nI 0)]) (rest := []) S (c_m_goes l D cA ga φ H.size q sc ar (0) ⟨f0, f1, f2, f3, f4, f5, f6, f7, f8, f9, f10, f11, f12, f13, f14⟩ hq (by omega)) (cwV 1 S.2.2.2.2 (gV tw_1021 tw_1023 sw_32 tw_7 tw_1024) rfl rfl rfl (by decide +kernel) ⟨Nat.le_of_ble_eq_true rfl, Nat.le_of_ble_eq_true rfl⟩) (pre0_V hH hK hX hS hA (hH.recv hK f0 rfl)) rfl rfl hl.1 rfl (lv_room (Nat.le_of_ble_eq_true rfl)) dX9_cycle_99 ⟨Nat.le_of_ble_eq_true rfl, Nat.le_of_ble_eq_true rfl⟩) hS (af_le hH hS hA) (fun v_15 φ_16 H locs hw_v_15 hH hS => ?_)
                            obtain ⟨rfl, hm9⟩ := hw_v_15
                            obtain ⟨f_17, f_18, f_19, f_20, f_21, f_22, f_23, f_24, f_25, f_26, f_27, f_28, f_29, f_30, f_31⟩ := hm9
                            change φ_16 (q 0) = some (.inr (13, [.int (nI (sc 0)), .long (Int64.ofNat (sc 1)), .int (nI (sc 2)), .ref (q 1), .ref (q 2), .int (nI (sc 3)), .ref (q 3), .ref (q 4), .ref (q 5), .ref (q 6), .ref (q 7), .ref (q 8), .ref (q 9), .int (nI (sc 4)), .ref (q 10), .ref (q 11), .int (nI (sc 5)), .ref (q 12), .ref (q 13), .ref (q 14), .int (nI (sc 6)), .int (nI 0)])) at f_17
                            refine hv_ti (y := nI 1) (rfl) ?_
                            refine hv_if_ne (pc := 102) (tgt := 107) (a := 1) S.1 S.2.1 (by omega) dX9_cycle_102 (by decide) (fun c_32 => ?_) (fun c_32 => ?_)
                            · skip
                              refine lv_aload_n (pc := 107) S.1 S.2.1 dX9_cycle_107 rfl (lv_at hl 2 rfl) ?_
                              refine hv_get (pc := 108) (C := RX9) (T := TX9) (N := 22) (ref := RX9) S uwX9 hK hH f_17 rfl 6 (by decide) tw_951 (fun _ h9 => h9) rfl dX9_cycle_108 ?_
                              refine lv_iload_n (pc := 111) S.1 S.2.1 dX9_cycle_111 rfl (lv_at hl 3 rfl) ?_
                              refine hv_iald (pc := 112) S hK hH 1 f_20 rfl (vp_in_nI (by omega) (by omega)) dX9_cycle_112 ?_
                              refine hv_ti (y := nI ((ar 3) x1)) (hv_ld (by omega)) ?_
                              refine lv_istore (pc := 113) (lv' := [(5, .int (nI ((ar 3) x1))), (4, .int (nI 1)), (3, .int (nI 1)), (0, .ref (q 0)), (1, .int (nI x1)), (2, .int (nI z1))]) S.1 S.2.1 dX9_cycle_113 hl (by decide) rfl (fun ls hl => ?_)
                              refine lv_iconst (pc := 115) (v := nI 0) S.1 S.2.1 dX9_cycle_115 (by decide) ?_
                              refine lv_istore (pc := 116) (lv' := [(6, .int (nI 0)), (5, .int (nI ((ar 3) x1))), (4, .int (nI 1)), (3, .int (nI 1)), (0, .ref (q 0)), (1, .int (nI x1)), (2, .int (nI z1))]) S.1 S.2.1 dX9_cycle_116 hl (by decide) rfl (fun ls hl => ?_)
                              have hg : ∃ (n i : Nat) (φk_33 : hpM), ((i + n = 6) ∧ φk_33 = ups (ups φ_16 (q 4) (.inl (cA 1, 72, .inl (fun j => nI ((pfy (ar 4) (6 * x1) (fun b => shA (ar 3 x1) (ar 4 (6 * x1 + b))) i) j))))) (q 5) (.inl (cA 1, 72, .inl (fun j => nI ((pfy (ar 5) (6 * x1) (fun b => shL (ar 3 x1) (ar 5 (6 * x1 + b))) i) j)))) ∧ hp D (Af φ sz) φk_33 H) ∧ lv_has ls 8 [(0, .ref (q 0)), (1, .int (nI x1)), (2, .int (nI z1)), (5, .int (nI (ar 3 x1))), (6, .int (nI i))] := ⟨6, 0, φ_16, ⟨rfl, by rw [pfy_0, pfy_0, ← ups_id f_21]; exact ups_id f_22, hH⟩, lv_sub hl [4, 5, 6, 1, 0] rfl⟩
                              clear hl hH
                              try clear hHz
                              obtain ⟨n, i, φk_33, hi, hl⟩ := hg
                              induction n generalizing ls H locs i φk_33 with
                              | succ n ih =>
                                obtain ⟨hi, hφk_33, hH⟩ := hi
                                have f_34 : φk_33 (q 0) = some (.inr (13, [.int (nI (sc 0)), .long (Int64.ofNat (sc 1)), .int (nI (sc 2)), .ref (q 1), .ref (q 2), .int (nI (sc 3)), .ref (q 3), .ref (q 4), .ref (q 5), .ref (q 6), .ref (q 7), .ref (q 8), .ref (q 9), .int (nI (sc 4)), .ref (q 10), .ref (q 11), .int (nI (sc 5)), .ref (q 12), .ref (q 13), .ref (q 14), .int (nI (sc 6)), .int (nI 0)])) := by rw [hφk_33]; exact ups_n (fun h => absurd (hq 0 5 (by omega) (by omega) h) (by omega)) (ups_n (fun h => absurd (hq 0 4 (by omega) (by omega) h) (by omega)) (f_17))
                                have f_35 : φk_33 (q 1) = some (.inl (cA 1, 10, .inl (fun j => nI ((ar 1) j)))) := by rw [hφk_33]; exact ups_n (fun h => absurd (hq 1 5 (by omega) (by omega) h) (by omega)) (ups_n (fun h => absurd (hq 1 4 (by omega) (by omega) h) (by omega)) (f_18))
                                have f_36 : φk_33 (q 2) = some (.inl (cA 1, 10, .inl (fun j => nI ((ar 2) j)))) := by rw [hφk_33]; exact ups_n (fun h => absurd (hq 2 5 (by omega) (by omega) h) (by omega)) (ups_n (fun h => absurd (hq 2 4 (by omega) (by omega) h) (by omega)) (f_19))
                                have f_37 : φk_33 (q 3) = some (.inl (cA 1, 12, .inl (fun j => nI ((ar 3) j)))) := by rw [hφk_33]; exact ups_n (fun h => absurd (hq 3 5 (by omega) (by omega) h) (by omega)) (ups_n (fun h => absurd (hq 3 4 (by omega) (by omega) h) (by omega)) (f_20))
                                have f_38 : φk_33 (q 4) = some (.inl (cA 1, 72, .inl (fun j => nI ((pfy (ar 4) (6 * x1) (fun b => shA (ar 3 x1) (ar 4 (6 * x1 + b))) i) j)))) := by rw [hφk_33]; exact ups_n (fun h => absurd (hq 4 5 (by omega) (by omega) h) (by omega)) (ups_s _ _ _)
                                have f_39 : φk_33 (q 5) = some (.inl (cA 1, 72, .inl (fun j => nI ((pfy (ar 5) (6 * x1) (fun b => shL (ar 3 x1) (ar 5 (6 * x1 + b))) i) j)))) := by rw [hφk_33]; exact ups_s _ _ _
                                have f_40 : φk_33 (q 6) = some (.inl (cA 1, 72, .inl (fun j => nI ((ar 6) j)))) := by rw [hφk_33]; exact ups_n (fun h => absurd (hq 6 5 (by omega) (by omega) h) (by omega)) (ups_n (fun h => absurd (hq 6 4 (by omega) (by omega) h) (by omega)) (f_23))
                                have f_41 : φk_33 (q 7) = some (.inl (cA 1, 12, .inl (fun j => nI ((ar 7) j)))) := by rw [hφk_33]; exact ups_n (fun h => absurd (hq 7 5 (by omega) (by omega) h) (by omega)) (ups_n (fun h => absurd (hq 7 4 (by omega) (by omega) h) (by omega)) (f_24))
                                have f_42 : φk_33 (q 8) = some (.inl (cA 2, 12, .inl (fun j => nI ((ar 8) j)))) := by rw [hφk_33]; exact ups_n (fun h => absurd (hq 8 5 (by omega) (by omega) h) (by omega)) (ups_n (fun h => absurd (hq 8 4 (by omega) (by omega) h) (by omega)) (f_25))
                                have f_43 : φk_33 (q 9) = some (.inl (cA 2, 12, .inl (fun j => nI ((ar 9) j)))) := by rw [hφk_33]; exact ups_n (fun h => absurd (hq 9 5 (by omega) (by omega) h) (by omega)) (ups_n (fun h => absurd (hq 9 4 (by omega) (by omega) h) (by omega)) (f_26))
                                have f_44 : φk_33 (q 10) = some (.inl (cA 1, 8, .inl (fun j => nI ((ar 10) j)))) := by rw [hφk_33]; exact ups_n (fun h => absurd (hq 10 5 (by omega) (by omega) h) (by omega)) (ups_n (fun h => absurd (hq 10 4 (by omega) (by omega) h) (by omega)) (f_27))
                                have f_45 : φk_33 (q 11) = some (.inl (cA 1, 8, .inl (fun j => nI ((ar 11) j)))) := by rw [hφk_33]; exact ups_n (fun h => absurd (hq 11 5 (by omega) (by omega) h) (by omega)) (ups_n (fun h => absurd (hq 11 4 (by omega) (by omega) h) (by omega)) (f_28))
                                have f_46 : φk_33 (q 12) = some (.inl (cA 1, 6, .inl (fun j => nI ((ar 12) j)))) := by rw [hφk_33]; exact ups_n (fun h => absurd (hq 12 5 (by omega) (by omega) h) (by omega)) (ups_n (fun h => absurd (hq 12 4 (by omega) (by omega) h) (by omega)) (f_29))
                                have f_47 : φk_33 (q 13) = some (.inl (cA 1, 6, .inl (fun j => nI ((ar 13) j)))) := by rw [hφk_33]; exact ups_n (fun h => absurd (hq 13 5 (by omega) (by omega) h) (by omega)) (ups_n (fun h => absurd (hq 13 4 (by omega) (by omega) h) (by omega)) (f_30))
                                have f_48 : φk_33 (q 14) = some (.inl (cA 1, 8, .inl (fun j => nI ((ar 14) j)))) := by rw [hφk_33]; exact ups_n (fun h => absurd (hq 14 5 (by omega) (by omega) h) (by omega)) (ups_n (fun h => absurd (hq 14 4 (by omega) (by omega) h) (by omega)) (f_31))
                                obtain ⟨hw4, hw5, hw6⟩ := hwb (6 * x1 + i) (by omega)
                                have hfc := fAcr_le (ar 3 x1)
                                have hfl := fAlo_le2 (ar 3 x1)
                                refine lv_iload (pc := 118) S.1 S.2.1 dX9_cycle_118 (lv_at hl 4 rfl) ?_
                                refine lv_bipush (pc := 120) (v := nI 6) S.1 S.2.1 dX9_cycle_120 (by decide) ?_
                                refine hv_icmp_ge (pc := 122) (tgt := 184) (a := i) (b := 6) S.1 S.2.1 (by omega) (by omega) dX9_cycle_122 (by decide) (fun c_49 => ?_) (fun c_49 => ?_)
                                · skip
                                  exact absurd c_49 (by omega)
                                · skip
                                  refine lv_bipush (pc := 125) (v := nI 6) S.1 S.2.1 dX9_cycle_125 (by decide) ?_
                                  refine lv_iload_n (pc := 127) S.1 S.2.1 dX9_cycle_127 rfl (lv_at hl 1 rfl) ?_
                                  refine lv_imul (pc := 128) S.1 S.2.1 dX9_cycle_128 ?_
                                  refine hv_ti (y := nI (6 * x1)) (pk_mul _ _) ?_
                                  refine lv_iload (pc := 129) S.1 S.2.1 dX9_cycle_129 (lv_at hl 4 rfl) ?_
                                  refine lv_iadd (pc := 131) S.1 S.2.1 dX9_cycle_131 ?_
                                  refine hv_ti (y := nI ((6 * x1) + i)) (nI_add _ _) ?_
                                  refine lv_istore (pc := 132) (lv' := [(7, .int (nI ((6 * x1) + i))), (0, .ref (q 0)), (1, .int (nI x1)), (2, .int (nI z1)), (5, .int (nI (ar 3 x1))), (6, .int (nI i))]) S.1 S.2.1 dX9_cycle_132 hl (by decide) rfl (fun ls hl => ?_)
                                  refine lv_aload_n (pc := 134) S.1 S.2.1 dX9_cycle_134 rfl (lv_at hl 1 rfl) ?_
                                  refine hv_get (pc := 135) (C := RX9) (T := TX9) (N := 22) (ref := RX9) S uwX9 hK hH f_34 rfl 7 (by decide) tw_952 (fun _ h9 => h9) rfl dX9_cycle_135 ?_
                                  refine lv_iload (pc := 138) S.1 S.2.1 dX9_cycle_138 (lv_at hl 0 rfl) ?_
                                  refine lv_aload_n (pc := 140) S.1 S.2.1 dX9_cycle_140 rfl (lv_at hl 1 rfl) ?_
                                  refine hv_get (pc := 141) (C := RX9) (T := TX9) (N := 22) (ref := RX9) S uwX9 hK hH f_34 rfl 7 (by decide) tw_952 (fun _ h9 => h9) rfl dX9_cycle_141 ?_
                                  refine lv_iload (pc := 144) S.1 S.2.1 dX9_cycle_144 (lv_at hl 0 rfl) ?_
                                  refine hv_iald (pc := 146) S hK hH 1 f_38 rfl (vp_in_nI (by omega) (by omega)) dX9_cycle_146 ?_
                                  refine hv_ti (y := nI ((pfy (ar 4) (6 * x1) (fun b => shA (ar 3 x1) (ar 4 (6 * x1 + b))) i) ((6 * x1) + i))) (hv_ld (by omega)) ?_
                                  refine hv_ti (y := nI (ar 4 (6 * x1 + i))) (by rw [pfy_at]) ?_
                                  refine lv_iload (pc := 147) S.1 S.2.1 dX9_cycle_147 (lv_at hl 4 rfl) ?_
                                  refine hv_call (pc := 149) (va_runS (As := [.int (nI (ar 3 x1))]) (rest := [.int (nI (ar 4 (6 * x1 + i))), .int (nI ((6 * x1) + i)), .ref (q 4)]) S (c_m_across l D cA ga φk_33 H.size (ar 3 x1) h3x) (va_cwS 1 S.2.2.2.2 (gS tw_1064 tw_1065 tw_7 tw_1066) rfl rfl rfl (by decide +kernel) ⟨Nat.le_of_ble_eq_true rfl, Nat.le_of_ble_eq_true rfl⟩) (pre0_S hH hK hX hS hA) rfl rfl hl.1 rfl (lv_room (Nat.le_of_ble_eq_true rfl)) dX9_cycle_149 ⟨Nat.le_of_ble_eq_true rfl, Nat.le_of_ble_eq_true rfl⟩) hS (af_le hH hS hA) (fun v_50 φ_51 H locs hw_v_50 hH hS => ?_)
                                  obtain ⟨rfl, hqv_50⟩ := hw_v_50
                                  rw [hqv_50] at hH
                                  refine hv_call (pc := 152) (va_runS (As := [.int (nI (ar 4 (6 * x1 + i))), .int (nI (fAcr (ar 3 x1)))]) (rest := [.int (nI ((6 * x1) + i)), .ref (q 4)]) S (c_m_shrunk l D cA ga φk_33 H.size (ar 4 (6 * x1 + i)) (fAcr (ar 3 x1)) (by omega) (by omega)) (va_cwS 2 S.2.2.2.2 (gS tw_1067 tw_1068 tw_7 tw_1069) rfl rfl rfl (by decide +kernel) ⟨Nat.le_of_ble_eq_true rfl, Nat.le_of_ble_eq_true rfl⟩) (pre0_S hH hK hX hS hA) rfl rfl hl.1 rfl (lv_room (Nat.le_of_ble_eq_true rfl)) dX9_cycle_152 ⟨Nat.le_of_ble_eq_true rfl, Nat.le_of_ble_eq_true rfl⟩) hS (af_le hH hS hA) (fun v_52 φ_53 H locs hw_v_52 hH hS => ?_)
                                  obtain ⟨rfl, hqv_52⟩ := hw_v_52
                                  rw [hqv_52] at hH
                                  refine hv_ti (y := nI (shA (ar 3 x1) (ar 4 (6 * x1 + i)))) (rfl) ?_
                                  refine hv_iast (pc := 155) S hK hH hS 1 f_38 rfl (vp_in_nI (by omega) (by omega)) dX9_cycle_155 (fun H locs hH hS => ?_)
                                  rw [hv_upd (by omega), show va_up (pfy (ar 4) (6 * x1) (fun b => shA (ar 3 x1) (ar 4 (6 * x1 + b))) i) (6 * x1 + i) (shA (ar 3 x1) (ar 4 (6 * x1 + i))) = pfy (ar 4) (6 * x1) (fun b => shA (ar 3 x1) (ar 4 (6 * x1 + b))) (i + 1) from pfy_up (ar 4) (6 * x1) (fun b => shA (ar 3 x1) (ar 4 (6 * x1 + b))) i] at hH
                                  replace hH := nup (e := .inl (cA 1, 72, .inl (fun j => nI ((pfy (ar 4) (6 * x1) (fun b => shA (ar 3 x1) (ar 4 (6 * x1 + b))) (i + 1)) j)))) hH
                                  obtain ⟨φ_54, hφ_54, fa_φ_54, fr_φ_54, hH⟩ := hH
                                  have f_55 := fr_φ_54 _ _ (fun h => absurd (hq 0 4 (by omega) (by omega) h) (by omega)) f_34
                                  have f_56 := fr_φ_54 _ _ (fun h => absurd (hq 1 4 (by omega) (by omega) h) (by omega)) f_35
                                  have f_57 := fr_φ_54 _ _ (fun h => absurd (hq 2 4 (by omega) (by omega) h) (by omega)) f_36
                                  have f_58 := fr_φ_54 _ _ (fun h => absurd (hq 3 4 (by omega) (by omega) h) (by omega)) f_37
                                  have f_59 := fr_φ_54 _ _ (fun h => absurd (hq 5 4 (by omega) (by omega) h) (by omega)) f_39
                                  have f_60 := fr_φ_54 _ _ (fun h => absurd (hq 6 4 (by omega) (by omega) h) (by omega)) f_40
                                  have f_61 := fr_φ_54 _ _ (fun h => absurd (hq 7 4 (by omega) (by omega) h) (by omega)) f_41
                                  have f_62 := fr_φ_54 _ _ (fun h => absurd (hq 8 4 (by omega) (by omega) h) (by omega)) f_42
                                  have f_63 := fr_φ_54 _ _ (fun h => absurd (hq 9 4 (by omega) (by omega) h) (by omega)) f_43
                                  have f_64 := fr_φ_54 _ _ (fun h => absurd (hq 10 4 (by omega) (by omega) h) (by omega)) f_44
                                  have f_65 := fr_φ_54 _ _ (fun h => absurd (hq 11 4 (by omega) (by omega) h) (by omega)) f_45
                                  have f_66 := fr_φ_54 _ _ (fun h => absurd (hq 12 4 (by omega) (by omega) h) (by omega)) f_46
                                  have f_67 := fr_φ_54 _ _ (fun h => absurd (hq 13 4 (by omega) (by omega) h) (by omega)) f_47
                                  have f_68 := fr_φ_54 _ _ (fun h => absurd (hq 14 4 (by omega) (by omega) h) (by omega)) f_48
                                  refine lv_aload_n (pc := 156) S.1 S.2.1 dX9_cycle_156 rfl (lv_at hl 1 rfl) ?_
                                  refine hv_get (pc := 157) (C := RX9) (T := TX9) (N := 22) (ref := RX9) S uwX9 hK hH f_55 rfl 8 (by decide) tw_953 (fun _ h9 => h9) rfl dX9_cycle_157 ?_
                                  refine lv_iload (pc := 160) S.1 S.2.1 dX9_cycle_160 (lv_at hl 0 rfl) ?_
                                  refine lv_aload_n (pc := 162) S.1 S.2.1 dX9_cycle_162 rfl (lv_at hl 1 rfl) ?_
                                  refine hv_get (pc := 163) (C := RX9) (T := TX9) (N := 22) (ref := RX9) S uwX9 hK hH f_55 rfl 8 (by decide) tw_953 (fun _ h9 => h9) rfl dX9_cycle_163 ?_
                                  refine lv_iload (pc := 166) S.1 S.2.1 dX9_cycle_166 (lv_at hl 0 rfl) ?_
                                  refine hv_iald (pc := 168) S hK hH 1 f_59 rfl (vp_in_nI (by omega) (by omega)) dX9_cycle_168 ?_
                                  refine hv_ti (y := nI ((pfy (ar 5) (6 * x1) (fun b => shL (ar 3 x1) (ar 5 (6 * x1 + b))) i) ((6 * x1) + i))) (hv_ld (by omega)) ?_
                                  refine hv_ti (y := nI (ar 5 (6 * x1 + i))) (by rw [pfy_at]) ?_
                                  refine lv_iload (pc := 169) S.1 S.2.1 dX9_cycle_169 (lv_at hl 4 rfl) ?_
                                  refine hv_call (pc := 171) (va_runS (As := [.int (nI (ar 3 x1))]) (rest := [.int (nI (ar 5 (6 * x1 + i))), .int (nI ((6 * x1) + i)), .ref (q 5)]) S (c_m_along l D cA ga φ_54 H.size (ar 3 x1) h3x) (va_cwS 1 S.2.2.2.2 (gS tw_1070 tw_1071 tw_7 tw_1072) rfl rfl rfl (by decide +kernel) ⟨Nat.le_of_ble_eq_true rfl, Nat.le_of_ble_eq_true rfl⟩) (pre0_S hH hK hX hS hA) rfl rfl hl.1 rfl (lv_room (Nat.le_of_ble_eq_true rfl)) dX9_cycle_171 ⟨Nat.le_of_ble_eq_true rfl, Nat.le_of_ble_eq_true rfl⟩) hS (af_le hH hS hA) (fun v_69 φ_70 H locs hw_v_69 hH hS => ?_)
                                  obtain ⟨rfl, hqv_69⟩ := hw_v_69
                                  rw [hqv_69] at hH
                                  refine hv_call (pc := 174) (va_runS (As := [.int (nI (ar 5 (6 * x1 + i))), .int (nI (fAlo (ar 3 x1)))]) (rest := [.int (nI ((6 * x1) + i)), .ref (q 5)]) S (c_m_shrunk l D cA ga φ_54 H.size (ar 5 (6 * x1 + i)) (fAlo (ar 3 x1)) (by omega) (by omega)) (va_cwS 2 S.2.2.2.2 (gS tw_1067 tw_1068 tw_7 tw_1069) rfl rfl rfl (by decide +kernel) ⟨Nat.le_of_ble_eq_true rfl, Nat.le_of_ble_eq_true rfl⟩) (pre0_S hH hK hX hS hA) rfl rfl hl.1 rfl (lv_room (Nat.le_of_ble_eq_true rfl)) dX9_cycle_174 ⟨Nat.le_of_ble_eq_true rfl, Nat.le_of_ble_eq_true rfl⟩) hS (af_le hH hS hA) (fun v_71 φ_72 H locs hw_v_71 hH hS => ?_)
                                  obtain ⟨rfl, hqv_71⟩ := hw_v_71
                                  rw [hqv_71] at hH
                                  refine hv_ti (y := nI (shL (ar 3 x1) (ar 5 (6 * x1 + i)))) (rfl) ?_
                                  refine hv_iast (pc := 177) S hK hH hS 1 f_59 rfl (vp_in_nI (by omega) (by omega)) dX9_cycle_177 (fun H locs hH hS => ?_)
                                  rw [hv_upd (by omega), show va_up (pfy (ar 5) (6 * x1) (fun b => shL (ar 3 x1) (ar 5 (6 * x1 + b))) i) (6 * x1 + i) (shL (ar 3 x1) (ar 5 (6 * x1 + i))) = pfy (ar 5) (6 * x1) (fun b => shL (ar 3 x1) (ar 5 (6 * x1 + b))) (i + 1) from pfy_up (ar 5) (6 * x1) (fun b => shL (ar 3 x1) (ar 5 (6 * x1 + b))) i] at hH
                                  replace hH := nup (e := .inl (cA 1, 72, .inl (fun j => nI ((pfy (ar 5) (6 * x1) (fun b => shL (ar 3 x1) (ar 5 (6 * x1 + b))) (i + 1)) j)))) hH
                                  obtain ⟨φ_73, hφ_73, fa_φ_73, fr_φ_73, hH⟩ := hH
                                  have f_74 := fr_φ_73 _ _ (fun h => absurd (hq 0 5 (by omega) (by omega) h) (by omega)) f_55
                                  have f_75 := fr_φ_73 _ _ (fun h => absurd (hq 1 5 (by omega) (by omega) h) (by omega)) f_56
                                  have f_76 := fr_φ_73 _ _ (fun h => absurd (hq 2 5 (by omega) (by omega) h) (by omega)) f_57
                                  have f_77 := fr_φ_73 _ _ (fun h => absurd (hq 3 5 (by omega) (by omega) h) (by omega)) f_58
                                  have f_78 := fr_φ_73 _ _ (fun h => absurd (hq 6 5 (by omega) (by omega) h) (by omega)) f_60
                                  have f_79 := fr_φ_73 _ _ (fun h => absurd (hq 7 5 (by omega) (by omega) h) (by omega)) f_61
                                  have f_80 := fr_φ_73 _ _ (fun h => absurd (hq 8 5 (by omega) (by omega) h) (by omega)) f_62
                                  have f_81 := fr_φ_73 _ _ (fun h => absurd (hq 9 5 (by omega) (by omega) h) (by omega)) f_63
                                  have f_82 := fr_φ_73 _ _ (fun h => absurd (hq 10 5 (by omega) (by omega) h) (by omega)) f_64
                                  have f_83 := fr_φ_73 _ _ (fun h => absurd (hq 11 5 (by omega) (by omega) h) (by omega)) f_65
                                  have f_84 := fr_φ_73 _ _ (fun h => absurd (hq 12 5 (by omega) (by omega) h) (by omega)) f_66
                                  have f_85 := fr_φ_73 _ _ (fun h => absurd (hq 13 5 (by omega) (by omega) h) (by omega)) f_67
                                  have f_86 := fr_φ_73 _ _ (fun h => absurd (hq 14 5 (by omega) (by omega) h) (by omega)) f_68
                                  have f_87 := fr_φ_73 _ _ (fun h => absurd (hq 4 5 (by omega) (by omega) h) (by omega)) fa_φ_54
                                  refine lv_iinc (pc := 178) (v := nI (i + 1)) (lv' := [(6, .int (nI (i + 1))), (7, .int (nI ((6 * x1) + i))), (0, .ref (q 0)), (1, .int (nI x1)), (2, .int (nI z1)), (5, .int (nI (ar 3 x1)))]) S.1 S.2.1 dX9_cycle_178 hl (k := 5) rfl (by first | rfl | exact nI_add _ _) (by decide) rfl (fun ls hl => ?_)
                                  refine lv_goto (pc := 181) (tgt := 118) S.1 S.2.1 dX9_cycle_181 (by decide) ?_
                                  have hi2 : ((i + 1) + n = 6) ∧ φ_73 = ups (ups φ_16 (q 4) (.inl (cA 1, 72, .inl (fun j => nI ((pfy (ar 4) (6 * x1) (fun b => shA (ar 3 x1) (ar 4 (6 * x1 + b))) (i + 1)) j))))) (q 5) (.inl (cA 1, 72, .inl (fun j => nI ((pfy (ar 5) (6 * x1) (fun b => shL (ar 3 x1) (ar 5 (6 * x1 + b))) (i + 1)) j)))) ∧ hp D (Af φ sz) φ_73 H := ⟨by omega, by rw [hφ_73, hφ_54, hφk_33]; funext x; by_cases e5 : x = q 5 <;> by_cases e4 : x = q 4 <;> simp [ups, e5, e4], hH⟩
                                  have hl2 : lv_has ls 8 [(0, .ref (q 0)), (1, .int (nI x1)), (2, .int (nI z1)), (5, .int (nI (ar 3 x1))), (6, .int (nI (i + 1)))] := lv_sub hl [2, 3, 4, 5, 0] rfl
                                  apply ih (i := i + 1) (φk_33 := φ_73) <;> assumption
                              | zero =>
                                obtain ⟨hi, hφk_33, hH⟩ := hi
                                have f_88 : φk_33 (q 0) = some (.inr (13, [.int (nI (sc 0)), .long (Int64.ofNat (sc 1)), .int (nI (sc 2)), .ref (q 1), .ref (q 2), .int (nI (sc 3)), .ref (q 3), .ref (q 4), .ref (q 5), .ref (q 6), .ref (q 7), .ref (q 8), .ref (q 9), .int (nI (sc 4)), .ref (q 10), .ref (q 11), .int (nI (sc 5)), .ref (q 12), .ref (q 13), .ref (q 14), .int (nI (sc 6)), .int (nI 0)])) := by rw [hφk_33]; exact ups_n (fun h => absurd (hq 0 5 (by omega) (by omega) h) (by omega)) (ups_n (fun h => absurd (hq 0 4 (by omega) (by omega) h) (by omega)) (f_17))
                                have f_89 : φk_33 (q 1) = some (.inl (cA 1, 10, .inl (fun j => nI ((ar 1) j)))) := by rw [hφk_33]; exact ups_n (fun h => absurd (hq 1 5 (by omega) (by omega) h) (by omega)) (ups_n (fun h => absurd (hq 1 4 (by omega) (by omega) h) (by omega)) (f_18))
                                have f_90 : φk_33 (q 2) = some (.inl (cA 1, 10, .inl (fun j => nI ((ar 2) j)))) := by rw [hφk_33]; exact ups_n (fun h => absurd (hq 2 5 (by omega) (by omega) h) (by omega)) (ups_n (fun h => absurd (hq 2 4 (by omega) (by omega) h) (by omega)) (f_19))
                                have f_91 : φk_33 (q 3) = some (.inl (cA 1, 12, .inl (fun j => nI ((ar 3) j)))) := by rw [hφk_33]; exact ups_n (fun h => absurd (hq 3 5 (by omega) (by omega) h) (by omega)) (ups_n (fun h => absurd (hq 3 4 (by omega) (by omega) h) (by omega)) (f_20))
                                have f_92 : φk_33 (q 4) = some (.inl (cA 1, 72, .inl (fun j => nI ((pfy (ar 4) (6 * x1) (fun b => shA (ar 3 x1) (ar 4 (6 * x1 + b))) i) j)))) := by rw [hφk_33]; exact ups_n (fun h => absurd (hq 4 5 (by omega) (by omega) h) (by omega)) (ups_s _ _ _)
                                have f_93 : φk_33 (q 5) = some (.inl (cA 1, 72, .inl (fun j => nI ((pfy (ar 5) (6 * x1) (fun b => shL (ar 3 x1) (ar 5 (6 * x1 + b))) i) j)))) := by rw [hφk_33]; exact ups_s _ _ _
                                have f_94 : φk_33 (q 6) = some (.inl (cA 1, 72, .inl (fun j => nI ((ar 6) j)))) := by rw [hφk_33]; exact ups_n (fun h => absurd (hq 6 5 (by omega) (by omega) h) (by omega)) (ups_n (fun h => absurd (hq 6 4 (by omega) (by omega) h) (by omega)) (f_23))
                                have f_95 : φk_33 (q 7) = some (.inl (cA 1, 12, .inl (fun j => nI ((ar 7) j)))) := by rw [hφk_33]; exact ups_n (fun h => absurd (hq 7 5 (by omega) (by omega) h) (by omega)) (ups_n (fun h => absurd (hq 7 4 (by omega) (by omega) h) (by omega)) (f_24))
                                have f_96 : φk_33 (q 8) = some (.inl (cA 2, 12, .inl (fun j => nI ((ar 8) j)))) := by rw [hφk_33]; exact ups_n (fun h => absurd (hq 8 5 (by omega) (by omega) h) (by omega)) (ups_n (fun h => absurd (hq 8 4 (by omega) (by omega) h) (by omega)) (f_25))
                                have f_97 : φk_33 (q 9) = some (.inl (cA 2, 12, .inl (fun j => nI ((ar 9) j)))) := by rw [hφk_33]; exact ups_n (fun h => absurd (hq 9 5 (by omega) (by omega) h) (by omega)) (ups_n (fun h => absurd (hq 9 4 (by omega) (by omega) h) (by omega)) (f_26))
                                have f_98 : φk_33 (q 10) = some (.inl (cA 1, 8, .inl (fun j => nI ((ar 10) j)))) := by rw [hφk_33]; exact ups_n (fun h => absurd (hq 10 5 (by omega) (by omega) h) (by omega)) (ups_n (fun h => absurd (hq 10 4 (by omega) (by omega) h) (by omega)) (f_27))
                                have f_99 : φk_33 (q 11) = some (.inl (cA 1, 8, .inl (fun j => nI ((ar 11) j)))) := by rw [hφk_33]; exact ups_n (fun h => absurd (hq 11 5 (by omega) (by omega) h) (by omega)) (ups_n (fun h => absurd (hq 11 4 (by omega) (by omega) h) (by omega)) (f_28))
                                have f_100 : φk_33 (q 12) = some (.inl (cA 1, 6, .inl (fun j => nI ((ar 12) j)))) := by rw [hφk_33]; exact ups_n (fun h => absurd (hq 12 5 (by omega) (by omega) h) (by omega)) (ups_n (fun h => absurd (hq 12 4 (by omega) (by omega) h) (by omega)) (f_29))
                                have f_101 : φk_33 (q 13) = some (.inl (cA 1, 6, .inl (fun j => nI ((ar 13) j)))) := by rw [hφk_33]; exact ups_n (fun h => absurd (hq 13 5 (by omega) (by omega) h) (by omega)) (ups_n (fun h => absurd (hq 13 4 (by omega) (by omega) h) (by omega)) (f_30))
                                have f_102 : φk_33 (q 14) = some (.inl (cA 1, 8, .inl (fun j => nI ((ar 14) j)))) := by rw [hφk_33]; exact ups_n (fun h => absurd (hq 14 5 (by omega) (by omega) h) (by omega)) (ups_n (fun h => absurd (hq 14 4 (by omega) (by omega) h) (by omega)) (f_31))
                                obtain rfl : i = 6 := by omega
                                refine lv_iload (pc := 118) S.1 S.2.1 dX9_cycle_118 (lv_at hl 4 rfl) ?_
                                refine lv_bipush (pc := 120) (v := nI 6) S.1 S.2.1 dX9_cycle_120 (by decide) ?_
                                refine hv_icmp_ge (pc := 122) (tgt := 184) (a := 6) (b := 6) S.1 S.2.1 (by omega) (by omega) dX9_cycle_122 (by decide) (fun c_103 => ?_) (fun c_103 => ?_)
                                · skip
                                  refine lv_aload_n (pc := 184) S.1 S.2.1 dX9_cycle_184 rfl (lv_at hl 0 rfl) ?_
                                  refine hv_get (pc := 185) (C := RX9) (T := TX9) (N := 22) (ref := RX9) S uwX9 hK hH f_88 rfl 10 (by decide) tw_955 (fun _ h9 => h9) rfl dX9_cycle_185 ?_
                                  refine lv_iload_n (pc := 188) S.1 S.2.1 dX9_cycle_188 rfl (lv_at hl 1 rfl) ?_
                                  refine lv_dup2_11 (pc := 189) S.1 S.2.1 dX9_cycle_189 rfl rfl ?_
                                  refine hv_iald (pc := 190) S hK hH 1 f_95 rfl (vp_in_nI (by omega) (by omega)) dX9_cycle_190 ?_
                                  refine hv_ti (y := nI ((ar 7) x1)) (hv_ld (by omega)) ?_
                                  refine lv_iconst (pc := 191) (v := nI 1) S.1 S.2.1 dX9_cycle_191 (by decide) ?_
                                  refine lv_iadd (pc := 192) S.1 S.2.1 dX9_cycle_192 ?_
                                  refine hv_ti (y := nI (((ar 7) x1) + 1)) (nI_add _ _) ?_
                                  refine hv_iast (pc := 193) S hK hH hS 1 f_95 rfl (vp_in_nI (by omega) (by omega)) dX9_cycle_193 (fun H locs hH hS => ?_)
                                  rw [hv_upd (by omega)] at hH
                                  replace hH := nup (e := .inl (cA 1, 12, .inl (fun j => nI ((va_up (ar 7) x1 (ar 7 x1 + 1)) j)))) hH
                                  obtain ⟨φ_104, hφ_104, fa_φ_104, fr_φ_104, hH⟩ := hH
                                  have f_105 := fr_φ_104 _ _ (fun h => absurd (hq 0 7 (by omega) (by omega) h) (by omega)) f_88
                                  have f_106 := fr_φ_104 _ _ (fun h => absurd (hq 1 7 (by omega) (by omega) h) (by omega)) f_89
                                  have f_107 := fr_φ_104 _ _ (fun h => absurd (hq 2 7 (by omega) (by omega) h) (by omega)) f_90
                                  have f_108 := fr_φ_104 _ _ (fun h => absurd (hq 3 7 (by omega) (by omega) h) (by omega)) f_91
                                  have f_109 := fr_φ_104 _ _ (fun h => absurd (hq 4 7 (by omega) (by omega) h) (by omega)) f_92
                                  have f_110 := fr_φ_104 _ _ (fun h => absurd (hq 5 7 (by omega) (by omega) h) (by omega)) f_93
                                  have f_111 := fr_φ_104 _ _ (fun h => absurd (hq 6 7 (by omega) (by omega) h) (by omega)) f_94
                                  have f_112 := fr_φ_104 _ _ (fun h => absurd (hq 8 7 (by omega) (by omega) h) (by omega)) f_96
                                  have f_113 := fr_φ_104 _ _ (fun h => absurd (hq 9 7 (by omega) (by omega) h) (by omega)) f_97
                                  have f_114 := fr_φ_104 _ _ (fun h => absurd (hq 10 7 (by omega) (by omega) h) (by omega)) f_98
                                  have f_115 := fr_φ_104 _ _ (fun h => absurd (hq 11 7 (by omega) (by omega) h) (by omega)) f_99
                                  have f_116 := fr_φ_104 _ _ (fun h => absurd (hq 12 7 (by omega) (by omega) h) (by omega)) f_100
                                  have f_117 := fr_φ_104 _ _ (fun h => absurd (hq 13 7 (by omega) (by omega) h) (by omega)) f_101
                                  have f_118 := fr_φ_104 _ _ (fun h => absurd (hq 14 7 (by omega) (by omega) h) (by omega)) f_102
                                  refine lv_aload_n (pc := 194) S.1 S.2.1 dX9_cycle_194 rfl (lv_at hl 0 rfl) ?_
                                  refine hv_get (pc := 195) (C := RX9) (T := TX9) (N := 22) (ref := RX9) S uwX9 hK hH f_105 rfl 17 (by decide) tw_962 (fun _ h9 => h9) rfl dX9_cycle_195 ?_
                                  refine lv_iload_n (pc := 198) S.1 S.2.1 dX9_cycle_198 rfl (lv_at hl 2 rfl) ?_
                                  refine lv_dup2_11 (pc := 199) S.1 S.2.1 dX9_cycle_199 rfl rfl ?_
                                  refine hv_iald (pc := 200) S hK hH 1 f_116 rfl (vp_in_nI (by omega) (by omega)) dX9_cycle_200 ?_
                                  refine hv_ti (y := nI ((ar 12) z1)) (hv_ld (by omega)) ?_
                                  refine lv_iload (pc := 201) S.1 S.2.1 dX9_cycle_201 (lv_at hl 3 rfl) ?_
                                  refine hv_call (pc := 203) (va_runS (As := [.int (nI (ar 3 x1))]) (rest := [.int (nI ((ar 12) z1)), .int (nI z1), .ref (q 12)]) S (c_m_airOf l D cA ga φ_104 H.size (ar 3 x1) h3x) (va_cwS 1 S.2.2.2.2 (gS tw_1061 tw_1062 tw_7 tw_1063) rfl rfl rfl (by decide +kernel) ⟨Nat.le_of_ble_eq_true rfl, Nat.le_of_ble_eq_true rfl⟩) (pre0_S hH hK hX hS hA) rfl rfl hl.1 rfl (lv_room (Nat.le_of_ble_eq_true rfl)) dX9_cycle_203 ⟨Nat.le_of_ble_eq_true rfl, Nat.le_of_ble_eq_true rfl⟩) hS (af_le hH hS hA) (fun v_119 φ_120 H locs hw_v_119 hH hS => ?_)
                                  obtain ⟨rfl, hqv_119⟩ := hw_v_119
                                  rw [hqv_119] at hH
                                  refine lv_iadd (pc := 206) S.1 S.2.1 dX9_cycle_206 ?_
                                  refine hv_ti (y := nI (((ar 12) z1) + (fAir (ar 3 x1)))) (nI_add _ _) ?_
                                  refine hv_iast (pc := 207) S hK hH hS 1 f_116 rfl (vp_in_nI (by omega) (by omega)) dX9_cycle_207 (fun H locs hH hS => ?_)
                                  rw [hv_upd (by omega)] at hH
                                  replace hH := nup (e := .inl (cA 1, 6, .inl (fun j => nI ((va_up (ar 12) z1 (ar 12 z1 + fAir (ar 3 x1))) j)))) hH
                                  obtain ⟨φ_121, hφ_121, fa_φ_121, fr_φ_121, hH⟩ := hH
                                  have f_122 := fr_φ_121 _ _ (fun h => absurd (hq 0 12 (by omega) (by omega) h) (by omega)) f_105
                                  have f_123 := fr_φ_121 _ _ (fun h => absurd (hq 1 12 (by omega) (by omega) h) (by omega)) f_106
                                  have f_124 := fr_φ_121 _ _ (fun h => absurd (hq 2 12 (by omega) (by omega) h) (by omega)) f_107
                                  have f_125 := fr_φ_121 _ _ (fun h => absurd (hq 3 12 (by omega) (by omega) h) (by omega)) f_108
                                  have f_126 := fr_φ_121 _ _ (fun h => absurd (hq 4 12 (by omega) (by omega) h) (by omega)) f_109
                                  have f_127 := fr_φ_121 _ _ (fun h => absurd (hq 5 12 (by omega) (by omega) h) (by omega)) f_110
                                  have f_128 := fr_φ_121 _ _ (fun h => absurd (hq 6 12 (by omega) (by omega) h) (by omega)) f_111
                                  have f_129 := fr_φ_121 _ _ (fun h => absurd (hq 8 12 (by omega) (by omega) h) (by omega)) f_112
                                  have f_130 := fr_φ_121 _ _ (fun h => absurd (hq 9 12 (by omega) (by omega) h) (by omega)) f_113
                                  have f_131 := fr_φ_121 _ _ (fun h => absurd (hq 10 12 (by omega) (by omega) h) (by omega)) f_114
                                  have f_132 := fr_φ_121 _ _ (fun h => absurd (hq 11 12 (by omega) (by omega) h) (by omega)) f_115
                                  have f_133 := fr_φ_121 _ _ (fun h => absurd (hq 13 12 (by omega) (by omega) h) (by omega)) f_117
                                  have f_134 := fr_φ_121 _ _ (fun h => absurd (hq 14 12 (by omega) (by omega) h) (by omega)) f_118
                                  have f_135 := fr_φ_121 _ _ (fun h => absurd (hq 7 12 (by omega) (by omega) h) (by omega)) fa_φ_104
                                  refine lv_aload_n (pc := 208) S.1 S.2.1 dX9_cycle_208 rfl (lv_at hl 0 rfl) ?_
                                  refine hv_get (pc := 209) (C := RX9) (T := TX9) (N := 22) (ref := RX9) S uwX9 hK hH f_122 rfl 18 (by decide) tw_963 (fun _ h9 => h9) rfl dX9_cycle_209 ?_
                                  refine lv_iload_n (pc := 212) S.1 S.2.1 dX9_cycle_212 rfl (lv_at hl 2 rfl) ?_
                                  refine lv_dup2_11 (pc := 213) S.1 S.2.1 dX9_cycle_213 rfl rfl ?_
                                  refine hv_iald (pc := 214) S hK hH 1 f_133 rfl (vp_in_nI (by omega) (by omega)) dX9_cycle_214 ?_
                                  refine hv_ti (y := nI ((ar 13) z1)) (hv_ld (by omega)) ?_
                                  refine lv_iload (pc := 215) S.1 S.2.1 dX9_cycle_215 (lv_at hl 3 rfl) ?_
                                  refine hv_call (pc := 217) (va_runS (As := [.int (nI (ar 3 x1))]) (rest := [.int (nI ((ar 13) z1)), .int (nI z1), .ref (q 13)]) S (c_m_airOf l D cA ga φ_121 H.size (ar 3 x1) h3x) (va_cwS 1 S.2.2.2.2 (gS tw_1061 tw_1062 tw_7 tw_1063) rfl rfl rfl (by decide +kernel) ⟨Nat.le_of_ble_eq_true rfl, Nat.le_of_ble_eq_true rfl⟩) (pre0_S hH hK hX hS hA) rfl rfl hl.1 rfl (lv_room (Nat.le_of_ble_eq_true rfl)) dX9_cycle_217 ⟨Nat.le_of_ble_eq_true rfl, Nat.le_of_ble_eq_true rfl⟩) hS (af_le hH hS hA) (fun v_136 φ_137 H locs hw_v_136 hH hS => ?_)
                                  obtain ⟨rfl, hqv_136⟩ := hw_v_136
                                  rw [hqv_136] at hH
                                  refine lv_iadd (pc := 220) S.1 S.2.1 dX9_cycle_220 ?_
                                  refine hv_ti (y := nI (((ar 13) z1) + (fAir (ar 3 x1)))) (nI_add _ _) ?_
                                  refine hv_iast (pc := 221) S hK hH hS 1 f_133 rfl (vp_in_nI (by omega) (by omega)) dX9_cycle_221 (fun H locs hH hS => ?_)
                                  rw [hv_upd (by omega)] at hH
                                  replace hH := nup (e := .inl (cA 1, 6, .inl (fun j => nI ((va_up (ar 13) z1 (ar 13 z1 + fAir (ar 3 x1))) j)))) hH
                                  obtain ⟨φ_138, hφ_138, fa_φ_138, fr_φ_138, hH⟩ := hH
                                  have f_139 := fr_φ_138 _ _ (fun h => absurd (hq 0 13 (by omega) (by omega) h) (by omega)) f_122
                                  have f_140 := fr_φ_138 _ _ (fun h => absurd (hq 1 13 (by omega) (by omega) h) (by omega)) f_123
                                  have f_141 := fr_φ_138 _ _ (fun h => absurd (hq 2 13 (by omega) (by omega) h) (by omega)) f_124
                                  have f_142 := fr_φ_138 _ _ (fun h => absurd (hq 3 13 (by omega) (by omega) h) (by omega)) f_125
                                  have f_143 := fr_φ_138 _ _ (fun h => absurd (hq 4 13 (by omega) (by omega) h) (by omega)) f_126
                                  have f_144 := fr_φ_138 _ _ (fun h => absurd (hq 5 13 (by omega) (by omega) h) (by omega)) f_127
                                  have f_145 := fr_φ_138 _ _ (fun h => absurd (hq 6 13 (by omega) (by omega) h) (by omega)) f_128
                                  have f_146 := fr_φ_138 _ _ (fun h => absurd (hq 8 13 (by omega) (by omega) h) (by omega)) f_129
                                  have f_147 := fr_φ_138 _ _ (fun h => absurd (hq 9 13 (by omega) (by omega) h) (by omega)) f_130
                                  have f_148 := fr_φ_138 _ _ (fun h => absurd (hq 10 13 (by omega) (by omega) h) (by omega)) f_131
                                  have f_149 := fr_φ_138 _ _ (fun h => absurd (hq 11 13 (by omega) (by omega) h) (by omega)) f_132
                                  have f_150 := fr_φ_138 _ _ (fun h => absurd (hq 14 13 (by omega) (by omega) h) (by omega)) f_134
                                  have f_151 := fr_φ_138 _ _ (fun h => absurd (hq 7 13 (by omega) (by omega) h) (by omega)) f_135
                                  have f_152 := fr_φ_138 _ _ (fun h => absurd (hq 12 13 (by omega) (by omega) h) (by omega)) fa_φ_121
                                  refine lv_aload_n (pc := 222) S.1 S.2.1 dX9_cycle_222 rfl (lv_at hl 0 rfl) ?_
                                  refine hv_get (pc := 223) (C := RX9) (T := TX9) (N := 22) (ref := RX9) S uwX9 hK hH f_139 rfl 7 (by decide) tw_952 (fun _ h9 => h9) rfl dX9_cycle_223 ?_
                                  refine lv_bipush (pc := 226) (v := nI 6) S.1 S.2.1 dX9_cycle_226 (by decide) ?_
                                  refine lv_iload_n (pc := 228) S.1 S.2.1 dX9_cycle_228 rfl (lv_at hl 1 rfl) ?_
                                  refine lv_imul (pc := 229) S.1 S.2.1 dX9_cycle_229 ?_
                                  refine hv_ti (y := nI (6 * x1)) (pk_mul _ _) ?_
                                  refine hv_iald (pc := 230) S hK hH 1 f_143 rfl (vp_in_nI (by omega) (by omega)) dX9_cycle_230 ?_
                                  refine hv_ti (y := nI ((pfy (ar 4) (6 * x1) (fun b => shA (ar 3 x1) (ar 4 (6 * x1 + b))) 6) (6 * x1))) (hv_ld (by omega)) ?_
                                  refine hv_ti (y := nI (shA (ar 3 x1) (ar 4 (6 * x1)))) (by rw [show pfy (ar 4) (6 * x1) (fun b => shA (ar 3 x1) (ar 4 (6 * x1 + b))) 6 (6 * x1) = shA (ar 3 x1) (ar 4 (6 * x1)) from pfy_in (j := 0) (by omega)]) ?_
                                  exact hv_ret (pc := 231) (v := nI (shA (ar 3 x1) (ar 4 (6 * x1)))) S hr rfl hlocks hH hS (by rw [if_pos eX]; exact ⟨x1, z1, rfl, rfl, hxn, hzn, ha, hd, hc, rfl, ⟨f_139, f_140, f_141, f_142, f_143, f_144, f_145, f_151, f_146, f_147, f_148, f_149, f_152, fa_φ_138, f_150⟩⟩) (Nat.le_of_ble_eq_true rfl) (Nat.le_of_ble_eq_true rfl) dX9_cycle_231
                                · skip
                                  exact absurd c_103 (by omega)
                            · skip
                              exact absurd c_32 (by omega)
                        · skip
                          exact absurd c_13 (by omega)
                    · skip
                      refine hv_icmp_ge (pc := 70) (tgt := 77) (a := (ar 7) x1) (b := 12) S.1 S.2.1 (by omega) (by omega) dX9_cycle_70 (by decide) (fun c_153 => ?_) (fun c_153 => ?_)
                      · skip
                        refine lv_iconst (pc := 77) (v := nI 0) S.1 S.2.1 dX9_cycle_77 (by decide) ?_
                        refine lv_istore (pc := 78) (lv' := [(4, .int (nI 0)), (3, .int (nI 1)), (0, .ref (q 0)), (1, .int (nI x1)), (2, .int (nI z1))]) S.1 S.2.1 dX9_cycle_78 hl (by decide) rfl (fun ls hl => ?_)
                        refine lv_aload_n (pc := 80) S.1 S.2.1 dX9_cycle_80 rfl (lv_at hl 2 rfl) ?_
                        refine lv_iload_n (pc := 81) S.1 S.2.1 dX9_cycle_81 rfl (lv_at hl 1 rfl) ?_
                        refine hv_if_ne (pc := 82) (tgt := 89) (a := 1) S.1 S.2.1 (by omega) dX9_cycle_82 (by decide) (fun c_154 => ?_) (fun c_154 => ?_)
                        · skip
                          refine lv_iload (pc := 89) S.1 S.2.1 dX9_cycle_89 (lv_at hl 0 rfl) ?_
                          refine hv_if_eq (pc := 91) (tgt := 98) (a := 0) S.1 S.2.1 (by omega) dX9_cycle_91 (by decide) (fun c_155 => ?_) (fun c_155 => ?_)
                          · skip
                            refine lv_iconst (pc := 98) (v := nI 2) S.1 S.2.1 dX9_cycle_98 (by decide) ?_
                            have eX : cycleX (sc 3) (sc 5) (ar 3) (ar 7) (ar 12) (ar 8) (nI x1) (nI z1) = 2 := by rw [cycleX, if_pos hx, if_pos hz, nx_nI hx31, nx_nI hz31, if_pos ha, if_pos hd, if_neg hc]
                            refine hv_call (pc := 99) (va_runV (As := [.int (nI 2)]) (rest := []) S (c_m_goes l D cA ga φ H.size q sc ar (2) ⟨f0, f1, f2, f3, f4, f5, f6, f7, f8, f9, f10, f11, f12, f13, f14⟩ hq (by omega)) (cwV 1 S.2.2.2.2 (gV tw_1021 tw_1023 sw_32 tw_7 tw_1024) rfl rfl rfl (by decide +kernel) ⟨Nat.le_of_ble_eq_true rfl, Nat.le_of_ble_eq_true rfl⟩) (pre0_V hH hK hX hS hA (hH.recv hK f0 rfl)) rfl rfl hl.1 rfl (lv_room (Nat.le_of_ble_eq_true rfl)) dX9_cycle_99 ⟨Nat.le_of_ble_eq_true rfl, Nat.le_of_ble_eq_true rfl⟩) hS (af_le hH hS hA) (fun v_156 φ_157 H locs hw_v_156 hH hS => ?_)
                            obtain ⟨rfl, hm9⟩ := hw_v_156
                            obtain ⟨f_158, f_159, f_160, f_161, f_162, f_163, f_164, f_165, f_166, f_167, f_168, f_169, f_170, f_171, f_172⟩ := hm9
                            change φ_157 (q 0) = some (.inr (13, [.int (nI (sc 0)), .long (Int64.ofNat (sc 1)), .int (nI (sc 2)), .ref (q 1), .ref (q 2), .int (nI (sc 3)), .ref (q 3), .ref (q 4), .ref (q 5), .ref (q 6), .ref (q 7), .ref (q 8), .ref (q 9), .int (nI (sc 4)), .ref (q 10), .ref (q 11), .int (nI (sc 5)), .ref (q 12), .ref (q 13), .ref (q 14), .int (nI (sc 6)), .int (nI 2)])) at f_158
                            refine hv_ti (y := nI 0) (rfl) ?_
                            refine hv_if_ne (pc := 102) (tgt := 107) (a := 0) S.1 S.2.1 (by omega) dX9_cycle_102 (by decide) (fun c_173 => ?_) (fun c_173 => ?_)
                            · skip
                              exact absurd c_173 (by omega)
                            · skip
                              refine lv_iconst (pc := 105) (v := nI 0) S.1 S.2.1 dX9_cycle_105 (by decide) ?_
                              exact hv_ret (pc := 106) (v := nI 0) S hr rfl hlocks hH hS (by rw [if_neg (by rw [eX]; decide), eX]; exact ⟨rfl, ⟨f_158, f_159, f_160, f_161, f_162, f_163, f_164, f_165, f_166, f_167, f_168, f_169, f_170, f_171, f_172⟩⟩) (Nat.le_of_ble_eq_true rfl) (Nat.le_of_ble_eq_true rfl) dX9_cycle_106
                          · skip
                            exact absurd c_155 (by omega)
                        · skip
                          exact absurd c_154 (by omega)
                      · skip
                        exact absurd c_153 (by omega)
                · skip
                  refine hv_if_ne (pc := 59) (tgt := 77) (a := (ar 8) x1) S.1 S.2.1 (by omega) dX9_cycle_59 (by decide) (fun c_174 => ?_) (fun c_174 => ?_)
                  · skip
                    refine lv_iconst (pc := 77) (v := nI 0) S.1 S.2.1 dX9_cycle_77 (by decide) ?_
                    refine lv_istore (pc := 78) (lv' := [(4, .int (nI 0)), (3, .int (nI 1)), (0, .ref (q 0)), (1, .int (nI x1)), (2, .int (nI z1))]) S.1 S.2.1 dX9_cycle_78 hl (by decide) rfl (fun ls hl => ?_)
                    refine lv_aload_n (pc := 80) S.1 S.2.1 dX9_cycle_80 rfl (lv_at hl 2 rfl) ?_
                    refine lv_iload_n (pc := 81) S.1 S.2.1 dX9_cycle_81 rfl (lv_at hl 1 rfl) ?_
                    refine hv_if_ne (pc := 82) (tgt := 89) (a := 1) S.1 S.2.1 (by omega) dX9_cycle_82 (by decide) (fun c_175 => ?_) (fun c_175 => ?_)
                    · skip
                      refine lv_iload (pc := 89) S.1 S.2.1 dX9_cycle_89 (lv_at hl 0 rfl) ?_
                      refine hv_if_eq (pc := 91) (tgt := 98) (a := 0) S.1 S.2.1 (by omega) dX9_cycle_91 (by decide) (fun c_176 => ?_) (fun c_176 => ?_)
                      · skip
                        refine lv_iconst (pc := 98) (v := nI 2) S.1 S.2.1 dX9_cycle_98 (by decide) ?_
                        have eX : cycleX (sc 3) (sc 5) (ar 3) (ar 7) (ar 12) (ar 8) (nI x1) (nI z1) = 2 := by rw [cycleX, if_pos hx, if_pos hz, nx_nI hx31, nx_nI hz31, if_pos ha, if_neg hd]
                        refine hv_call (pc := 99) (va_runV (As := [.int (nI 2)]) (rest := []) S (c_m_goes l D cA ga φ H.size q sc ar (2) ⟨f0, f1, f2, f3, f4, f5, f6, f7, f8, f9, f10, f11, f12, f13, f14⟩ hq (by omega)) (cwV 1 S.2.2.2.2 (gV tw_1021 tw_1023 sw_32 tw_7 tw_1024) rfl rfl rfl (by decide +kernel) ⟨Nat.le_of_ble_eq_true rfl, Nat.le_of_ble_eq_true rfl⟩) (pre0_V hH hK hX hS hA (hH.recv hK f0 rfl)) rfl rfl hl.1 rfl (lv_room (Nat.le_of_ble_eq_true rfl)) dX9_cycle_99 ⟨Nat.le_of_ble_eq_true rfl, Nat.le_of_ble_eq_true rfl⟩) hS (af_le hH hS hA) (fun v_177 φ_178 H locs hw_v_177 hH hS => ?_)
                        obtain ⟨rfl, hm9⟩ := hw_v_177
                        obtain ⟨f_179, f_180, f_181, f_182, f_183, f_184, f_185, f_186, f_187, f_188, f_189, f_190, f_191, f_192, f_193⟩ := hm9
                        change φ_178 (q 0) = some (.inr (13, [.int (nI (sc 0)), .long (Int64.ofNat (sc 1)), .int (nI (sc 2)), .ref (q 1), .ref (q 2), .int (nI (sc 3)), .ref (q 3), .ref (q 4), .ref (q 5), .ref (q 6), .ref (q 7), .ref (q 8), .ref (q 9), .int (nI (sc 4)), .ref (q 10), .ref (q 11), .int (nI (sc 5)), .ref (q 12), .ref (q 13), .ref (q 14), .int (nI (sc 6)), .int (nI 2)])) at f_179
                        refine hv_ti (y := nI 0) (rfl) ?_
                        refine hv_if_ne (pc := 102) (tgt := 107) (a := 0) S.1 S.2.1 (by omega) dX9_cycle_102 (by decide) (fun c_194 => ?_) (fun c_194 => ?_)
                        · skip
                          exact absurd c_194 (by omega)
                        · skip
                          refine lv_iconst (pc := 105) (v := nI 0) S.1 S.2.1 dX9_cycle_105 (by decide) ?_
                          exact hv_ret (pc := 106) (v := nI 0) S hr rfl hlocks hH hS (by rw [if_neg (by rw [eX]; decide), eX]; exact ⟨rfl, ⟨f_179, f_180, f_181, f_182, f_183, f_184, f_185, f_186, f_187, f_188, f_189, f_190, f_191, f_192, f_193⟩⟩) (Nat.le_of_ble_eq_true rfl) (Nat.le_of_ble_eq_true rfl) dX9_cycle_106
                      · skip
                        exact absurd c_176 (by omega)
                    · skip
                      exact absurd c_175 (by omega)
                  · skip
                    exact absurd c_174 (by omega)
            · skip
              refine hv_icmp_gt (pc := 50) (tgt := 77) (a := ((ar 12) z1) + (fAir (ar 3 x1))) (b := 30) S.1 S.2.1 (by omega) (by omega) dX9_cycle_50 (by decide) (fun c_195 => ?_) (fun c_195 => ?_)
              · skip
                refine lv_iconst (pc := 77) (v := nI 0) S.1 S.2.1 dX9_cycle_77 (by decide) ?_
                refine lv_istore (pc := 78) (lv' := [(4, .int (nI 0)), (3, .int (nI 1)), (0, .ref (q 0)), (1, .int (nI x1)), (2, .int (nI z1))]) S.1 S.2.1 dX9_cycle_78 hl (by decide) rfl (fun ls hl => ?_)
                refine lv_aload_n (pc := 80) S.1 S.2.1 dX9_cycle_80 rfl (lv_at hl 2 rfl) ?_
                refine lv_iload_n (pc := 81) S.1 S.2.1 dX9_cycle_81 rfl (lv_at hl 1 rfl) ?_
                refine hv_if_ne (pc := 82) (tgt := 89) (a := 1) S.1 S.2.1 (by omega) dX9_cycle_82 (by decide) (fun c_196 => ?_) (fun c_196 => ?_)
                · skip
                  refine lv_iload (pc := 89) S.1 S.2.1 dX9_cycle_89 (lv_at hl 0 rfl) ?_
                  refine hv_if_eq (pc := 91) (tgt := 98) (a := 0) S.1 S.2.1 (by omega) dX9_cycle_91 (by decide) (fun c_197 => ?_) (fun c_197 => ?_)
                  · skip
                    refine lv_iconst (pc := 98) (v := nI 2) S.1 S.2.1 dX9_cycle_98 (by decide) ?_
                    have eX : cycleX (sc 3) (sc 5) (ar 3) (ar 7) (ar 12) (ar 8) (nI x1) (nI z1) = 2 := by rw [cycleX, if_pos hx, if_pos hz, nx_nI hx31, nx_nI hz31, if_neg ha]
                    refine hv_call (pc := 99) (va_runV (As := [.int (nI 2)]) (rest := []) S (c_m_goes l D cA ga φ H.size q sc ar (2) ⟨f0, f1, f2, f3, f4, f5, f6, f7, f8, f9, f10, f11, f12, f13, f14⟩ hq (by omega)) (cwV 1 S.2.2.2.2 (gV tw_1021 tw_1023 sw_32 tw_7 tw_1024) rfl rfl rfl (by decide +kernel) ⟨Nat.le_of_ble_eq_true rfl, Nat.le_of_ble_eq_true rfl⟩) (pre0_V hH hK hX hS hA (hH.recv hK f0 rfl)) rfl rfl hl.1 rfl (lv_room (Nat.le_of_ble_eq_true rfl)) dX9_cycle_99 ⟨Nat.le_of_ble_eq_true rfl, Nat.le_of_ble_eq_true rfl⟩) hS (af_le hH hS hA) (fun v_198 φ_199 H locs hw_v_198 hH hS => ?_)
                    obtain ⟨rfl, hm9⟩ := hw_v_198
                    obtain ⟨f_200, f_201, f_202, f_203, f_204, f_205, f_206, f_207, f_208, f_209, f_210, f_211, f_212, f_213, f_214⟩ := hm9
                    change φ_199 (q 0) = some (.inr (13, [.int (nI (sc 0)), .long (Int64.ofNat (sc 1)), .int (nI (sc 2)), .ref (q 1), .ref (q 2), .int (nI (sc 3)), .ref (q 3), .ref (q 4), .ref (q 5), .ref (q 6), .ref (q 7), .ref (q 8), .ref (q 9), .int (nI (sc 4)), .ref (q 10), .ref (q 11), .int (nI (sc 5)), .ref (q 12), .ref (q 13), .ref (q 14), .int (nI (sc 6)), .int (nI 2)])) at f_200
                    refine hv_ti (y := nI 0) (rfl) ?_
                    refine hv_if_ne (pc := 102) (tgt := 107) (a := 0) S.1 S.2.1 (by omega) dX9_cycle_102 (by decide) (fun c_215 => ?_) (fun c_215 => ?_)
                    · skip
                      exact absurd c_215 (by omega)
                    · skip
                      refine lv_iconst (pc := 105) (v := nI 0) S.1 S.2.1 dX9_cycle_105 (by decide) ?_
                      exact hv_ret (pc := 106) (v := nI 0) S hr rfl hlocks hH hS (by rw [if_neg (by rw [eX]; decide), eX]; exact ⟨rfl, ⟨f_200, f_201, f_202, f_203, f_204, f_205, f_206, f_207, f_208, f_209, f_210, f_211, f_212, f_213, f_214⟩⟩) (Nat.le_of_ble_eq_true rfl) (Nat.le_of_ble_eq_true rfl) dX9_cycle_106
                  · skip
                    exact absurd c_197 (by omega)
                · skip
                  exact absurd c_196 (by omega)
              · skip
                exact absurd c_195 (by omega)
      · skip
        refine hv_call (pc := 16) (va_runS (As := [.int (z), .int (nI 0), .int (nI (sc 5) - nI 1)]) (rest := []) S (c_isIn l D cA ga φ H.size z (nI 0) (nI (sc 5) - nI 1)) (va_cwS 3 S.2.2.2.2 (gS tw_1031 tw_1032 tw_7 tw_1033) rfl rfl rfl (by decide +kernel) ⟨Nat.le_of_ble_eq_true rfl, Nat.le_of_ble_eq_true rfl⟩) (pre0_S hH hK hX hS hA) rfl rfl hl.1 rfl (lv_room (Nat.le_of_ble_eq_true rfl)) dX9_cycle_16 ⟨Nat.le_of_ble_eq_true rfl, Nat.le_of_ble_eq_true rfl⟩) hS (af_le hH hS hA) (fun v_216 φ_217 H locs hw_v_216 hH hS => ?_)
        obtain ⟨rfl, hqv_216⟩ := hw_v_216
        rw [hqv_216] at hH
        refine hv_ti (y := nI 0) (by rw [inB_N (by omega), if_neg hz]) ?_
        refine hv_if_eq (pc := 19) (tgt := 26) (a := 0) S.1 S.2.1 (by omega) dX9_cycle_19 (by decide) (fun c_218 => ?_) (fun c_218 => ?_)
        · skip
          refine lv_iconst (pc := 26) (v := nI 0) S.1 S.2.1 dX9_cycle_26 (by decide) ?_
          refine lv_istore_n (pc := 27) (lv' := [(3, .int (nI 0)), (0, .ref (q 0)), (1, .int (nI x1)), (2, .int (z))]) S.1 S.2.1 dX9_cycle_27 rfl hl (by decide) rfl (fun ls hl => ?_)
          refine lv_iload_n (pc := 28) S.1 S.2.1 dX9_cycle_28 rfl (lv_at hl 0 rfl) ?_
          refine hv_if_eq (pc := 29) (tgt := 77) (a := 0) S.1 S.2.1 (by omega) dX9_cycle_29 (by decide) (fun c_219 => ?_) (fun c_219 => ?_)
          · skip
            refine lv_iconst (pc := 77) (v := nI 0) S.1 S.2.1 dX9_cycle_77 (by decide) ?_
            refine lv_istore (pc := 78) (lv' := [(4, .int (nI 0)), (3, .int (nI 0)), (0, .ref (q 0)), (1, .int (nI x1)), (2, .int (z))]) S.1 S.2.1 dX9_cycle_78 hl (by decide) rfl (fun ls hl => ?_)
            refine lv_aload_n (pc := 80) S.1 S.2.1 dX9_cycle_80 rfl (lv_at hl 2 rfl) ?_
            refine lv_iload_n (pc := 81) S.1 S.2.1 dX9_cycle_81 rfl (lv_at hl 1 rfl) ?_
            refine hv_if_ne (pc := 82) (tgt := 89) (a := 0) S.1 S.2.1 (by omega) dX9_cycle_82 (by decide) (fun c_220 => ?_) (fun c_220 => ?_)
            · skip
              exact absurd c_220 (by omega)
            · skip
              refine lv_iconst (pc := 85) (v := nI 1) S.1 S.2.1 dX9_cycle_85 (by decide) ?_
              refine lv_goto (pc := 86) (tgt := 99) S.1 S.2.1 dX9_cycle_86 (by decide) ?_
              have eX : cycleX (sc 3) (sc 5) (ar 3) (ar 7) (ar 12) (ar 8) (nI x1) z = 3 := by rw [cycleX, if_pos hx, if_neg hz]
              refine hv_call (pc := 99) (va_runV (As := [.int (nI 1)]) (rest := []) S (c_m_goes l D cA ga φ H.size q sc ar (1) ⟨f0, f1, f2, f3, f4, f5, f6, f7, f8, f9, f10, f11, f12, f13, f14⟩ hq (by omega)) (cwV 1 S.2.2.2.2 (gV tw_1021 tw_1023 sw_32 tw_7 tw_1024) rfl rfl rfl (by decide +kernel) ⟨Nat.le_of_ble_eq_true rfl, Nat.le_of_ble_eq_true rfl⟩) (pre0_V hH hK hX hS hA (hH.recv hK f0 rfl)) rfl rfl hl.1 rfl (lv_room (Nat.le_of_ble_eq_true rfl)) dX9_cycle_99 ⟨Nat.le_of_ble_eq_true rfl, Nat.le_of_ble_eq_true rfl⟩) hS (af_le hH hS hA) (fun v_221 φ_222 H locs hw_v_221 hH hS => ?_)
              obtain ⟨rfl, hm9⟩ := hw_v_221
              obtain ⟨f_223, f_224, f_225, f_226, f_227, f_228, f_229, f_230, f_231, f_232, f_233, f_234, f_235, f_236, f_237⟩ := hm9
              change φ_222 (q 0) = some (.inr (13, [.int (nI (sc 0)), .long (Int64.ofNat (sc 1)), .int (nI (sc 2)), .ref (q 1), .ref (q 2), .int (nI (sc 3)), .ref (q 3), .ref (q 4), .ref (q 5), .ref (q 6), .ref (q 7), .ref (q 8), .ref (q 9), .int (nI (sc 4)), .ref (q 10), .ref (q 11), .int (nI (sc 5)), .ref (q 12), .ref (q 13), .ref (q 14), .int (nI (sc 6)), .int (nI 1)])) at f_223
              refine hv_ti (y := nI 0) (rfl) ?_
              refine hv_if_ne (pc := 102) (tgt := 107) (a := 0) S.1 S.2.1 (by omega) dX9_cycle_102 (by decide) (fun c_238 => ?_) (fun c_238 => ?_)
              · skip
                exact absurd c_238 (by omega)
              · skip
                refine lv_iconst (pc := 105) (v := nI 0) S.1 S.2.1 dX9_cycle_105 (by decide) ?_
                exact hv_ret (pc := 106) (v := nI 0) S hr rfl hlocks hH hS (by rw [if_neg (by rw [eX]; decide), eX]; exact ⟨rfl, ⟨f_223, f_224, f_225, f_226, f_227, f_228, f_229, f_230, f_231, f_232, f_233, f_234, f_235, f_236, f_237⟩⟩) (Nat.le_of_ble_eq_true rfl) (Nat.le_of_ble_eq_true rfl) dX9_cycle_106
          · skip
            exact absurd c_219 (by omega)
        · skip
          exact absurd c_218 (by omega)
  · skip
    refine hv_call (pc := 2) (va_runV (As := [.int (x)]) (rest := []) S (c_m_isCone l D cA ga φ H.size q sc ar x ⟨f0, f1, f2, f3, f4, f5, f6, f7, f8, f9, f10, f11, f12, f13, f14⟩ hq hnc) (cwV 1 S.2.2.2.2 (gV tw_1057 tw_1059 sw_35 tw_7 tw_1060) rfl rfl rfl (by decide +kernel) ⟨Nat.le_of_ble_eq_true rfl, Nat.le_of_ble_eq_true rfl⟩) (pre0_V hH hK hX hS hA (hH.recv hK f0 rfl)) rfl rfl hl.1 rfl (lv_room (Nat.le_of_ble_eq_true rfl)) dX9_cycle_2 ⟨Nat.le_of_ble_eq_true rfl, Nat.le_of_ble_eq_true rfl⟩) hS (af_le hH hS hA) (fun v_239 φ_240 H locs hw_v_239 hH hS => ?_)
    obtain ⟨rfl, hqv_239⟩ := hw_v_239
    rw [hqv_239] at hH
    refine hv_ti (y := nI 0) (by rw [if_neg hx]) ?_
    refine hv_if_eq (pc := 5) (tgt := 26) (a := 0) S.1 S.2.1 (by omega) dX9_cycle_5 (by decide) (fun c_241 => ?_) (fun c_241 => ?_)
    · skip
      refine lv_iconst (pc := 26) (v := nI 0) S.1 S.2.1 dX9_cycle_26 (by decide) ?_
      refine lv_istore_n (pc := 27) (lv' := [(3, .int (nI 0)), (0, .ref (q 0)), (1, .int (x)), (2, .int (z))]) S.1 S.2.1 dX9_cycle_27 rfl hl (by decide) rfl (fun ls hl => ?_)
      refine lv_iload_n (pc := 28) S.1 S.2.1 dX9_cycle_28 rfl (lv_at hl 0 rfl) ?_
      refine hv_if_eq (pc := 29) (tgt := 77) (a := 0) S.1 S.2.1 (by omega) dX9_cycle_29 (by decide) (fun c_242 => ?_) (fun c_242 => ?_)
      · skip
        refine lv_iconst (pc := 77) (v := nI 0) S.1 S.2.1 dX9_cycle_77 (by decide) ?_
        refine lv_istore (pc := 78) (lv' := [(4, .int (nI 0)), (3, .int (nI 0)), (0, .ref (q 0)), (1, .int (x)), (2, .int (z))]) S.1 S.2.1 dX9_cycle_78 hl (by decide) rfl (fun ls hl => ?_)
        refine lv_aload_n (pc := 80) S.1 S.2.1 dX9_cycle_80 rfl (lv_at hl 2 rfl) ?_
        refine lv_iload_n (pc := 81) S.1 S.2.1 dX9_cycle_81 rfl (lv_at hl 1 rfl) ?_
        refine hv_if_ne (pc := 82) (tgt := 89) (a := 0) S.1 S.2.1 (by omega) dX9_cycle_82 (by decide) (fun c_243 => ?_) (fun c_243 => ?_)
        · skip
          exact absurd c_243 (by omega)
        · skip
          refine lv_iconst (pc := 85) (v := nI 1) S.1 S.2.1 dX9_cycle_85 (by decide) ?_
          refine lv_goto (pc := 86) (tgt := 99) S.1 S.2.1 dX9_cycle_86 (by decide) ?_
          have eX : cycleX (sc 3) (sc 5) (ar 3) (ar 7) (ar 12) (ar 8) x z = 3 := by rw [cycleX, if_neg hx]
          refine hv_call (pc := 99) (va_runV (As := [.int (nI 1)]) (rest := []) S (c_m_goes l D cA ga φ H.size q sc ar (1) ⟨f0, f1, f2, f3, f4, f5, f6, f7, f8, f9, f10, f11, f12, f13, f14⟩ hq (by omega)) (cwV 1 S.2.2.2.2 (gV tw_1021 tw_1023 sw_32 tw_7 tw_1024) rfl rfl rfl (by decide +kernel) ⟨Nat.le_of_ble_eq_true rfl, Nat.le_of_ble_eq_true rfl⟩) (pre0_V hH hK hX hS hA (hH.recv hK f0 rfl)) rfl rfl hl.1 rfl (lv_room (Nat.le_of_ble_eq_true rfl)) dX9_cycle_99 ⟨Nat.le_of_ble_eq_true rfl, Nat.le_of_ble_eq_true rfl⟩) hS (af_le hH hS hA) (fun v_244 φ_245 H locs hw_v_244 hH hS => ?_)
          obtain ⟨rfl, hm9⟩ := hw_v_244
          obtain ⟨f_246, f_247, f_248, f_249, f_250, f_251, f_252, f_253, f_254, f_255, f_256, f_257, f_258, f_259, f_260⟩ := hm9
          change φ_245 (q 0) = some (.inr (13, [.int (nI (sc 0)), .long (Int64.ofNat (sc 1)), .int (nI (sc 2)), .ref (q 1), .ref (q 2), .int (nI (sc 3)), .ref (q 3), .ref (q 4), .ref (q 5), .ref (q 6), .ref (q 7), .ref (q 8), .ref (q 9), .int (nI (sc 4)), .ref (q 10), .ref (q 11), .int (nI (sc 5)), .ref (q 12), .ref (q 13), .ref (q 14), .int (nI (sc 6)), .int (nI 1)])) at f_246
          refine hv_ti (y := nI 0) (rfl) ?_
          refine hv_if_ne (pc := 102) (tgt := 107) (a := 0) S.1 S.2.1 (by omega) dX9_cycle_102 (by decide) (fun c_261 => ?_) (fun c_261 => ?_)
          · skip
            exact absurd c_261 (by omega)
          · skip
            refine lv_iconst (pc := 105) (v := nI 0) S.1 S.2.1 dX9_cycle_105 (by decide) ?_
            exact hv_ret (pc := 106) (v := nI 0) S hr rfl hlocks hH hS (by rw [if_neg (by rw [eX]; decide), eX]; exact ⟨rfl, ⟨f_246, f_247, f_248, f_249, f_250, f_251, f_252, f_253, f_254, f_255, f_256, f_257, f_258, f_259, f_260⟩⟩) (Nat.le_of_ble_eq_true rfl) (Nat.le_of_ble_eq_true rfl) dX9_cycle_106
      · skip
        exact absurd c_242 (by omega)
    · skip
      exact absurd c_241 (by omega)

theorem nodup_at {l : List Nat} (h : l.Nodup) (i j : Nat) (hi : i < l.length) (hj : j < l.length) (e : l.getD i 0 = l.getD j 0) : i = j := by
  rw [List.getD_eq_getElem?_getD, List.getD_eq_getElem?_getD, List.getElem?_eq_getElem hi, List.getElem?_eq_getElem hj] at e
  have e2 := Option.some.inj (show some l[i] = some l[j] from congrArg some e)
  exact (List.getElem_inj h).mp e2
set_option maxHeartbeats 4000000 in
set_option maxRecDepth 100000 in
/-- HatbandYardModel() -/
theorem c_m_init (l : Launch) (D : va_G) (cA : Nat → ClassId) (ga : Nat → Nat → Nat) (φ : hpM) (sz : Nat) (y : Nat) (f0 : φ y = some (.inr (13, [.int (nI 0), .long (0), .int (nI 0), .null, .null, .int (nI 0), .null, .null, .null, .null, .null, .null, .null, .int (nI 0), .null, .null, .int (nI 0), .null, .null, .null, .int (nI 0), .int (nI 0)]))) : hM l yX9_init cX9_init 1 none { frames := 8, cells := 14, slots := 333, locals := 200 } [.ref y] D cA ga φ sz (fun v φ' => v = none ∧ ∃ q : Nat → Nat, q 0 = y ∧ (∀ i j, i < 15 → j < 15 → q i = q j → i = j) ∧ MP cA q (fun _ => 0) (fun _ _ => 0) φ') 14 333 := by
  refine hM.of (by decide) (Nat.le_of_ble_eq_true rfl) rfl ?_
  intro p e s m args below meth c ls H locs S hr hlocks hnm hsz hHz hH hK hX hS hA hl
  refine lv_aload_n (pc := 0) S.1 S.2.1 dX9_init_0 rfl (lv_at hl 0 rfl) ?_
  refine W.objInit S.1 S.2.1 S.2.2.2.1 (S.2.2.2.2 _ tw_944) (S.2.2.2.2 _ tw_36) (S.2.2.2.2 _ tw_37) rfl (by rw [S.2.2.1]; exact hl.1) rfl dX9_init_1 (Nat.le_of_ble_eq_true rfl) (Nat.le_of_ble_eq_true rfl) ?_
  refine W.eq (g2 := F0 m 4 ls []) rfl ?_
  refine lv_aload_n (pc := 4) S.1 S.2.1 dX9_init_4 rfl (lv_at hl 0 rfl) ?_
  refine lv_bipush (pc := 5) (v := nI 10) S.1 S.2.1 dX9_init_5 (by decide) ?_
  have np_0 : List.Nodup [y] := List.nodup_cons.mpr ⟨List.not_mem_nil, List.nodup_nil⟩
  refine hv_newa (pc := 7) (atype := .int) (a0 := (10, .inl (fun j => nI (zr j)))) (N' := 10) S tw_89 (ty := .int) rfl hK 1 rfl hH hS hA (fun _ => rfl) (by decide) (by decide) (Nat.le_of_ble_eq_true rfl) (Nat.le_of_ble_eq_true rfl) (Nat.le_of_ble_eq_true rfl) dX9_init_7 (fun q_1 H hq_q_1 hH hS => ?_)
  replace hH := nup (e := .inl (cA 1, 10, .inl (fun j => nI (zr j)))) hH
  obtain ⟨φ_2, hφ_2, fa_φ_2, fr_φ_2, hH⟩ := hH
  have f_3 := fr_φ_2 _ _ (hp_nf f0 hq_q_1) f0
  have nq_1 : ¬ q_1 ∈ ([y] : List Nat) := fun h9 => by
    simp only [List.mem_cons, List.not_mem_nil, or_false] at h9
    rcases h9 with h9
    · rw [h9, f0] at hq_q_1; cases hq_q_1
  have np_1 := List.nodup_cons.mpr ⟨nq_1, np_0⟩
  refine hv_putF (pc := 9) (ty := .array (.int)) (C := RX9) (T := TX9) (N := 22) (ref := RX9) S uwX9 tyX9 tyX9_ok nmX9 hK hH hS f_3 rfl 3 (by decide) tw_948 (fun _ h9 => h9) rfl hnm rfl (by decide +kernel) rfl rfl (Nat.le_of_ble_eq_true rfl) dX9_init_9 (fun H locs hH hS => ?_)
  replace hH := nup (e := .inr (13, [.int (nI 0), .long (0), .int (nI 0), .ref q_1, .null, .int (nI 0), .null, .null, .null, .null, .null, .null, .null, .int (nI 0), .null, .null, .int (nI 0), .null, .null, .null, .int (nI 0), .int (nI 0)])) hH
  obtain ⟨φ_4, hφ_4, fa_φ_4, fr_φ_4, hH⟩ := hH
  have f_5 := fr_φ_4 _ _ (hp_ne fa_φ_2 f_3 (by intro h; first | (cases h; done) | (simp at h; done))) fa_φ_2
  refine lv_aload_n (pc := 12) S.1 S.2.1 dX9_init_12 rfl (lv_at hl 0 rfl) ?_
  refine lv_bipush (pc := 13) (v := nI 10) S.1 S.2.1 dX9_init_13 (by decide) ?_
  refine hv_newa (pc := 15) (atype := .int) (a0 := (10, .inl (fun j => nI (zr j)))) (N' := 10) S tw_89 (ty := .int) rfl hK 1 rfl hH hS hA (fun _ => rfl) (by decide) (by decide) (Nat.le_of_ble_eq_true rfl) (Nat.le_of_ble_eq_true rfl) (Nat.le_of_ble_eq_true rfl) dX9_init_15 (fun q_6 H hq_q_6 hH hS => ?_)
  replace hH := nup (e := .inl (cA 1, 10, .inl (fun j => nI (zr j)))) hH
  obtain ⟨φ_7, hφ_7, fa_φ_7, fr_φ_7, hH⟩ := hH
  have f_8 := fr_φ_7 _ _ (hp_nf f_5 hq_q_6) f_5
  have f_9 := fr_φ_7 _ _ (hp_nf fa_φ_4 hq_q_6) fa_φ_4
  have nq_2 : ¬ q_6 ∈ ([q_1, y] : List Nat) := fun h9 => by
    simp only [List.mem_cons, List.not_mem_nil, or_false] at h9
    rcases h9 with h9 | h9
    · rw [h9, f_5] at hq_q_6; cases hq_q_6
    · rw [h9, fa_φ_4] at hq_q_6; cases hq_q_6
  have np_2 := List.nodup_cons.mpr ⟨nq_2, np_1⟩
  refine hv_putF (pc := 17) (ty := .array (.int)) (C := RX9) (T := TX9) (N := 22) (ref := RX9) S uwX9 tyX9 tyX9_ok nmX9 hK hH hS f_9 rfl 4 (by decide) tw_949 (fun _ h9 => h9) rfl hnm rfl (by decide +kernel) rfl rfl (Nat.le_of_ble_eq_true rfl) dX9_init_17 (fun H locs hH hS => ?_)
  replace hH := nup (e := .inr (13, [.int (nI 0), .long (0), .int (nI 0), .ref q_1, .ref q_6, .int (nI 0), .null, .null, .null, .null, .null, .null, .null, .int (nI 0), .null, .null, .int (nI 0), .null, .null, .null, .int (nI 0), .int (nI 0)])) hH
  obtain ⟨φ_10, hφ_10, fa_φ_10, fr_φ_10, hH⟩ := hH
  have f_11 := fr_φ_10 _ _ (hp_ne f_8 f_9 (by intro h; first | (cases h; done) | (simp at h; done))) f_8
  have f_12 := fr_φ_10 _ _ (hp_ne fa_φ_7 f_9 (by intro h; first | (cases h; done) | (simp at h; done))) fa_φ_7
  refine lv_aload_n (pc := 20) S.1 S.2.1 dX9_init_20 rfl (lv_at hl 0 rfl) ?_
  refine lv_bipush (pc := 21) (v := nI 12) S.1 S.2.1 dX9_init_21 (by decide) ?_
  refine hv_newa (pc := 23) (atype := .int) (a0 := (12, .inl (fun j => nI (zr j)))) (N' := 12) S tw_89 (ty := .int) rfl hK 1 rfl hH hS hA (fun _ => rfl) (by decide) (by decide) (Nat.le_of_ble_eq_true rfl) (Nat.le_of_ble_eq_true rfl) (Nat.le_of_ble_eq_true rfl) dX9_init_23 (fun q_13 H hq_q_13 hH hS => ?_)
  replace hH := nup (e := .inl (cA 1, 12, .inl (fun j => nI (zr j)))) hH
  obtain ⟨φ_14, hφ_14, fa_φ_14, fr_φ_14, hH⟩ := hH
  have f_15 := fr_φ_14 _ _ (hp_nf f_11 hq_q_13) f_11
  have f_16 := fr_φ_14 _ _ (hp_nf f_12 hq_q_13) f_12
  have f_17 := fr_φ_14 _ _ (hp_nf fa_φ_10 hq_q_13) fa_φ_10
  have nq_3 : ¬ q_13 ∈ ([q_6, q_1, y] : List Nat) := fun h9 => by
    simp only [List.mem_cons, List.not_mem_nil, or_false] at h9
    rcases h9 with h9 | h9 | h9
    · rw [h9, f_12] at hq_q_13; cases hq_q_13
    · rw [h9, f_11] at hq_q_13; cases hq_q_13
    · rw [h9, fa_φ_10] at hq_q_13; cases hq_q_13
  have np_3 := List.nodup_cons.mpr ⟨nq_3, np_2⟩
  refine hv_putF (pc := 25) (ty := .array (.int)) (C := RX9) (T := TX9) (N := 22) (ref := RX9) S uwX9 tyX9 tyX9_ok nmX9 hK hH hS f_17 rfl 6 (by decide) tw_951 (fun _ h9 => h9) rfl hnm rfl (by decide +kernel) rfl rfl (Nat.le_of_ble_eq_true rfl) dX9_init_25 (fun H locs hH hS => ?_)
  replace hH := nup (e := .inr (13, [.int (nI 0), .long (0), .int (nI 0), .ref q_1, .ref q_6, .int (nI 0), .ref q_13, .null, .null, .null, .null, .null, .null, .int (nI 0), .null, .null, .int (nI 0), .null, .null, .null, .int (nI 0), .int (nI 0)])) hH
  obtain ⟨φ_18, hφ_18, fa_φ_18, fr_φ_18, hH⟩ := hH
  have f_19 := fr_φ_18 _ _ (hp_ne f_15 f_17 (by intro h; first | (cases h; done) | (simp at h; done))) f_15
  have f_20 := fr_φ_18 _ _ (hp_ne f_16 f_17 (by intro h; first | (cases h; done) | (simp at h; done))) f_16
  have f_21 := fr_φ_18 _ _ (hp_ne fa_φ_14 f_17 (by intro h; first | (cases h; done) | (simp at h; done))) fa_φ_14
  refine lv_aload_n (pc := 28) S.1 S.2.1 dX9_init_28 rfl (lv_at hl 0 rfl) ?_
  refine lv_bipush (pc := 29) (v := nI 72) S.1 S.2.1 dX9_init_29 (by decide) ?_
  refine hv_newa (pc := 31) (atype := .int) (a0 := (72, .inl (fun j => nI (zr j)))) (N' := 72) S tw_89 (ty := .int) rfl hK 1 rfl hH hS hA (fun _ => rfl) (by decide) (by decide) (Nat.le_of_ble_eq_true rfl) (Nat.le_of_ble_eq_true rfl) (Nat.le_of_ble_eq_true rfl) dX9_init_31 (fun q_22 H hq_q_22 hH hS => ?_)
  replace hH := nup (e := .inl (cA 1, 72, .inl (fun j => nI (zr j)))) hH
  obtain ⟨φ_23, hφ_23, fa_φ_23, fr_φ_23, hH⟩ := hH
  have f_24 := fr_φ_23 _ _ (hp_nf f_19 hq_q_22) f_19
  have f_25 := fr_φ_23 _ _ (hp_nf f_20 hq_q_22) f_20
  have f_26 := fr_φ_23 _ _ (hp_nf f_21 hq_q_22) f_21
  have f_27 := fr_φ_23 _ _ (hp_nf fa_φ_18 hq_q_22) fa_φ_18
  have nq_4 : ¬ q_22 ∈ ([q_13, q_6, q_1, y] : List Nat) := fun h9 => by
    simp only [List.mem_cons, List.not_mem_nil, or_false] at h9
    rcases h9 with h9 | h9 | h9 | h9
    · rw [h9, f_21] at hq_q_22; cases hq_q_22
    · rw [h9, f_20] at hq_q_22; cases hq_q_22
    · rw [h9, f_19] at hq_q_22; cases hq_q_22
    · rw [h9, fa_φ_18] at hq_q_22; cases hq_q_22
  have np_4 := List.nodup_cons.mpr ⟨nq_4, np_3⟩
  refine hv_putF (pc := 33) (ty := .array (.int)) (C := RX9) (T := TX9) (N := 22) (ref := RX9) S uwX9 tyX9 tyX9_ok nmX9 hK hH hS f_27 rfl 7 (by decide) tw_952 (fun _ h9 => h9) rfl hnm rfl (by decide +kernel) rfl rfl (Nat.le_of_ble_eq_true rfl) dX9_init_33 (fun H locs hH hS => ?_)
  replace hH := nup (e := .inr (13, [.int (nI 0), .long (0), .int (nI 0), .ref q_1, .ref q_6, .int (nI 0), .ref q_13, .ref q_22, .null, .null, .null, .null, .null, .int (nI 0), .null, .null, .int (nI 0), .null, .null, .null, .int (nI 0), .int (nI 0)])) hH
  obtain ⟨φ_28, hφ_28, fa_φ_28, fr_φ_28, hH⟩ := hH
  have f_29 := fr_φ_28 _ _ (hp_ne f_24 f_27 (by intro h; first | (cases h; done) | (simp at h; done))) f_24
  have f_30 := fr_φ_28 _ _ (hp_ne f_25 f_27 (by intro h; first | (cases h; done) | (simp at h; done))) f_25
  have f_31 := fr_φ_28 _ _ (hp_ne f_26 f_27 (by intro h; first | (cases h; done) | (simp at h; done))) f_26
  have f_32 := fr_φ_28 _ _ (hp_ne fa_φ_23 f_27 (by intro h; first | (cases h; done) | (simp at h; done))) fa_φ_23
  refine lv_aload_n (pc := 36) S.1 S.2.1 dX9_init_36 rfl (lv_at hl 0 rfl) ?_
  refine lv_bipush (pc := 37) (v := nI 72) S.1 S.2.1 dX9_init_37 (by decide) ?_
  refine hv_newa (pc := 39) (atype := .int) (a0 := (72, .inl (fun j => nI (zr j)))) (N' := 72) S tw_89 (ty := .int) rfl hK 1 rfl hH hS hA (fun _ => rfl) (by decide) (by decide) (Nat.le_of_ble_eq_true rfl) (Nat.le_of_ble_eq_true rfl) (Nat.le_of_ble_eq_true rfl) dX9_init_39 (fun q_33 H hq_q_33 hH hS => ?_)
  replace hH := nup (e := .inl (cA 1, 72, .inl (fun j => nI (zr j)))) hH
  obtain ⟨φ_34, hφ_34, fa_φ_34, fr_φ_34, hH⟩ := hH
  have f_35 := fr_φ_34 _ _ (hp_nf f_29 hq_q_33) f_29
  have f_36 := fr_φ_34 _ _ (hp_nf f_30 hq_q_33) f_30
  have f_37 := fr_φ_34 _ _ (hp_nf f_31 hq_q_33) f_31
  have f_38 := fr_φ_34 _ _ (hp_nf f_32 hq_q_33) f_32
  have f_39 := fr_φ_34 _ _ (hp_nf fa_φ_28 hq_q_33) fa_φ_28
  have nq_5 : ¬ q_33 ∈ ([q_22, q_13, q_6, q_1, y] : List Nat) := fun h9 => by
    simp only [List.mem_cons, List.not_mem_nil, or_false] at h9
    rcases h9 with h9 | h9 | h9 | h9 | h9
    · rw [h9, f_32] at hq_q_33; cases hq_q_33
    · rw [h9, f_31] at hq_q_33; cases hq_q_33
    · rw [h9, f_30] at hq_q_33; cases hq_q_33
    · rw [h9, f_29] at hq_q_33; cases hq_q_33
    · rw [h9, fa_φ_28] at hq_q_33; cases hq_q_33
  have np_5 := List.nodup_cons.mpr ⟨nq_5, np_4⟩
  refine hv_putF (pc := 41) (ty := .array (.int)) (C := RX9) (T := TX9) (N := 22) (ref := RX9) S uwX9 tyX9 tyX9_ok nmX9 hK hH hS f_39 rfl 8 (by decide) tw_953 (fun _ h9 => h9) rfl hnm rfl (by decide +kernel) rfl rfl (Nat.le_of_ble_eq_true rfl) dX9_init_41 (fun H locs hH hS => ?_)
  replace hH := nup (e := .inr (13, [.int (nI 0), .long (0), .int (nI 0), .ref q_1, .ref q_6, .int (nI 0), .ref q_13, .ref q_22, .ref q_33, .null, .null, .null, .null, .int (nI 0), .null, .null, .int (nI 0), .null, .null, .null, .int (nI 0), .int (nI 0)])) hH
  obtain ⟨φ_40, hφ_40, fa_φ_40, fr_φ_40, hH⟩ := hH
  have f_41 := fr_φ_40 _ _ (hp_ne f_35 f_39 (by intro h; first | (cases h; done) | (simp at h; done))) f_35
  have f_42 := fr_φ_40 _ _ (hp_ne f_36 f_39 (by intro h; first | (cases h; done) | (simp at h; done))) f_36
  have f_43 := fr_φ_40 _ _ (hp_ne f_37 f_39 (by intro h; first | (cases h; done) | (simp at h; done))) f_37
  have f_44 := fr_φ_40 _ _ (hp_ne f_38 f_39 (by intro h; first | (cases h; done) | (simp at h; done))) f_38
  have f_45 := fr_φ_40 _ _ (hp_ne fa_φ_34 f_39 (by intro h; first | (cases h; done) | (simp at h; done))) fa_φ_34
  refine lv_aload_n (pc := 44) S.1 S.2.1 dX9_init_44 rfl (lv_at hl 0 rfl) ?_
  refine lv_bipush (pc := 45) (v := nI 72) S.1 S.2.1 dX9_init_45 (by decide) ?_
  refine hv_newa (pc := 47) (atype := .int) (a0 := (72, .inl (fun j => nI (zr j)))) (N' := 72) S tw_89 (ty := .int) rfl hK 1 rfl hH hS hA (fun _ => rfl) (by decide) (by decide) (Nat.le_of_ble_eq_true rfl) (Nat.le_of_ble_eq_true rfl) (Nat.le_of_ble_eq_true rfl) dX9_init_47 (fun q_46 H hq_q_46 hH hS => ?_)
  replace hH := nup (e := .inl (cA 1, 72, .inl (fun j => nI (zr j)))) hH
  obtain ⟨φ_47, hφ_47, fa_φ_47, fr_φ_47, hH⟩ := hH
  have f_48 := fr_φ_47 _ _ (hp_nf f_41 hq_q_46) f_41
  have f_49 := fr_φ_47 _ _ (hp_nf f_42 hq_q_46) f_42
  have f_50 := fr_φ_47 _ _ (hp_nf f_43 hq_q_46) f_43
  have f_51 := fr_φ_47 _ _ (hp_nf f_44 hq_q_46) f_44
  have f_52 := fr_φ_47 _ _ (hp_nf f_45 hq_q_46) f_45
  have f_53 := fr_φ_47 _ _ (hp_nf fa_φ_40 hq_q_46) fa_φ_40
  have nq_6 : ¬ q_46 ∈ ([q_33, q_22, q_13, q_6, q_1, y] : List Nat) := fun h9 => by
    simp only [List.mem_cons, List.not_mem_nil, or_false] at h9
    rcases h9 with h9 | h9 | h9 | h9 | h9 | h9
    · rw [h9, f_45] at hq_q_46; cases hq_q_46
    · rw [h9, f_44] at hq_q_46; cases hq_q_46
    · rw [h9, f_43] at hq_q_46; cases hq_q_46
    · rw [h9, f_42] at hq_q_46; cases hq_q_46
    · rw [h9, f_41] at hq_q_46; cases hq_q_46
    · rw [h9, fa_φ_40] at hq_q_46; cases hq_q_46
  have np_6 := List.nodup_cons.mpr ⟨nq_6, np_5⟩
  refine hv_putF (pc := 49) (ty := .array (.int)) (C := RX9) (T := TX9) (N := 22) (ref := RX9) S uwX9 tyX9 tyX9_ok nmX9 hK hH hS f_53 rfl 9 (by decide) tw_954 (fun _ h9 => h9) rfl hnm rfl (by decide +kernel) rfl rfl (Nat.le_of_ble_eq_true rfl) dX9_init_49 (fun H locs hH hS => ?_)
  replace hH := nup (e := .inr (13, [.int (nI 0), .long (0), .int (nI 0), .ref q_1, .ref q_6, .int (nI 0), .ref q_13, .ref q_22, .ref q_33, .ref q_46, .null, .null, .null, .int (nI 0), .null, .null, .int (nI 0), .null, .null, .null, .int (nI 0), .int (nI 0)])) hH
  obtain ⟨φ_54, hφ_54, fa_φ_54, fr_φ_54, hH⟩ := hH
  have f_55 := fr_φ_54 _ _ (hp_ne f_48 f_53 (by intro h; first | (cases h; done) | (simp at h; done))) f_48
  have f_56 := fr_φ_54 _ _ (hp_ne f_49 f_53 (by intro h; first | (cases h; done) | (simp at h; done))) f_49
  have f_57 := fr_φ_54 _ _ (hp_ne f_50 f_53 (by intro h; first | (cases h; done) | (simp at h; done))) f_50
  have f_58 := fr_φ_54 _ _ (hp_ne f_51 f_53 (by intro h; first | (cases h; done) | (simp at h; done))) f_51
  have f_59 := fr_φ_54 _ _ (hp_ne f_52 f_53 (by intro h; first | (cases h; done) | (simp at h; done))) f_52
  have f_60 := fr_φ_54 _ _ (hp_ne fa_φ_47 f_53 (by intro h; first | (cases h; done) | (simp at h; done))) fa_φ_47
  refine lv_aload_n (pc := 52) S.1 S.2.1 dX9_init_52 rfl (lv_at hl 0 rfl) ?_
  refine lv_bipush (pc := 53) (v := nI 12) S.1 S.2.1 dX9_init_53 (by decide) ?_
  refine hv_newa (pc := 55) (atype := .int) (a0 := (12, .inl (fun j => nI (zr j)))) (N' := 12) S tw_89 (ty := .int) rfl hK 1 rfl hH hS hA (fun _ => rfl) (by decide) (by decide) (Nat.le_of_ble_eq_true rfl) (Nat.le_of_ble_eq_true rfl) (Nat.le_of_ble_eq_true rfl) dX9_init_55 (fun q_61 H hq_q_61 hH hS => ?_)
  replace hH := nup (e := .inl (cA 1, 12, .inl (fun j => nI (zr j)))) hH
  obtain ⟨φ_62, hφ_62, fa_φ_62, fr_φ_62, hH⟩ := hH
  have f_63 := fr_φ_62 _ _ (hp_nf f_55 hq_q_61) f_55
  have f_64 := fr_φ_62 _ _ (hp_nf f_56 hq_q_61) f_56
  have f_65 := fr_φ_62 _ _ (hp_nf f_57 hq_q_61) f_57
  have f_66 := fr_φ_62 _ _ (hp_nf f_58 hq_q_61) f_58
  have f_67 := fr_φ_62 _ _ (hp_nf f_59 hq_q_61) f_59
  have f_68 := fr_φ_62 _ _ (hp_nf f_60 hq_q_61) f_60
  have f_69 := fr_φ_62 _ _ (hp_nf fa_φ_54 hq_q_61) fa_φ_54
  have nq_7 : ¬ q_61 ∈ ([q_46, q_33, q_22, q_13, q_6, q_1, y] : List Nat) := fun h9 => by
    simp only [List.mem_cons, List.not_mem_nil, or_false] at h9
    rcases h9 with h9 | h9 | h9 | h9 | h9 | h9 | h9
    · rw [h9, f_60] at hq_q_61; cases hq_q_61
    · rw [h9, f_59] at hq_q_61; cases hq_q_61
    · rw [h9, f_58] at hq_q_61; cases hq_q_61
    · rw [h9, f_57] at hq_q_61; cases hq_q_61
    · rw [h9, f_56] at hq_q_61; cases hq_q_61
    · rw [h9, f_55] at hq_q_61; cases hq_q_61
    · rw [h9, fa_φ_54] at hq_q_61; cases hq_q_61
  have np_7 := List.nodup_cons.mpr ⟨nq_7, np_6⟩
  refine hv_putF (pc := 57) (ty := .array (.int)) (C := RX9) (T := TX9) (N := 22) (ref := RX9) S uwX9 tyX9 tyX9_ok nmX9 hK hH hS f_69 rfl 10 (by decide) tw_955 (fun _ h9 => h9) rfl hnm rfl (by decide +kernel) rfl rfl (Nat.le_of_ble_eq_true rfl) dX9_init_57 (fun H locs hH hS => ?_)
  replace hH := nup (e := .inr (13, [.int (nI 0), .long (0), .int (nI 0), .ref q_1, .ref q_6, .int (nI 0), .ref q_13, .ref q_22, .ref q_33, .ref q_46, .ref q_61, .null, .null, .int (nI 0), .null, .null, .int (nI 0), .null, .null, .null, .int (nI 0), .int (nI 0)])) hH
  obtain ⟨φ_70, hφ_70, fa_φ_70, fr_φ_70, hH⟩ := hH
  have f_71 := fr_φ_70 _ _ (hp_ne f_63 f_69 (by intro h; first | (cases h; done) | (simp at h; done))) f_63
  have f_72 := fr_φ_70 _ _ (hp_ne f_64 f_69 (by intro h; first | (cases h; done) | (simp at h; done))) f_64
  have f_73 := fr_φ_70 _ _ (hp_ne f_65 f_69 (by intro h; first | (cases h; done) | (simp at h; done))) f_65
  have f_74 := fr_φ_70 _ _ (hp_ne f_66 f_69 (by intro h; first | (cases h; done) | (simp at h; done))) f_66
  have f_75 := fr_φ_70 _ _ (hp_ne f_67 f_69 (by intro h; first | (cases h; done) | (simp at h; done))) f_67
  have f_76 := fr_φ_70 _ _ (hp_ne f_68 f_69 (by intro h; first | (cases h; done) | (simp at h; done))) f_68
  have f_77 := fr_φ_70 _ _ (hp_ne fa_φ_62 f_69 (by intro h; first | (cases h; done) | (simp at h; done))) fa_φ_62
  refine lv_aload_n (pc := 60) S.1 S.2.1 dX9_init_60 rfl (lv_at hl 0 rfl) ?_
  refine lv_bipush (pc := 61) (v := nI 12) S.1 S.2.1 dX9_init_61 (by decide) ?_
  refine hv_newa (pc := 63) (atype := .boolean) (a0 := (12, .inl (fun j => nI (zr j)))) (N' := 12) S tw_1012 (ty := .boolean) rfl hK 2 rfl hH hS hA (fun _ => rfl) (by decide) (by decide) (Nat.le_of_ble_eq_true rfl) (Nat.le_of_ble_eq_true rfl) (Nat.le_of_ble_eq_true rfl) dX9_init_63 (fun q_78 H hq_q_78 hH hS => ?_)
  replace hH := nup (e := .inl (cA 2, 12, .inl (fun j => nI (zr j)))) hH
  obtain ⟨φ_79, hφ_79, fa_φ_79, fr_φ_79, hH⟩ := hH
  have f_80 := fr_φ_79 _ _ (hp_nf f_71 hq_q_78) f_71
  have f_81 := fr_φ_79 _ _ (hp_nf f_72 hq_q_78) f_72
  have f_82 := fr_φ_79 _ _ (hp_nf f_73 hq_q_78) f_73
  have f_83 := fr_φ_79 _ _ (hp_nf f_74 hq_q_78) f_74
  have f_84 := fr_φ_79 _ _ (hp_nf f_75 hq_q_78) f_75
  have f_85 := fr_φ_79 _ _ (hp_nf f_76 hq_q_78) f_76
  have f_86 := fr_φ_79 _ _ (hp_nf f_77 hq_q_78) f_77
  have f_87 := fr_φ_79 _ _ (hp_nf fa_φ_70 hq_q_78) fa_φ_70
  have nq_8 : ¬ q_78 ∈ ([q_61, q_46, q_33, q_22, q_13, q_6, q_1, y] : List Nat) := fun h9 => by
    simp only [List.mem_cons, List.not_mem_nil, or_false] at h9
    rcases h9 with h9 | h9 | h9 | h9 | h9 | h9 | h9 | h9
    · rw [h9, f_77] at hq_q_78; cases hq_q_78
    · rw [h9, f_76] at hq_q_78; cases hq_q_78
    · rw [h9, f_75] at hq_q_78; cases hq_q_78
    · rw [h9, f_74] at hq_q_78; cases hq_q_78
    · rw [h9, f_73] at hq_q_78; cases hq_q_78
    · rw [h9, f_72] at hq_q_78; cases hq_q_78
    · rw [h9, f_71] at hq_q_78; cases hq_q_78
    · rw [h9, fa_φ_70] at hq_q_78; cases hq_q_78
  have np_8 := List.nodup_cons.mpr ⟨nq_8, np_7⟩
  refine hv_putF (pc := 65) (ty := .array (.boolean)) (C := RX9) (T := TX9) (N := 22) (ref := RX9) S uwX9 tyX9 tyX9_ok nmX9 hK hH hS f_87 rfl 11 (by decide) tw_956 (fun _ h9 => h9) rfl hnm rfl (by decide +kernel) rfl rfl (Nat.le_of_ble_eq_true rfl) dX9_init_65 (fun H locs hH hS => ?_)
  replace hH := nup (e := .inr (13, [.int (nI 0), .long (0), .int (nI 0), .ref q_1, .ref q_6, .int (nI 0), .ref q_13, .ref q_22, .ref q_33, .ref q_46, .ref q_61, .ref q_78, .null, .int (nI 0), .null, .null, .int (nI 0), .null, .null, .null, .int (nI 0), .int (nI 0)])) hH
  obtain ⟨φ_88, hφ_88, fa_φ_88, fr_φ_88, hH⟩ := hH
  have f_89 := fr_φ_88 _ _ (hp_ne f_80 f_87 (by intro h; first | (cases h; done) | (simp at h; done))) f_80
  have f_90 := fr_φ_88 _ _ (hp_ne f_81 f_87 (by intro h; first | (cases h; done) | (simp at h; done))) f_81
  have f_91 := fr_φ_88 _ _ (hp_ne f_82 f_87 (by intro h; first | (cases h; done) | (simp at h; done))) f_82
  have f_92 := fr_φ_88 _ _ (hp_ne f_83 f_87 (by intro h; first | (cases h; done) | (simp at h; done))) f_83
  have f_93 := fr_φ_88 _ _ (hp_ne f_84 f_87 (by intro h; first | (cases h; done) | (simp at h; done))) f_84
  have f_94 := fr_φ_88 _ _ (hp_ne f_85 f_87 (by intro h; first | (cases h; done) | (simp at h; done))) f_85
  have f_95 := fr_φ_88 _ _ (hp_ne f_86 f_87 (by intro h; first | (cases h; done) | (simp at h; done))) f_86
  have f_96 := fr_φ_88 _ _ (hp_ne fa_φ_79 f_87 (by intro h; first | (cases h; done) | (simp at h; done))) fa_φ_79
  refine lv_aload_n (pc := 68) S.1 S.2.1 dX9_init_68 rfl (lv_at hl 0 rfl) ?_
  refine lv_bipush (pc := 69) (v := nI 12) S.1 S.2.1 dX9_init_69 (by decide) ?_
  refine hv_newa (pc := 71) (atype := .boolean) (a0 := (12, .inl (fun j => nI (zr j)))) (N' := 12) S tw_1012 (ty := .boolean) rfl hK 2 rfl hH hS hA (fun _ => rfl) (by decide) (by decide) (Nat.le_of_ble_eq_true rfl) (Nat.le_of_ble_eq_true rfl) (Nat.le_of_ble_eq_true rfl) dX9_init_71 (fun q_97 H hq_q_97 hH hS => ?_)
  replace hH := nup (e := .inl (cA 2, 12, .inl (fun j => nI (zr j)))) hH
  obtain ⟨φ_98, hφ_98, fa_φ_98, fr_φ_98, hH⟩ := hH
  have f_99 := fr_φ_98 _ _ (hp_nf f_89 hq_q_97) f_89
  have f_100 := fr_φ_98 _ _ (hp_nf f_90 hq_q_97) f_90
  have f_101 := fr_φ_98 _ _ (hp_nf f_91 hq_q_97) f_91
  have f_102 := fr_φ_98 _ _ (hp_nf f_92 hq_q_97) f_92
  have f_103 := fr_φ_98 _ _ (hp_nf f_93 hq_q_97) f_93
  have f_104 := fr_φ_98 _ _ (hp_nf f_94 hq_q_97) f_94
  have f_105 := fr_φ_98 _ _ (hp_nf f_95 hq_q_97) f_95
  have f_106 := fr_φ_98 _ _ (hp_nf f_96 hq_q_97) f_96
  have f_107 := fr_φ_98 _ _ (hp_nf fa_φ_88 hq_q_97) fa_φ_88
  have nq_9 : ¬ q_97 ∈ ([q_78, q_61, q_46, q_33, q_22, q_13, q_6, q_1, y] : List Nat) := fun h9 => by
    simp only [List.mem_cons, List.not_mem_nil, or_false] at h9
    rcases h9 with h9 | h9 | h9 | h9 | h9 | h9 | h9 | h9 | h9
    · rw [h9, f_96] at hq_q_97; cases hq_q_97
    · rw [h9, f_95] at hq_q_97; cases hq_q_97
    · rw [h9, f_94] at hq_q_97; cases hq_q_97
    · rw [h9, f_93] at hq_q_97; cases hq_q_97
    · rw [h9, f_92] at hq_q_97; cases hq_q_97
    · rw [h9, f_91] at hq_q_97; cases hq_q_97
    · rw [h9, f_90] at hq_q_97; cases hq_q_97
    · rw [h9, f_89] at hq_q_97; cases hq_q_97
    · rw [h9, fa_φ_88] at hq_q_97; cases hq_q_97
  have np_9 := List.nodup_cons.mpr ⟨nq_9, np_8⟩
  refine hv_putF (pc := 73) (ty := .array (.boolean)) (C := RX9) (T := TX9) (N := 22) (ref := RX9) S uwX9 tyX9 tyX9_ok nmX9 hK hH hS f_107 rfl 12 (by decide) tw_957 (fun _ h9 => h9) rfl hnm rfl (by decide +kernel) rfl rfl (Nat.le_of_ble_eq_true rfl) dX9_init_73 (fun H locs hH hS => ?_)
  replace hH := nup (e := .inr (13, [.int (nI 0), .long (0), .int (nI 0), .ref q_1, .ref q_6, .int (nI 0), .ref q_13, .ref q_22, .ref q_33, .ref q_46, .ref q_61, .ref q_78, .ref q_97, .int (nI 0), .null, .null, .int (nI 0), .null, .null, .null, .int (nI 0), .int (nI 0)])) hH
  obtain ⟨φ_108, hφ_108, fa_φ_108, fr_φ_108, hH⟩ := hH
  have f_109 := fr_φ_108 _ _ (hp_ne f_99 f_107 (by intro h; first | (cases h; done) | (simp at h; done))) f_99
  have f_110 := fr_φ_108 _ _ (hp_ne f_100 f_107 (by intro h; first | (cases h; done) | (simp at h; done))) f_100
  have f_111 := fr_φ_108 _ _ (hp_ne f_101 f_107 (by intro h; first | (cases h; done) | (simp at h; done))) f_101
  have f_112 := fr_φ_108 _ _ (hp_ne f_102 f_107 (by intro h; first | (cases h; done) | (simp at h; done))) f_102
  have f_113 := fr_φ_108 _ _ (hp_ne f_103 f_107 (by intro h; first | (cases h; done) | (simp at h; done))) f_103
  have f_114 := fr_φ_108 _ _ (hp_ne f_104 f_107 (by intro h; first | (cases h; done) | (simp at h; done))) f_104
  have f_115 := fr_φ_108 _ _ (hp_ne f_105 f_107 (by intro h; first | (cases h; done) | (simp at h; done))) f_105
  have f_116 := fr_φ_108 _ _ (hp_ne f_106 f_107 (by intro h; first | (cases h; done) | (simp at h; done))) f_106
  have f_117 := fr_φ_108 _ _ (hp_ne fa_φ_98 f_107 (by intro h; first | (cases h; done) | (simp at h; done))) fa_φ_98
  refine lv_aload_n (pc := 76) S.1 S.2.1 dX9_init_76 rfl (lv_at hl 0 rfl) ?_
  refine lv_bipush (pc := 77) (v := nI 8) S.1 S.2.1 dX9_init_77 (by decide) ?_
  refine hv_newa (pc := 79) (atype := .int) (a0 := (8, .inl (fun j => nI (zr j)))) (N' := 8) S tw_89 (ty := .int) rfl hK 1 rfl hH hS hA (fun _ => rfl) (by decide) (by decide) (Nat.le_of_ble_eq_true rfl) (Nat.le_of_ble_eq_true rfl) (Nat.le_of_ble_eq_true rfl) dX9_init_79 (fun q_118 H hq_q_118 hH hS => ?_)
  replace hH := nup (e := .inl (cA 1, 8, .inl (fun j => nI (zr j)))) hH
  obtain ⟨φ_119, hφ_119, fa_φ_119, fr_φ_119, hH⟩ := hH
  have f_120 := fr_φ_119 _ _ (hp_nf f_109 hq_q_118) f_109
  have f_121 := fr_φ_119 _ _ (hp_nf f_110 hq_q_118) f_110
  have f_122 := fr_φ_119 _ _ (hp_nf f_111 hq_q_118) f_111
  have f_123 := fr_φ_119 _ _ (hp_nf f_112 hq_q_118) f_112
  have f_124 := fr_φ_119 _ _ (hp_nf f_113 hq_q_118) f_113
  have f_125 := fr_φ_119 _ _ (hp_nf f_114 hq_q_118) f_114
  have f_126 := fr_φ_119 _ _ (hp_nf f_115 hq_q_118) f_115
  have f_127 := fr_φ_119 _ _ (hp_nf f_116 hq_q_118) f_116
  have f_128 := fr_φ_119 _ _ (hp_nf f_117 hq_q_118) f_117
  have f_129 := fr_φ_119 _ _ (hp_nf fa_φ_108 hq_q_118) fa_φ_108
  have nq_10 : ¬ q_118 ∈ ([q_97, q_78, q_61, q_46, q_33, q_22, q_13, q_6, q_1, y] : List Nat) := fun h9 => by
    simp only [List.mem_cons, List.not_mem_nil, or_false] at h9
    rcases h9 with h9 | h9 | h9 | h9 | h9 | h9 | h9 | h9 | h9 | h9
    · rw [h9, f_117] at hq_q_118; cases hq_q_118
    · rw [h9, f_116] at hq_q_118; cases hq_q_118
    · rw [h9, f_115] at hq_q_118; cases hq_q_118
    · rw [h9, f_114] at hq_q_118; cases hq_q_118
    · rw [h9, f_113] at hq_q_118; cases hq_q_118
    · rw [h9, f_112] at hq_q_118; cases hq_q_118
    · rw [h9, f_111] at hq_q_118; cases hq_q_118
    · rw [h9, f_110] at hq_q_118; cases hq_q_118
    · rw [h9, f_109] at hq_q_118; cases hq_q_118
    · rw [h9, fa_φ_108] at hq_q_118; cases hq_q_118
  have np_10 := List.nodup_cons.mpr ⟨nq_10, np_9⟩
  refine hv_putF (pc := 81) (ty := .array (.int)) (C := RX9) (T := TX9) (N := 22) (ref := RX9) S uwX9 tyX9 tyX9_ok nmX9 hK hH hS f_129 rfl 14 (by decide) tw_959 (fun _ h9 => h9) rfl hnm rfl (by decide +kernel) rfl rfl (Nat.le_of_ble_eq_true rfl) dX9_init_81 (fun H locs hH hS => ?_)
  replace hH := nup (e := .inr (13, [.int (nI 0), .long (0), .int (nI 0), .ref q_1, .ref q_6, .int (nI 0), .ref q_13, .ref q_22, .ref q_33, .ref q_46, .ref q_61, .ref q_78, .ref q_97, .int (nI 0), .ref q_118, .null, .int (nI 0), .null, .null, .null, .int (nI 0), .int (nI 0)])) hH
  obtain ⟨φ_130, hφ_130, fa_φ_130, fr_φ_130, hH⟩ := hH
  have f_131 := fr_φ_130 _ _ (hp_ne f_120 f_129 (by intro h; first | (cases h; done) | (simp at h; done))) f_120
  have f_132 := fr_φ_130 _ _ (hp_ne f_121 f_129 (by intro h; first | (cases h; done) | (simp at h; done))) f_121
  have f_133 := fr_φ_130 _ _ (hp_ne f_122 f_129 (by intro h; first | (cases h; done) | (simp at h; done))) f_122
  have f_134 := fr_φ_130 _ _ (hp_ne f_123 f_129 (by intro h; first | (cases h; done) | (simp at h; done))) f_123
  have f_135 := fr_φ_130 _ _ (hp_ne f_124 f_129 (by intro h; first | (cases h; done) | (simp at h; done))) f_124
  have f_136 := fr_φ_130 _ _ (hp_ne f_125 f_129 (by intro h; first | (cases h; done) | (simp at h; done))) f_125
  have f_137 := fr_φ_130 _ _ (hp_ne f_126 f_129 (by intro h; first | (cases h; done) | (simp at h; done))) f_126
  have f_138 := fr_φ_130 _ _ (hp_ne f_127 f_129 (by intro h; first | (cases h; done) | (simp at h; done))) f_127
  have f_139 := fr_φ_130 _ _ (hp_ne f_128 f_129 (by intro h; first | (cases h; done) | (simp at h; done))) f_128
  have f_140 := fr_φ_130 _ _ (hp_ne fa_φ_119 f_129 (by intro h; first | (cases h; done) | (simp at h; done))) fa_φ_119
  refine lv_aload_n (pc := 84) S.1 S.2.1 dX9_init_84 rfl (lv_at hl 0 rfl) ?_
  refine lv_bipush (pc := 85) (v := nI 8) S.1 S.2.1 dX9_init_85 (by decide) ?_
  refine hv_newa (pc := 87) (atype := .int) (a0 := (8, .inl (fun j => nI (zr j)))) (N' := 8) S tw_89 (ty := .int) rfl hK 1 rfl hH hS hA (fun _ => rfl) (by decide) (by decide) (Nat.le_of_ble_eq_true rfl) (Nat.le_of_ble_eq_true rfl) (Nat.le_of_ble_eq_true rfl) dX9_init_87 (fun q_141 H hq_q_141 hH hS => ?_)
  replace hH := nup (e := .inl (cA 1, 8, .inl (fun j => nI (zr j)))) hH
  obtain ⟨φ_142, hφ_142, fa_φ_142, fr_φ_142, hH⟩ := hH
  have f_143 := fr_φ_142 _ _ (hp_nf f_131 hq_q_141) f_131
  have f_144 := fr_φ_142 _ _ (hp_nf f_132 hq_q_141) f_132
  have f_145 := fr_φ_142 _ _ (hp_nf f_133 hq_q_141) f_133
  have f_146 := fr_φ_142 _ _ (hp_nf f_134 hq_q_141) f_134
  have f_147 := fr_φ_142 _ _ (hp_nf f_135 hq_q_141) f_135
  have f_148 := fr_φ_142 _ _ (hp_nf f_136 hq_q_141) f_136
  have f_149 := fr_φ_142 _ _ (hp_nf f_137 hq_q_141) f_137
  have f_150 := fr_φ_142 _ _ (hp_nf f_138 hq_q_141) f_138
  have f_151 := fr_φ_142 _ _ (hp_nf f_139 hq_q_141) f_139
  have f_152 := fr_φ_142 _ _ (hp_nf f_140 hq_q_141) f_140
  have f_153 := fr_φ_142 _ _ (hp_nf fa_φ_130 hq_q_141) fa_φ_130
  have nq_11 : ¬ q_141 ∈ ([q_118, q_97, q_78, q_61, q_46, q_33, q_22, q_13, q_6, q_1, y] : List Nat) := fun h9 => by
    simp only [List.mem_cons, List.not_mem_nil, or_false] at h9
    rcases h9 with h9 | h9 | h9 | h9 | h9 | h9 | h9 | h9 | h9 | h9 | h9
    · rw [h9, f_140] at hq_q_141; cases hq_q_141
    · rw [h9, f_139] at hq_q_141; cases hq_q_141
    · rw [h9, f_138] at hq_q_141; cases hq_q_141
    · rw [h9, f_137] at hq_q_141; cases hq_q_141
    · rw [h9, f_136] at hq_q_141; cases hq_q_141
    · rw [h9, f_135] at hq_q_141; cases hq_q_141
    · rw [h9, f_134] at hq_q_141; cases hq_q_141
    · rw [h9, f_133] at hq_q_141; cases hq_q_141
    · rw [h9, f_132] at hq_q_141; cases hq_q_141
    · rw [h9, f_131] at hq_q_141; cases hq_q_141
    · rw [h9, fa_φ_130] at hq_q_141; cases hq_q_141
  have np_11 := List.nodup_cons.mpr ⟨nq_11, np_10⟩
  refine hv_putF (pc := 89) (ty := .array (.int)) (C := RX9) (T := TX9) (N := 22) (ref := RX9) S uwX9 tyX9 tyX9_ok nmX9 hK hH hS f_153 rfl 15 (by decide) tw_960 (fun _ h9 => h9) rfl hnm rfl (by decide +kernel) rfl rfl (Nat.le_of_ble_eq_true rfl) dX9_init_89 (fun H locs hH hS => ?_)
  replace hH := nup (e := .inr (13, [.int (nI 0), .long (0), .int (nI 0), .ref q_1, .ref q_6, .int (nI 0), .ref q_13, .ref q_22, .ref q_33, .ref q_46, .ref q_61, .ref q_78, .ref q_97, .int (nI 0), .ref q_118, .ref q_141, .int (nI 0), .null, .null, .null, .int (nI 0), .int (nI 0)])) hH
  obtain ⟨φ_154, hφ_154, fa_φ_154, fr_φ_154, hH⟩ := hH
  have f_155 := fr_φ_154 _ _ (hp_ne f_143 f_153 (by intro h; first | (cases h; done) | (simp at h; done))) f_143
  have f_156 := fr_φ_154 _ _ (hp_ne f_144 f_153 (by intro h; first | (cases h; done) | (simp at h; done))) f_144
  have f_157 := fr_φ_154 _ _ (hp_ne f_145 f_153 (by intro h; first | (cases h; done) | (simp at h; done))) f_145
  have f_158 := fr_φ_154 _ _ (hp_ne f_146 f_153 (by intro h; first | (cases h; done) | (simp at h; done))) f_146
  have f_159 := fr_φ_154 _ _ (hp_ne f_147 f_153 (by intro h; first | (cases h; done) | (simp at h; done))) f_147
  have f_160 := fr_φ_154 _ _ (hp_ne f_148 f_153 (by intro h; first | (cases h; done) | (simp at h; done))) f_148
  have f_161 := fr_φ_154 _ _ (hp_ne f_149 f_153 (by intro h; first | (cases h; done) | (simp at h; done))) f_149
  have f_162 := fr_φ_154 _ _ (hp_ne f_150 f_153 (by intro h; first | (cases h; done) | (simp at h; done))) f_150
  have f_163 := fr_φ_154 _ _ (hp_ne f_151 f_153 (by intro h; first | (cases h; done) | (simp at h; done))) f_151
  have f_164 := fr_φ_154 _ _ (hp_ne f_152 f_153 (by intro h; first | (cases h; done) | (simp at h; done))) f_152
  have f_165 := fr_φ_154 _ _ (hp_ne fa_φ_142 f_153 (by intro h; first | (cases h; done) | (simp at h; done))) fa_φ_142
  refine lv_aload_n (pc := 92) S.1 S.2.1 dX9_init_92 rfl (lv_at hl 0 rfl) ?_
  refine lv_bipush (pc := 93) (v := nI 6) S.1 S.2.1 dX9_init_93 (by decide) ?_
  refine hv_newa (pc := 95) (atype := .int) (a0 := (6, .inl (fun j => nI (zr j)))) (N' := 6) S tw_89 (ty := .int) rfl hK 1 rfl hH hS hA (fun _ => rfl) (by decide) (by decide) (Nat.le_of_ble_eq_true rfl) (Nat.le_of_ble_eq_true rfl) (Nat.le_of_ble_eq_true rfl) dX9_init_95 (fun q_166 H hq_q_166 hH hS => ?_)
  replace hH := nup (e := .inl (cA 1, 6, .inl (fun j => nI (zr j)))) hH
  obtain ⟨φ_167, hφ_167, fa_φ_167, fr_φ_167, hH⟩ := hH
  have f_168 := fr_φ_167 _ _ (hp_nf f_155 hq_q_166) f_155
  have f_169 := fr_φ_167 _ _ (hp_nf f_156 hq_q_166) f_156
  have f_170 := fr_φ_167 _ _ (hp_nf f_157 hq_q_166) f_157
  have f_171 := fr_φ_167 _ _ (hp_nf f_158 hq_q_166) f_158
  have f_172 := fr_φ_167 _ _ (hp_nf f_159 hq_q_166) f_159
  have f_173 := fr_φ_167 _ _ (hp_nf f_160 hq_q_166) f_160
  have f_174 := fr_φ_167 _ _ (hp_nf f_161 hq_q_166) f_161
  have f_175 := fr_φ_167 _ _ (hp_nf f_162 hq_q_166) f_162
  have f_176 := fr_φ_167 _ _ (hp_nf f_163 hq_q_166) f_163
  have f_177 := fr_φ_167 _ _ (hp_nf f_164 hq_q_166) f_164
  have f_178 := fr_φ_167 _ _ (hp_nf f_165 hq_q_166) f_165
  have f_179 := fr_φ_167 _ _ (hp_nf fa_φ_154 hq_q_166) fa_φ_154
  have nq_12 : ¬ q_166 ∈ ([q_141, q_118, q_97, q_78, q_61, q_46, q_33, q_22, q_13, q_6, q_1, y] : List Nat) := fun h9 => by
    simp only [List.mem_cons, List.not_mem_nil, or_false] at h9
    rcases h9 with h9 | h9 | h9 | h9 | h9 | h9 | h9 | h9 | h9 | h9 | h9 | h9
    · rw [h9, f_165] at hq_q_166; cases hq_q_166
    · rw [h9, f_164] at hq_q_166; cases hq_q_166
    · rw [h9, f_163] at hq_q_166; cases hq_q_166
    · rw [h9, f_162] at hq_q_166; cases hq_q_166
    · rw [h9, f_161] at hq_q_166; cases hq_q_166
    · rw [h9, f_160] at hq_q_166; cases hq_q_166
    · rw [h9, f_159] at hq_q_166; cases hq_q_166
    · rw [h9, f_158] at hq_q_166; cases hq_q_166
    · rw [h9, f_157] at hq_q_166; cases hq_q_166
    · rw [h9, f_156] at hq_q_166; cases hq_q_166
    · rw [h9, f_155] at hq_q_166; cases hq_q_166
    · rw [h9, fa_φ_154] at hq_q_166; cases hq_q_166
  have np_12 := List.nodup_cons.mpr ⟨nq_12, np_11⟩
  refine hv_putF (pc := 97) (ty := .array (.int)) (C := RX9) (T := TX9) (N := 22) (ref := RX9) S uwX9 tyX9 tyX9_ok nmX9 hK hH hS f_179 rfl 17 (by decide) tw_962 (fun _ h9 => h9) rfl hnm rfl (by decide +kernel) rfl rfl (Nat.le_of_ble_eq_true rfl) dX9_init_97 (fun H locs hH hS => ?_)
  replace hH := nup (e := .inr (13, [.int (nI 0), .long (0), .int (nI 0), .ref q_1, .ref q_6, .int (nI 0), .ref q_13, .ref q_22, .ref q_33, .ref q_46, .ref q_61, .ref q_78, .ref q_97, .int (nI 0), .ref q_118, .ref q_141, .int (nI 0), .ref q_166, .null, .null, .int (nI 0), .int (nI 0)])) hH
  obtain ⟨φ_180, hφ_180, fa_φ_180, fr_φ_180, hH⟩ := hH
  have f_181 := fr_φ_180 _ _ (hp_ne f_168 f_179 (by intro h; first | (cases h; done) | (simp at h; done))) f_168
  have f_182 := fr_φ_180 _ _ (hp_ne f_169 f_179 (by intro h; first | (cases h; done) | (simp at h; done))) f_169
  have f_183 := fr_φ_180 _ _ (hp_ne f_170 f_179 (by intro h; first | (cases h; done) | (simp at h; done))) f_170
  have f_184 := fr_φ_180 _ _ (hp_ne f_171 f_179 (by intro h; first | (cases h; done) | (simp at h; done))) f_171
  have f_185 := fr_φ_180 _ _ (hp_ne f_172 f_179 (by intro h; first | (cases h; done) | (simp at h; done))) f_172
  have f_186 := fr_φ_180 _ _ (hp_ne f_173 f_179 (by intro h; first | (cases h; done) | (simp at h; done))) f_173
  have f_187 := fr_φ_180 _ _ (hp_ne f_174 f_179 (by intro h; first | (cases h; done) | (simp at h; done))) f_174
  have f_188 := fr_φ_180 _ _ (hp_ne f_175 f_179 (by intro h; first | (cases h; done) | (simp at h; done))) f_175
  have f_189 := fr_φ_180 _ _ (hp_ne f_176 f_179 (by intro h; first | (cases h; done) | (simp at h; done))) f_176
  have f_190 := fr_φ_180 _ _ (hp_ne f_177 f_179 (by intro h; first | (cases h; done) | (simp at h; done))) f_177
  have f_191 := fr_φ_180 _ _ (hp_ne f_178 f_179 (by intro h; first | (cases h; done) | (simp at h; done))) f_178
  have f_192 := fr_φ_180 _ _ (hp_ne fa_φ_167 f_179 (by intro h; first | (cases h; done) | (simp at h; done))) fa_φ_167
  refine lv_aload_n (pc := 100) S.1 S.2.1 dX9_init_100 rfl (lv_at hl 0 rfl) ?_
  refine lv_bipush (pc := 101) (v := nI 6) S.1 S.2.1 dX9_init_101 (by decide) ?_
  refine hv_newa (pc := 103) (atype := .int) (a0 := (6, .inl (fun j => nI (zr j)))) (N' := 6) S tw_89 (ty := .int) rfl hK 1 rfl hH hS hA (fun _ => rfl) (by decide) (by decide) (Nat.le_of_ble_eq_true rfl) (Nat.le_of_ble_eq_true rfl) (Nat.le_of_ble_eq_true rfl) dX9_init_103 (fun q_193 H hq_q_193 hH hS => ?_)
  replace hH := nup (e := .inl (cA 1, 6, .inl (fun j => nI (zr j)))) hH
  obtain ⟨φ_194, hφ_194, fa_φ_194, fr_φ_194, hH⟩ := hH
  have f_195 := fr_φ_194 _ _ (hp_nf f_181 hq_q_193) f_181
  have f_196 := fr_φ_194 _ _ (hp_nf f_182 hq_q_193) f_182
  have f_197 := fr_φ_194 _ _ (hp_nf f_183 hq_q_193) f_183
  have f_198 := fr_φ_194 _ _ (hp_nf f_184 hq_q_193) f_184
  have f_199 := fr_φ_194 _ _ (hp_nf f_185 hq_q_193) f_185
  have f_200 := fr_φ_194 _ _ (hp_nf f_186 hq_q_193) f_186
  have f_201 := fr_φ_194 _ _ (hp_nf f_187 hq_q_193) f_187
  have f_202 := fr_φ_194 _ _ (hp_nf f_188 hq_q_193) f_188
  have f_203 := fr_φ_194 _ _ (hp_nf f_189 hq_q_193) f_189
  have f_204 := fr_φ_194 _ _ (hp_nf f_190 hq_q_193) f_190
  have f_205 := fr_φ_194 _ _ (hp_nf f_191 hq_q_193) f_191
  have f_206 := fr_φ_194 _ _ (hp_nf f_192 hq_q_193) f_192
  have f_207 := fr_φ_194 _ _ (hp_nf fa_φ_180 hq_q_193) fa_φ_180
  have nq_13 : ¬ q_193 ∈ ([q_166, q_141, q_118, q_97, q_78, q_61, q_46, q_33, q_22, q_13, q_6, q_1, y] : List Nat) := fun h9 => by
    simp only [List.mem_cons, List.not_mem_nil, or_false] at h9
    rcases h9 with h9 | h9 | h9 | h9 | h9 | h9 | h9 | h9 | h9 | h9 | h9 | h9 | h9
    · rw [h9, f_192] at hq_q_193; cases hq_q_193
    · rw [h9, f_191] at hq_q_193; cases hq_q_193
    · rw [h9, f_190] at hq_q_193; cases hq_q_193
    · rw [h9, f_189] at hq_q_193; cases hq_q_193
    · rw [h9, f_188] at hq_q_193; cases hq_q_193
    · rw [h9, f_187] at hq_q_193; cases hq_q_193
    · rw [h9, f_186] at hq_q_193; cases hq_q_193
    · rw [h9, f_185] at hq_q_193; cases hq_q_193
    · rw [h9, f_184] at hq_q_193; cases hq_q_193
    · rw [h9, f_183] at hq_q_193; cases hq_q_193
    · rw [h9, f_182] at hq_q_193; cases hq_q_193
    · rw [h9, f_181] at hq_q_193; cases hq_q_193
    · rw [h9, fa_φ_180] at hq_q_193; cases hq_q_193
  have np_13 := List.nodup_cons.mpr ⟨nq_13, np_12⟩
  refine hv_putF (pc := 105) (ty := .array (.int)) (C := RX9) (T := TX9) (N := 22) (ref := RX9) S uwX9 tyX9 tyX9_ok nmX9 hK hH hS f_207 rfl 18 (by decide) tw_963 (fun _ h9 => h9) rfl hnm rfl (by decide +kernel) rfl rfl (Nat.le_of_ble_eq_true rfl) dX9_init_105 (fun H locs hH hS => ?_)
  replace hH := nup (e := .inr (13, [.int (nI 0), .long (0), .int (nI 0), .ref q_1, .ref q_6, .int (nI 0), .ref q_13, .ref q_22, .ref q_33, .ref q_46, .ref q_61, .ref q_78, .ref q_97, .int (nI 0), .ref q_118, .ref q_141, .int (nI 0), .ref q_166, .ref q_193, .null, .int (nI 0), .int (nI 0)])) hH
  obtain ⟨φ_208, hφ_208, fa_φ_208, fr_φ_208, hH⟩ := hH
  have f_209 := fr_φ_208 _ _ (hp_ne f_195 f_207 (by intro h; first | (cases h; done) | (simp at h; done))) f_195
  have f_210 := fr_φ_208 _ _ (hp_ne f_196 f_207 (by intro h; first | (cases h; done) | (simp at h; done))) f_196
  have f_211 := fr_φ_208 _ _ (hp_ne f_197 f_207 (by intro h; first | (cases h; done) | (simp at h; done))) f_197
  have f_212 := fr_φ_208 _ _ (hp_ne f_198 f_207 (by intro h; first | (cases h; done) | (simp at h; done))) f_198
  have f_213 := fr_φ_208 _ _ (hp_ne f_199 f_207 (by intro h; first | (cases h; done) | (simp at h; done))) f_199
  have f_214 := fr_φ_208 _ _ (hp_ne f_200 f_207 (by intro h; first | (cases h; done) | (simp at h; done))) f_200
  have f_215 := fr_φ_208 _ _ (hp_ne f_201 f_207 (by intro h; first | (cases h; done) | (simp at h; done))) f_201
  have f_216 := fr_φ_208 _ _ (hp_ne f_202 f_207 (by intro h; first | (cases h; done) | (simp at h; done))) f_202
  have f_217 := fr_φ_208 _ _ (hp_ne f_203 f_207 (by intro h; first | (cases h; done) | (simp at h; done))) f_203
  have f_218 := fr_φ_208 _ _ (hp_ne f_204 f_207 (by intro h; first | (cases h; done) | (simp at h; done))) f_204
  have f_219 := fr_φ_208 _ _ (hp_ne f_205 f_207 (by intro h; first | (cases h; done) | (simp at h; done))) f_205
  have f_220 := fr_φ_208 _ _ (hp_ne f_206 f_207 (by intro h; first | (cases h; done) | (simp at h; done))) f_206
  have f_221 := fr_φ_208 _ _ (hp_ne fa_φ_194 f_207 (by intro h; first | (cases h; done) | (simp at h; done))) fa_φ_194
  refine lv_aload_n (pc := 108) S.1 S.2.1 dX9_init_108 rfl (lv_at hl 0 rfl) ?_
  refine lv_bipush (pc := 109) (v := nI 8) S.1 S.2.1 dX9_init_109 (by decide) ?_
  refine hv_newa (pc := 111) (atype := .int) (a0 := (8, .inl (fun j => nI (zr j)))) (N' := 8) S tw_89 (ty := .int) rfl hK 1 rfl hH hS hA (fun _ => rfl) (by decide) (by decide) (Nat.le_of_ble_eq_true rfl) (Nat.le_of_ble_eq_true rfl) (Nat.le_of_ble_eq_true rfl) dX9_init_111 (fun q_222 H hq_q_222 hH hS => ?_)
  replace hH := nup (e := .inl (cA 1, 8, .inl (fun j => nI (zr j)))) hH
  obtain ⟨φ_223, hφ_223, fa_φ_223, fr_φ_223, hH⟩ := hH
  have f_224 := fr_φ_223 _ _ (hp_nf f_209 hq_q_222) f_209
  have f_225 := fr_φ_223 _ _ (hp_nf f_210 hq_q_222) f_210
  have f_226 := fr_φ_223 _ _ (hp_nf f_211 hq_q_222) f_211
  have f_227 := fr_φ_223 _ _ (hp_nf f_212 hq_q_222) f_212
  have f_228 := fr_φ_223 _ _ (hp_nf f_213 hq_q_222) f_213
  have f_229 := fr_φ_223 _ _ (hp_nf f_214 hq_q_222) f_214
  have f_230 := fr_φ_223 _ _ (hp_nf f_215 hq_q_222) f_215
  have f_231 := fr_φ_223 _ _ (hp_nf f_216 hq_q_222) f_216
  have f_232 := fr_φ_223 _ _ (hp_nf f_217 hq_q_222) f_217
  have f_233 := fr_φ_223 _ _ (hp_nf f_218 hq_q_222) f_218
  have f_234 := fr_φ_223 _ _ (hp_nf f_219 hq_q_222) f_219
  have f_235 := fr_φ_223 _ _ (hp_nf f_220 hq_q_222) f_220
  have f_236 := fr_φ_223 _ _ (hp_nf f_221 hq_q_222) f_221
  have f_237 := fr_φ_223 _ _ (hp_nf fa_φ_208 hq_q_222) fa_φ_208
  have nq_14 : ¬ q_222 ∈ ([q_193, q_166, q_141, q_118, q_97, q_78, q_61, q_46, q_33, q_22, q_13, q_6, q_1, y] : List Nat) := fun h9 => by
    simp only [List.mem_cons, List.not_mem_nil, or_false] at h9
    rcases h9 with h9 | h9 | h9 | h9 | h9 | h9 | h9 | h9 | h9 | h9 | h9 | h9 | h9 | h9
    · rw [h9, f_221] at hq_q_222; cases hq_q_222
    · rw [h9, f_220] at hq_q_222; cases hq_q_222
    · rw [h9, f_219] at hq_q_222; cases hq_q_222
    · rw [h9, f_218] at hq_q_222; cases hq_q_222
    · rw [h9, f_217] at hq_q_222; cases hq_q_222
    · rw [h9, f_216] at hq_q_222; cases hq_q_222
    · rw [h9, f_215] at hq_q_222; cases hq_q_222
    · rw [h9, f_214] at hq_q_222; cases hq_q_222
    · rw [h9, f_213] at hq_q_222; cases hq_q_222
    · rw [h9, f_212] at hq_q_222; cases hq_q_222
    · rw [h9, f_211] at hq_q_222; cases hq_q_222
    · rw [h9, f_210] at hq_q_222; cases hq_q_222
    · rw [h9, f_209] at hq_q_222; cases hq_q_222
    · rw [h9, fa_φ_208] at hq_q_222; cases hq_q_222
  have np_14 := List.nodup_cons.mpr ⟨nq_14, np_13⟩
  refine hv_putF (pc := 113) (ty := .array (.int)) (C := RX9) (T := TX9) (N := 22) (ref := RX9) S uwX9 tyX9 tyX9_ok nmX9 hK hH hS f_237 rfl 19 (by decide) tw_964 (fun _ h9 => h9) rfl hnm rfl (by decide +kernel) rfl rfl (Nat.le_of_ble_eq_true rfl) dX9_init_113 (fun H locs hH hS => ?_)
  replace hH := nup (e := .inr (13, [.int (nI 0), .long (0), .int (nI 0), .ref q_1, .ref q_6, .int (nI 0), .ref q_13, .ref q_22, .ref q_33, .ref q_46, .ref q_61, .ref q_78, .ref q_97, .int (nI 0), .ref q_118, .ref q_141, .int (nI 0), .ref q_166, .ref q_193, .ref q_222, .int (nI 0), .int (nI 0)])) hH
  obtain ⟨φ_238, hφ_238, fa_φ_238, fr_φ_238, hH⟩ := hH
  have f_239 := fr_φ_238 _ _ (hp_ne f_224 f_237 (by intro h; first | (cases h; done) | (simp at h; done))) f_224
  have f_240 := fr_φ_238 _ _ (hp_ne f_225 f_237 (by intro h; first | (cases h; done) | (simp at h; done))) f_225
  have f_241 := fr_φ_238 _ _ (hp_ne f_226 f_237 (by intro h; first | (cases h; done) | (simp at h; done))) f_226
  have f_242 := fr_φ_238 _ _ (hp_ne f_227 f_237 (by intro h; first | (cases h; done) | (simp at h; done))) f_227
  have f_243 := fr_φ_238 _ _ (hp_ne f_228 f_237 (by intro h; first | (cases h; done) | (simp at h; done))) f_228
  have f_244 := fr_φ_238 _ _ (hp_ne f_229 f_237 (by intro h; first | (cases h; done) | (simp at h; done))) f_229
  have f_245 := fr_φ_238 _ _ (hp_ne f_230 f_237 (by intro h; first | (cases h; done) | (simp at h; done))) f_230
  have f_246 := fr_φ_238 _ _ (hp_ne f_231 f_237 (by intro h; first | (cases h; done) | (simp at h; done))) f_231
  have f_247 := fr_φ_238 _ _ (hp_ne f_232 f_237 (by intro h; first | (cases h; done) | (simp at h; done))) f_232
  have f_248 := fr_φ_238 _ _ (hp_ne f_233 f_237 (by intro h; first | (cases h; done) | (simp at h; done))) f_233
  have f_249 := fr_φ_238 _ _ (hp_ne f_234 f_237 (by intro h; first | (cases h; done) | (simp at h; done))) f_234
  have f_250 := fr_φ_238 _ _ (hp_ne f_235 f_237 (by intro h; first | (cases h; done) | (simp at h; done))) f_235
  have f_251 := fr_φ_238 _ _ (hp_ne f_236 f_237 (by intro h; first | (cases h; done) | (simp at h; done))) f_236
  have f_252 := fr_φ_238 _ _ (hp_ne fa_φ_223 f_237 (by intro h; first | (cases h; done) | (simp at h; done))) fa_φ_223
  refine lv_aload_n (pc := 116) S.1 S.2.1 dX9_init_116 rfl (lv_at hl 0 rfl) ?_
  refine lv_iconst (pc := 117) (v := nI 0) S.1 S.2.1 dX9_init_117 (by decide) ?_
  refine hv_put (pc := 118) (ty := .int) (C := RX9) (T := TX9) (N := 22) (ref := RX9) S uwX9 tyX9 tyX9_ok nmX9 hK hH hS fa_φ_238 rfl 20 (by decide) tw_965 (fun _ h9 => h9) rfl (by decide +kernel) rfl rfl (Nat.le_of_ble_eq_true rfl) dX9_init_118 (fun H locs hH hS => ?_)
  replace hH := nup (e := .inr (13, [.int (nI 0), .long (0), .int (nI 0), .ref q_1, .ref q_6, .int (nI 0), .ref q_13, .ref q_22, .ref q_33, .ref q_46, .ref q_61, .ref q_78, .ref q_97, .int (nI 0), .ref q_118, .ref q_141, .int (nI 0), .ref q_166, .ref q_193, .ref q_222, .int (nI 0), .int (nI 0)])) hH
  obtain ⟨φ_253, hφ_253, fa_φ_253, fr_φ_253, hH⟩ := hH
  have f_254 := fr_φ_253 _ _ (hp_ne f_239 fa_φ_238 (by intro h; first | (cases h; done) | (simp at h; done))) f_239
  have f_255 := fr_φ_253 _ _ (hp_ne f_240 fa_φ_238 (by intro h; first | (cases h; done) | (simp at h; done))) f_240
  have f_256 := fr_φ_253 _ _ (hp_ne f_241 fa_φ_238 (by intro h; first | (cases h; done) | (simp at h; done))) f_241
  have f_257 := fr_φ_253 _ _ (hp_ne f_242 fa_φ_238 (by intro h; first | (cases h; done) | (simp at h; done))) f_242
  have f_258 := fr_φ_253 _ _ (hp_ne f_243 fa_φ_238 (by intro h; first | (cases h; done) | (simp at h; done))) f_243
  have f_259 := fr_φ_253 _ _ (hp_ne f_244 fa_φ_238 (by intro h; first | (cases h; done) | (simp at h; done))) f_244
  have f_260 := fr_φ_253 _ _ (hp_ne f_245 fa_φ_238 (by intro h; first | (cases h; done) | (simp at h; done))) f_245
  have f_261 := fr_φ_253 _ _ (hp_ne f_246 fa_φ_238 (by intro h; first | (cases h; done) | (simp at h; done))) f_246
  have f_262 := fr_φ_253 _ _ (hp_ne f_247 fa_φ_238 (by intro h; first | (cases h; done) | (simp at h; done))) f_247
  have f_263 := fr_φ_253 _ _ (hp_ne f_248 fa_φ_238 (by intro h; first | (cases h; done) | (simp at h; done))) f_248
  have f_264 := fr_φ_253 _ _ (hp_ne f_249 fa_φ_238 (by intro h; first | (cases h; done) | (simp at h; done))) f_249
  have f_265 := fr_φ_253 _ _ (hp_ne f_250 fa_φ_238 (by intro h; first | (cases h; done) | (simp at h; done))) f_250
  have f_266 := fr_φ_253 _ _ (hp_ne f_251 fa_φ_238 (by intro h; first | (cases h; done) | (simp at h; done))) f_251
  have f_267 := fr_φ_253 _ _ (hp_ne f_252 fa_φ_238 (by intro h; first | (cases h; done) | (simp at h; done))) f_252
  exact hv_vret (pc := 121) S hr hlocks hH hS (⟨rfl, fun i => ([q_222, q_193, q_166, q_141, q_118, q_97, q_78, q_61, q_46, q_33, q_22, q_13, q_6, q_1, y] : List Nat).getD (14 - i) 0, rfl, fun i j hi hj h => by have h2 := nodup_at np_14 (14 - i) (14 - j) (by simp only [List.length_cons, List.length_nil]; omega) (by simp only [List.length_cons, List.length_nil]; omega) h; omega, fa_φ_253, f_254, f_255, f_256, f_257, f_258, f_259, f_260, f_261, f_262, f_263, f_264, f_265, f_266, f_267⟩) (Nat.le_of_ble_eq_true rfl) (Nat.le_of_ble_eq_true rfl) dX9_init_121
