theorem fAlo_le2 (k : Nat) : fAlo k ≤ 9 := by
  match k with
  | 0 | 1 | 2 | 3 => decide
  | k + 4 => exact Nat.zero_le _
set_option maxHeartbeats 4000000 in
set_option maxRecDepth 100000 in
/-- cycle -/
theorem c_m_cycle (l : Launch) (D : va_G) (cA : Nat → ClassId) (ga : Nat → Nat → Nat) (φ : hpM) (sz : Nat) (q : Nat → Nat) (sc : Nat → Nat) (ar : Nat → Nat → Nat) (x z : Int32) (hm : MP cA q sc ar φ) (hq : ∀ i j, i < 15 → j < 15 → q i = q j → i = j) (hnc : sc 3 ≤ 12) (hwb : ∀ i, i < 6 * sc 3 → (0 < ar 4 i ∧ ar 4 i ≤ 1200) ∧ (0 < ar 5 i ∧ ar 5 i ≤ 60) ∧ ar 6 i ≤ 500) (hnh : sc 5 ≤ 6) (h3 : ∀ i, ar 3 i < 4) (h7 : ∀ i, ar 7 i ≤ 12) (h8 : ∀ i, ar 8 i ≤ 1) (h12 : ∀ i, ar 12 i ≤ 30) (h13 : ∀ i, ar 13 i < 2 ^ 30) : hM l yX9_cycle cX9_cycle 8 (some .int) { frames := 10, cells := 0, slots := 0, locals := 320 } [.ref (q 0), .int (x), .int (z)] D cA ga φ sz (fun v φ' => if cycleX (sc 3) (sc 5) (ar 3) (ar 7) (ar 12) (ar 8) x z = 0 then (∃ x1 z1 : Nat, x = nI x1 ∧ z = nI z1 ∧ x1 < sc 3 ∧ z1 < sc 5 ∧ ar 12 z1 + fAir (ar 3 x1) ≤ 30 ∧ ar 8 x1 = 0 ∧ ar 7 x1 < 12 ∧ v = some (.int (nI (shA (ar 3 x1) (ar 4 (6 * x1))))) ∧ MP cA q (va_up sc 7 (0)) (va_up (va_up (va_up (va_up (va_up ar 4 (pfy (ar 4) (6 * x1) (fun b => shA (ar 3 x1) (ar 4 (6 * x1 + b))) 6)) 5 (pfy (ar 5) (6 * x1) (fun b => shL (ar 3 x1) (ar 5 (6 * x1 + b))) 6)) 7 (va_up (ar 7) x1 (ar 7 x1 + 1))) 12 (va_up (ar 12) z1 (ar 12 z1 + fAir (ar 3 x1)))) 13 (va_up (ar 13) z1 (ar 13 z1 + fAir (ar 3 x1)))) φ') else (v = some (.int (nI 0)) ∧ MP cA q (va_up sc 7 (mcd 9 2 1 (cycleX (sc 3) (sc 5) (ar 3) (ar 7) (ar 12) (ar 8) x z))) ar φ')) 0 0 := by
  refine hM.of (by decide) (Nat.le_of_ble_eq_true rfl) rfl ?_
  intro p e s m args below meth c ls H locs S hr hlocks hnm hsz hHz hH hK hX hS hA hl
  obtain ⟨f0, f1, f2, f3, f4, f5, f6, f7, f8, f9, f10, f11, f12, f13, f14⟩ := hm
  refine lv_aload_n (pc := 0) S.1 S.2.1 dX9_cycle_0 rfl (lv_at hl 0 rfl) ?_
  refine lv_iload_n (pc := 1) S.1 S.2.1 dX9_cycle_1 rfl (lv_at hl 1 rfl) ?_
  by_cases hx : inN x (sc 3)
  · skip
    obtain ⟨x1, rfl, hxn⟩ := hx.nat (by omega)
    refine hv_call (pc := 2) (va_runV (As := [.int (nI x1)]) (rest := []) S (c_m_isCone l D cA ga φ H.size q sc ar (nI x1) ⟨f0, f1, f2, f3, f4, f5, f6, f7, f8, f9, f10, f11, f12, f13, f14⟩ hq hnc) (cwV 1 S.2.2.2.2 (gV tw_1057 tw_1059 sw_35 tw_7 tw_1060) rfl rfl rfl (by decide +kernel) ⟨Nat.le_of_ble_eq_true rfl, Nat.le_of_ble_eq_true rfl⟩) (pre0_V hH hK hX hS hA (hH.recv hK f0 rfl)) rfl rfl hl.1 rfl (lv_room (Nat.le_of_ble_eq_true rfl)) dX9_cycle_2 ⟨Nat.le_of_ble_eq_true rfl, Nat.le_of_ble_eq_true rfl⟩) hS (af_le hH hS hA) (fun v_1 φ_2 H locs hw_v_1 hH hS => ?_)
    obtain ⟨rfl, hqv_1⟩ := hw_v_1
    rw [hqv_1] at hH
    refine hv_ti (y := nI 1) (by rw [if_pos hx]) ?_
    refine hv_if_eq (pc := 5) (tgt := 26) (a := 1) S.1 S.2.1 (by omega) dX9_cycle_5 (by decide) (fun c_3 => ?_) (fun c_3 => ?_)
    · skip
      exact absurd c_3 (by omega)
    · skip
      refine lv_iload_n (pc := 8) S.1 S.2.1 dX9_cycle_8 rfl (lv_at hl 2 rfl) ?_
      refine lv_iconst (pc := 9) (v := nI 0) S.1 S.2.1 dX9_cycle_9 (by decide) ?_
      refine lv_aload_n (pc := 10) S.1 S.2.1 dX9_cycle_10 rfl (lv_at hl 0 rfl) ?_
      refine hv_get (pc := 11) (C := RX9) (T := TX9) (N := 22) (ref := RX9) S uwX9 hK hH f0 rfl 16 (by decide) tw_961 (fun _ h9 => h9) rfl dX9_cycle_11 ?_
      refine lv_iconst (pc := 14) (v := nI 1) S.1 S.2.1 dX9_cycle_14 (by decide) ?_
      refine lv_isub (pc := 15) S.1 S.2.1 dX9_cycle_15 ?_
      by_cases hz : inN z (sc 5)
      · skip
        obtain ⟨z1, rfl, hzn⟩ := hz.nat (by omega)
        refine hv_call (pc := 16) (va_runS (As := [.int (nI z1), .int (nI 0), .int (nI (sc 5) - nI 1)]) (rest := []) S (c_isIn l D cA ga φ H.size (nI z1) (nI 0) (nI (sc 5) - nI 1)) (va_cwS 3 S.2.2.2.2 (gS tw_1031 tw_1032 tw_7 tw_1033) rfl rfl rfl (by decide +kernel) ⟨Nat.le_of_ble_eq_true rfl, Nat.le_of_ble_eq_true rfl⟩) (pre0_S hH hK hX hS hA) rfl rfl hl.1 rfl (lv_room (Nat.le_of_ble_eq_true rfl)) dX9_cycle_16 ⟨Nat.le_of_ble_eq_true rfl, Nat.le_of_ble_eq_true rfl⟩) hS (af_le hH hS hA) (fun v_4 φ_5 H locs hw_v_4 hH hS => ?_)
        obtain ⟨rfl, hqv_4⟩ := hw_v_4
        rw [hqv_4] at hH
        refine hv_ti (y := nI 1) (by rw [inB_N (by omega), if_pos hz]) ?_
        refine hv_if_eq (pc := 19) (tgt := 26) (a := 1) S.1 S.2.1 (by omega) dX9_cycle_19 (by decide) (fun c_6 => ?_) (fun c_6 => ?_)
        · skip
          exact absurd c_6 (by omega)
        · skip
          have hx31 : x1 < 2 ^ 31 := by omega
          have hz31 : z1 < 2 ^ 31 := by omega
          have h3x := h3 x1
          have h7x := h7 x1
          have h8x := h8 x1
          have h12z := h12 z1
          have h13z := h13 z1
          have hfa := fAir_le (ar 3 x1)
          refine lv_iconst (pc := 22) (v := nI 1) S.1 S.2.1 dX9_cycle_22 (by decide) ?_
          refine lv_goto (pc := 23) (tgt := 27) S.1 S.2.1 dX9_cycle_23 (by decide) ?_
          refine lv_istore_n (pc := 27) (lv' := [(3, .int (nI 1)), (0, .ref (q 0)), (1, .int (nI x1)), (2, .int (nI z1))]) S.1 S.2.1 dX9_cycle_27 rfl hl (by decide) rfl (fun ls hl => ?_)
          refine lv_iload_n (pc := 28) S.1 S.2.1 dX9_cycle_28 rfl (lv_at hl 0 rfl) ?_
          refine hv_if_eq (pc := 29) (tgt := 77) (a := 1) S.1 S.2.1 (by omega) dX9_cycle_29 (by decide) (fun c_7 => ?_) (fun c_7 => ?_)
          · skip
            exact absurd c_7 (by omega)
          · skip
            refine lv_aload_n (pc := 32) S.1 S.2.1 dX9_cycle_32 rfl (lv_at hl 1 rfl) ?_
            refine hv_get (pc := 33) (C := RX9) (T := TX9) (N := 22) (ref := RX9) S uwX9 hK hH f0 rfl 17 (by decide) tw_962 (fun _ h9 => h9) rfl dX9_cycle_33 ?_
            refine lv_iload_n (pc := 36) S.1 S.2.1 dX9_cycle_36 rfl (lv_at hl 3 rfl) ?_
            refine hv_iald (pc := 37) S hK hH 1 f12 rfl (vp_in_nI (by omega) (by omega)) dX9_cycle_37 ?_
            refine hv_ti (y := nI ((ar 12) z1)) (hv_ld (by omega)) ?_
            refine lv_aload_n (pc := 38) S.1 S.2.1 dX9_cycle_38 rfl (lv_at hl 1 rfl) ?_
            refine hv_get (pc := 39) (C := RX9) (T := TX9) (N := 22) (ref := RX9) S uwX9 hK hH f0 rfl 6 (by decide) tw_951 (fun _ h9 => h9) rfl dX9_cycle_39 ?_
            refine lv_iload_n (pc := 42) S.1 S.2.1 dX9_cycle_42 rfl (lv_at hl 2 rfl) ?_
            refine hv_iald (pc := 43) S hK hH 1 f3 rfl (vp_in_nI (by omega) (by omega)) dX9_cycle_43 ?_
            refine hv_ti (y := nI ((ar 3) x1)) (hv_ld (by omega)) ?_
            refine hv_call (pc := 44) (va_runS (As := [.int (nI ((ar 3) x1))]) (rest := [.int (nI ((ar 12) z1))]) S (c_m_airOf l D cA ga φ H.size (ar 3 x1) h3x) (va_cwS 1 S.2.2.2.2 (gS tw_1061 tw_1062 tw_7 tw_1063) rfl rfl rfl (by decide +kernel) ⟨Nat.le_of_ble_eq_true rfl, Nat.le_of_ble_eq_true rfl⟩) (pre0_S hH hK hX hS hA) rfl rfl hl.1 rfl (lv_room (Nat.le_of_ble_eq_true rfl)) dX9_cycle_44 ⟨Nat.le_of_ble_eq_true rfl, Nat.le_of_ble_eq_true rfl⟩) hS (af_le hH hS hA) (fun v_8 φ_9 H locs hw_v_8 hH hS => ?_)
            obtain ⟨rfl, hqv_8⟩ := hw_v_8
            rw [hqv_8] at hH
            refine lv_iadd (pc := 47) S.1 S.2.1 dX9_cycle_47 ?_
            refine hv_ti (y := nI (((ar 12) z1) + (fAir (ar 3 x1)))) (nI_add _ _) ?_
            refine lv_bipush (pc := 48) (v := nI 30) S.1 S.2.1 dX9_cycle_48 (by decide) ?_
            by_cases ha : ar 12 z1 + fAir (ar 3 x1) ≤ 30
            · skip
              refine hv_icmp_gt (pc := 50) (tgt := 77) (a := ((ar 12) z1) + (fAir (ar 3 x1))) (b := 30) S.1 S.2.1 (by omega) (by omega) dX9_cycle_50 (by decide) (fun c_10 => ?_) (fun c_10 => ?_)
              · skip
                exact absurd c_10 (by omega)
              · skip
                refine lv_aload_n (pc := 53) S.1 S.2.1 dX9_cycle_53 rfl (lv_at hl 1 rfl) ?_
                refine hv_get (pc := 54) (C := RX9) (T := TX9) (N := 22) (ref := RX9) S uwX9 hK hH f0 rfl 11 (by decide) tw_956 (fun _ h9 => h9) rfl dX9_cycle_54 ?_
                refine lv_iload_n (pc := 57) S.1 S.2.1 dX9_cycle_57 rfl (lv_at hl 2 rfl) ?_
                refine hv_zald (pc := 58) S hK hH 2 f8 rfl (vp_in_nI (by omega) (by omega)) dX9_cycle_58 ?_
                refine hv_ti (y := nI ((ar 8) x1)) (hv_ld (by omega)) ?_
                by_cases hd : ar 8 x1 = 0
                · skip
                  refine hv_if_ne (pc := 59) (tgt := 77) (a := (ar 8) x1) S.1 S.2.1 (by omega) dX9_cycle_59 (by decide) (fun c_11 => ?_) (fun c_11 => ?_)
                  · skip
                    exact absurd c_11 (by omega)
                  · skip
                    refine lv_aload_n (pc := 62) S.1 S.2.1 dX9_cycle_62 rfl (lv_at hl 1 rfl) ?_
                    refine hv_get (pc := 63) (C := RX9) (T := TX9) (N := 22) (ref := RX9) S uwX9 hK hH f0 rfl 10 (by decide) tw_955 (fun _ h9 => h9) rfl dX9_cycle_63 ?_
                    refine lv_iload_n (pc := 66) S.1 S.2.1 dX9_cycle_66 rfl (lv_at hl 2 rfl) ?_
                    refine hv_iald (pc := 67) S hK hH 1 f7 rfl (vp_in_nI (by omega) (by omega)) dX9_cycle_67 ?_
                    refine hv_ti (y := nI ((ar 7) x1)) (hv_ld (by omega)) ?_
                    refine lv_bipush (pc := 68) (v := nI 12) S.1 S.2.1 dX9_cycle_68 (by decide) ?_
                    by_cases hc : ar 7 x1 < 12
                    · skip
                      refine hv_icmp_ge (pc := 70) (tgt := 77) (a := (ar 7) x1) (b := 12) S.1 S.2.1 (by omega) (by omega) dX9_cycle_70 (by decide) (fun c_12 => ?_) (fun c_12 => ?_)
                      · skip
                        exact absurd c_12 (by omega)
                      · skip
                        refine lv_iconst (pc := 73) (v := nI 1) S.1 S.2.1 dX9_cycle_73 (by decide) ?_
                        refine lv_goto (pc := 74) (tgt := 78) S.1 S.2.1 dX9_cycle_74 (by decide) ?_
                        refine lv_istore (pc := 78) (lv' := [(4, .int (nI 1)), (3, .int (nI 1)), (0, .ref (q 0)), (1, .int (nI x1)), (2, .int (nI z1))]) S.1 S.2.1 dX9_cycle_78 hl (by decide) rfl (fun ls hl => ?_)
                        refine lv_aload_n (pc := 80) S.1 S.2.1 dX9_cycle_80 rfl (lv_at hl 2 rfl) ?_
                        refine lv_iload_n (pc := 81) S.1 S.2.1 dX9_cycle_81 rfl (lv_at hl 1 rfl) ?_
                        refine hv_if_ne (pc := 82) (tgt := 89) (a := 1) S.1 S.2.1 (by omega) dX9_cycle_82 (by decide) (fun c_13 => ?_) (fun c_13 => ?_)
                        · skip
                          refine lv_iload (pc := 89) S.1 S.2.1 dX9_cycle_89 (lv_at hl 0 rfl) ?_
                          refine hv_if_eq (pc := 91) (tgt := 98) (a := 1) S.1 S.2.1 (by omega) dX9_cycle_91 (by decide) (fun c_14 => ?_) (fun c_14 => ?_)
                          · skip
                            exact absurd c_14 (by omega)
                          · skip
                            refine lv_iconst (pc := 94) (v := nI 0) S.1 S.2.1 dX9_cycle_94 (by decide) ?_
                            refine lv_goto (pc := 95) (tgt := 99) S.1 S.2.1 dX9_cycle_95 (by decide) ?_
                            have eX : cycleX (sc 3) (sc 5) (ar 3) (ar 7) (ar 12) (ar 8) (nI x1) (nI z1) = 0 := by rw [cycleX, if_pos hx, if_pos hz, nx_nI hx31, nx_nI hz31, if_pos ha, if_pos hd, if_pos hc]
                            refine hv_call (pc := 99) (va_runV (As := [.int (nI 0)]) (rest := []) S (c_m_goes l D cA ga φ H.size q sc ar (0) ⟨f0, f1, f2, f3, f4, f5, f6, f7, f8, f9, f10, f11, f12, f13, f14⟩ hq (by omega)) (cwV 1 S.2.2.2.2 (gV tw_1021 tw_1023 sw_32 tw_7 tw_1024) rfl rfl rfl (by decide +kernel) ⟨Nat.le_of_ble_eq_true rfl, Nat.le_of_ble_eq_true rfl⟩) (pre0_V hH hK hX hS hA (hH.recv hK f0 rfl)) rfl rfl hl.1 rfl (lv_room (Nat.le_of_ble_eq_true rfl)) dX9_cycle_99 ⟨Nat.le_of_ble_eq_true rfl, Nat.le_of_ble_eq_true rfl⟩) hS (af_le hH hS hA) (fun v_15 φ_16 H locs hw_v_15 hH hS => ?_)
                            obtain ⟨rfl, hm9⟩ := hw_v_15
                            obtain ⟨f_17, f_18, f_19, f_20, f_21, f_22, f_23, f_24, f_25, f_26, f_27, f_28, f_29, f_30, f_31⟩ := hm9
                            change φ_16 (q 0) = some (.inr (13, [.int (nI (sc 0)), .long (Int64.ofNat (sc 1)), .int (nI (sc 2)), .ref (q 1), .ref (q 2), .int (nI (sc 3)), .ref (q 3), .ref (q 4), .ref (q 5), .ref (q 6), .ref (q 7), .ref (q 8), .ref (q 9), .int (nI (sc 4)), .ref (q 10), .ref (q 11), .int (nI (sc 5)), .ref (q 12), .ref (q 13), .ref (q 14), .int (nI (sc 6)), .int (nI 0)])) at f_17
                            refine hv_ti (y := nI 1) (rfl) ?_
                            refine hv_if_ne (pc := 102) (tgt := 107) (a := 1) S.1 S.2.1 (by omega) dX9_cycle_102 (by decide) (fun c_32 => ?_) (fun c_32 => ?_)
                            · skip
                              refine lv_aload_n (pc := 107) S.1 S.2.1 dX9_cycle_107 rfl (lv_at hl 2 rfl) ?_
                              refine hv_get (pc := 108) (C := RX9) (T := TX9) (N := 22) (ref := RX9) S uwX9 hK hH f_17 rfl 6 (by decide) tw_951 (fun _ h9 => h9) rfl dX9_cycle_108 ?_
                              refine lv_iload_n (pc := 111) S.1 S.2.1 dX9_cycle_111 rfl (lv_at hl 3 rfl) ?_
                              refine hv_iald (pc := 112) S hK hH 1 f_20 rfl (vp_in_nI (by omega) (by omega)) dX9_cycle_112 ?_
                              refine hv_ti (y := nI ((ar 3) x1)) (hv_ld (by omega)) ?_
                              refine lv_istore (pc := 113) (lv' := [(5, .int (nI ((ar 3) x1))), (4, .int (nI 1)), (3, .int (nI 1)), (0, .ref (q 0)), (1, .int (nI x1)), (2, .int (nI z1))]) S.1 S.2.1 dX9_cycle_113 hl (by decide) rfl (fun ls hl => ?_)
                              refine lv_iconst (pc := 115) (v := nI 0) S.1 S.2.1 dX9_cycle_115 (by decide) ?_
                              refine lv_istore (pc := 116) (lv' := [(6, .int (nI 0)), (5, .int (nI ((ar 3) x1))), (4, .int (nI 1)), (3, .int (nI 1)), (0, .ref (q 0)), (1, .int (nI x1)), (2, .int (nI z1))]) S.1 S.2.1 dX9_cycle_116 hl (by decide) rfl (fun ls hl => ?_)
                              have hg : ∃ (n i : Nat) (φk_33 : hpM), ((i + n = 6) ∧ φk_33 = ups (ups φ_16 (q 4) (.inl (cA 1, 72, .inl (fun j => nI ((pfy (ar 4) (6 * x1) (fun b => shA (ar 3 x1) (ar 4 (6 * x1 + b))) i) j))))) (q 5) (.inl (cA 1, 72, .inl (fun j => nI ((pfy (ar 5) (6 * x1) (fun b => shL (ar 3 x1) (ar 5 (6 * x1 + b))) i) j)))) ∧ hp D (Af φ sz) φk_33 H) ∧ lv_has ls 8 [(0, .ref (q 0)), (1, .int (nI x1)), (2, .int (nI z1)), (5, .int (nI (ar 3 x1))), (6, .int (nI i))] := ⟨6, 0, φ_16, ⟨rfl, by rw [pfy_0, pfy_0, ← ups_id f_21]; exact ups_id f_22, hH⟩, lv_sub hl [4, 5, 6, 1, 0] rfl⟩
                              clear hl hH
                              try clear hHz
                              obtain ⟨n, i, φk_33, hi, hl⟩ := hg
                              induction n generalizing ls H locs i φk_33 with
                              | succ n ih =>
                                obtain ⟨hi, hφk_33, hH⟩ := hi
                                have f_34 : φk_33 (q 0) = some (.inr (13, [.int (nI (sc 0)), .long (Int64.ofNat (sc 1)), .int (nI (sc 2)), .ref (q 1), .ref (q 2), .int (nI (sc 3)), .ref (q 3), .ref (q 4), .ref (q 5), .ref (q 6), .ref (q 7), .ref (q 8), .ref (q 9), .int (nI (sc 4)), .ref (q 10), .ref (q 11), .int (nI (sc 5)), .ref (q 12), .ref (q 13), .ref (q 14), .int (nI (sc 6)), .int (nI 0)])) := by rw [hφk_33]; exact ups_n (fun h => absurd (hq 0 5 (by omega) (by omega) h) (by omega)) (ups_n (fun h => absurd (hq 0 4 (by omega) (by omega) h) (by omega)) (f_17))
                                have f_35 : φk_33 (q 1) = some (.inl (cA 1, 10, .inl (fun j => nI ((ar 1) j)))) := by rw [hφk_33]; exact ups_n (fun h => absurd (hq 1 5 (by omega) (by omega) h) (by omega)) (ups_n (fun h => absurd (hq 1 4 (by omega) (by omega) h) (by omega)) (f_18))
                                have f_36 : φk_33 (q 2) = some (.inl (cA 1, 10, .inl (fun j => nI ((ar 2) j)))) := by rw [hφk_33]; exact ups_n (fun h => absurd (hq 2 5 (by omega) (by omega) h) (by omega)) (ups_n (fun h => absurd (hq 2 4 (by omega) (by omega) h) (by omega)) (f_19))
                                have f_37 : φk_33 (q 3) = some (.inl (cA 1, 12, .inl (fun j => nI ((ar 3) j)))) := by rw [hφk_33]; exact ups_n (fun h => absurd (hq 3 5 (by omega) (by omega) h) (by omega)) (ups_n (fun h => absurd (hq 3 4 (by omega) (by omega) h) (by omega)) (f_20))
                                have f_38 : φk_33 (q 4) = some (.inl (cA 1, 72, .inl (fun j => nI ((pfy (ar 4) (6 * x1) (fun b => shA (ar 3 x1) (ar 4 (6 * x1 + b))) i) j)))) := by rw [hφk_33]; exact ups_n (fun h => absurd (hq 4 5 (by omega) (by omega) h) (by omega)) (ups_s _ _ _)
                                have f_39 : φk_33 (q 5) = some (.inl (cA 1, 72, .inl (fun j => nI ((pfy (ar 5) (6 * x1) (fun b => shL (ar 3 x1) (ar 5 (6 * x1 + b))) i) j)))) := by rw [hφk_33]; exact ups_s _ _ _
                                have f_40 : φk_33 (q 6) = some (.inl (cA 1, 72, .inl (fun j => nI ((ar 6) j)))) := by rw [hφk_33]; exact ups_n (fun h => absurd (hq 6 5 (by omega) (by omega) h) (by omega)) (ups_n (fun h => absurd (hq 6 4 (by omega) (by omega) h) (by omega)) (f_23))
                                have f_41 : φk_33 (q 7) = some (.inl (cA 1, 12, .inl (fun j => nI ((ar 7) j)))) := by rw [hφk_33]; exact ups_n (fun h => absurd (hq 7 5 (by omega) (by omega) h) (by omega)) (ups_n (fun h => absurd (hq 7 4 (by omega) (by omega) h) (by omega)) (f_24))
                                have f_42 : φk_33 (q 8) = some (.inl (cA 2, 12, .inl (fun j => nI ((ar 8) j)))) := by rw [hφk_33]; exact ups_n (fun h => absurd (hq 8 5 (by omega) (by omega) h) (by omega)) (ups_n (fun h => absurd (hq 8 4 (by omega) (by omega) h) (by omega)) (f_25))
                                have f_43 : φk_33 (q 9) = some (.inl (cA 2, 12, .inl (fun j => nI ((ar 9) j)))) := by rw [hφk_33]; exact ups_n (fun h => absurd (hq 9 5 (by omega) (by omega) h) (by omega)) (ups_n (fun h => absurd (hq 9 4 (by omega) (by omega) h) (by omega)) (f_26))
                                have f_44 : φk_33 (q 10) = some (.inl (cA 1, 8, .inl (fun j => nI ((ar 10) j)))) := by rw [hφk_33]; exact ups_n (fun h => absurd (hq 10 5 (by omega) (by omega) h) (by omega)) (ups_n (fun h => absurd (hq 10 4 (by omega) (by omega) h) (by omega)) (f_27))
                                have f_45 : φk_33 (q 11) = some (.inl (cA 1, 8, .inl (fun j => nI ((ar 11) j)))) := by rw [hφk_33]; exact ups_n (fun h => absurd (hq 11 5 (by omega) (by omega) h) (by omega)) (ups_n (fun h => absurd (hq 11 4 (by omega) (by omega) h) (by omega)) (f_28))
                                have f_46 : φk_33 (q 12) = some (.inl (cA 1, 6, .inl (fun j => nI ((ar 12) j)))) := by rw [hφk_33]; exact ups_n (fun h => absurd (hq 12 5 (by omega) (by omega) h) (by omega)) (ups_n (fun h => absurd (hq 12 4 (by omega) (by omega) h) (by omega)) (f_29))
                                have f_47 : φk_33 (q 13) = some (.inl (cA 1, 6, .inl (fun j => nI ((ar 13) j)))) := by rw [hφk_33]; exact ups_n (fun h => absurd (hq 13 5 (by omega) (by omega) h) (by omega)) (ups_n (fun h => absurd (hq 13 4 (by omega) (by omega) h) (by omega)) (f_30))
                                have f_48 : φk_33 (q 14) = some (.inl (cA 1, 8, .inl (fun j => nI ((ar 14) j)))) := by rw [hφk_33]; exact ups_n (fun h => absurd (hq 14 5 (by omega) (by omega) h) (by omega)) (ups_n (fun h => absurd (hq 14 4 (by omega) (by omega) h) (by omega)) (f_31))
                                obtain ⟨hw4, hw5, hw6⟩ := hwb (6 * x1 + i) (by omega)
                                have hfc := fAcr_le (ar 3 x1)
                                have hfl := fAlo_le2 (ar 3 x1)
                                refine lv_iload (pc := 118) S.1 S.2.1 dX9_cycle_118 (lv_at hl 4 rfl) ?_
                                refine lv_bipush (pc := 120) (v := nI 6) S.1 S.2.1 dX9_cycle_120 (by decide) ?_
                                refine hv_icmp_ge (pc := 122) (tgt := 184) (a := i) (b := 6) S.1 S.2.1 (by omega) (by omega) dX9_cycle_122 (by decide) (fun c_49 => ?_) (fun c_49 => ?_)
                                · skip
                                  exact absurd c_49 (by omega)
                                · skip
                                  refine lv_bipush (pc := 125) (v := nI 6) S.1 S.2.1 dX9_cycle_125 (by decide) ?_
                                  refine lv_iload_n (pc := 127) S.1 S.2.1 dX9_cycle_127 rfl (lv_at hl 1 rfl) ?_
                                  refine lv_imul (pc := 128) S.1 S.2.1 dX9_cycle_128 ?_
                                  refine hv_ti (y := nI (6 * x1)) (pk_mul _ _) ?_
                                  refine lv_iload (pc := 129) S.1 S.2.1 dX9_cycle_129 (lv_at hl 4 rfl) ?_
                                  refine lv_iadd (pc := 131) S.1 S.2.1 dX9_cycle_131 ?_
                                  refine hv_ti (y := nI ((6 * x1) + i)) (nI_add _ _) ?_
                                  refine lv_istore (pc := 132) (lv' := [(7, .int (nI ((6 * x1) + i))), (0, .ref (q 0)), (1, .int (nI x1)), (2, .int (nI z1)), (5, .int (nI (ar 3 x1))), (6, .int (nI i))]) S.1 S.2.1 dX9_cycle_132 hl (by decide) rfl (fun ls hl => ?_)
                                  refine lv_aload_n (pc := 134) S.1 S.2.1 dX9_cycle_134 rfl (lv_at hl 1 rfl) ?_
                                  refine hv_get (pc := 135) (C := RX9) (T := TX9) (N := 22) (ref := RX9) S uwX9 hK hH f_34 rfl 7 (by decide) tw_952 (fun _ h9 => h9) rfl dX9_cycle_135 ?_
                                  refine lv_iload (pc := 138) S.1 S.2.1 dX9_cycle_138 (lv_at hl 0 rfl) ?_
                                  refine lv_aload_n (pc := 140) S.1 S.2.1 dX9_cycle_140 rfl (lv_at hl 1 rfl) ?_
                                  refine hv_get (pc := 141) (C := RX9) (T := TX9) (N := 22) (ref := RX9) S uwX9 hK hH f_34 rfl 7 (by decide) tw_952 (fun _ h9 => h9) rfl dX9_cycle_141 ?_
                                  refine lv_iload (pc := 144) S.1 S.2.1 dX9_cycle_144 (lv_at hl 0 rfl) ?_
                                  refine hv_iald (pc := 146) S hK hH 1 f_38 rfl (vp_in_nI (by omega) (by omega)) dX9_cycle_146 ?_
                                  refine hv_ti (y := nI ((pfy (ar 4) (6 * x1) (fun b => shA (ar 3 x1) (ar 4 (6 * x1 + b))) i) ((6 * x1) + i))) (hv_ld (by omega)) ?_
                                  refine hv_ti (y := nI (ar 4 (6 * x1 + i))) (by rw [pfy_at]) ?_
                                  refine lv_iload (pc := 147) S.1 S.2.1 dX9_cycle_147 (lv_at hl 4 rfl) ?_
                                  refine hv_call (pc := 149) (va_runS (As := [.int (nI (ar 3 x1))]) (rest := [.int (nI (ar 4 (6 * x1 + i))), .int (nI ((6 * x1) + i)), .ref (q 4)]) S (c_m_across l D cA ga φk_33 H.size (ar 3 x1) h3x) (va_cwS 1 S.2.2.2.2 (gS tw_1064 tw_1065 tw_7 tw_1066) rfl rfl rfl (by decide +kernel) ⟨Nat.le_of_ble_eq_true rfl, Nat.le_of_ble_eq_true rfl⟩) (pre0_S hH hK hX hS hA) rfl rfl hl.1 rfl (lv_room (Nat.le_of_ble_eq_true rfl)) dX9_cycle_149 ⟨Nat.le_of_ble_eq_true rfl, Nat.le_of_ble_eq_true rfl⟩) hS (af_le hH hS hA) (fun v_50 φ_51 H locs hw_v_50 hH hS => ?_)
                                  obtain ⟨rfl, hqv_50⟩ := hw_v_50
                                  rw [hqv_50] at hH
                                  refine hv_call (pc := 152) (va_runS (As := [.int (nI (ar 4 (6 * x1 + i))), .int (nI (fAcr (ar 3 x1)))]) (rest := [.int (nI ((6 * x1) + i)), .ref (q 4)]) S (c_m_shrunk l D cA ga φk_33 H.size (ar 4 (6 * x1 + i)) (fAcr (ar 3 x1)) (by omega) (by omega)) (va_cwS 2 S.2.2.2.2 (gS tw_1067 tw_1068 tw_7 tw_1069) rfl rfl rfl (by decide +kernel) ⟨Nat.le_of_ble_eq_true rfl, Nat.le_of_ble_eq_true rfl⟩) (pre0_S hH hK hX hS hA) rfl rfl hl.1 rfl (lv_room (Nat.le_of_ble_eq_true rfl)) dX9_cycle_152 ⟨Nat.le_of_ble_eq_true rfl, Nat.le_of_ble_eq_true rfl⟩) hS (af_le hH hS hA) (fun v_52 φ_53 H locs hw_v_52 hH hS => ?_)
                                  obtain ⟨rfl, hqv_52⟩ := hw_v_52
                                  rw [hqv_52] at hH
                                  refine hv_ti (y := nI (shA (ar 3 x1) (ar 4 (6 * x1 + i)))) (rfl) ?_
                                  refine hv_iast (pc := 155) S hK hH hS 1 f_38 rfl (vp_in_nI (by omega) (by omega)) dX9_cycle_155 (fun H locs hH hS => ?_)
                                  rw [hv_upd (by omega), show va_up (pfy (ar 4) (6 * x1) (fun b => shA (ar 3 x1) (ar 4 (6 * x1 + b))) i) (6 * x1 + i) (shA (ar 3 x1) (ar 4 (6 * x1 + i))) = pfy (ar 4) (6 * x1) (fun b => shA (ar 3 x1) (ar 4 (6 * x1 + b))) (i + 1) from pfy_up (ar 4) (6 * x1) (fun b => shA (ar 3 x1) (ar 4 (6 * x1 + b))) i] at hH
                                  replace hH := nup (e := .inl (cA 1, 72, .inl (fun j => nI ((pfy (ar 4) (6 * x1) (fun b => shA (ar 3 x1) (ar 4 (6 * x1 + b))) (i + 1)) j)))) hH
                                  obtain ⟨φ_54, hφ_54, fa_φ_54, fr_φ_54, hH⟩ := hH
                                  have f_55 := fr_φ_54 _ _ (fun h => absurd (hq 0 4 (by omega) (by omega) h) (by omega)) f_34
                                  have f_56 := fr_φ_54 _ _ (fun h => absurd (hq 1 4 (by omega) (by omega) h) (by omega)) f_35
                                  have f_57 := fr_φ_54 _ _ (fun h => absurd (hq 2 4 (by omega) (by omega) h) (by omega)) f_36
                                  have f_58 := fr_φ_54 _ _ (fun h => absurd (hq 3 4 (by omega) (by omega) h) (by omega)) f_37
                                  have f_59 := fr_φ_54 _ _ (fun h => absurd (hq 5 4 (by omega) (by omega) h) (by omega)) f_39
                                  have f_60 := fr_φ_54 _ _ (fun h => absurd (hq 6 4 (by omega) (by omega) h) (by omega)) f_40
                                  have f_61 := fr_φ_54 _ _ (fun h => absurd (hq 7 4 (by omega) (by omega) h) (by omega)) f_41
                                  have f_62 := fr_φ_54 _ _ (fun h => absurd (hq 8 4 (by omega) (by omega) h) (by omega)) f_42
                                  have f_63 := fr_φ_54 _ _ (fun h => absurd (hq 9 4 (by omega) (by omega) h) (by omega)) f_43
                                  have f_64 := fr_φ_54 _ _ (fun h => absurd (hq 10 4 (by omega) (by omega) h) (by omega)) f_44
                                  have f_65 := fr_φ_54 _ _ (fun h => absurd (hq 11 4 (by omega) (by omega) h) (by omega)) f_45
                                  have f_66 := fr_φ_54 _ _ (fun h => absurd (hq 12 4 (by omega) (by omega) h) (by omega)) f_46
                                  have f_67 := fr_φ_54 _ _ (fun h => absurd (hq 13 4 (by omega) (by omega) h) (by omega)) f_47
                                  have f_68 := fr_φ_54 _ _ (fun h => absurd (hq 14 4 (by omega) (by omega) h) (by omega)) f_48
                                  refine lv_aload_n (pc := 156) S.1 S.2.1 dX9_cycle_156 rfl (lv_at hl 1 rfl) ?_
                                  refine hv_get (pc := 157) (C := RX9) (T := TX9) (N := 22) (ref := RX9) S uwX9 hK hH f_55 rfl 8 (by decide) tw_953 (fun _ h9 => h9) rfl dX9_cycle_157 ?_
                                  refine lv_iload (pc := 160) S.1 S.2.1 dX9_cycle_160 (lv_at hl 0 rfl) ?_
                                  refine lv_aload_n (pc := 162) S.1 S.2.1 dX9_cycle_162 rfl (lv_at hl 1 rfl) ?_
                                  refine hv_get (pc := 163) (C := RX9) (T := TX9) (N := 22) (ref := RX9) S uwX9 hK hH f_55 rfl 8 (by decide) tw_953 (fun _ h9 => h9) rfl dX9_cycle_163 ?_
                                  refine lv_iload (pc := 166) S.1 S.2.1 dX9_cycle_166 (lv_at hl 0 rfl) ?_
                                  refine hv_iald (pc := 168) S hK hH 1 f_59 rfl (vp_in_nI (by omega) (by omega)) dX9_cycle_168 ?_
                                  refine hv_ti (y := nI ((pfy (ar 5) (6 * x1) (fun b => shL (ar 3 x1) (ar 5 (6 * x1 + b))) i) ((6 * x1) + i))) (hv_ld (by omega)) ?_
                                  refine hv_ti (y := nI (ar 5 (6 * x1 + i))) (by rw [pfy_at]) ?_
                                  refine lv_iload (pc := 169) S.1 S.2.1 dX9_cycle_169 (lv_at hl 4 rfl) ?_
                                  refine hv_call (pc := 171) (va_runS (As := [.int (nI (ar 3 x1))]) (rest := [.int (nI (ar 5 (6 * x1 + i))), .int (nI ((6 * x1) + i)), .ref (q 5)]) S (c_m_along l D cA ga φ_54 H.size (ar 3 x1) h3x) (va_cwS 1 S.2.2.2.2 (gS tw_1070 tw_1071 tw_7 tw_1072) rfl rfl rfl (by decide +kernel) ⟨Nat.le_of_ble_eq_true rfl, Nat.le_of_ble_eq_true rfl⟩) (pre0_S hH hK hX hS hA) rfl rfl hl.1 rfl (lv_room (Nat.le_of_ble_eq_true rfl)) dX9_cycle_171 ⟨Nat.le_of_ble_eq_true rfl, Nat.le_of_ble_eq_true rfl⟩) hS (af_le hH hS hA) (fun v_69 φ_70 H locs hw_v_69 hH hS => ?_)
                                  obtain ⟨rfl, hqv_69⟩ := hw_v_69
                                  rw [hqv_69] at hH
                                  refine hv_call (pc := 174) (va_runS (As := [.int (nI (ar 5 (6 * x1 + i))), .int (nI (fAlo (ar 3 x1)))]) (rest := [.int (nI ((6 * x1) + i)), .ref (q 5)]) S (c_m_shrunk l D cA ga φ_54 H.size (ar 5 (6 * x1 + i)) (fAlo (ar 3 x1)) (by omega) (by omega)) (va_cwS 2 S.2.2.2.2 (gS tw_1067 tw_1068 tw_7 tw_1069) rfl rfl rfl (by decide +kernel) ⟨Nat.le_of_ble_eq_true rfl, Nat.le_of_ble_eq_true rfl⟩) (pre0_S hH hK hX hS hA) rfl rfl hl.1 rfl (lv_room (Nat.le_of_ble_eq_true rfl)) dX9_cycle_174 ⟨Nat.le_of_ble_eq_true rfl, Nat.le_of_ble_eq_true rfl⟩) hS (af_le hH hS hA) (fun v_71 φ_72 H locs hw_v_71 hH hS => ?_)
                                  obtain ⟨rfl, hqv_71⟩ := hw_v_71
                                  rw [hqv_71] at hH
                                  refine hv_ti (y := nI (shL (ar 3 x1) (ar 5 (6 * x1 + i)))) (rfl) ?_
                                  refine hv_iast (pc := 177) S hK hH hS 1 f_59 rfl (vp_in_nI (by omega) (by omega)) dX9_cycle_177 (fun H locs hH hS => ?_)
                                  rw [hv_upd (by omega), show va_up (pfy (ar 5) (6 * x1) (fun b => shL (ar 3 x1) (ar 5 (6 * x1 + b))) i) (6 * x1 + i) (shL (ar 3 x1) (ar 5 (6 * x1 + i))) = pfy (ar 5) (6 * x1) (fun b => shL (ar 3 x1) (ar 5 (6 * x1 + b))) (i + 1) from pfy_up (ar 5) (6 * x1) (fun b => shL (ar 3 x1) (ar 5 (6 * x1 + b))) i] at hH
                                  replace hH := nup (e := .inl (cA 1, 72, .inl (fun j => nI ((pfy (ar 5) (6 * x1) (fun b => shL (ar 3 x1) (ar 5 (6 * x1 + b))) (i + 1)) j)))) hH
                                  obtain ⟨φ_73, hφ_73, fa_φ_73, fr_φ_73, hH⟩ := hH
                                  have f_74 := fr_φ_73 _ _ (fun h => absurd (hq 0 5 (by omega) (by omega) h) (by omega)) f_55
                                  have f_75 := fr_φ_73 _ _ (fun h => absurd (hq 1 5 (by omega) (by omega) h) (by omega)) f_56
                                  have f_76 := fr_φ_73 _ _ (fun h => absurd (hq 2 5 (by omega) (by omega) h) (by omega)) f_57
                                  have f_77 := fr_φ_73 _ _ (fun h => absurd (hq 3 5 (by omega) (by omega) h) (by omega)) f_58
                                  have f_78 := fr_φ_73 _ _ (fun h => absurd (hq 6 5 (by omega) (by omega) h) (by omega)) f_60
                                  have f_79 := fr_φ_73 _ _ (fun h => absurd (hq 7 5 (by omega) (by omega) h) (by omega)) f_61
                                  have f_80 := fr_φ_73 _ _ (fun h => absurd (hq 8 5 (by omega) (by omega) h) (by omega)) f_62
                                  have f_81 := fr_φ_73 _ _ (fun h => absurd (hq 9 5 (by omega) (by omega) h) (by omega)) f_63
                                  have f_82 := fr_φ_73 _ _ (fun h => absurd (hq 10 5 (by omega) (by omega) h) (by omega)) f_64
                                  have f_83 := fr_φ_73 _ _ (fun h => absurd (hq 11 5 (by omega) (by omega) h) (by omega)) f_65
                                  have f_84 := fr_φ_73 _ _ (fun h => absurd (hq 12 5 (by omega) (by omega) h) (by omega)) f_66
                                  have f_85 := fr_φ_73 _ _ (fun h => absurd (hq 13 5 (by omega) (by omega) h) (by omega)) f_67
                                  have f_86 := fr_φ_73 _ _ (fun h => absurd (hq 14 5 (by omega) (by omega) h) (by omega)) f_68
                                  have f_87 := fr_φ_73 _ _ (fun h => absurd (hq 4 5 (by omega) (by omega) h) (by omega)) fa_φ_54
                                  refine lv_iinc (pc := 178) (v := nI (i + 1)) (lv' := [(6, .int (nI (i + 1))), (7, .int (nI ((6 * x1) + i))), (0, .ref (q 0)), (1, .int (nI x1)), (2, .int (nI z1)), (5, .int (nI (ar 3 x1)))]) S.1 S.2.1 dX9_cycle_178 hl (k := 5) rfl (by first | rfl | exact nI_add _ _) (by decide) rfl (fun ls hl => ?_)
                                  refine lv_goto (pc := 181) (tgt := 118) S.1 S.2.1 dX9_cycle_181 (by decide) ?_
                                  have hi2 : ((i + 1) + n = 6) ∧ φ_73 = ups (ups φ_16 (q 4) (.inl (cA 1, 72, .inl (fun j => nI ((pfy (ar 4) (6 * x1) (fun b => shA (ar 3 x1) (ar 4 (6 * x1 + b))) (i + 1)) j))))) (q 5) (.inl (cA 1, 72, .inl (fun j => nI ((pfy (ar 5) (6 * x1) (fun b => shL (ar 3 x1) (ar 5 (6 * x1 + b))) (i + 1)) j)))) ∧ hp D (Af φ sz) φ_73 H := ⟨by omega, by rw [hφ_73, hφ_54, hφk_33]; funext x; by_cases e5 : x = q 5 <;> by_cases e4 : x = q 4 <;> simp [ups, e5, e4], hH⟩
                                  have hl2 : lv_has ls 8 [(0, .ref (q 0)), (1, .int (nI x1)), (2, .int (nI z1)), (5, .int (nI (ar 3 x1))), (6, .int (nI (i + 1)))] := lv_sub hl [2, 3, 4, 5, 0] rfl
                                  apply ih (i := i + 1) (φk_33 := φ_73) <;> assumption
                              | zero =>
                                obtain ⟨hi, hφk_33, hH⟩ := hi
                                have f_88 : φk_33 (q 0) = some (.inr (13, [.int (nI (sc 0)), .long (Int64.ofNat (sc 1)), .int (nI (sc 2)), .ref (q 1), .ref (q 2), .int (nI (sc 3)), .ref (q 3), .ref (q 4), .ref (q 5), .ref (q 6), .ref (q 7), .ref (q 8), .ref (q 9), .int (nI (sc 4)), .ref (q 10), .ref (q 11), .int (nI (sc 5)), .ref (q 12), .ref (q 13), .ref (q 14), .int (nI (sc 6)), .int (nI 0)])) := by rw [hφk_33]; exact ups_n (fun h => absurd (hq 0 5 (by omega) (by omega) h) (by omega)) (ups_n (fun h => absurd (hq 0 4 (by omega) (by omega) h) (by omega)) (f_17))
                                have f_89 : φk_33 (q 1) = some (.inl (cA 1, 10, .inl (fun j => nI ((ar 1) j)))) := by rw [hφk_33]; exact ups_n (fun h => absurd (hq 1 5 (by omega) (by omega) h) (by omega)) (ups_n (fun h => absurd (hq 1 4 (by omega) (by omega) h) (by omega)) (f_18))
                                have f_90 : φk_33 (q 2) = some (.inl (cA 1, 10, .inl (fun j => nI ((ar 2) j)))) := by rw [hφk_33]; exact ups_n (fun h => absurd (hq 2 5 (by omega) (by omega) h) (by omega)) (ups_n (fun h => absurd (hq 2 4 (by omega) (by omega) h) (by omega)) (f_19))
                                have f_91 : φk_33 (q 3) = some (.inl (cA 1, 12, .inl (fun j => nI ((ar 3) j)))) := by rw [hφk_33]; exact ups_n (fun h => absurd (hq 3 5 (by omega) (by omega) h) (by omega)) (ups_n (fun h => absurd (hq 3 4 (by omega) (by omega) h) (by omega)) (f_20))
                                have f_92 : φk_33 (q 4) = some (.inl (cA 1, 72, .inl (fun j => nI ((pfy (ar 4) (6 * x1) (fun b => shA (ar 3 x1) (ar 4 (6 * x1 + b))) i) j)))) := by rw [hφk_33]; exact ups_n (fun h => absurd (hq 4 5 (by omega) (by omega) h) (by omega)) (ups_s _ _ _)
                                have f_93 : φk_33 (q 5) = some (.inl (cA 1, 72, .inl (fun j => nI ((pfy (ar 5) (6 * x1) (fun b => shL (ar 3 x1) (ar 5 (6 * x1 + b))) i) j)))) := by rw [hφk_33]; exact ups_s _ _ _
                                have f_94 : φk_33 (q 6) = some (.inl (cA 1, 72, .inl (fun j => nI ((ar 6) j)))) := by rw [hφk_33]; exact ups_n (fun h => absurd (hq 6 5 (by omega) (by omega) h) (by omega)) (ups_n (fun h => absurd (hq 6 4 (by omega) (by omega) h) (by omega)) (f_23))
                                have f_95 : φk_33 (q 7) = some (.inl (cA 1, 12, .inl (fun j => nI ((ar 7) j)))) := by rw [hφk_33]; exact ups_n (fun h => absurd (hq 7 5 (by omega) (by omega) h) (by omega)) (ups_n (fun h => absurd (hq 7 4 (by omega) (by omega) h) (by omega)) (f_24))
                                have f_96 : φk_33 (q 8) = some (.inl (cA 2, 12, .inl (fun j => nI ((ar 8) j)))) := by rw [hφk_33]; exact ups_n (fun h => absurd (hq 8 5 (by omega) (by omega) h) (by omega)) (ups_n (fun h => absurd (hq 8 4 (by omega) (by omega) h) (by omega)) (f_25))
                                have f_97 : φk_33 (q 9) = some (.inl (cA 2, 12, .inl (fun j => nI ((ar 9) j)))) := by rw [hφk_33]; exact ups_n (fun h => absurd (hq 9 5 (by omega) (by omega) h) (by omega)) (ups_n (fun h => absurd (hq 9 4 (by omega) (by omega) h) (by omega)) (f_26))
                                have f_98 : φk_33 (q 10) = some (.inl (cA 1, 8, .inl (fun j => nI ((ar 10) j)))) := by rw [hφk_33]; exact ups_n (fun h => absurd (hq 10 5 (by omega) (by omega) h) (by omega)) (ups_n (fun h => absurd (hq 10 4 (by omega) (by omega) h) (by omega)) (f_27))
                                have f_99 : φk_33 (q 11) = some (.inl (cA 1, 8, .inl (fun j => nI ((ar 11) j)))) := by rw [hφk_33]; exact ups_n (fun h => absurd (hq 11 5 (by omega) (by omega) h) (by omega)) (ups_n (fun h => absurd (hq 11 4 (by omega) (by omega) h) (by omega)) (f_28))
                                have f_100 : φk_33 (q 12) = some (.inl (cA 1, 6, .inl (fun j => nI ((ar 12) j)))) := by rw [hφk_33]; exact ups_n (fun h => absurd (hq 12 5 (by omega) (by omega) h) (by omega)) (ups_n (fun h => absurd (hq 12 4 (by omega) (by omega) h) (by omega)) (f_29))
                                have f_101 : φk_33 (q 13) = some (.inl (cA 1, 6, .inl (fun j => nI ((ar 13) j)))) := by rw [hφk_33]; exact ups_n (fun h => absurd (hq 13 5 (by omega) (by omega) h) (by omega)) (ups_n (fun h => absurd (hq 13 4 (by omega) (by omega) h) (by omega)) (f_30))
                                have f_102 : φk_33 (q 14) = some (.inl (cA 1, 8, .inl (fun j => nI ((ar 14) j)))) := by rw [hφk_33]; exact ups_n (fun h => absurd (hq 14 5 (by omega) (by omega) h) (by omega)) (ups_n (fun h => absurd (hq 14 4 (by omega) (by omega) h) (by omega)) (f_31))
                                obtain rfl : i = 6 := by omega
                                refine lv_iload (pc := 118) S.1 S.2.1 dX9_cycle_118 (lv_at hl 4 rfl) ?_
                                refine lv_bipush (pc := 120) (v := nI 6) S.1 S.2.1 dX9_cycle_120 (by decide) ?_
                                refine hv_icmp_ge (pc := 122) (tgt := 184) (a := 6) (b := 6) S.1 S.2.1 (by omega) (by omega) dX9_cycle_122 (by decide) (fun c_103 => ?_) (fun c_103 => ?_)
                                · skip
                                  refine lv_aload_n (pc := 184) S.1 S.2.1 dX9_cycle_184 rfl (lv_at hl 0 rfl) ?_
                                  refine hv_get (pc := 185) (C := RX9) (T := TX9) (N := 22) (ref := RX9) S uwX9 hK hH f_88 rfl 10 (by decide) tw_955 (fun _ h9 => h9) rfl dX9_cycle_185 ?_
                                  refine lv_iload_n (pc := 188) S.1 S.2.1 dX9_cycle_188 rfl (lv_at hl 1 rfl) ?_
                                  refine lv_dup2_11 (pc := 189) S.1 S.2.1 dX9_cycle_189 rfl rfl ?_
                                  refine hv_iald (pc := 190) S hK hH 1 f_95 rfl (vp_in_nI (by omega) (by omega)) dX9_cycle_190 ?_
                                  refine hv_ti (y := nI ((ar 7) x1)) (hv_ld (by omega)) ?_
                                  refine lv_iconst (pc := 191) (v := nI 1) S.1 S.2.1 dX9_cycle_191 (by decide) ?_
                                  refine lv_iadd (pc := 192) S.1 S.2.1 dX9_cycle_192 ?_
                                  refine hv_ti (y := nI (((ar 7) x1) + 1)) (nI_add _ _) ?_
                                  refine hv_iast (pc := 193) S hK hH hS 1 f_95 rfl (vp_in_nI (by omega) (by omega)) dX9_cycle_193 (fun H locs hH hS => ?_)
                                  rw [hv_upd (by omega)] at hH
                                  replace hH := nup (e := .inl (cA 1, 12, .inl (fun j => nI ((va_up (ar 7) x1 (ar 7 x1 + 1)) j)))) hH
                                  obtain ⟨φ_104, hφ_104, fa_φ_104, fr_φ_104, hH⟩ := hH
                                  have f_105 := fr_φ_104 _ _ (fun h => absurd (hq 0 7 (by omega) (by omega) h) (by omega)) f_88
                                  have f_106 := fr_φ_104 _ _ (fun h => absurd (hq 1 7 (by omega) (by omega) h) (by omega)) f_89
                                  have f_107 := fr_φ_104 _ _ (fun h => absurd (hq 2 7 (by omega) (by omega) h) (by omega)) f_90
                                  have f_108 := fr_φ_104 _ _ (fun h => absurd (hq 3 7 (by omega) (by omega) h) (by omega)) f_91
                                  have f_109 := fr_φ_104 _ _ (fun h => absurd (hq 4 7 (by omega) (by omega) h) (by omega)) f_92
                                  have f_110 := fr_φ_104 _ _ (fun h => absurd (hq 5 7 (by omega) (by omega) h) (by omega)) f_93
                                  have f_111 := fr_φ_104 _ _ (fun h => absurd (hq 6 7 (by omega) (by omega) h) (by omega)) f_94
                                  have f_112 := fr_φ_104 _ _ (fun h => absurd (hq 8 7 (by omega) (by omega) h) (by omega)) f_96
                                  have f_113 := fr_φ_104 _ _ (fun h => absurd (hq 9 7 (by omega) (by omega) h) (by omega)) f_97
                                  have f_114 := fr_φ_104 _ _ (fun h => absurd (hq 10 7 (by omega) (by omega) h) (by omega)) f_98
                                  have f_115 := fr_φ_104 _ _ (fun h => absurd (hq 11 7 (by omega) (by omega) h) (by omega)) f_99
                                  have f_116 := fr_φ_104 _ _ (fun h => absurd (hq 12 7 (by omega) (by omega) h) (by omega)) f_100
                                  have f_117 := fr_φ_104 _ _ (fun h => absurd (hq 13 7 (by omega) (by omega) h) (by omega)) f_101
                                  have f_118 := fr_φ_104 _ _ (fun h => absurd (hq 14 7 (by omega) (by omega) h) (by omega)) f_102
                                  refine lv_aload_n (pc := 194) S.1 S.2.1 dX9_cycle_194 rfl (lv_at hl 0 rfl) ?_
                                  refine hv_get (pc := 195) (C := RX9) (T := TX9) (N := 22) (ref := RX9) S uwX9 hK hH f_105 rfl 17 (by decide) tw_962 (fun _ h9 => h9) rfl dX9_cycle_195 ?_
                                  refine lv_iload_n (pc := 198) S.1 S.2.1 dX9_cycle_198 rfl (lv_at hl 2 rfl) ?_
                                  refine lv_dup2_11 (pc := 199) S.1 S.2.1 dX9_cycle_199 rfl rfl ?_
                                  refine hv_iald (pc := 200) S hK hH 1 f_116 rfl (vp_in_nI (by omega) (by omega)) dX9_cycle_200 ?_
                                  refine hv_ti (y := nI ((ar 12) z1)) (hv_ld (by omega)) ?_
                                  refine lv_iload (pc := 201) S.1 S.2.1 dX9_cycle_201 (lv_at hl 3 rfl) ?_
                                  refine hv_call (pc := 203) (va_runS (As := [.int (nI (ar 3 x1))]) (rest := [.int (nI ((ar 12) z1)), .int (nI z1), .ref (q 12)]) S (c_m_airOf l D cA ga φ_104 H.size (ar 3 x1) h3x) (va_cwS 1 S.2.2.2.2 (gS tw_1061 tw_1062 tw_7 tw_1063) rfl rfl rfl (by decide +kernel) ⟨Nat.le_of_ble_eq_true rfl, Nat.le_of_ble_eq_true rfl⟩) (pre0_S hH hK hX hS hA) rfl rfl hl.1 rfl (lv_room (Nat.le_of_ble_eq_true rfl)) dX9_cycle_203 ⟨Nat.le_of_ble_eq_true rfl, Nat.le_of_ble_eq_true rfl⟩) hS (af_le hH hS hA) (fun v_119 φ_120 H locs hw_v_119 hH hS => ?_)
                                  obtain ⟨rfl, hqv_119⟩ := hw_v_119
                                  rw [hqv_119] at hH
                                  refine lv_iadd (pc := 206) S.1 S.2.1 dX9_cycle_206 ?_
                                  refine hv_ti (y := nI (((ar 12) z1) + (fAir (ar 3 x1)))) (nI_add _ _) ?_
                                  refine hv_iast (pc := 207) S hK hH hS 1 f_116 rfl (vp_in_nI (by omega) (by omega)) dX9_cycle_207 (fun H locs hH hS => ?_)
                                  rw [hv_upd (by omega)] at hH
                                  replace hH := nup (e := .inl (cA 1, 6, .inl (fun j => nI ((va_up (ar 12) z1 (ar 12 z1 + fAir (ar 3 x1))) j)))) hH
                                  obtain ⟨φ_121, hφ_121, fa_φ_121, fr_φ_121, hH⟩ := hH
                                  have f_122 := fr_φ_121 _ _ (fun h => absurd (hq 0 12 (by omega) (by omega) h) (by omega)) f_105
                                  have f_123 := fr_φ_121 _ _ (fun h => absurd (hq 1 12 (by omega) (by omega) h) (by omega)) f_106
                                  have f_124 := fr_φ_121 _ _ (fun h => absurd (hq 2 12 (by omega) (by omega) h) (by omega)) f_107
                                  have f_125 := fr_φ_121 _ _ (fun h => absurd (hq 3 12 (by omega) (by omega) h) (by omega)) f_108
                                  have f_126 := fr_φ_121 _ _ (fun h => absurd (hq 4 12 (by omega) (by omega) h) (by omega)) f_109
                                  have f_127 := fr_φ_121 _ _ (fun h => absurd (hq 5 12 (by omega) (by omega) h) (by omega)) f_110
                                  have f_128 := fr_φ_121 _ _ (fun h => absurd (hq 6 12 (by omega) (by omega) h) (by omega)) f_111
                                  have f_129 := fr_φ_121 _ _ (fun h => absurd (hq 8 12 (by omega) (by omega) h) (by omega)) f_112
                                  have f_130 := fr_φ_121 _ _ (fun h => absurd (hq 9 12 (by omega) (by omega) h) (by omega)) f_113
                                  have f_131 := fr_φ_121 _ _ (fun h => absurd (hq 10 12 (by omega) (by omega) h) (by omega)) f_114
                                  have f_132 := fr_φ_121 _ _ (fun h => absurd (hq 11 12 (by omega) (by omega) h) (by omega)) f_115
                                  have f_133 := fr_φ_121 _ _ (fun h => absurd (hq 13 12 (by omega) (by omega) h) (by omega)) f_117
                                  have f_134 := fr_φ_121 _ _ (fun h => absurd (hq 14 12 (by omega) (by omega) h) (by omega)) f_118
                                  have f_135 := fr_φ_121 _ _ (fun h => absurd (hq 7 12 (by omega) (by omega) h) (by omega)) fa_φ_104
                                  refine lv_aload_n (pc := 208) S.1 S.2.1 dX9_cycle_208 rfl (lv_at hl 0 rfl) ?_
                                  refine hv_get (pc := 209) (C := RX9) (T := TX9) (N := 22) (ref := RX9) S uwX9 hK hH f_122 rfl 18 (by decide) tw_963 (fun _ h9 => h9) rfl dX9_cycle_209 ?_
                                  refine lv_iload_n (pc := 212) S.1 S.2.1 dX9_cycle_212 rfl (lv_at hl 2 rfl) ?_
                                  refine lv_dup2_11 (pc := 213) S.1 S.2.1 dX9_cycle_213 rfl rfl ?_
                                  refine hv_iald (pc := 214) S hK hH 1 f_133 rfl (vp_in_nI (by omega) (by omega)) dX9_cycle_214 ?_
                                  refine hv_ti (y := nI ((ar 13) z1)) (hv_ld (by omega)) ?_
                                  refine lv_iload (pc := 215) S.1 S.2.1 dX9_cycle_215 (lv_at hl 3 rfl) ?_
                                  refine hv_call (pc := 217) (va_runS (As := [.int (nI (ar 3 x1))]) (rest := [.int (nI ((ar 13) z1)), .int (nI z1), .ref (q 13)]) S (c_m_airOf l D cA ga φ_121 H.size (ar 3 x1) h3x) (va_cwS 1 S.2.2.2.2 (gS tw_1061 tw_1062 tw_7 tw_1063) rfl rfl rfl (by decide +kernel) ⟨Nat.le_of_ble_eq_true rfl, Nat.le_of_ble_eq_true rfl⟩) (pre0_S hH hK hX hS hA) rfl rfl hl.1 rfl (lv_room (Nat.le_of_ble_eq_true rfl)) dX9_cycle_217 ⟨Nat.le_of_ble_eq_true rfl, Nat.le_of_ble_eq_true rfl⟩) hS (af_le hH hS hA) (fun v_136 φ_137 H locs hw_v_136 hH hS => ?_)
                                  obtain ⟨rfl, hqv_136⟩ := hw_v_136
                                  rw [hqv_136] at hH
                                  refine lv_iadd (pc := 220) S.1 S.2.1 dX9_cycle_220 ?_
                                  refine hv_ti (y := nI (((ar 13) z1) + (fAir (ar 3 x1)))) (nI_add _ _) ?_
                                  refine hv_iast (pc := 221) S hK hH hS 1 f_133 rfl (vp_in_nI (by omega) (by omega)) dX9_cycle_221 (fun H locs hH hS => ?_)
                                  rw [hv_upd (by omega)] at hH
                                  replace hH := nup (e := .inl (cA 1, 6, .inl (fun j => nI ((va_up (ar 13) z1 (ar 13 z1 + fAir (ar 3 x1))) j)))) hH
                                  obtain ⟨φ_138, hφ_138, fa_φ_138, fr_φ_138, hH⟩ := hH
                                  have f_139 := fr_φ_138 _ _ (fun h => absurd (hq 0 13 (by omega) (by omega) h) (by omega)) f_122
                                  have f_140 := fr_φ_138 _ _ (fun h => absurd (hq 1 13 (by omega) (by omega) h) (by omega)) f_123
                                  have f_141 := fr_φ_138 _ _ (fun h => absurd (hq 2 13 (by omega) (by omega) h) (by omega)) f_124
                                  have f_142 := fr_φ_138 _ _ (fun h => absurd (hq 3 13 (by omega) (by omega) h) (by omega)) f_125
                                  have f_143 := fr_φ_138 _ _ (fun h => absurd (hq 4 13 (by omega) (by omega) h) (by omega)) f_126
                                  have f_144 := fr_φ_138 _ _ (fun h => absurd (hq 5 13 (by omega) (by omega) h) (by omega)) f_127
                                  have f_145 := fr_φ_138 _ _ (fun h => absurd (hq 6 13 (by omega) (by omega) h) (by omega)) f_128
                                  have f_146 := fr_φ_138 _ _ (fun h => absurd (hq 8 13 (by omega) (by omega) h) (by omega)) f_129
                                  have f_147 := fr_φ_138 _ _ (fun h => absurd (hq 9 13 (by omega) (by omega) h) (by omega)) f_130
                                  have f_148 := fr_φ_138 _ _ (fun h => absurd (hq 10 13 (by omega) (by omega) h) (by omega)) f_131
                                  have f_149 := fr_φ_138 _ _ (fun h => absurd (hq 11 13 (by omega) (by omega) h) (by omega)) f_132
                                  have f_150 := fr_φ_138 _ _ (fun h => absurd (hq 14 13 (by omega) (by omega) h) (by omega)) f_134
                                  have f_151 := fr_φ_138 _ _ (fun h => absurd (hq 7 13 (by omega) (by omega) h) (by omega)) f_135
                                  have f_152 := fr_φ_138 _ _ (fun h => absurd (hq 12 13 (by omega) (by omega) h) (by omega)) fa_φ_121
                                  refine lv_aload_n (pc := 222) S.1 S.2.1 dX9_cycle_222 rfl (lv_at hl 0 rfl) ?_
                                  refine hv_get (pc := 223) (C := RX9) (T := TX9) (N := 22) (ref := RX9) S uwX9 hK hH f_139 rfl 7 (by decide) tw_952 (fun _ h9 => h9) rfl dX9_cycle_223 ?_
                                  refine lv_bipush (pc := 226) (v := nI 6) S.1 S.2.1 dX9_cycle_226 (by decide) ?_
                                  refine lv_iload_n (pc := 228) S.1 S.2.1 dX9_cycle_228 rfl (lv_at hl 1 rfl) ?_
                                  refine lv_imul (pc := 229) S.1 S.2.1 dX9_cycle_229 ?_
                                  refine hv_ti (y := nI (6 * x1)) (pk_mul _ _) ?_
                                  refine hv_iald (pc := 230) S hK hH 1 f_143 rfl (vp_in_nI (by omega) (by omega)) dX9_cycle_230 ?_
                                  refine hv_ti (y := nI ((pfy (ar 4) (6 * x1) (fun b => shA (ar 3 x1) (ar 4 (6 * x1 + b))) 6) (6 * x1))) (hv_ld (by omega)) ?_
                                  refine hv_ti (y := nI (shA (ar 3 x1) (ar 4 (6 * x1)))) (by rw [show pfy (ar 4) (6 * x1) (fun b => shA (ar 3 x1) (ar 4 (6 * x1 + b))) 6 (6 * x1) = shA (ar 3 x1) (ar 4 (6 * x1)) from pfy_in (j := 0) (by omega)]) ?_
                                  exact hv_ret (pc := 231) (v := nI (shA (ar 3 x1) (ar 4 (6 * x1)))) S hr rfl hlocks hH hS (by rw [if_pos eX]; exact ⟨x1, z1, rfl, rfl, hxn, hzn, ha, hd, hc, rfl, ⟨f_139, f_140, f_141, f_142, f_143, f_144, f_145, f_151, f_146, f_147, f_148, f_149, f_152, fa_φ_138, f_150⟩⟩) (Nat.le_of_ble_eq_true rfl) (Nat.le_of_ble_eq_true rfl) dX9_cycle_231
                                · skip
                                  exact absurd c_103 (by omega)
                            · skip
                              exact absurd c_32 (by omega)
                        · skip
                          exact absurd c_13 (by omega)
                    · skip
                      refine hv_icmp_ge (pc := 70) (tgt := 77) (a := (ar 7) x1) (b := 12) S.1 S.2.1 (by omega) (by omega) dX9_cycle_70 (by decide) (fun c_153 => ?_) (fun c_153 => ?_)
                      · skip
                        refine lv_iconst (pc := 77) (v := nI 0) S.1 S.2.1 dX9_cycle_77 (by decide) ?_
                        refine lv_istore (pc := 78) (lv' := [(4, .int (nI 0)), (3, .int (nI 1)), (0, .ref (q 0)), (1, .int (nI x1)), (2, .int (nI z1))]) S.1 S.2.1 dX9_cycle_78 hl (by decide) rfl (fun ls hl => ?_)
                        refine lv_aload_n (pc := 80) S.1 S.2.1 dX9_cycle_80 rfl (lv_at hl 2 rfl) ?_
                        refine lv_iload_n (pc := 81) S.1 S.2.1 dX9_cycle_81 rfl (lv_at hl 1 rfl) ?_
                        refine hv_if_ne (pc := 82) (tgt := 89) (a := 1) S.1 S.2.1 (by omega) dX9_cycle_82 (by decide) (fun c_154 => ?_) (fun c_154 => ?_)
                        · skip
                          refine lv_iload (pc := 89) S.1 S.2.1 dX9_cycle_89 (lv_at hl 0 rfl) ?_
                          refine hv_if_eq (pc := 91) (tgt := 98) (a := 0) S.1 S.2.1 (by omega) dX9_cycle_91 (by decide) (fun c_155 => ?_) (fun c_155 => ?_)
                          · skip
                            refine lv_iconst (pc := 98) (v := nI 2) S.1 S.2.1 dX9_cycle_98 (by decide) ?_
                            have eX : cycleX (sc 3) (sc 5) (ar 3) (ar 7) (ar 12) (ar 8) (nI x1) (nI z1) = 2 := by rw [cycleX, if_pos hx, if_pos hz, nx_nI hx31, nx_nI hz31, if_pos ha, if_pos hd, if_neg hc]
                            refine hv_call (pc := 99) (va_runV (As := [.int (nI 2)]) (rest := []) S (c_m_goes l D cA ga φ H.size q sc ar (2) ⟨f0, f1, f2, f3, f4, f5, f6, f7, f8, f9, f10, f11, f12, f13, f14⟩ hq (by omega)) (cwV 1 S.2.2.2.2 (gV tw_1021 tw_1023 sw_32 tw_7 tw_1024) rfl rfl rfl (by decide +kernel) ⟨Nat.le_of_ble_eq_true rfl, Nat.le_of_ble_eq_true rfl⟩) (pre0_V hH hK hX hS hA (hH.recv hK f0 rfl)) rfl rfl hl.1 rfl (lv_room (Nat.le_of_ble_eq_true rfl)) dX9_cycle_99 ⟨Nat.le_of_ble_eq_true rfl, Nat.le_of_ble_eq_true rfl⟩) hS (af_le hH hS hA) (fun v_156 φ_157 H locs hw_v_156 hH hS => ?_)
                            obtain ⟨rfl, hm9⟩ := hw_v_156
                            obtain ⟨f_158, f_159, f_160, f_161, f_162, f_163, f_164, f_165, f_166, f_167, f_168, f_169, f_170, f_171, f_172⟩ := hm9
                            change φ_157 (q 0) = some (.inr (13, [.int (nI (sc 0)), .long (Int64.ofNat (sc 1)), .int (nI (sc 2)), .ref (q 1), .ref (q 2), .int (nI (sc 3)), .ref (q 3), .ref (q 4), .ref (q 5), .ref (q 6), .ref (q 7), .ref (q 8), .ref (q 9), .int (nI (sc 4)), .ref (q 10), .ref (q 11), .int (nI (sc 5)), .ref (q 12), .ref (q 13), .ref (q 14), .int (nI (sc 6)), .int (nI 2)])) at f_158
                            refine hv_ti (y := nI 0) (rfl) ?_
                            refine hv_if_ne (pc := 102) (tgt := 107) (a := 0) S.1 S.2.1 (by omega) dX9_cycle_102 (by decide) (fun c_173 => ?_) (fun c_173 => ?_)
                            · skip
                              exact absurd c_173 (by omega)
                            · skip
                              refine lv_iconst (pc := 105) (v := nI 0) S.1 S.2.1 dX9_cycle_105 (by decide) ?_
                              exact hv_ret (pc := 106) (v := nI 0) S hr rfl hlocks hH hS (by rw [if_neg (by rw [eX]; decide), eX]; exact ⟨rfl, ⟨f_158, f_159, f_160, f_161, f_162, f_163, f_164, f_165, f_166, f_167, f_168, f_169, f_170, f_171, f_172⟩⟩) (Nat.le_of_ble_eq_true rfl) (Nat.le_of_ble_eq_true rfl) dX9_cycle_106
                          · skip
                            exact absurd c_155 (by omega)
                        · skip
                          exact absurd c_154 (by omega)
                      · skip
                        exact absurd c_153 (by omega)
                · skip
                  refine hv_if_ne (pc := 59) (tgt := 77) (a := (ar 8) x1) S.1 S.2.1 (by omega) dX9_cycle_59 (by decide) (fun c_174 => ?_) (fun c_174 => ?_)
                  · skip
                    refine lv_iconst (pc := 77) (v := nI 0) S.1 S.2.1 dX9_cycle_77 (by decide) ?_
                    refine lv_istore (pc := 78) (lv' := [(4, .int (nI 0)), (3, .int (nI 1)), (0, .ref (q 0)), (1, .int (nI x1)), (2, .int (nI z1))]) S.1 S.2.1 dX9_cycle_78 hl (by decide) rfl (fun ls hl => ?_)
                    refine lv_aload_n (pc := 80) S.1 S.2.1 dX9_cycle_80 rfl (lv_at hl 2 rfl) ?_
                    refine lv_iload_n (pc := 81) S.1 S.2.1 dX9_cycle_81 rfl (lv_at hl 1 rfl) ?_
                    refine hv_if_ne (pc := 82) (tgt := 89) (a := 1) S.1 S.2.1 (by omega) dX9_cycle_82 (by decide) (fun c_175 => ?_) (fun c_175 => ?_)
                    · skip
                      refine lv_iload (pc := 89) S.1 S.2.1 dX9_cycle_89 (lv_at hl 0 rfl) ?_
                      refine hv_if_eq (pc := 91) (tgt := 98) (a := 0) S.1 S.2.1 (by omega) dX9_cycle_91 (by decide) (fun c_176 => ?_) (fun c_176 => ?_)
                      · skip
                        refine lv_iconst (pc := 98) (v := nI 2) S.1 S.2.1 dX9_cycle_98 (by decide) ?_
                        have eX : cycleX (sc 3) (sc 5) (ar 3) (ar 7) (ar 12) (ar 8) (nI x1) (nI z1) = 2 := by rw [cycleX, if_pos hx, if_pos hz, nx_nI hx31, nx_nI hz31, if_pos ha, if_neg hd]
                        refine hv_call (pc := 99) (va_runV (As := [.int (nI 2)]) (rest := []) S (c_m_goes l D cA ga φ H.size q sc ar (2) ⟨f0, f1, f2, f3, f4, f5, f6, f7, f8, f9, f10, f11, f12, f13, f14⟩ hq (by omega)) (cwV 1 S.2.2.2.2 (gV tw_1021 tw_1023 sw_32 tw_7 tw_1024) rfl rfl rfl (by decide +kernel) ⟨Nat.le_of_ble_eq_true rfl, Nat.le_of_ble_eq_true rfl⟩) (pre0_V hH hK hX hS hA (hH.recv hK f0 rfl)) rfl rfl hl.1 rfl (lv_room (Nat.le_of_ble_eq_true rfl)) dX9_cycle_99 ⟨Nat.le_of_ble_eq_true rfl, Nat.le_of_ble_eq_true rfl⟩) hS (af_le hH hS hA) (fun v_177 φ_178 H locs hw_v_177 hH hS => ?_)
                        obtain ⟨rfl, hm9⟩ := hw_v_177
                        obtain ⟨f_179, f_180, f_181, f_182, f_183, f_184, f_185, f_186, f_187, f_188, f_189, f_190, f_191, f_192, f_193⟩ := hm9
                        change φ_178 (q 0) = some (.inr (13, [.int (nI (sc 0)), .long (Int64.ofNat (sc 1)), .int (nI (sc 2)), .ref (q 1), .ref (q 2), .int (nI (sc 3)), .ref (q 3), .ref (q 4), .ref (q 5), .ref (q 6), .ref (q 7), .ref (q 8), .ref (q 9), .int (nI (sc 4)), .ref (q 10), .ref (q 11), .int (nI (sc 5)), .ref (q 12), .ref (q 13), .ref (q 14), .int (nI (sc 6)), .int (nI 2)])) at f_179
                        refine hv_ti (y := nI 0) (rfl) ?_
                        refine hv_if_ne (pc := 102) (tgt := 107) (a := 0) S.1 S.2.1 (by omega) dX9_cycle_102 (by decide) (fun c_194 => ?_) (fun c_194 => ?_)
                        · skip
                          exact absurd c_194 (by omega)
                        · skip
                          refine lv_iconst (pc := 105) (v := nI 0) S.1 S.2.1 dX9_cycle_105 (by decide) ?_
                          exact hv_ret (pc := 106) (v := nI 0) S hr rfl hlocks hH hS (by rw [if_neg (by rw [eX]; decide), eX]; exact ⟨rfl, ⟨f_179, f_180, f_181, f_182, f_183, f_184, f_185, f_186, f_187, f_188, f_189, f_190, f_191, f_192, f_193⟩⟩) (Nat.le_of_ble_eq_true rfl) (Nat.le_of_ble_eq_true rfl) dX9_cycle_106
                      · skip
                        exact absurd c_176 (by omega)
                    · skip
                      exact absurd c_175 (by omega)
                  · skip
                    exact absurd c_174 (by omega)
            · skip
              refine hv_icmp_gt (pc := 50) (tgt := 77) (a := ((ar 12) z1) + (fAir (ar 3 x1))) (b := 30) S.1 S.2.1 (by omega) (by omega) dX9_cycle_50 (by decide) (fun c_195 => ?_) (fun c_195 => ?_)
              · skip
                refine lv_iconst (pc := 77) (v := nI 0) S.1 S.2.1 dX9_cycle_77 (by decide) ?_
                refine lv_istore (pc := 78) (lv' := [(4, .int (nI 0)), (3, .int (nI 1)), (0, .ref (q 0)), (1, .int (nI x1)), (2, .int (nI z1))]) S.1 S.2.1 dX9_cycle_78 hl (by decide) rfl (fun ls hl => ?_)
                refine lv_aload_n (pc := 80) S.1 S.2.1 dX9_cycle_80 rfl (lv_at hl 2 rfl) ?_
                refine lv_iload_n (pc := 81) S.1 S.2.1 dX9_cycle_81 rfl (lv_at hl 1 rfl) ?_
                refine hv_if_ne (pc := 82) (tgt := 89) (a := 1) S.1 S.2.1 (by omega) dX9_cycle_82 (by decide) (fun c_196 => ?_) (fun c_196 => ?_)
                · skip
                  refine lv_iload (pc := 89) S.1 S.2.1 dX9_cycle_89 (lv_at hl 0 rfl) ?_
                  refine hv_if_eq (pc := 91) (tgt := 98) (a := 0) S.1 S.2.1 (by omega) dX9_cycle_91 (by decide) (fun c_197 => ?_) (fun c_197 => ?_)
                  · skip
                    refine lv_iconst (pc := 98) (v := nI 2) S.1 S.2.1 dX9_cycle_98 (by decide) ?_
                    have eX : cycleX (sc 3) (sc 5) (ar 3) (ar 7) (ar 12) (ar 8) (nI x1) (nI z1) = 2 := by rw [cycleX, if_pos hx, if_pos hz, nx_nI hx31, nx_nI hz31, if_neg ha]
                    refine hv_call (pc := 99) (va_runV (As := [.int (nI 2)]) (rest := []) S (c_m_goes l D cA ga φ H.size q sc ar (2) ⟨f0, f1, f2, f3, f4, f5, f6, f7, f8, f9, f10, f11, f12, f13, f14⟩ hq (by omega)) (cwV 1 S.2.2.2.2 (gV tw_1021 tw_1023 sw_32 tw_7 tw_1024) rfl rfl rfl (by decide +kernel) ⟨Nat.le_of_ble_eq_true rfl, Nat.le_of_ble_eq_true rfl⟩) (pre0_V hH hK hX hS hA (hH.recv hK f0 rfl)) rfl rfl hl.1 rfl (lv_room (Nat.le_of_ble_eq_true rfl)) dX9_cycle_99 ⟨Nat.le_of_ble_eq_true rfl, Nat.le_of_ble_eq_true rfl⟩) hS (af_le hH hS hA) (fun v_198 φ_199 H locs hw_v_198 hH hS => ?_)
                    obtain ⟨rfl, hm9⟩ := hw_v_198
                    obtain ⟨f_200, f_201, f_202, f_203, f_204, f_205, f_206, f_207, f_208, f_209, f_210, f_211, f_212, f_213, f_214⟩ := hm9
                    change φ_199 (q 0) = some (.inr (13, [.int (nI (sc 0)), .long (Int64.ofNat (sc 1)), .int (nI (sc 2)), .ref (q 1), .ref (q 2), .int (nI (sc 3)), .ref (q 3), .ref (q 4), .ref (q 5), .ref (q 6), .ref (q 7), .ref (q 8), .ref (q 9), .int (nI (sc 4)), .ref (q 10), .ref (q 11), .int (nI (sc 5)), .ref (q 12), .ref (q 13), .ref (q 14), .int (nI (sc 6)), .int (nI 2)])) at f_200
                    refine hv_ti (y := nI 0) (rfl) ?_
                    refine hv_if_ne (pc := 102) (tgt := 107) (a := 0) S.1 S.2.1 (by omega) dX9_cycle_102 (by decide) (fun c_215 => ?_) (fun c_215 => ?_)
                    · skip
                      exact absurd c_215 (by omega)
                    · skip
                      refine lv_iconst (pc := 105) (v := nI 0) S.1 S.2.1 dX9_cycle_105 (by decide) ?_
                      exact hv_ret (pc := 106) (v := nI 0) S hr rfl hlocks hH hS (by rw [if_neg (by rw [eX]; decide), eX]; exact ⟨rfl, ⟨f_200, f_201, f_202, f_203, f_204, f_205, f_206, f_207, f_208, f_209, f_210, f_211, f_212, f_213, f_214⟩⟩) (Nat.le_of_ble_eq_true rfl) (Nat.le_of_ble_eq_true rfl) dX9_cycle_106
                  · skip
                    exact absurd c_197 (by omega)
                · skip
                  exact absurd c_196 (by omega)
              · skip
                exact absurd c_195 (by omega)
      · skip
        refine hv_call (pc := 16) (va_runS (As := [.int (z), .int (nI 0), .int (nI (sc 5) - nI 1)]) (rest := []) S (c_isIn l D cA ga φ H.size z (nI 0) (nI (sc 5) - nI 1)) (va_cwS 3 S.2.2.2.2 (gS tw_1031 tw_1032 tw_7 tw_1033) rfl rfl rfl (by decide +kernel) ⟨Nat.le_of_ble_eq_true rfl, Nat.le_of_ble_eq_true rfl⟩) (pre0_S hH hK hX hS hA) rfl rfl hl.1 rfl (lv_room (Nat.le_of_ble_eq_true rfl)) dX9_cycle_16 ⟨Nat.le_of_ble_eq_true rfl, Nat.le_of_ble_eq_true rfl⟩) hS (af_le hH hS hA) (fun v_216 φ_217 H locs hw_v_216 hH hS => ?_)
        obtain ⟨rfl, hqv_216⟩ := hw_v_216
        rw [hqv_216] at hH
        refine hv_ti (y := nI 0) (by rw [inB_N (by omega), if_neg hz]) ?_
        refine hv_if_eq (pc := 19) (tgt := 26) (a := 0) S.1 S.2.1 (by omega) dX9_cycle_19 (by decide) (fun c_218 => ?_) (fun c_218 => ?_)
        · skip
          refine lv_iconst (pc := 26) (v := nI 0) S.1 S.2.1 dX9_cycle_26 (by decide) ?_
          refine lv_istore_n (pc := 27) (lv' := [(3, .int (nI 0)), (0, .ref (q 0)), (1, .int (nI x1)), (2, .int (z))]) S.1 S.2.1 dX9_cycle_27 rfl hl (by decide) rfl (fun ls hl => ?_)
          refine lv_iload_n (pc := 28) S.1 S.2.1 dX9_cycle_28 rfl (lv_at hl 0 rfl) ?_
          refine hv_if_eq (pc := 29) (tgt := 77) (a := 0) S.1 S.2.1 (by omega) dX9_cycle_29 (by decide) (fun c_219 => ?_) (fun c_219 => ?_)
          · skip
            refine lv_iconst (pc := 77) (v := nI 0) S.1 S.2.1 dX9_cycle_77 (by decide) ?_
            refine lv_istore (pc := 78) (lv' := [(4, .int (nI 0)), (3, .int (nI 0)), (0, .ref (q 0)), (1, .int (nI x1)), (2, .int (z))]) S.1 S.2.1 dX9_cycle_78 hl (by decide) rfl (fun ls hl => ?_)
            refine lv_aload_n (pc := 80) S.1 S.2.1 dX9_cycle_80 rfl (lv_at hl 2 rfl) ?_
            refine lv_iload_n (pc := 81) S.1 S.2.1 dX9_cycle_81 rfl (lv_at hl 1 rfl) ?_
            refine hv_if_ne (pc := 82) (tgt := 89) (a := 0) S.1 S.2.1 (by omega) dX9_cycle_82 (by decide) (fun c_220 => ?_) (fun c_220 => ?_)
            · skip
              exact absurd c_220 (by omega)
            · skip
              refine lv_iconst (pc := 85) (v := nI 1) S.1 S.2.1 dX9_cycle_85 (by decide) ?_
              refine lv_goto (pc := 86) (tgt := 99) S.1 S.2.1 dX9_cycle_86 (by decide) ?_
              have eX : cycleX (sc 3) (sc 5) (ar 3) (ar 7) (ar 12) (ar 8) (nI x1) z = 3 := by rw [cycleX, if_pos hx, if_neg hz]
              refine hv_call (pc := 99) (va_runV (As := [.int (nI 1)]) (rest := []) S (c_m_goes l D cA ga φ H.size q sc ar (1) ⟨f0, f1, f2, f3, f4, f5, f6, f7, f8, f9, f10, f11, f12, f13, f14⟩ hq (by omega)) (cwV 1 S.2.2.2.2 (gV tw_1021 tw_1023 sw_32 tw_7 tw_1024) rfl rfl rfl (by decide +kernel) ⟨Nat.le_of_ble_eq_true rfl, Nat.le_of_ble_eq_true rfl⟩) (pre0_V hH hK hX hS hA (hH.recv hK f0 rfl)) rfl rfl hl.1 rfl (lv_room (Nat.le_of_ble_eq_true rfl)) dX9_cycle_99 ⟨Nat.le_of_ble_eq_true rfl, Nat.le_of_ble_eq_true rfl⟩) hS (af_le hH hS hA) (fun v_221 φ_222 H locs hw_v_221 hH hS => ?_)
              obtain ⟨rfl, hm9⟩ := hw_v_221
              obtain ⟨f_223, f_224, f_225, f_226, f_227, f_228, f_229, f_230, f_231, f_232, f_233, f_234, f_235, f_236, f_237⟩ := hm9
              change φ_222 (q 0) = some (.inr (13, [.int (nI (sc 0)), .long (Int64.ofNat (sc 1)), .int (nI (sc 2)), .ref (q 1), .ref (q 2), .int (nI (sc 3)), .ref (q 3), .ref (q 4), .ref (q 5), .ref (q 6), .ref (q 7), .ref (q 8), .ref (q 9), .int (nI (sc 4)), .ref (q 10), .ref (q 11), .int (nI (sc 5)), .ref (q 12), .ref (q 13), .ref (q 14), .int (nI (sc 6)), .int (nI 1)])) at f_223
              refine hv_ti (y := nI 0) (rfl) ?_
              refine hv_if_ne (pc := 102) (tgt := 107) (a := 0) S.1 S.2.1 (by omega) dX9_cycle_102 (by decide) (fun c_238 => ?_) (fun c_238 => ?_)
              · skip
                exact absurd c_238 (by omega)
              · skip
                refine lv_iconst (pc := 105) (v := nI 0) S.1 S.2.1 dX9_cycle_105 (by decide) ?_
                exact hv_ret (pc := 106) (v := nI 0) S hr rfl hlocks hH hS (by rw [if_neg (by rw [eX]; decide), eX]; exact ⟨rfl, ⟨f_223, f_224, f_225, f_226, f_227, f_228, f_229, f_230, f_231, f_232, f_233, f_234, f_235, f_236, f_237⟩⟩) (Nat.le_of_ble_eq_true rfl) (Nat.le_of_ble_eq_true rfl) dX9_cycle_106
          · skip
            exact absurd c_219 (by omega)
        · skip
          exact absurd c_218 (by omega)
  · skip
    refine hv_call (pc := 2) (va_runV (As := [.int (x)]) (rest := []) S (c_m_isCone l D cA ga φ H.size q sc ar x ⟨f0, f1, f2, f3, f4, f5, f6, f7, f8, f9, f10, f11, f12, f13, f14⟩ hq hnc) (cwV 1 S.2.2.2.2 (gV tw_1057 tw_1059 sw_35 tw_7 tw_1060) rfl rfl rfl (by decide +kernel) ⟨Nat.le_of_ble_eq_true rfl, Nat.le_of_ble_eq_true rfl⟩) (pre0_V hH hK hX hS hA (hH.recv hK f0 rfl)) rfl rfl hl.1 rfl (lv_room (Nat.le_of_ble_eq_true rfl)) dX9_cycle_2 ⟨Nat.le_of_ble_eq_true rfl, Nat.le_of_ble_eq_true rfl⟩) hS (af_le hH hS hA) (fun v_239 φ_240 H locs hw_v_239 hH hS => ?_)
    obtain ⟨rfl, hqv_239⟩ := hw_v_239
    rw [hqv_239] at hH
    refine hv_ti (y := nI 0) (by rw [if_neg hx]) ?_
    refine hv_if_eq (pc := 5) (tgt := 26) (a := 0) S.1 S.2.1 (by omega) dX9_cycle_5 (by decide) (fun c_241 => ?_) (fun c_241 => ?_)
    · skip
      refine lv_iconst (pc := 26) (v := nI 0) S.1 S.2.1 dX9_cycle_26 (by decide) ?_
      refine lv_istore_n (pc := 27) (lv' := [(3, .int (nI 0)), (0, .ref (q 0)), (1, .int (x)), (2, .int (z))]) S.1 S.2.1 dX9_cycle_27 rfl hl (by decide) rfl (fun ls hl => ?_)
      refine lv_iload_n (pc := 28) S.1 S.2.1 dX9_cycle_28 rfl (lv_at hl 0 rfl) ?_
      refine hv_if_eq (pc := 29) (tgt := 77) (a := 0) S.1 S.2.1 (by omega) dX9_cycle_29 (by decide) (fun c_242 => ?_) (fun c_242 => ?_)
      · skip
        refine lv_iconst (pc := 77) (v := nI 0) S.1 S.2.1 dX9_cycle_77 (by decide) ?_
        refine lv_istore (pc := 78) (lv' := [(4, .int (nI 0)), (3, .int (nI 0)), (0, .ref (q 0)), (1, .int (x)), (2, .int (z))]) S.1 S.2.1 dX9_cycle_78 hl (by decide) rfl (fun ls hl => ?_)
        refine lv_aload_n (pc := 80) S.1 S.2.1 dX9_cycle_80 rfl (lv_at hl 2 rfl) ?_
        refine lv_iload_n (pc := 81) S.1 S.2.1 dX9_cycle_81 rfl (lv_at hl 1 rfl) ?_
        refine hv_if_ne (pc := 82) (tgt := 89) (a := 0) S.1 S.2.1 (by omega) dX9_cycle_82 (by decide) (fun c_243 => ?_) (fun c_243 => ?_)
        · skip
          exact absurd c_243 (by omega)
        · skip
          refine lv_iconst (pc := 85) (v := nI 1) S.1 S.2.1 dX9_cycle_85 (by decide) ?_
          refine lv_goto (pc := 86) (tgt := 99) S.1 S.2.1 dX9_cycle_86 (by decide) ?_
          have eX : cycleX (sc 3) (sc 5) (ar 3) (ar 7) (ar 12) (ar 8) x z = 3 := by rw [cycleX, if_neg hx]
          refine hv_call (pc := 99) (va_runV (As := [.int (nI 1)]) (rest := []) S (c_m_goes l D cA ga φ H.size q sc ar (1) ⟨f0, f1, f2, f3, f4, f5, f6, f7, f8, f9, f10, f11, f12, f13, f14⟩ hq (by omega)) (cwV 1 S.2.2.2.2 (gV tw_1021 tw_1023 sw_32 tw_7 tw_1024) rfl rfl rfl (by decide +kernel) ⟨Nat.le_of_ble_eq_true rfl, Nat.le_of_ble_eq_true rfl⟩) (pre0_V hH hK hX hS hA (hH.recv hK f0 rfl)) rfl rfl hl.1 rfl (lv_room (Nat.le_of_ble_eq_true rfl)) dX9_cycle_99 ⟨Nat.le_of_ble_eq_true rfl, Nat.le_of_ble_eq_true rfl⟩) hS (af_le hH hS hA) (fun v_244 φ_245 H locs hw_v_244 hH hS => ?_)
          obtain ⟨rfl, hm9⟩ := hw_v_244
          obtain ⟨f_246, f_247, f_248, f_249, f_250, f_251, f_252, f_253, f_254, f_255, f_256, f_257, f_258, f_259, f_260⟩ := hm9
          change φ_245 (q 0) = some (.inr (13, [.int (nI (sc 0)), .long (Int64.ofNat (sc 1)), .int (nI (sc 2)), .ref (q 1), .ref (q 2), .int (nI (sc 3)), .ref (q 3), .ref (q 4), .ref (q 5), .ref (q 6), .ref (q 7), .ref (q 8), .ref (q 9), .int (nI (sc 4)), .ref (q 10), .ref (q 11), .int (nI (sc 5)), .ref (q 12), .ref (q 13), .ref (q 14), .int (nI (sc 6)), .int (nI 1)])) at f_246
          refine hv_ti (y := nI 0) (rfl) ?_
          refine hv_if_ne (pc := 102) (tgt := 107) (a := 0) S.1 S.2.1 (by omega) dX9_cycle_102 (by decide) (fun c_261 => ?_) (fun c_261 => ?_)
          · skip
            exact absurd c_261 (by omega)
          · skip
            refine lv_iconst (pc := 105) (v := nI 0) S.1 S.2.1 dX9_cycle_105 (by decide) ?_
            exact hv_ret (pc := 106) (v := nI 0) S hr rfl hlocks hH hS (by rw [if_neg (by rw [eX]; decide), eX]; exact ⟨rfl, ⟨f_246, f_247, f_248, f_249, f_250, f_251, f_252, f_253, f_254, f_255, f_256, f_257, f_258, f_259, f_260⟩⟩) (Nat.le_of_ble_eq_true rfl) (Nat.le_of_ble_eq_true rfl) dX9_cycle_106
      · skip
        exact absurd c_242 (by omega)
    · skip
      exact absurd c_241 (by omega)
