/-! isCounted: straw, counted both ways, and closed -/
theorem sN_6 (k : Nat) : ∀ j, 6 ≤ sN k j
  | 0 => Nat.le_refl _
  | j + 1 => by have := sN_6 k j; simp only [sN]; omega
theorem sN_le9 (k : Nat) : ∀ j, sN k j ≤ 6 + 9 * j
  | 0 => Nat.le_refl _
  | j + 1 => by have := sN_le9 k j; have := gN_le k (j + 2); simp only [sN]; omega
theorem tN_6 (k : Nat) : ∀ j, 6 * (j + 1) ≤ tN k j
  | 0 => Nat.le_refl _
  | j + 1 => by have := tN_6 k j; have := sN_6 k (j + 1); simp only [tN]; omega
theorem tN_hi (k : Nat) : ∀ j, j ≤ 100 → tN k j ≤ 906 * (j + 1)
  | 0, _ => by simp only [tN]; omega
  | j + 1, h => by have := tN_hi k j (by omega); have := sN_le9 k (j + 1); simp only [tN]; omega
theorem tN_s (k j : Nat) : tN k (j + 1) = tN k j + sN k (j + 1) := rfl
theorem sN_4 {k : Nat} (h4 : k < 4) (h : k ≠ 2) : ∀ j, 6 + 4 * j ≤ sN k j
  | 0 => Nat.le_refl _
  | j + 1 => by
    have h1 := sN_4 h4 h j
    have h2 : 4 ≤ gN k (j + 2) := by
      unfold gN
      rcases (show k = 0 ∨ k = 1 ∨ k = 3 by omega) with rfl | rfl | rfl
      · rw [if_pos (by decide)]; decide
      · rw [if_pos (by decide)]; decide
      · rw [if_pos (by decide)]; decide
    simp only [sN]
    omega
theorem sN_2a : ∀ j, j < 17 → sN 2 j ≤ 57 := by decide +kernel
theorem sN_2b : sN 2 16 = 57 := by decide +kernel
theorem sN_2c : ∀ j, sN 2 (16 + j) = 57
  | 0 => sN_2b
  | j + 1 => by
    show sN 2 (16 + j) + gN 2 (16 + j + 2) = 57
    rw [sN_2c j]
    unfold gN
    rw [if_neg (by decide)]
    show 57 + (6 - (16 + j + 2) / 3) = 57
    omega
theorem sN_2 (j : Nat) : sN 2 j ≤ 57 := by
  by_cases h : j < 17
  · exact sN_2a j h
  · rw [show j = 16 + (j - 16) by omega, sN_2c]
    exact Nat.le_refl _
theorem rcF_some {k st r : Nat} : ∀ n j, rcF k st n j = some r → ∃ i, r = i + 1 ∧ j ≤ i ∧ i < j + n ∧ st ≤ sN k i ∧ ∀ m, j ≤ m → m < i → sN k m < st
  | 0, _, h => by cases h
  | n + 1, j, h => by
    unfold rcF at h
    split at h
    · next h1 => cases h; exact ⟨j, rfl, Nat.le_refl _, by omega, h1, fun m h2 h3 => absurd h3 (by omega)⟩
    · next h1 =>
      obtain ⟨i, q1, q2, q3, q4, q5⟩ := rcF_some n (j + 1) h
      refine ⟨i, q1, by omega, by omega, q4, fun m h2 h3 => ?_⟩
      by_cases hm : m = j
      · rw [hm]; omega
      · exact q5 m (by omega) h3
theorem rcF_none {k st : Nat} : ∀ n j, rcF k st n j = none → ∀ m, j ≤ m → m < j + n → sN k m < st
  | 0, _, _, m, h2, h3 => absurd h3 (by omega)
  | n + 1, j, h, m, h2, h3 => by
    unfold rcF at h
    split at h
    · cases h
    · next h1 =>
      by_cases hm : m = j
      · rw [hm]; omega
      · exact rcF_none n (j + 1) h m (by omega) (by omega)
/-- a spiral that never closes -/
theorem rc_no {k st : Nat} (h4 : k < 4) (hs : st ≤ 2000) (h : rcF k st 1000 0 = none) : k = 2 ∧ 57 < st := by
  have h1 := rcF_none 1000 0 h
  by_cases hk : k = 2
  · subst hk
    have := h1 16 (by omega) (by omega)
    rw [sN_2b] at this
    exact ⟨rfl, this⟩
  · have := h1 500 (by omega) (by omega)
    have := sN_4 h4 hk 500
    omega
theorem rc_yes {k st r : Nat} (h4 : k < 4) (hs : st ≤ 2000) (h : rcF k st 1000 0 = some r) : 1 ≤ r ∧ r ≤ 1000 ∧ (99 < r → 300 < st) ∧ (r < 2 → st < 7) ∧ st ≤ sN k (r - 1) ∧ (2 ≤ r → sN k (r - 2) < st) := by
  obtain ⟨i, rfl, q2, q3, q4, q5⟩ := rcF_some 1000 0 h
  refine ⟨by omega, by omega, fun h1 => ?_, fun h1 => ?_, by rw [Nat.add_sub_cancel]; exact q4, fun h1 => by rw [show i + 1 - 2 = i - 1 by omega]; exact q5 _ (by omega) (by omega)⟩
  · by_cases hk : k = 2
    · subst hk
      have := q5 16 (by omega) (by omega)
      have := sN_2 i
      rw [sN_2b] at *
      omega
    · have := q5 98 (by omega) (by omega)
      have := sN_4 h4 hk 98
      omega
  · rw [show i = 0 by omega] at q4
    have : sN k 0 = 6 := rfl
    omega
theorem spi_of : ∀ k, k < 4 → fiL 7 (lsN (wdN (5 + k)) 8) 4 0 = some k := by decide +kernel
theorem ct_of {k kk R : Nat} {kg : Nat → Nat} (h4 : k < 4) (hL : (List.range kk).map kg = lsN (wdN (5 + k)) 8) : ctR (fiF 7 kg kk 4 0) R = nI (tN k (R - 1)) := by
  rw [fi_L, hL, spi_of k h4]; rfl
theorem rw_of {k kk R : Nat} {kg : Nat → Nat} (h4 : k < 4) (hL : (List.range kk).map kg = lsN (wdN (5 + k)) 8) : rwR (fiF 7 kg kk 4 0) R = rcI (rcF k R 1000 0) := by
  rw [fi_L, hL, spi_of k h4]; rfl
set_option maxHeartbeats 4000000 in
set_option maxRecDepth 100000 in
/-- isCounted(o, m, x) -/
theorem l_isCounted (l : Launch) (hfl : l.stackTraces = false) (D : va_G) (cA : Nat → ClassId) (ga : Nat → Nat → Nat) (φ : hpM) (sz : Nat) (az : Nat → Nat) (tn tk tm : Nat) (tg sc : Nat → Nat) (ar : Nat → Nat → Nat) (w : Nat → Nat → Nat → Nat) (ez o : Nat → Nat → Nat) (x : Nat) (hY : YW cA ga az tk tm tg sc ar w ez o φ) (hI : LI tn sc ar w ez o) (hT : TY tk tg) (h200 : tn ≤ 200) (hx : x < 2 ^ 31) : hM l yL_isCounted cL_isCounted 14 (some .boolean) { frames := 16, cells := 130, slots := 800, locals := 680 } [.ref (az 0), .ref (az 9), .int (nI x)] D cA ga φ sz (fun v φ' => v = some (.int (nI 1)) ∧ ∃ (km : Nat) (kg : Nat → Nat), YW cA ga az 0 km kg sc ar w ez (va_up o 0 (va_up (o 0) 5 0)) φ') 130 800 := by
  refine hM.of (by decide) (Nat.le_of_ble_eq_true rfl) rfl ?_
  intro p e s m args below meth c ls H locs S hr hlocks hnm hsz hHz hH hK hX hS hA hl
  have hl1 := hI.l1
  have hm := hI.lm
  have hk4 : x % 4 < 4 := Nat.mod_lt _ (by decide)
  have hwi : 5 + x % 4 < 11 := by omega
  have h42 : ∀ (ls : Array Slot) (H : Heap) (locs : List Loc), hp D (Af φ sz) φ H → va_S (Af φ sz) s.heap H locs → lv_has ls 14 [(0, .ref (az 0)), (1, .ref (az 9)), (2, .int (nI x)), (3, .long (Int64.ofNat (wdN (5 + x % 4))))] → W p l e { frames := 16, cells := 130, slots := 800, locals := 680 } s m args below meth c H locs (0) (0) (MQ below (hQ (fun v φ' => v = some (.int (nI 1)) ∧ ∃ (km : Nat) (kg : Nat → Nat), YW cA ga az 0 km kg sc ar w ez (va_up o 0 (va_up (o 0) 5 0)) φ') D (Af φ sz)) args s 130 800 (Af φ sz)) (F0 m 42 ls []) := by
    intro ls H locs hH hS hl
    obtain ⟨R9, hR9⟩ : ∃ R9 : Nat, R9 = 1 + x / 4 % 99 := ⟨_, rfl⟩
    obtain ⟨N9, hN9⟩ : ∃ N9 : Nat, N9 = 1 + x / 400 % 2000 := ⟨_, rfl⟩
    have hR1 : 1 ≤ R9 ∧ R9 ≤ 99 := by omega
    have hN1 : 1 ≤ N9 ∧ N9 ≤ 2000 := by omega
    have t6 := tN_6 (x % 4) (R9 - 1)
    have ts := tN_s (x % 4) (R9 - 1)
    have s6 := sN_6 (x % 4) (R9 - 1 + 1)
    have th := tN_hi (x % 4) (R9 - 1 + 1) (by omega)
    rw [show R9 - 1 + 1 = R9 by omega] at ts s6 th t6
    refine lv_iconst (pc := 42) (v := nI 1) S.1 S.2.1 dL_isCounted_42 (by decide) ?_
    refine lv_iload_n (pc := 43) S.1 S.2.1 dL_isCounted_43 rfl (lv_at hl 2 rfl) ?_
    refine lv_iconst (pc := 44) (v := nI 4) S.1 S.2.1 dL_isCounted_44 (by decide) ?_
    refine lv_idiv (pc := 45) S.1 S.2.1 dL_isCounted_45 (by decide) ?_
    refine hv_ti (y := nI (x / 4)) (pk_div (by omega) (by omega) (by omega)) ?_
    refine lv_bipush (pc := 46) (v := nI 99) S.1 S.2.1 dL_isCounted_46 (by decide) ?_
    refine lv_irem (pc := 48) S.1 S.2.1 dL_isCounted_48 (by decide) ?_
    refine hv_ti (y := nI ((x / 4) % 99)) (pk_rem (by omega) (by omega) (by omega)) ?_
    refine lv_iadd (pc := 49) S.1 S.2.1 dL_isCounted_49 ?_
    refine hv_ti (y := nI (1 + ((x / 4) % 99))) (nI_add _ _) ?_
    refine hv_ti (y := nI R9) (by rw [hR9]) ?_
    refine lv_istore (pc := 50) (lv' := [(5, .int (nI R9)), (0, .ref (az 0)), (1, .ref (az 9)), (2, .int (nI x)), (3, .long (Int64.ofNat (wdN (5 + x % 4))))]) S.1 S.2.1 dL_isCounted_50 hl (by decide) rfl (fun ls hl => ?_)
    refine lv_iconst (pc := 52) (v := nI 1) S.1 S.2.1 dL_isCounted_52 (by decide) ?_
    refine lv_iload_n (pc := 53) S.1 S.2.1 dL_isCounted_53 rfl (lv_at hl 3 rfl) ?_
    refine lv_sipush (pc := 54) (v := nI 400) S.1 S.2.1 dL_isCounted_54 (by decide) ?_
    refine lv_idiv (pc := 57) S.1 S.2.1 dL_isCounted_57 (by decide) ?_
    refine hv_ti (y := nI (x / 400)) (pk_div (by omega) (by omega) (by omega)) ?_
    refine lv_sipush (pc := 58) (v := nI 2000) S.1 S.2.1 dL_isCounted_58 (by decide) ?_
    refine lv_irem (pc := 61) S.1 S.2.1 dL_isCounted_61 (by decide) ?_
    refine hv_ti (y := nI ((x / 400) % 2000)) (pk_rem (by omega) (by omega) (by omega)) ?_
    refine lv_iadd (pc := 62) S.1 S.2.1 dL_isCounted_62 ?_
    refine hv_ti (y := nI (1 + ((x / 400) % 2000))) (nI_add _ _) ?_
    refine hv_ti (y := nI N9) (by rw [hN9]) ?_
    refine lv_istore (pc := 63) (lv' := [(6, .int (nI N9)), (5, .int (nI R9)), (0, .ref (az 0)), (1, .ref (az 9)), (2, .int (nI x)), (3, .long (Int64.ofNat (wdN (5 + x % 4))))]) S.1 S.2.1 dL_isCounted_63 hl (by decide) rfl (fun ls hl => ?_)
    refine lv_aload_n (pc := 65) S.1 S.2.1 dL_isCounted_65 rfl (lv_at hl 2 rfl) ?_
    refine lv_aload_n (pc := 66) S.1 S.2.1 dL_isCounted_66 rfl (lv_at hl 3 rfl) ?_
    refine lv_lload_n (pc := 67) S.1 S.2.1 dL_isCounted_67 rfl (lv_at hl 5 rfl) ?_
    refine hv_call (pc := 68) (va_runS (As := [.ref (az 0), .ref (az 9), .long (Int64.ofNat (wdN (5 + x % 4)))]) (rest := []) S (l_types l hfl D cA ga φ H.size az tn tk tm tg sc ar w ez o (5 + x % 4) hY hI hT h200 hwi) (va_cwS 3 S.2.2.2.2 (gS tw_900 tw_901 tw_0 tw_902) rfl rfl rfl (by decide +kernel) ⟨Nat.le_of_ble_eq_true rfl, Nat.le_of_ble_eq_true rfl⟩) (pre0_S hH hK hX hS hA) rfl rfl hl.1 rfl (lv_room (Nat.le_of_ble_eq_true rfl)) dL_isCounted_68 ⟨Nat.le_trans (show _ ≤ 130 by omega) (Nat.le_of_ble_eq_true rfl), Nat.le_trans (show _ ≤ 800 by omega) (Nat.le_of_ble_eq_true rfl)⟩) hS (af_le hH hS hA) (fun v_2 φ_3 H locs hw_v_2 hH hS => ?_)
    obtain ⟨rfl, kkt_1, kmt_1, kgt_1, hYt_1, hLt_1⟩ := hw_v_2
    have hTt_1 := TY.ofl hwi (by decide) hLt_1
    refine lv_istore (pc := 71) (lv' := [(7, .int (nI 1)), (6, .int (nI N9)), (5, .int (nI R9)), (0, .ref (az 0)), (1, .ref (az 9)), (2, .int (nI x)), (3, .long (Int64.ofNat (wdN (5 + x % 4))))]) S.1 S.2.1 dL_isCounted_71 hl (by decide) rfl (fun ls hl => ?_)
    refine lv_aload_n (pc := 73) S.1 S.2.1 dL_isCounted_73 rfl (lv_at hl 3 rfl) ?_
    refine lv_bipush (pc := 74) (v := nI 12) S.1 S.2.1 dL_isCounted_74 (by decide) ?_
    refine lv_iload (pc := 76) S.1 S.2.1 dL_isCounted_76 (lv_at hl 2 rfl) ?_
    refine lv_iconst (pc := 78) (v := nI 0) S.1 S.2.1 dL_isCounted_78 (by decide) ?_
    refine lv_iconst (pc := 79) (v := nI 0) S.1 S.2.1 dL_isCounted_79 (by decide) ?_
    refine hv_call (pc := 80) (vx_runSW (As := [.ref (az 0), .int (nI 12), .int (nI R9), .int (nI 0), .int (nI 0)]) (rest := []) S (as_count l hfl D cA ga φ_3 H.size az tn kkt_1 kmt_1 kgt_1 sc ar w ez (va_up o 0 (va_up (o 0) 5 kkt_1)) (va_up o 0 (va_up (o 0) 5 kkt_1)) R9 hYt_1 (hI.m5 kkt_1) hTt_1 h200 (by omega) (by omega)) (vx_cwSW 5 S.2.2.2.2 (gSW tw_261 tw_262 tw_0 tw_263) rfl rfl rfl (by decide +kernel) ⟨Nat.le_of_ble_eq_true rfl, Nat.le_of_ble_eq_true rfl⟩) (pre0_S hH hK hX hS hA) rfl rfl hl.1 rfl (lv_room (Nat.le_of_ble_eq_true rfl)) dL_isCounted_80 ⟨Nat.le_trans (show _ ≤ 130 by omega) (Nat.le_of_ble_eq_true rfl), Nat.le_trans (show _ ≤ 800 by omega) (Nat.le_of_ble_eq_true rfl)⟩) hS (af_le hH hS hA) (fun v_5 φ_6 H locs hw_v_5 hH hS => ?_)
    obtain ⟨rfl, hYq_4⟩ := hw_v_5
    refine hv_ti (y := nI (tN (x % 4) (R9 - 1))) (ct_of hk4 hLt_1) ?_
    refine lv_istore (pc := 83) (lv' := [(8, .int (nI (tN (x % 4) (R9 - 1)))), (7, .int (nI 1)), (6, .int (nI N9)), (5, .int (nI R9)), (0, .ref (az 0)), (1, .ref (az 9)), (2, .int (nI x)), (3, .long (Int64.ofNat (wdN (5 + x % 4))))]) S.1 S.2.1 dL_isCounted_83 hl (by decide) rfl (fun ls hl => ?_)
    refine lv_iload (pc := 85) S.1 S.2.1 dL_isCounted_85 (lv_at hl 1 rfl) ?_
    refine hv_if_eq (pc := 87) (tgt := 127) (a := 1) S.1 S.2.1 (by omega) dL_isCounted_87 (by decide) (fun c9 => absurd c9 (by omega)) (fun c_7 => ?_)
    refine lv_aload_n (pc := 90) S.1 S.2.1 dL_isCounted_90 rfl (lv_at hl 4 rfl) ?_
    refine lv_aload_n (pc := 91) S.1 S.2.1 dL_isCounted_91 rfl (lv_at hl 5 rfl) ?_
    refine lv_lload_n (pc := 92) S.1 S.2.1 dL_isCounted_92 rfl (lv_at hl 7 rfl) ?_
    refine hv_call (pc := 93) (va_runS (As := [.ref (az 0), .ref (az 9), .long (Int64.ofNat (wdN (5 + x % 4)))]) (rest := []) S (l_types l hfl D cA ga φ_6 H.size az tn 0 (if kkt_1 = 0 then kmt_1 else 1) kgt_1 sc ar w ez (va_up o 0 (va_up (o 0) 5 kkt_1)) (5 + x % 4) hYq_4 (hI.m5 kkt_1) (TY.nil kgt_1) h200 hwi) (va_cwS 3 S.2.2.2.2 (gS tw_900 tw_901 tw_0 tw_902) rfl rfl rfl (by decide +kernel) ⟨Nat.le_of_ble_eq_true rfl, Nat.le_of_ble_eq_true rfl⟩) (pre0_S hH hK hX hS hA) rfl rfl hl.1 rfl (lv_room (Nat.le_of_ble_eq_true rfl)) dL_isCounted_93 ⟨Nat.le_trans (show _ ≤ 130 by omega) (Nat.le_of_ble_eq_true rfl), Nat.le_trans (show _ ≤ 800 by omega) (Nat.le_of_ble_eq_true rfl)⟩) hS (af_le hH hS hA) (fun v_9 φ_10 H locs hw_v_9 hH hS => ?_)
    obtain ⟨rfl, kkt_8, kmt_8, kgt_8, hYt_8, hLt_8⟩ := hw_v_9
    rw [up_up] at hYt_8
    have hTt_8 := TY.ofl hwi (by decide) hLt_8
    refine hv_if_eq (pc := 96) (tgt := 127) (a := 1) S.1 S.2.1 (by omega) dL_isCounted_96 (by decide) (fun c9 => absurd c9 (by omega)) (fun c_11 => ?_)
    refine lv_aload_n (pc := 99) S.1 S.2.1 dL_isCounted_99 rfl (lv_at hl 4 rfl) ?_
    refine lv_bipush (pc := 100) (v := nI 13) S.1 S.2.1 dL_isCounted_100 (by decide) ?_
    refine lv_iload (pc := 102) S.1 S.2.1 dL_isCounted_102 (lv_at hl 3 rfl) ?_
    refine lv_iconst (pc := 104) (v := nI 0) S.1 S.2.1 dL_isCounted_104 (by decide) ?_
    refine lv_iconst (pc := 105) (v := nI 0) S.1 S.2.1 dL_isCounted_105 (by decide) ?_
    refine hv_call (pc := 106) (vx_runSW (As := [.ref (az 0), .int (nI 13), .int (nI R9), .int (nI 0), .int (nI 0)]) (rest := []) S (as_countAnew l hfl D cA ga φ_10 H.size az tn kkt_8 kmt_8 kgt_8 sc ar w ez (va_up o 0 (va_up (o 0) 5 kkt_8)) (va_up o 0 (va_up (o 0) 5 kkt_8)) R9 hYt_8 (hI.m5 kkt_8) hTt_8 h200 (by omega) (by omega)) (vx_cwSW 5 S.2.2.2.2 (gSW tw_261 tw_262 tw_0 tw_263) rfl rfl rfl (by decide +kernel) ⟨Nat.le_of_ble_eq_true rfl, Nat.le_of_ble_eq_true rfl⟩) (pre0_S hH hK hX hS hA) rfl rfl hl.1 rfl (lv_room (Nat.le_of_ble_eq_true rfl)) dL_isCounted_106 ⟨Nat.le_trans (show _ ≤ 130 by omega) (Nat.le_of_ble_eq_true rfl), Nat.le_trans (show _ ≤ 800 by omega) (Nat.le_of_ble_eq_true rfl)⟩) hS (af_le hH hS hA) (fun v_13 φ_14 H locs hw_v_13 hH hS => ?_)
    obtain ⟨rfl, hYq_12⟩ := hw_v_13
    refine hv_ti (y := nI (tN (x % 4) (R9 - 1))) (ct_of hk4 hLt_8) ?_
    refine lv_iload (pc := 109) S.1 S.2.1 dL_isCounted_109 (lv_at hl 0 rfl) ?_
    refine hv_icmp_ne (pc := 111) (tgt := 127) (a := tN (x % 4) (R9 - 1)) (b := tN (x % 4) (R9 - 1)) S.1 S.2.1 (by omega) (by omega) dL_isCounted_111 (by decide) (fun c9 => absurd c9 (by omega)) (fun c_15 => ?_)
    refine lv_aload_n (pc := 114) S.1 S.2.1 dL_isCounted_114 rfl (lv_at hl 4 rfl) ?_
    refine lv_aload_n (pc := 115) S.1 S.2.1 dL_isCounted_115 rfl (lv_at hl 5 rfl) ?_
    refine lv_lload_n (pc := 116) S.1 S.2.1 dL_isCounted_116 rfl (lv_at hl 7 rfl) ?_
    refine hv_call (pc := 117) (va_runS (As := [.ref (az 0), .ref (az 9), .long (Int64.ofNat (wdN (5 + x % 4)))]) (rest := []) S (l_types l hfl D cA ga φ_14 H.size az tn 0 (if kkt_8 = 0 then kmt_8 else 1) kgt_8 sc ar w ez (va_up o 0 (va_up (o 0) 5 kkt_8)) (5 + x % 4) hYq_12 (hI.m5 kkt_8) (TY.nil kgt_8) h200 hwi) (va_cwS 3 S.2.2.2.2 (gS tw_900 tw_901 tw_0 tw_902) rfl rfl rfl (by decide +kernel) ⟨Nat.le_of_ble_eq_true rfl, Nat.le_of_ble_eq_true rfl⟩) (pre0_S hH hK hX hS hA) rfl rfl hl.1 rfl (lv_room (Nat.le_of_ble_eq_true rfl)) dL_isCounted_117 ⟨Nat.le_trans (show _ ≤ 130 by omega) (Nat.le_of_ble_eq_true rfl), Nat.le_trans (show _ ≤ 800 by omega) (Nat.le_of_ble_eq_true rfl)⟩) hS (af_le hH hS hA) (fun v_17 φ_18 H locs hw_v_17 hH hS => ?_)
    obtain ⟨rfl, kkt_16, kmt_16, kgt_16, hYt_16, hLt_16⟩ := hw_v_17
    rw [up_up] at hYt_16
    have hTt_16 := TY.ofl hwi (by decide) hLt_16
    refine hv_if_eq (pc := 120) (tgt := 127) (a := 1) S.1 S.2.1 (by omega) dL_isCounted_120 (by decide) (fun c9 => absurd c9 (by omega)) (fun c_19 => ?_)
    refine lv_iconst (pc := 123) (v := nI 1) S.1 S.2.1 dL_isCounted_123 (by decide) ?_
    refine lv_goto (pc := 124) (tgt := 128) S.1 S.2.1 dL_isCounted_124 (by decide) ?_
    refine lv_istore (pc := 128) (lv' := [(7, .int (nI 1)), (8, .int (nI (tN (x % 4) (R9 - 1)))), (6, .int (nI N9)), (5, .int (nI R9)), (0, .ref (az 0)), (1, .ref (az 9)), (2, .int (nI x)), (3, .long (Int64.ofNat (wdN (5 + x % 4))))]) S.1 S.2.1 dL_isCounted_128 hl (by decide) rfl (fun ls hl => ?_)
    refine lv_aload_n (pc := 130) S.1 S.2.1 dL_isCounted_130 rfl (lv_at hl 4 rfl) ?_
    refine lv_bipush (pc := 131) (v := nI 12) S.1 S.2.1 dL_isCounted_131 (by decide) ?_
    refine lv_iload (pc := 133) S.1 S.2.1 dL_isCounted_133 (lv_at hl 3 rfl) ?_
    refine lv_iconst (pc := 135) (v := nI 1) S.1 S.2.1 dL_isCounted_135 (by decide) ?_
    refine lv_iadd (pc := 136) S.1 S.2.1 dL_isCounted_136 ?_
    refine hv_ti (y := nI (R9 + 1)) (nI_add _ _) ?_
    refine lv_iconst (pc := 137) (v := nI 0) S.1 S.2.1 dL_isCounted_137 (by decide) ?_
    refine lv_iconst (pc := 138) (v := nI 0) S.1 S.2.1 dL_isCounted_138 (by decide) ?_
    refine hv_call (pc := 139) (vx_runSW (As := [.ref (az 0), .int (nI 12), .int (nI (R9 + 1)), .int (nI 0), .int (nI 0)]) (rest := []) S (as_count l hfl D cA ga φ_18 H.size az tn kkt_16 kmt_16 kgt_16 sc ar w ez (va_up o 0 (va_up (o 0) 5 kkt_16)) (va_up o 0 (va_up (o 0) 5 kkt_16)) (R9 + 1) hYt_16 (hI.m5 kkt_16) hTt_16 h200 (by omega) (by omega)) (vx_cwSW 5 S.2.2.2.2 (gSW tw_261 tw_262 tw_0 tw_263) rfl rfl rfl (by decide +kernel) ⟨Nat.le_of_ble_eq_true rfl, Nat.le_of_ble_eq_true rfl⟩) (pre0_S hH hK hX hS hA) rfl rfl hl.1 rfl (lv_room (Nat.le_of_ble_eq_true rfl)) dL_isCounted_139 ⟨Nat.le_trans (show _ ≤ 130 by omega) (Nat.le_of_ble_eq_true rfl), Nat.le_trans (show _ ≤ 800 by omega) (Nat.le_of_ble_eq_true rfl)⟩) hS (af_le hH hS hA) (fun v_21 φ_22 H locs hw_v_21 hH hS => ?_)
    obtain ⟨rfl, hYq_20⟩ := hw_v_21
    refine hv_ti (y := nI (tN (x % 4) R9)) ((ct_of hk4 hLt_16).trans (by rw [Nat.add_sub_cancel])) ?_
    refine lv_istore (pc := 142) (lv' := [(9, .int (nI (tN (x % 4) R9))), (7, .int (nI 1)), (8, .int (nI (tN (x % 4) (R9 - 1)))), (6, .int (nI N9)), (5, .int (nI R9)), (0, .ref (az 0)), (1, .ref (az 9)), (2, .int (nI x)), (3, .long (Int64.ofNat (wdN (5 + x % 4))))]) S.1 S.2.1 dL_isCounted_142 hl (by decide) rfl (fun ls hl => ?_)
    refine lv_iload (pc := 144) S.1 S.2.1 dL_isCounted_144 (lv_at hl 1 rfl) ?_
    refine hv_if_eq (pc := 146) (tgt := 182) (a := 1) S.1 S.2.1 (by omega) dL_isCounted_146 (by decide) (fun c9 => absurd c9 (by omega)) (fun c_23 => ?_)
    refine lv_iload (pc := 149) S.1 S.2.1 dL_isCounted_149 (lv_at hl 2 rfl) ?_
    refine lv_bipush (pc := 151) (v := nI 6) S.1 S.2.1 dL_isCounted_151 (by decide) ?_
    refine lv_iload (pc := 153) S.1 S.2.1 dL_isCounted_153 (lv_at hl 4 rfl) ?_
    refine lv_imul (pc := 155) S.1 S.2.1 dL_isCounted_155 ?_
    refine hv_ti (y := nI (6 * R9)) (pk_mul _ _) ?_
    refine hv_icmp_lt (pc := 156) (tgt := 182) (a := tN (x % 4) (R9 - 1)) (b := 6 * R9) S.1 S.2.1 (by omega) (by omega) dL_isCounted_156 (by decide) (fun c9 => absurd c9 (by omega)) (fun c_24 => ?_)
    refine lv_iload (pc := 159) S.1 S.2.1 dL_isCounted_159 (lv_at hl 0 rfl) ?_
    refine lv_iload (pc := 161) S.1 S.2.1 dL_isCounted_161 (lv_at hl 2 rfl) ?_
    refine lv_isub (pc := 163) S.1 S.2.1 dL_isCounted_163 ?_
    refine hv_ti (y := nI ((tN (x % 4) R9) - (tN (x % 4) (R9 - 1)))) (pk_sub (by omega)) ?_
    refine lv_bipush (pc := 164) (v := nI 6) S.1 S.2.1 dL_isCounted_164 (by decide) ?_
    refine hv_icmp_lt (pc := 166) (tgt := 182) (a := (tN (x % 4) R9) - (tN (x % 4) (R9 - 1))) (b := 6) S.1 S.2.1 (by omega) (by omega) dL_isCounted_166 (by decide) (fun c9 => absurd c9 (by omega)) (fun c_25 => ?_)
    refine lv_aload_n (pc := 169) S.1 S.2.1 dL_isCounted_169 rfl (lv_at hl 5 rfl) ?_
    refine lv_aload_n (pc := 170) S.1 S.2.1 dL_isCounted_170 rfl (lv_at hl 6 rfl) ?_
    refine lv_lload_n (pc := 171) S.1 S.2.1 dL_isCounted_171 rfl (lv_at hl 8 rfl) ?_
    refine hv_call (pc := 172) (va_runS (As := [.ref (az 0), .ref (az 9), .long (Int64.ofNat (wdN (5 + x % 4)))]) (rest := []) S (l_types l hfl D cA ga φ_22 H.size az tn 0 (if kkt_16 = 0 then kmt_16 else 1) kgt_16 sc ar w ez (va_up o 0 (va_up (o 0) 5 kkt_16)) (5 + x % 4) hYq_20 (hI.m5 kkt_16) (TY.nil kgt_16) h200 hwi) (va_cwS 3 S.2.2.2.2 (gS tw_900 tw_901 tw_0 tw_902) rfl rfl rfl (by decide +kernel) ⟨Nat.le_of_ble_eq_true rfl, Nat.le_of_ble_eq_true rfl⟩) (pre0_S hH hK hX hS hA) rfl rfl hl.1 rfl (lv_room (Nat.le_of_ble_eq_true rfl)) dL_isCounted_172 ⟨Nat.le_trans (show _ ≤ 130 by omega) (Nat.le_of_ble_eq_true rfl), Nat.le_trans (show _ ≤ 800 by omega) (Nat.le_of_ble_eq_true rfl)⟩) hS (af_le hH hS hA) (fun v_27 φ_28 H locs hw_v_27 hH hS => ?_)
    obtain ⟨rfl, kkt_26, kmt_26, kgt_26, hYt_26, hLt_26⟩ := hw_v_27
    rw [up_up] at hYt_26
    have hTt_26 := TY.ofl hwi (by decide) hLt_26
    refine hv_if_eq (pc := 175) (tgt := 182) (a := 1) S.1 S.2.1 (by omega) dL_isCounted_175 (by decide) (fun c9 => absurd c9 (by omega)) (fun c_29 => ?_)
    refine lv_iconst (pc := 178) (v := nI 1) S.1 S.2.1 dL_isCounted_178 (by decide) ?_
    refine lv_goto (pc := 179) (tgt := 183) S.1 S.2.1 dL_isCounted_179 (by decide) ?_
    refine lv_istore (pc := 183) (lv' := [(7, .int (nI 1)), (9, .int (nI (tN (x % 4) R9))), (8, .int (nI (tN (x % 4) (R9 - 1)))), (6, .int (nI N9)), (5, .int (nI R9)), (0, .ref (az 0)), (1, .ref (az 9)), (2, .int (nI x)), (3, .long (Int64.ofNat (wdN (5 + x % 4))))]) S.1 S.2.1 dL_isCounted_183 hl (by decide) rfl (fun ls hl => ?_)
    refine lv_aload_n (pc := 185) S.1 S.2.1 dL_isCounted_185 rfl (lv_at hl 5 rfl) ?_
    refine lv_bipush (pc := 186) (v := nI 14) S.1 S.2.1 dL_isCounted_186 (by decide) ?_
    refine lv_iload (pc := 188) S.1 S.2.1 dL_isCounted_188 (lv_at hl 3 rfl) ?_
    refine lv_iconst (pc := 190) (v := nI 0) S.1 S.2.1 dL_isCounted_190 (by decide) ?_
    refine lv_iconst (pc := 191) (v := nI 0) S.1 S.2.1 dL_isCounted_191 (by decide) ?_
    refine hv_call (pc := 192) (vx_runSW (As := [.ref (az 0), .int (nI 14), .int (nI N9), .int (nI 0), .int (nI 0)]) (rest := []) S (as_rows l hfl D cA ga φ_28 H.size az tn kkt_26 kmt_26 kgt_26 sc ar w ez (va_up o 0 (va_up (o 0) 5 kkt_26)) (va_up o 0 (va_up (o 0) 5 kkt_26)) N9 hYt_26 (hI.m5 kkt_26) hTt_26 h200 (by omega) (by omega)) (vx_cwSW 5 S.2.2.2.2 (gSW tw_261 tw_262 tw_0 tw_263) rfl rfl rfl (by decide +kernel) ⟨Nat.le_of_ble_eq_true rfl, Nat.le_of_ble_eq_true rfl⟩) (pre0_S hH hK hX hS hA) rfl rfl hl.1 rfl (lv_room (Nat.le_of_ble_eq_true rfl)) dL_isCounted_192 ⟨Nat.le_trans (show _ ≤ 130 by omega) (Nat.le_of_ble_eq_true rfl), Nat.le_trans (show _ ≤ 800 by omega) (Nat.le_of_ble_eq_true rfl)⟩) hS (af_le hH hS hA) (fun v_31 φ_32 H locs hw_v_31 hH hS => ?_)
    obtain ⟨rfl, hYq_30⟩ := hw_v_31
    refine hv_ti (y := rcI (rcF (x % 4) N9 1000 0)) (rw_of hk4 hLt_26) ?_
    cases hrc : rcF (x % 4) N9 1000 0 with
    | none =>
      obtain ⟨hk2, h57⟩ := rc_no hk4 (by omega) hrc
      refine hv_ti (y := (-1 : Int32)) (rfl) ?_
      refine lv_istore (pc := 195) (lv' := [(10, .int ((-1 : Int32))), (7, .int (nI 1)), (9, .int (nI (tN (x % 4) R9))), (8, .int (nI (tN (x % 4) (R9 - 1)))), (6, .int (nI N9)), (5, .int (nI R9)), (0, .ref (az 0)), (1, .ref (az 9)), (2, .int (nI x)), (3, .long (Int64.ofNat (wdN (5 + x % 4))))]) S.1 S.2.1 dL_isCounted_195 hl (by decide) rfl (fun ls hl => ?_)
      refine lv_aload_n (pc := 197) S.1 S.2.1 dL_isCounted_197 rfl (lv_at hl 7 rfl) ?_
      refine lv_iconst (pc := 198) (v := nI 5) S.1 S.2.1 dL_isCounted_198 (by decide) ?_
      refine lv_iconst (pc := 199) (v := nI 0) S.1 S.2.1 dL_isCounted_199 (by decide) ?_
      refine hv_iast (pc := 200) S hK hH hS 1 (hYq_30.a0) rfl (vp_in_nI (show 5 < 6 by omega) (by omega)) dL_isCounted_200 (fun H locs hH hS => ?_)
      rw [hv_upd (by omega)] at hH
      replace hH := nup (e := .inl (cA 1, 6, .inl (fun j => nI ((va_up ((va_up o 0 (va_up (o 0) 5 kkt_26)) 0) 5 0) j)))) hH
      obtain ⟨φ_34, hφ_34, fa_φ_34, fr_φ_34, hH⟩ := hH
      have hM_33 := hYq_30.s0 5 0
      rw [← hφ_34] at hM_33
      rw [up_up] at hM_33
      refine lv_iload (pc := 201) S.1 S.2.1 dL_isCounted_201 (lv_at hl 0 rfl) ?_
      refine lv_if_ge (pc := 203) (tgt := 237) S.1 S.2.1 dL_isCounted_203 (by decide) (fun c9 => absurd c9 (by decide)) (fun c_35 => ?_)
      refine lv_iload (pc := 206) S.1 S.2.1 dL_isCounted_206 (lv_at hl 1 rfl) ?_
      refine hv_if_eq (pc := 208) (tgt := 235) (a := 1) S.1 S.2.1 (by omega) dL_isCounted_208 (by decide) (fun c9 => absurd c9 (by omega)) (fun c_36 => ?_)
      refine lv_iload (pc := 211) S.1 S.2.1 dL_isCounted_211 (lv_at hl 0 rfl) ?_
      refine lv_iconst (pc := 213) (v := (-1 : Int32)) S.1 S.2.1 dL_isCounted_213 (by decide) ?_
      refine lv_icmp_ne (pc := 214) (tgt := 235) S.1 S.2.1 dL_isCounted_214 (by decide) (fun c9 => absurd c9 (fun h9 => h9 rfl)) (fun c_37 => ?_)
      refine lv_iload_n (pc := 217) S.1 S.2.1 dL_isCounted_217 rfl (lv_at hl 8 rfl) ?_
      refine lv_iconst (pc := 218) (v := nI 4) S.1 S.2.1 dL_isCounted_218 (by decide) ?_
      refine lv_irem (pc := 219) S.1 S.2.1 dL_isCounted_219 (by decide) ?_
      refine hv_ti (y := nI (x % 4)) (pk_rem (by omega) (by omega) (by omega)) ?_
      refine lv_iconst (pc := 220) (v := nI 2) S.1 S.2.1 dL_isCounted_220 (by decide) ?_
      refine hv_icmp_ne (pc := 221) (tgt := 235) (a := x % 4) (b := 2) S.1 S.2.1 (by omega) (by omega) dL_isCounted_221 (by decide) (fun c9 => absurd c9 (by omega)) (fun c_38 => ?_)
      refine lv_iload (pc := 224) S.1 S.2.1 dL_isCounted_224 (lv_at hl 4 rfl) ?_
      refine lv_bipush (pc := 226) (v := nI 57) S.1 S.2.1 dL_isCounted_226 (by decide) ?_
      refine hv_icmp_le (pc := 228) (tgt := 235) (a := N9) (b := 57) S.1 S.2.1 (by omega) (by omega) dL_isCounted_228 (by decide) (fun c9 => absurd c9 (by omega)) (fun c_39 => ?_)
      refine lv_iconst (pc := 231) (v := nI 1) S.1 S.2.1 dL_isCounted_231 (by decide) ?_
      refine lv_goto (pc := 232) (tgt := 236) S.1 S.2.1 dL_isCounted_232 (by decide) ?_
      exact hv_ret (pc := 236) (v := nI 1) S hr rfl hlocks hH hS (⟨rfl, _, _, hM_33⟩) (by omega) (by omega) dL_isCounted_236
    | some r9 =>
      obtain ⟨r1, r2, r3, r4, r5, r6⟩ := rc_yes hk4 (by omega) hrc
      refine hv_ti (y := nI r9) (rfl) ?_
      refine lv_istore (pc := 195) (lv' := [(10, .int (nI r9)), (7, .int (nI 1)), (9, .int (nI (tN (x % 4) R9))), (8, .int (nI (tN (x % 4) (R9 - 1)))), (6, .int (nI N9)), (5, .int (nI R9)), (0, .ref (az 0)), (1, .ref (az 9)), (2, .int (nI x)), (3, .long (Int64.ofNat (wdN (5 + x % 4))))]) S.1 S.2.1 dL_isCounted_195 hl (by decide) rfl (fun ls hl => ?_)
      refine lv_aload_n (pc := 197) S.1 S.2.1 dL_isCounted_197 rfl (lv_at hl 7 rfl) ?_
      refine lv_iconst (pc := 198) (v := nI 5) S.1 S.2.1 dL_isCounted_198 (by decide) ?_
      refine lv_iconst (pc := 199) (v := nI 0) S.1 S.2.1 dL_isCounted_199 (by decide) ?_
      refine hv_iast (pc := 200) S hK hH hS 1 (hYq_30.a0) rfl (vp_in_nI (show 5 < 6 by omega) (by omega)) dL_isCounted_200 (fun H locs hH hS => ?_)
      rw [hv_upd (by omega)] at hH
      replace hH := nup (e := .inl (cA 1, 6, .inl (fun j => nI ((va_up ((va_up o 0 (va_up (o 0) 5 kkt_26)) 0) 5 0) j)))) hH
      obtain ⟨φ_41, hφ_41, fa_φ_41, fr_φ_41, hH⟩ := hH
      have hM_40 := hYq_30.s0 5 0
      rw [← hφ_41] at hM_40
      rw [up_up] at hM_40
      refine lv_iload (pc := 201) S.1 S.2.1 dL_isCounted_201 (lv_at hl 0 rfl) ?_
      refine hv_if_ge (pc := 203) (tgt := 237) (a := r9) S.1 S.2.1 (by omega) dL_isCounted_203 (by decide) (fun c_42 => ?_) (fun c9 => absurd c9 id)
      refine lv_iload (pc := 237) S.1 S.2.1 dL_isCounted_237 (lv_at hl 0 rfl) ?_
      refine lv_bipush (pc := 239) (v := nI 99) S.1 S.2.1 dL_isCounted_239 (by decide) ?_
      by_cases h99 : 99 < r9
      · skip
        refine hv_icmp_gt (pc := 241) (tgt := 250) (a := r9) (b := 99) S.1 S.2.1 (by omega) (by omega) dL_isCounted_241 (by decide) (fun c_43 => ?_) (fun c9 => absurd c9 (by omega))
        refine lv_iload (pc := 250) S.1 S.2.1 dL_isCounted_250 (lv_at hl 1 rfl) ?_
        refine hv_if_eq (pc := 252) (tgt := 284) (a := 1) S.1 S.2.1 (by omega) dL_isCounted_252 (by decide) (fun c9 => absurd c9 (by omega)) (fun c_44 => ?_)
        refine lv_iload (pc := 255) S.1 S.2.1 dL_isCounted_255 (lv_at hl 0 rfl) ?_
        refine lv_bipush (pc := 257) (v := nI 99) S.1 S.2.1 dL_isCounted_257 (by decide) ?_
        refine hv_icmp_le (pc := 259) (tgt := 273) (a := r9) (b := 99) S.1 S.2.1 (by omega) (by omega) dL_isCounted_259 (by decide) (fun c9 => absurd c9 (by omega)) (fun c_45 => ?_)
        refine lv_iload (pc := 262) S.1 S.2.1 dL_isCounted_262 (lv_at hl 4 rfl) ?_
        refine lv_sipush (pc := 264) (v := nI 300) S.1 S.2.1 dL_isCounted_264 (by decide) ?_
        refine hv_icmp_le (pc := 267) (tgt := 284) (a := N9) (b := 300) S.1 S.2.1 (by omega) (by omega) dL_isCounted_267 (by decide) (fun c9 => absurd c9 (by omega)) (fun c_46 => ?_)
        refine lv_goto (pc := 270) (tgt := 280) S.1 S.2.1 dL_isCounted_270 (by decide) ?_
        refine lv_iconst (pc := 280) (v := nI 1) S.1 S.2.1 dL_isCounted_280 (by decide) ?_
        refine lv_goto (pc := 281) (tgt := 285) S.1 S.2.1 dL_isCounted_281 (by decide) ?_
        exact hv_ret (pc := 285) (v := nI 1) S hr rfl hlocks hH hS (⟨rfl, _, _, hM_40⟩) (by omega) (by omega) dL_isCounted_285
      · skip
        refine hv_icmp_gt (pc := 241) (tgt := 250) (a := r9) (b := 99) S.1 S.2.1 (by omega) (by omega) dL_isCounted_241 (by decide) (fun c9 => absurd c9 (by omega)) (fun c_47 => ?_)
        refine lv_iload (pc := 244) S.1 S.2.1 dL_isCounted_244 (lv_at hl 0 rfl) ?_
        refine lv_iconst (pc := 246) (v := nI 2) S.1 S.2.1 dL_isCounted_246 (by decide) ?_
        by_cases h2 : 2 ≤ r9
        · skip
          refine hv_icmp_ge (pc := 247) (tgt := 286) (a := r9) (b := 2) S.1 S.2.1 (by omega) (by omega) dL_isCounted_247 (by decide) (fun c_48 => ?_) (fun c9 => absurd c9 (by omega))
          have u6 := tN_6 (x % 4) (r9 - 1)
          have us := tN_s (x % 4) (r9 - 2)
          have uh := tN_hi (x % 4) (r9 - 1) (by omega)
          rw [show r9 - 2 + 1 = r9 - 1 by omega] at us
          have r7 := r6 h2
          refine lv_iload (pc := 286) S.1 S.2.1 dL_isCounted_286 (lv_at hl 1 rfl) ?_
          refine hv_if_eq (pc := 288) (tgt := 304) (a := 1) S.1 S.2.1 (by omega) dL_isCounted_288 (by decide) (fun c9 => absurd c9 (by omega)) (fun c_49 => ?_)
          refine lv_aload_n (pc := 291) S.1 S.2.1 dL_isCounted_291 rfl (lv_at hl 6 rfl) ?_
          refine lv_aload_n (pc := 292) S.1 S.2.1 dL_isCounted_292 rfl (lv_at hl 7 rfl) ?_
          refine lv_lload_n (pc := 293) S.1 S.2.1 dL_isCounted_293 rfl (lv_at hl 9 rfl) ?_
          refine hv_call (pc := 294) (va_runS (As := [.ref (az 0), .ref (az 9), .long (Int64.ofNat (wdN (5 + x % 4)))]) (rest := []) S (l_types l hfl D cA ga φ_41 H.size az tn 0 (if kkt_26 = 0 then kmt_26 else 1) kgt_26 sc ar w ez (va_up o 0 (va_up (o 0) 5 0)) (5 + x % 4) hM_40 (hI.m5 0) (TY.nil kgt_26) h200 hwi) (va_cwS 3 S.2.2.2.2 (gS tw_900 tw_901 tw_0 tw_902) rfl rfl rfl (by decide +kernel) ⟨Nat.le_of_ble_eq_true rfl, Nat.le_of_ble_eq_true rfl⟩) (pre0_S hH hK hX hS hA) rfl rfl hl.1 rfl (lv_room (Nat.le_of_ble_eq_true rfl)) dL_isCounted_294 ⟨Nat.le_trans (show _ ≤ 130 by omega) (Nat.le_of_ble_eq_true rfl), Nat.le_trans (show _ ≤ 800 by omega) (Nat.le_of_ble_eq_true rfl)⟩) hS (af_le hH hS hA) (fun v_51 φ_52 H locs hw_v_51 hH hS => ?_)
          obtain ⟨rfl, kkt_50, kmt_50, kgt_50, hYt_50, hLt_50⟩ := hw_v_51
          rw [up_up] at hYt_50
          have hTt_50 := TY.ofl hwi (by decide) hLt_50
          refine hv_if_eq (pc := 297) (tgt := 304) (a := 1) S.1 S.2.1 (by omega) dL_isCounted_297 (by decide) (fun c9 => absurd c9 (by omega)) (fun c_53 => ?_)
          refine lv_iconst (pc := 300) (v := nI 1) S.1 S.2.1 dL_isCounted_300 (by decide) ?_
          refine lv_goto (pc := 301) (tgt := 305) S.1 S.2.1 dL_isCounted_301 (by decide) ?_
          refine lv_istore (pc := 305) (lv' := [(7, .int (nI 1)), (10, .int (nI r9)), (9, .int (nI (tN (x % 4) R9))), (8, .int (nI (tN (x % 4) (R9 - 1)))), (6, .int (nI N9)), (5, .int (nI R9)), (0, .ref (az 0)), (1, .ref (az 9)), (2, .int (nI x)), (3, .long (Int64.ofNat (wdN (5 + x % 4))))]) S.1 S.2.1 dL_isCounted_305 hl (by decide) rfl (fun ls hl => ?_)
          refine lv_aload_n (pc := 307) S.1 S.2.1 dL_isCounted_307 rfl (lv_at hl 6 rfl) ?_
          refine lv_bipush (pc := 308) (v := nI 12) S.1 S.2.1 dL_isCounted_308 (by decide) ?_
          refine lv_iload (pc := 310) S.1 S.2.1 dL_isCounted_310 (lv_at hl 1 rfl) ?_
          refine lv_iconst (pc := 312) (v := nI 0) S.1 S.2.1 dL_isCounted_312 (by decide) ?_
          refine lv_iconst (pc := 313) (v := nI 0) S.1 S.2.1 dL_isCounted_313 (by decide) ?_
          refine hv_call (pc := 314) (vx_runSW (As := [.ref (az 0), .int (nI 12), .int (nI r9), .int (nI 0), .int (nI 0)]) (rest := []) S (as_count l hfl D cA ga φ_52 H.size az tn kkt_50 kmt_50 kgt_50 sc ar w ez (va_up o 0 (va_up (o 0) 5 kkt_50)) (va_up o 0 (va_up (o 0) 5 kkt_50)) r9 hYt_50 (hI.m5 kkt_50) hTt_50 h200 (by omega) (by omega)) (vx_cwSW 5 S.2.2.2.2 (gSW tw_261 tw_262 tw_0 tw_263) rfl rfl rfl (by decide +kernel) ⟨Nat.le_of_ble_eq_true rfl, Nat.le_of_ble_eq_true rfl⟩) (pre0_S hH hK hX hS hA) rfl rfl hl.1 rfl (lv_room (Nat.le_of_ble_eq_true rfl)) dL_isCounted_314 ⟨Nat.le_trans (show _ ≤ 130 by omega) (Nat.le_of_ble_eq_true rfl), Nat.le_trans (show _ ≤ 800 by omega) (Nat.le_of_ble_eq_true rfl)⟩) hS (af_le hH hS hA) (fun v_55 φ_56 H locs hw_v_55 hH hS => ?_)
          obtain ⟨rfl, hYq_54⟩ := hw_v_55
          refine hv_ti (y := nI (tN (x % 4) (r9 - 1))) (ct_of hk4 hLt_50) ?_
          refine lv_istore (pc := 317) (lv' := [(11, .int (nI (tN (x % 4) (r9 - 1)))), (7, .int (nI 1)), (10, .int (nI r9)), (9, .int (nI (tN (x % 4) R9))), (8, .int (nI (tN (x % 4) (R9 - 1)))), (6, .int (nI N9)), (5, .int (nI R9)), (0, .ref (az 0)), (1, .ref (az 9)), (2, .int (nI x)), (3, .long (Int64.ofNat (wdN (5 + x % 4))))]) S.1 S.2.1 dL_isCounted_317 hl (by decide) rfl (fun ls hl => ?_)
          refine lv_iload (pc := 319) S.1 S.2.1 dL_isCounted_319 (lv_at hl 1 rfl) ?_
          refine hv_if_eq (pc := 321) (tgt := 337) (a := 1) S.1 S.2.1 (by omega) dL_isCounted_321 (by decide) (fun c9 => absurd c9 (by omega)) (fun c_57 => ?_)
          refine lv_aload_n (pc := 324) S.1 S.2.1 dL_isCounted_324 rfl (lv_at hl 7 rfl) ?_
          refine lv_aload_n (pc := 325) S.1 S.2.1 dL_isCounted_325 rfl (lv_at hl 8 rfl) ?_
          refine lv_lload_n (pc := 326) S.1 S.2.1 dL_isCounted_326 rfl (lv_at hl 10 rfl) ?_
          refine hv_call (pc := 327) (va_runS (As := [.ref (az 0), .ref (az 9), .long (Int64.ofNat (wdN (5 + x % 4)))]) (rest := []) S (l_types l hfl D cA ga φ_56 H.size az tn 0 (if kkt_50 = 0 then kmt_50 else 1) kgt_50 sc ar w ez (va_up o 0 (va_up (o 0) 5 kkt_50)) (5 + x % 4) hYq_54 (hI.m5 kkt_50) (TY.nil kgt_50) h200 hwi) (va_cwS 3 S.2.2.2.2 (gS tw_900 tw_901 tw_0 tw_902) rfl rfl rfl (by decide +kernel) ⟨Nat.le_of_ble_eq_true rfl, Nat.le_of_ble_eq_true rfl⟩) (pre0_S hH hK hX hS hA) rfl rfl hl.1 rfl (lv_room (Nat.le_of_ble_eq_true rfl)) dL_isCounted_327 ⟨Nat.le_trans (show _ ≤ 130 by omega) (Nat.le_of_ble_eq_true rfl), Nat.le_trans (show _ ≤ 800 by omega) (Nat.le_of_ble_eq_true rfl)⟩) hS (af_le hH hS hA) (fun v_59 φ_60 H locs hw_v_59 hH hS => ?_)
          obtain ⟨rfl, kkt_58, kmt_58, kgt_58, hYt_58, hLt_58⟩ := hw_v_59
          rw [up_up] at hYt_58
          have hTt_58 := TY.ofl hwi (by decide) hLt_58
          refine hv_if_eq (pc := 330) (tgt := 337) (a := 1) S.1 S.2.1 (by omega) dL_isCounted_330 (by decide) (fun c9 => absurd c9 (by omega)) (fun c_61 => ?_)
          refine lv_iconst (pc := 333) (v := nI 1) S.1 S.2.1 dL_isCounted_333 (by decide) ?_
          refine lv_goto (pc := 334) (tgt := 338) S.1 S.2.1 dL_isCounted_334 (by decide) ?_
          refine lv_istore (pc := 338) (lv' := [(7, .int (nI 1)), (11, .int (nI (tN (x % 4) (r9 - 1)))), (10, .int (nI r9)), (9, .int (nI (tN (x % 4) R9))), (8, .int (nI (tN (x % 4) (R9 - 1)))), (6, .int (nI N9)), (5, .int (nI R9)), (0, .ref (az 0)), (1, .ref (az 9)), (2, .int (nI x)), (3, .long (Int64.ofNat (wdN (5 + x % 4))))]) S.1 S.2.1 dL_isCounted_338 hl (by decide) rfl (fun ls hl => ?_)
          refine lv_aload_n (pc := 340) S.1 S.2.1 dL_isCounted_340 rfl (lv_at hl 7 rfl) ?_
          refine lv_bipush (pc := 341) (v := nI 12) S.1 S.2.1 dL_isCounted_341 (by decide) ?_
          refine lv_iload (pc := 343) S.1 S.2.1 dL_isCounted_343 (lv_at hl 2 rfl) ?_
          refine lv_iconst (pc := 345) (v := nI 1) S.1 S.2.1 dL_isCounted_345 (by decide) ?_
          refine lv_isub (pc := 346) S.1 S.2.1 dL_isCounted_346 ?_
          refine hv_ti (y := nI (r9 - 1)) (pk_sub (by omega)) ?_
          refine lv_iconst (pc := 347) (v := nI 0) S.1 S.2.1 dL_isCounted_347 (by decide) ?_
          refine lv_iconst (pc := 348) (v := nI 0) S.1 S.2.1 dL_isCounted_348 (by decide) ?_
          refine hv_call (pc := 349) (vx_runSW (As := [.ref (az 0), .int (nI 12), .int (nI (r9 - 1)), .int (nI 0), .int (nI 0)]) (rest := []) S (as_count l hfl D cA ga φ_60 H.size az tn kkt_58 kmt_58 kgt_58 sc ar w ez (va_up o 0 (va_up (o 0) 5 kkt_58)) (va_up o 0 (va_up (o 0) 5 kkt_58)) (r9 - 1) hYt_58 (hI.m5 kkt_58) hTt_58 h200 (by omega) (by omega)) (vx_cwSW 5 S.2.2.2.2 (gSW tw_261 tw_262 tw_0 tw_263) rfl rfl rfl (by decide +kernel) ⟨Nat.le_of_ble_eq_true rfl, Nat.le_of_ble_eq_true rfl⟩) (pre0_S hH hK hX hS hA) rfl rfl hl.1 rfl (lv_room (Nat.le_of_ble_eq_true rfl)) dL_isCounted_349 ⟨Nat.le_trans (show _ ≤ 130 by omega) (Nat.le_of_ble_eq_true rfl), Nat.le_trans (show _ ≤ 800 by omega) (Nat.le_of_ble_eq_true rfl)⟩) hS (af_le hH hS hA) (fun v_63 φ_64 H locs hw_v_63 hH hS => ?_)
          obtain ⟨rfl, hYq_62⟩ := hw_v_63
          refine hv_ti (y := nI (tN (x % 4) (r9 - 2))) ((ct_of hk4 hLt_58).trans (by rw [show r9 - 1 - 1 = r9 - 2 by omega])) ?_
          refine lv_istore (pc := 352) (lv' := [(12, .int (nI (tN (x % 4) (r9 - 2)))), (7, .int (nI 1)), (11, .int (nI (tN (x % 4) (r9 - 1)))), (10, .int (nI r9)), (9, .int (nI (tN (x % 4) R9))), (8, .int (nI (tN (x % 4) (R9 - 1)))), (6, .int (nI N9)), (5, .int (nI R9)), (0, .ref (az 0)), (1, .ref (az 9)), (2, .int (nI x)), (3, .long (Int64.ofNat (wdN (5 + x % 4))))]) S.1 S.2.1 dL_isCounted_352 hl (by decide) rfl (fun ls hl => ?_)
          refine lv_iload (pc := 354) S.1 S.2.1 dL_isCounted_354 (lv_at hl 1 rfl) ?_
          refine hv_if_eq (pc := 356) (tgt := 372) (a := 1) S.1 S.2.1 (by omega) dL_isCounted_356 (by decide) (fun c9 => absurd c9 (by omega)) (fun c_65 => ?_)
          refine lv_aload_n (pc := 359) S.1 S.2.1 dL_isCounted_359 rfl (lv_at hl 8 rfl) ?_
          refine lv_aload_n (pc := 360) S.1 S.2.1 dL_isCounted_360 rfl (lv_at hl 9 rfl) ?_
          refine lv_lload_n (pc := 361) S.1 S.2.1 dL_isCounted_361 rfl (lv_at hl 11 rfl) ?_
          refine hv_call (pc := 362) (va_runS (As := [.ref (az 0), .ref (az 9), .long (Int64.ofNat (wdN (5 + x % 4)))]) (rest := []) S (l_types l hfl D cA ga φ_64 H.size az tn 0 (if kkt_58 = 0 then kmt_58 else 1) kgt_58 sc ar w ez (va_up o 0 (va_up (o 0) 5 kkt_58)) (5 + x % 4) hYq_62 (hI.m5 kkt_58) (TY.nil kgt_58) h200 hwi) (va_cwS 3 S.2.2.2.2 (gS tw_900 tw_901 tw_0 tw_902) rfl rfl rfl (by decide +kernel) ⟨Nat.le_of_ble_eq_true rfl, Nat.le_of_ble_eq_true rfl⟩) (pre0_S hH hK hX hS hA) rfl rfl hl.1 rfl (lv_room (Nat.le_of_ble_eq_true rfl)) dL_isCounted_362 ⟨Nat.le_trans (show _ ≤ 130 by omega) (Nat.le_of_ble_eq_true rfl), Nat.le_trans (show _ ≤ 800 by omega) (Nat.le_of_ble_eq_true rfl)⟩) hS (af_le hH hS hA) (fun v_67 φ_68 H locs hw_v_67 hH hS => ?_)
          obtain ⟨rfl, kkt_66, kmt_66, kgt_66, hYt_66, hLt_66⟩ := hw_v_67
          rw [up_up] at hYt_66
          have hTt_66 := TY.ofl hwi (by decide) hLt_66
          refine hv_if_eq (pc := 365) (tgt := 372) (a := 1) S.1 S.2.1 (by omega) dL_isCounted_365 (by decide) (fun c9 => absurd c9 (by omega)) (fun c_69 => ?_)
          refine lv_iconst (pc := 368) (v := nI 1) S.1 S.2.1 dL_isCounted_368 (by decide) ?_
          refine lv_goto (pc := 369) (tgt := 373) S.1 S.2.1 dL_isCounted_369 (by decide) ?_
          refine lv_istore (pc := 373) (lv' := [(7, .int (nI 1)), (12, .int (nI (tN (x % 4) (r9 - 2)))), (11, .int (nI (tN (x % 4) (r9 - 1)))), (10, .int (nI r9)), (9, .int (nI (tN (x % 4) R9))), (8, .int (nI (tN (x % 4) (R9 - 1)))), (6, .int (nI N9)), (5, .int (nI R9)), (0, .ref (az 0)), (1, .ref (az 9)), (2, .int (nI x)), (3, .long (Int64.ofNat (wdN (5 + x % 4))))]) S.1 S.2.1 dL_isCounted_373 hl (by decide) rfl (fun ls hl => ?_)
          refine lv_iload (pc := 375) S.1 S.2.1 dL_isCounted_375 (lv_at hl 3 rfl) ?_
          refine lv_iconst (pc := 377) (v := nI 2) S.1 S.2.1 dL_isCounted_377 (by decide) ?_
          by_cases h22 : r9 = 2
          · skip
            refine hv_icmp_ne (pc := 378) (tgt := 385) (a := r9) (b := 2) S.1 S.2.1 (by omega) (by omega) dL_isCounted_378 (by decide) (fun c9 => absurd c9 (by omega)) (fun c_70 => ?_)
            refine lv_iconst (pc := 381) (v := nI 0) S.1 S.2.1 dL_isCounted_381 (by decide) ?_
            refine lv_goto (pc := 382) (tgt := 397) S.1 S.2.1 dL_isCounted_382 (by decide) ?_
            refine lv_istore (pc := 397) (lv' := [(13, .int (nI 0)), (7, .int (nI 1)), (12, .int (nI (tN (x % 4) (r9 - 2)))), (11, .int (nI (tN (x % 4) (r9 - 1)))), (10, .int (nI r9)), (9, .int (nI (tN (x % 4) R9))), (8, .int (nI (tN (x % 4) (R9 - 1)))), (6, .int (nI N9)), (5, .int (nI R9)), (0, .ref (az 0)), (1, .ref (az 9)), (2, .int (nI x)), (3, .long (Int64.ofNat (wdN (5 + x % 4))))]) S.1 S.2.1 dL_isCounted_397 hl (by decide) rfl (fun ls hl => ?_)
            refine lv_iload (pc := 399) S.1 S.2.1 dL_isCounted_399 (lv_at hl 1 rfl) ?_
            refine hv_if_eq (pc := 401) (tgt := 428) (a := 1) S.1 S.2.1 (by omega) dL_isCounted_401 (by decide) (fun c9 => absurd c9 (by omega)) (fun c_71 => ?_)
            refine lv_iload (pc := 404) S.1 S.2.1 dL_isCounted_404 (lv_at hl 4 rfl) ?_
            refine lv_iconst (pc := 406) (v := nI 2) S.1 S.2.1 dL_isCounted_406 (by decide) ?_
            refine hv_icmp_ne (pc := 407) (tgt := 424) (a := r9) (b := 2) S.1 S.2.1 (by omega) (by omega) dL_isCounted_407 (by decide) (fun c9 => absurd c9 (by omega)) (fun c_72 => ?_)
            refine lv_aload_n (pc := 410) S.1 S.2.1 dL_isCounted_410 rfl (lv_at hl 9 rfl) ?_
            refine lv_bipush (pc := 411) (v := nI 13) S.1 S.2.1 dL_isCounted_411 (by decide) ?_
            refine lv_iconst (pc := 413) (v := nI 1) S.1 S.2.1 dL_isCounted_413 (by decide) ?_
            refine lv_iconst (pc := 414) (v := nI 0) S.1 S.2.1 dL_isCounted_414 (by decide) ?_
            refine lv_iconst (pc := 415) (v := nI 0) S.1 S.2.1 dL_isCounted_415 (by decide) ?_
            refine hv_call (pc := 416) (vx_runSW (As := [.ref (az 0), .int (nI 13), .int (nI 1), .int (nI 0), .int (nI 0)]) (rest := []) S (as_countAnew l hfl D cA ga φ_68 H.size az tn kkt_66 kmt_66 kgt_66 sc ar w ez (va_up o 0 (va_up (o 0) 5 kkt_66)) (va_up o 0 (va_up (o 0) 5 kkt_66)) 1 hYt_66 (hI.m5 kkt_66) hTt_66 h200 (by decide) (by decide)) (vx_cwSW 5 S.2.2.2.2 (gSW tw_261 tw_262 tw_0 tw_263) rfl rfl rfl (by decide +kernel) ⟨Nat.le_of_ble_eq_true rfl, Nat.le_of_ble_eq_true rfl⟩) (pre0_S hH hK hX hS hA) rfl rfl hl.1 rfl (lv_room (Nat.le_of_ble_eq_true rfl)) dL_isCounted_416 ⟨Nat.le_trans (show _ ≤ 130 by omega) (Nat.le_of_ble_eq_true rfl), Nat.le_trans (show _ ≤ 800 by omega) (Nat.le_of_ble_eq_true rfl)⟩) hS (af_le hH hS hA) (fun v_74 φ_75 H locs hw_v_74 hH hS => ?_)
            obtain ⟨rfl, hYq_73⟩ := hw_v_74
            refine hv_ti (y := nI 6) (ct_of hk4 hLt_66) ?_
            refine lv_bipush (pc := 419) (v := nI 6) S.1 S.2.1 dL_isCounted_419 (by decide) ?_
            refine hv_icmp_ne (pc := 421) (tgt := 428) (a := 6) (b := 6) S.1 S.2.1 (by omega) (by omega) dL_isCounted_421 (by decide) (fun c9 => absurd c9 (by omega)) (fun c_76 => ?_)
            refine lv_iconst (pc := 424) (v := nI 1) S.1 S.2.1 dL_isCounted_424 (by decide) ?_
            refine lv_goto (pc := 425) (tgt := 429) S.1 S.2.1 dL_isCounted_425 (by decide) ?_
            refine lv_istore (pc := 429) (lv' := [(7, .int (nI 1)), (13, .int (nI 0)), (12, .int (nI (tN (x % 4) (r9 - 2)))), (11, .int (nI (tN (x % 4) (r9 - 1)))), (10, .int (nI r9)), (9, .int (nI (tN (x % 4) R9))), (8, .int (nI (tN (x % 4) (R9 - 1)))), (6, .int (nI N9)), (5, .int (nI R9)), (0, .ref (az 0)), (1, .ref (az 9)), (2, .int (nI x)), (3, .long (Int64.ofNat (wdN (5 + x % 4))))]) S.1 S.2.1 dL_isCounted_429 hl (by decide) rfl (fun ls hl => ?_)
            refine lv_aload_n (pc := 431) S.1 S.2.1 dL_isCounted_431 rfl (lv_at hl 10 rfl) ?_
            refine lv_iconst (pc := 432) (v := nI 5) S.1 S.2.1 dL_isCounted_432 (by decide) ?_
            refine lv_iconst (pc := 433) (v := nI 0) S.1 S.2.1 dL_isCounted_433 (by decide) ?_
            refine hv_iast (pc := 434) S hK hH hS 1 (hYq_73.a0) rfl (vp_in_nI (show 5 < 6 by omega) (by omega)) dL_isCounted_434 (fun H locs hH hS => ?_)
            rw [hv_upd (by omega)] at hH
            replace hH := nup (e := .inl (cA 1, 6, .inl (fun j => nI ((va_up ((va_up o 0 (va_up (o 0) 5 kkt_66)) 0) 5 0) j)))) hH
            obtain ⟨φ_78, hφ_78, fa_φ_78, fr_φ_78, hH⟩ := hH
            have hM_77 := hYq_73.s0 5 0
            rw [← hφ_78] at hM_77
            rw [up_up] at hM_77
            refine lv_iload (pc := 435) S.1 S.2.1 dL_isCounted_435 (lv_at hl 0 rfl) ?_
            refine hv_if_eq (pc := 437) (tgt := 464) (a := 1) S.1 S.2.1 (by omega) dL_isCounted_437 (by decide) (fun c9 => absurd c9 (by omega)) (fun c_79 => ?_)
            have tz : tN (x % 4) (r9 - 2) = 6 := by rw [h22]; rfl
            have sz9 : sN (x % 4) (r9 - 2) = 6 := by rw [h22]; rfl
            refine lv_iload (pc := 440) S.1 S.2.1 dL_isCounted_440 (lv_at hl 3 rfl) ?_
            refine lv_iload (pc := 442) S.1 S.2.1 dL_isCounted_442 (lv_at hl 2 rfl) ?_
            refine lv_isub (pc := 444) S.1 S.2.1 dL_isCounted_444 ?_
            refine hv_ti (y := nI ((tN (x % 4) (r9 - 1)) - (tN (x % 4) (r9 - 2)))) (pk_sub (by omega)) ?_
            refine lv_iload (pc := 445) S.1 S.2.1 dL_isCounted_445 (lv_at hl 7 rfl) ?_
            refine hv_icmp_lt (pc := 447) (tgt := 464) (a := (tN (x % 4) (r9 - 1)) - (tN (x % 4) (r9 - 2))) (b := N9) S.1 S.2.1 (by omega) (by omega) dL_isCounted_447 (by decide) (fun c9 => absurd c9 (by omega)) (fun c_80 => ?_)
            refine lv_iload (pc := 450) S.1 S.2.1 dL_isCounted_450 (lv_at hl 2 rfl) ?_
            refine lv_iload (pc := 452) S.1 S.2.1 dL_isCounted_452 (lv_at hl 1 rfl) ?_
            refine lv_isub (pc := 454) S.1 S.2.1 dL_isCounted_454 ?_
            refine hv_ti (y := nI ((tN (x % 4) (r9 - 2)) - 0)) (pk_sub (by omega)) ?_
            refine lv_iload (pc := 455) S.1 S.2.1 dL_isCounted_455 (lv_at hl 7 rfl) ?_
            refine hv_icmp_ge (pc := 457) (tgt := 464) (a := (tN (x % 4) (r9 - 2)) - 0) (b := N9) S.1 S.2.1 (by omega) (by omega) dL_isCounted_457 (by decide) (fun c9 => absurd c9 (by omega)) (fun c_81 => ?_)
            refine lv_iconst (pc := 460) (v := nI 1) S.1 S.2.1 dL_isCounted_460 (by decide) ?_
            refine lv_goto (pc := 461) (tgt := 465) S.1 S.2.1 dL_isCounted_461 (by decide) ?_
            exact hv_ret (pc := 465) (v := nI 1) S hr rfl hlocks hH hS (⟨rfl, _, _, hM_77⟩) (by omega) (by omega) dL_isCounted_465
          · skip
            refine hv_icmp_ne (pc := 378) (tgt := 385) (a := r9) (b := 2) S.1 S.2.1 (by omega) (by omega) dL_isCounted_378 (by decide) (fun c_82 => ?_) (fun c9 => absurd c9 (by omega))
            refine lv_aload_n (pc := 385) S.1 S.2.1 dL_isCounted_385 rfl (lv_at hl 8 rfl) ?_
            refine lv_bipush (pc := 386) (v := nI 12) S.1 S.2.1 dL_isCounted_386 (by decide) ?_
            refine lv_iload (pc := 388) S.1 S.2.1 dL_isCounted_388 (lv_at hl 3 rfl) ?_
            refine lv_iconst (pc := 390) (v := nI 2) S.1 S.2.1 dL_isCounted_390 (by decide) ?_
            refine lv_isub (pc := 391) S.1 S.2.1 dL_isCounted_391 ?_
            refine hv_ti (y := nI (r9 - 2)) (pk_sub (by omega)) ?_
            refine lv_iconst (pc := 392) (v := nI 0) S.1 S.2.1 dL_isCounted_392 (by decide) ?_
            refine lv_iconst (pc := 393) (v := nI 0) S.1 S.2.1 dL_isCounted_393 (by decide) ?_
            refine hv_call (pc := 394) (vx_runSW (As := [.ref (az 0), .int (nI 12), .int (nI (r9 - 2)), .int (nI 0), .int (nI 0)]) (rest := []) S (as_count l hfl D cA ga φ_68 H.size az tn kkt_66 kmt_66 kgt_66 sc ar w ez (va_up o 0 (va_up (o 0) 5 kkt_66)) (va_up o 0 (va_up (o 0) 5 kkt_66)) (r9 - 2) hYt_66 (hI.m5 kkt_66) hTt_66 h200 (by omega) (by omega)) (vx_cwSW 5 S.2.2.2.2 (gSW tw_261 tw_262 tw_0 tw_263) rfl rfl rfl (by decide +kernel) ⟨Nat.le_of_ble_eq_true rfl, Nat.le_of_ble_eq_true rfl⟩) (pre0_S hH hK hX hS hA) rfl rfl hl.1 rfl (lv_room (Nat.le_of_ble_eq_true rfl)) dL_isCounted_394 ⟨Nat.le_trans (show _ ≤ 130 by omega) (Nat.le_of_ble_eq_true rfl), Nat.le_trans (show _ ≤ 800 by omega) (Nat.le_of_ble_eq_true rfl)⟩) hS (af_le hH hS hA) (fun v_84 φ_85 H locs hw_v_84 hH hS => ?_)
            obtain ⟨rfl, hYq_83⟩ := hw_v_84
            refine hv_ti (y := nI (tN (x % 4) (r9 - 3))) ((ct_of hk4 hLt_66).trans (by rw [show r9 - 2 - 1 = r9 - 3 by omega])) ?_
            have ut := tN_s (x % 4) (r9 - 3)
            rw [show r9 - 3 + 1 = r9 - 2 by omega] at ut
            refine lv_istore (pc := 397) (lv' := [(13, .int (nI (tN (x % 4) (r9 - 3)))), (7, .int (nI 1)), (12, .int (nI (tN (x % 4) (r9 - 2)))), (11, .int (nI (tN (x % 4) (r9 - 1)))), (10, .int (nI r9)), (9, .int (nI (tN (x % 4) R9))), (8, .int (nI (tN (x % 4) (R9 - 1)))), (6, .int (nI N9)), (5, .int (nI R9)), (0, .ref (az 0)), (1, .ref (az 9)), (2, .int (nI x)), (3, .long (Int64.ofNat (wdN (5 + x % 4))))]) S.1 S.2.1 dL_isCounted_397 hl (by decide) rfl (fun ls hl => ?_)
            refine lv_iload (pc := 399) S.1 S.2.1 dL_isCounted_399 (lv_at hl 1 rfl) ?_
            refine hv_if_eq (pc := 401) (tgt := 428) (a := 1) S.1 S.2.1 (by omega) dL_isCounted_401 (by decide) (fun c9 => absurd c9 (by omega)) (fun c_86 => ?_)
            refine lv_iload (pc := 404) S.1 S.2.1 dL_isCounted_404 (lv_at hl 4 rfl) ?_
            refine lv_iconst (pc := 406) (v := nI 2) S.1 S.2.1 dL_isCounted_406 (by decide) ?_
            refine hv_icmp_ne (pc := 407) (tgt := 424) (a := r9) (b := 2) S.1 S.2.1 (by omega) (by omega) dL_isCounted_407 (by decide) (fun c_87 => ?_) (fun c9 => absurd c9 (by omega))
            refine lv_iconst (pc := 424) (v := nI 1) S.1 S.2.1 dL_isCounted_424 (by decide) ?_
            refine lv_goto (pc := 425) (tgt := 429) S.1 S.2.1 dL_isCounted_425 (by decide) ?_
            refine lv_istore (pc := 429) (lv' := [(7, .int (nI 1)), (13, .int (nI (tN (x % 4) (r9 - 3)))), (12, .int (nI (tN (x % 4) (r9 - 2)))), (11, .int (nI (tN (x % 4) (r9 - 1)))), (10, .int (nI r9)), (9, .int (nI (tN (x % 4) R9))), (8, .int (nI (tN (x % 4) (R9 - 1)))), (6, .int (nI N9)), (5, .int (nI R9)), (0, .ref (az 0)), (1, .ref (az 9)), (2, .int (nI x)), (3, .long (Int64.ofNat (wdN (5 + x % 4))))]) S.1 S.2.1 dL_isCounted_429 hl (by decide) rfl (fun ls hl => ?_)
            refine lv_aload_n (pc := 431) S.1 S.2.1 dL_isCounted_431 rfl (lv_at hl 10 rfl) ?_
            refine lv_iconst (pc := 432) (v := nI 5) S.1 S.2.1 dL_isCounted_432 (by decide) ?_
            refine lv_iconst (pc := 433) (v := nI 0) S.1 S.2.1 dL_isCounted_433 (by decide) ?_
            refine hv_iast (pc := 434) S hK hH hS 1 (hYq_83.a0) rfl (vp_in_nI (show 5 < 6 by omega) (by omega)) dL_isCounted_434 (fun H locs hH hS => ?_)
            rw [hv_upd (by omega)] at hH
            replace hH := nup (e := .inl (cA 1, 6, .inl (fun j => nI ((va_up ((va_up o 0 (va_up (o 0) 5 kkt_66)) 0) 5 0) j)))) hH
            obtain ⟨φ_89, hφ_89, fa_φ_89, fr_φ_89, hH⟩ := hH
            have hM_88 := hYq_83.s0 5 0
            rw [← hφ_89] at hM_88
            rw [up_up] at hM_88
            refine lv_iload (pc := 435) S.1 S.2.1 dL_isCounted_435 (lv_at hl 0 rfl) ?_
            refine hv_if_eq (pc := 437) (tgt := 464) (a := 1) S.1 S.2.1 (by omega) dL_isCounted_437 (by decide) (fun c9 => absurd c9 (by omega)) (fun c_90 => ?_)
            refine lv_iload (pc := 440) S.1 S.2.1 dL_isCounted_440 (lv_at hl 3 rfl) ?_
            refine lv_iload (pc := 442) S.1 S.2.1 dL_isCounted_442 (lv_at hl 2 rfl) ?_
            refine lv_isub (pc := 444) S.1 S.2.1 dL_isCounted_444 ?_
            refine hv_ti (y := nI ((tN (x % 4) (r9 - 1)) - (tN (x % 4) (r9 - 2)))) (pk_sub (by omega)) ?_
            refine lv_iload (pc := 445) S.1 S.2.1 dL_isCounted_445 (lv_at hl 7 rfl) ?_
            refine hv_icmp_lt (pc := 447) (tgt := 464) (a := (tN (x % 4) (r9 - 1)) - (tN (x % 4) (r9 - 2))) (b := N9) S.1 S.2.1 (by omega) (by omega) dL_isCounted_447 (by decide) (fun c9 => absurd c9 (by omega)) (fun c_91 => ?_)
            refine lv_iload (pc := 450) S.1 S.2.1 dL_isCounted_450 (lv_at hl 2 rfl) ?_
            refine lv_iload (pc := 452) S.1 S.2.1 dL_isCounted_452 (lv_at hl 1 rfl) ?_
            refine lv_isub (pc := 454) S.1 S.2.1 dL_isCounted_454 ?_
            refine hv_ti (y := nI ((tN (x % 4) (r9 - 2)) - (tN (x % 4) (r9 - 3)))) (pk_sub (by omega)) ?_
            refine lv_iload (pc := 455) S.1 S.2.1 dL_isCounted_455 (lv_at hl 7 rfl) ?_
            refine hv_icmp_ge (pc := 457) (tgt := 464) (a := (tN (x % 4) (r9 - 2)) - (tN (x % 4) (r9 - 3))) (b := N9) S.1 S.2.1 (by omega) (by omega) dL_isCounted_457 (by decide) (fun c9 => absurd c9 (by omega)) (fun c_92 => ?_)
            refine lv_iconst (pc := 460) (v := nI 1) S.1 S.2.1 dL_isCounted_460 (by decide) ?_
            refine lv_goto (pc := 461) (tgt := 465) S.1 S.2.1 dL_isCounted_461 (by decide) ?_
            exact hv_ret (pc := 465) (v := nI 1) S hr rfl hlocks hH hS (⟨rfl, _, _, hM_88⟩) (by omega) (by omega) dL_isCounted_465
        · skip
          refine hv_icmp_ge (pc := 247) (tgt := 286) (a := r9) (b := 2) S.1 S.2.1 (by omega) (by omega) dL_isCounted_247 (by decide) (fun c9 => absurd c9 (by omega)) (fun c_93 => ?_)
          refine lv_iload (pc := 250) S.1 S.2.1 dL_isCounted_250 (lv_at hl 1 rfl) ?_
          refine hv_if_eq (pc := 252) (tgt := 284) (a := 1) S.1 S.2.1 (by omega) dL_isCounted_252 (by decide) (fun c9 => absurd c9 (by omega)) (fun c_94 => ?_)
          refine lv_iload (pc := 255) S.1 S.2.1 dL_isCounted_255 (lv_at hl 0 rfl) ?_
          refine lv_bipush (pc := 257) (v := nI 99) S.1 S.2.1 dL_isCounted_257 (by decide) ?_
          refine hv_icmp_le (pc := 259) (tgt := 273) (a := r9) (b := 99) S.1 S.2.1 (by omega) (by omega) dL_isCounted_259 (by decide) (fun c_95 => ?_) (fun c9 => absurd c9 (by omega))
          refine lv_iload (pc := 273) S.1 S.2.1 dL_isCounted_273 (lv_at hl 4 rfl) ?_
          refine lv_bipush (pc := 275) (v := nI 7) S.1 S.2.1 dL_isCounted_275 (by decide) ?_
          refine hv_icmp_ge (pc := 277) (tgt := 284) (a := N9) (b := 7) S.1 S.2.1 (by omega) (by omega) dL_isCounted_277 (by decide) (fun c9 => absurd c9 (by omega)) (fun c_96 => ?_)
          refine lv_iconst (pc := 280) (v := nI 1) S.1 S.2.1 dL_isCounted_280 (by decide) ?_
          refine lv_goto (pc := 281) (tgt := 285) S.1 S.2.1 dL_isCounted_281 (by decide) ?_
          exact hv_ret (pc := 285) (v := nI 1) S hr rfl hlocks hH hS (⟨rfl, _, _, hM_40⟩) (by omega) (by omega) dL_isCounted_285
  rcases (show x % 4 = 0 ∨ x % 4 = 1 ∨ x % 4 = 2 ∨ x % 4 = 3 by omega) with h4 | h4 | h4 | h4
  · skip
    refine lv_iload_n (pc := 0) S.1 S.2.1 dL_isCounted_0 rfl (lv_at hl 2 rfl) ?_
    refine lv_iconst (pc := 1) (v := nI 4) S.1 S.2.1 dL_isCounted_1 (by decide) ?_
    refine lv_irem (pc := 2) S.1 S.2.1 dL_isCounted_2 (by decide) ?_
    refine hv_ti (y := nI (x % 4)) (pk_rem (by omega) (by omega) (by omega)) ?_
    refine hv_if_ne (pc := 3) (tgt := 12) (a := x % 4) S.1 S.2.1 (by omega) dL_isCounted_3 (by decide) (fun c9 => absurd c9 (by omega)) (fun c_97 => ?_)
    refine lv_ldc2 (pc := 6) (v := Int64.ofNat 1718378868) S.1 S.2.1 S.2.2.2.1 (S.2.2.2.2 _ tw_907) dL_isCounted_6 ?_
    refine lv_goto (pc := 9) (tgt := 41) S.1 S.2.1 dL_isCounted_9 (by decide) ?_
    refine hv_tv (y := .long (Int64.ofNat (wdN (5 + x % 4)))) (by rw [h4]; rfl) ?_
    refine lv_lstore_n (pc := 41) (lv' := [(3, .long (Int64.ofNat (wdN (5 + x % 4)))), (0, .ref (az 0)), (1, .ref (az 9)), (2, .int (nI x))]) S.1 S.2.1 dL_isCounted_41 rfl hl (by decide) rfl (fun ls hl => ?_)
    refine W.widen (k := 0) (n := 0) (by omega) (by omega) ?_
    exact h42 ls H locs hH hS (lv_sub hl [1, 2, 3, 0] rfl)
  · skip
    refine lv_iload_n (pc := 0) S.1 S.2.1 dL_isCounted_0 rfl (lv_at hl 2 rfl) ?_
    refine lv_iconst (pc := 1) (v := nI 4) S.1 S.2.1 dL_isCounted_1 (by decide) ?_
    refine lv_irem (pc := 2) S.1 S.2.1 dL_isCounted_2 (by decide) ?_
    refine hv_ti (y := nI (x % 4)) (pk_rem (by omega) (by omega) (by omega)) ?_
    refine hv_if_ne (pc := 3) (tgt := 12) (a := x % 4) S.1 S.2.1 (by omega) dL_isCounted_3 (by decide) (fun c_98 => ?_) (fun c9 => absurd c9 (by omega))
    refine lv_iload_n (pc := 12) S.1 S.2.1 dL_isCounted_12 rfl (lv_at hl 2 rfl) ?_
    refine lv_iconst (pc := 13) (v := nI 4) S.1 S.2.1 dL_isCounted_13 (by decide) ?_
    refine lv_irem (pc := 14) S.1 S.2.1 dL_isCounted_14 (by decide) ?_
    refine hv_ti (y := nI (x % 4)) (pk_rem (by omega) (by omega) (by omega)) ?_
    refine lv_iconst (pc := 15) (v := nI 1) S.1 S.2.1 dL_isCounted_15 (by decide) ?_
    refine hv_icmp_ne (pc := 16) (tgt := 25) (a := x % 4) (b := 1) S.1 S.2.1 (by omega) (by omega) dL_isCounted_16 (by decide) (fun c9 => absurd c9 (by omega)) (fun c_99 => ?_)
    refine lv_ldc2 (pc := 19) (v := Int64.ofNat 1668247141) S.1 S.2.1 S.2.2.2.1 (S.2.2.2.2 _ tw_908) dL_isCounted_19 ?_
    refine lv_goto (pc := 22) (tgt := 41) S.1 S.2.1 dL_isCounted_22 (by decide) ?_
    refine hv_tv (y := .long (Int64.ofNat (wdN (5 + x % 4)))) (by rw [h4]; rfl) ?_
    refine lv_lstore_n (pc := 41) (lv' := [(3, .long (Int64.ofNat (wdN (5 + x % 4)))), (0, .ref (az 0)), (1, .ref (az 9)), (2, .int (nI x))]) S.1 S.2.1 dL_isCounted_41 rfl hl (by decide) rfl (fun ls hl => ?_)
    refine W.widen (k := 0) (n := 0) (by omega) (by omega) ?_
    exact h42 ls H locs hH hS (lv_sub hl [1, 2, 3, 0] rfl)
  · skip
    refine lv_iload_n (pc := 0) S.1 S.2.1 dL_isCounted_0 rfl (lv_at hl 2 rfl) ?_
    refine lv_iconst (pc := 1) (v := nI 4) S.1 S.2.1 dL_isCounted_1 (by decide) ?_
    refine lv_irem (pc := 2) S.1 S.2.1 dL_isCounted_2 (by decide) ?_
    refine hv_ti (y := nI (x % 4)) (pk_rem (by omega) (by omega) (by omega)) ?_
    refine hv_if_ne (pc := 3) (tgt := 12) (a := x % 4) S.1 S.2.1 (by omega) dL_isCounted_3 (by decide) (fun c_100 => ?_) (fun c9 => absurd c9 (by omega))
    refine lv_iload_n (pc := 12) S.1 S.2.1 dL_isCounted_12 rfl (lv_at hl 2 rfl) ?_
    refine lv_iconst (pc := 13) (v := nI 4) S.1 S.2.1 dL_isCounted_13 (by decide) ?_
    refine lv_irem (pc := 14) S.1 S.2.1 dL_isCounted_14 (by decide) ?_
    refine hv_ti (y := nI (x % 4)) (pk_rem (by omega) (by omega) (by omega)) ?_
    refine lv_iconst (pc := 15) (v := nI 1) S.1 S.2.1 dL_isCounted_15 (by decide) ?_
    refine hv_icmp_ne (pc := 16) (tgt := 25) (a := x % 4) (b := 1) S.1 S.2.1 (by omega) (by omega) dL_isCounted_16 (by decide) (fun c_101 => ?_) (fun c9 => absurd c9 (by omega))
    refine lv_iload_n (pc := 25) S.1 S.2.1 dL_isCounted_25 rfl (lv_at hl 2 rfl) ?_
    refine lv_iconst (pc := 26) (v := nI 4) S.1 S.2.1 dL_isCounted_26 (by decide) ?_
    refine lv_irem (pc := 27) S.1 S.2.1 dL_isCounted_27 (by decide) ?_
    refine hv_ti (y := nI (x % 4)) (pk_rem (by omega) (by omega) (by omega)) ?_
    refine lv_iconst (pc := 28) (v := nI 2) S.1 S.2.1 dL_isCounted_28 (by decide) ?_
    refine hv_icmp_ne (pc := 29) (tgt := 38) (a := x % 4) (b := 2) S.1 S.2.1 (by omega) (by omega) dL_isCounted_29 (by decide) (fun c9 => absurd c9 (by omega)) (fun c_102 => ?_)
    refine lv_ldc2 (pc := 32) (v := Int64.ofNat 1685024101) S.1 S.2.1 S.2.2.2.1 (S.2.2.2.2 _ tw_909) dL_isCounted_32 ?_
    refine lv_goto (pc := 35) (tgt := 41) S.1 S.2.1 dL_isCounted_35 (by decide) ?_
    refine hv_tv (y := .long (Int64.ofNat (wdN (5 + x % 4)))) (by rw [h4]; rfl) ?_
    refine lv_lstore_n (pc := 41) (lv' := [(3, .long (Int64.ofNat (wdN (5 + x % 4)))), (0, .ref (az 0)), (1, .ref (az 9)), (2, .int (nI x))]) S.1 S.2.1 dL_isCounted_41 rfl hl (by decide) rfl (fun ls hl => ?_)
    refine W.widen (k := 0) (n := 0) (by omega) (by omega) ?_
    exact h42 ls H locs hH hS (lv_sub hl [1, 2, 3, 0] rfl)
  · skip
    refine lv_iload_n (pc := 0) S.1 S.2.1 dL_isCounted_0 rfl (lv_at hl 2 rfl) ?_
    refine lv_iconst (pc := 1) (v := nI 4) S.1 S.2.1 dL_isCounted_1 (by decide) ?_
    refine lv_irem (pc := 2) S.1 S.2.1 dL_isCounted_2 (by decide) ?_
    refine hv_ti (y := nI (x % 4)) (pk_rem (by omega) (by omega) (by omega)) ?_
    refine hv_if_ne (pc := 3) (tgt := 12) (a := x % 4) S.1 S.2.1 (by omega) dL_isCounted_3 (by decide) (fun c_103 => ?_) (fun c9 => absurd c9 (by omega))
    refine lv_iload_n (pc := 12) S.1 S.2.1 dL_isCounted_12 rfl (lv_at hl 2 rfl) ?_
    refine lv_iconst (pc := 13) (v := nI 4) S.1 S.2.1 dL_isCounted_13 (by decide) ?_
    refine lv_irem (pc := 14) S.1 S.2.1 dL_isCounted_14 (by decide) ?_
    refine hv_ti (y := nI (x % 4)) (pk_rem (by omega) (by omega) (by omega)) ?_
    refine lv_iconst (pc := 15) (v := nI 1) S.1 S.2.1 dL_isCounted_15 (by decide) ?_
    refine hv_icmp_ne (pc := 16) (tgt := 25) (a := x % 4) (b := 1) S.1 S.2.1 (by omega) (by omega) dL_isCounted_16 (by decide) (fun c_104 => ?_) (fun c9 => absurd c9 (by omega))
    refine lv_iload_n (pc := 25) S.1 S.2.1 dL_isCounted_25 rfl (lv_at hl 2 rfl) ?_
    refine lv_iconst (pc := 26) (v := nI 4) S.1 S.2.1 dL_isCounted_26 (by decide) ?_
    refine lv_irem (pc := 27) S.1 S.2.1 dL_isCounted_27 (by decide) ?_
    refine hv_ti (y := nI (x % 4)) (pk_rem (by omega) (by omega) (by omega)) ?_
    refine lv_iconst (pc := 28) (v := nI 2) S.1 S.2.1 dL_isCounted_28 (by decide) ?_
    refine hv_icmp_ne (pc := 29) (tgt := 38) (a := x % 4) (b := 2) S.1 S.2.1 (by omega) (by omega) dL_isCounted_29 (by decide) (fun c_105 => ?_) (fun c9 => absurd c9 (by omega))
    refine lv_ldc2 (pc := 38) (v := Int64.ofNat 1651665261) S.1 S.2.1 S.2.2.2.1 (S.2.2.2.2 _ tw_910) dL_isCounted_38 ?_
    refine hv_tv (y := .long (Int64.ofNat (wdN (5 + x % 4)))) (by rw [h4]; rfl) ?_
    refine lv_lstore_n (pc := 41) (lv' := [(3, .long (Int64.ofNat (wdN (5 + x % 4)))), (0, .ref (az 0)), (1, .ref (az 9)), (2, .int (nI x))]) S.1 S.2.1 dL_isCounted_41 rfl hl (by decide) rfl (fun ls hl => ?_)
    refine W.widen (k := 0) (n := 0) (by omega) (by omega) ?_
    exact h42 ls H locs hH hS (lv_sub hl [1, 2, 3, 0] rfl)

