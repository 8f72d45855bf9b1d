/-! areSound: what the law asks of the yard at each turn -/
theorem l_isRefused (l : Launch) (hfl : l.stackTraces = false) (D : va_G) (cA : Nat → ClassId) (ga : Nat → Nat → Nat) (φ : hpM) (sz : Nat) (az : Nat → Nat) (tn tk tm : Nat) (tg sc : Nat → Nat) (ar : Nat → Nat → Nat) (w : Nat → Nat → Nat → Nat) (ez o : Nat → Nat → Nat) (x : Nat) (hY : YW cA ga az tk tm tg sc ar w ez o φ) (hI : LI tn sc ar w ez o) (hT : TY tk tg) (h200 : tn ≤ 200) (h5 : o 0 5 = tk) (hx : x < 2 ^ 31) : hM l yL_isRefused cL_isRefused 16 (some .boolean) { frames := 16, cells := 2600, slots := 17000, locals := 680 } [.ref (az 0), .ref (az 9), .ref (az 10), .int (nI x)] D cA ga φ sz (fun v φ' => v = some (.int (nI 1)) ∧ φ' = φ) 2600 17000 := by
  rcases Nat.mod_two_eq_zero_or_one x with h | h
  · exact l_isRefused0 l hfl D cA ga φ sz az tn tk tm tg sc ar w ez o x hY hI hT h200 h5 hx h
  · exact l_isRefused1 l hfl D cA ga φ sz az tn tk tm tg sc ar w ez o x hY hI hT h200 h5 hx h
/-- the width ahead of a band -/
def lsW (f : Nat → Nat) : Nat → Nat
  | 0 => 9999
  | b + 1 => f b
theorem LI.ls {t : Nat} {sc : Nat → Nat} {ar : Nat → Nat → Nat} {w : Nat → Nat → Nat → Nat} {e o : Nat → Nat → Nat} (h : LI t sc ar w e o) {i : Nat} (hi : i < sc 3) {j : Nat} (hj : j < 6) : w 0 i j ≤ lsW (w 0 i) j ∧ (e 2 i = 0 → w 0 i j < lsW (w 0 i) j) ∧ lsW (w 0 i) j ≤ 9999 := by
  have h0 := (h.l5 i hi).1
  cases j with
  | zero =>
    have := h0 0
    show w 0 i 0 ≤ 9999 ∧ (_ → w 0 i 0 < 9999) ∧ 9999 ≤ 9999
    omega
  | succ j =>
    have h1 := h.wd hi (show j < 5 by omega)
    have := h0 j
    exact ⟨h1.1, h1.2, show w 0 i j ≤ 9999 by omega⟩
theorem neg_lt {a b : Nat} (h : a < b) (hb : b < 2 ^ 30) : nI a - nI b < 0 := by
  rw [Int32.lt_iff_toInt_lt, pk_sub_toInt (by omega) hb]
  show (a : Int) - b < 0
  omega
theorem fiR_1 {a b : Nat} (h : b ≤ a) (h2 : a - b < 13) : fiR a b = 1 := by rw [fiR, if_pos ⟨h, by omega⟩]
theorem fiR_0 {a b : Nat} (h : ¬ (b ≤ a ∧ a - b < 13)) : fiR a b = 0 := by rw [fiR, if_neg (by omega)]
set_option maxHeartbeats 4000000 in
set_option maxRecDepth 100000 in
/-- areSound(o, m, c, h, r, x) -/
theorem l_areSound (l : Launch) (hfl : l.stackTraces = false) (D : va_G) (cA : Nat → ClassId) (ga : Nat → Nat → Nat) (φ : hpM) (sz : Nat) (az : Nat → Nat) (tn tk tm : Nat) (tg sc : Nat → Nat) (ar : Nat → Nat → Nat) (w : Nat → Nat → Nat → Nat) (ez o : Nat → Nat → Nat) (x : Nat) (hY : YW cA ga az tk tm tg sc ar w ez o φ) (hI : LI tn sc ar w ez o) (hT : TY tk tg) (h200 : tn ≤ 200) (hx : x < 2 ^ 30) : hM l yL_areSound cL_areSound 16 (some .boolean) { frames := 11, cells := 2320, slots := 13800, locals := 380 } [.ref (az 0), .ref (az 9), .ref (az 10), .ref (az 12), .ref (az 13), .int (nI x)] D cA ga φ sz (fun v φ' => v = some (.int (nI 1)) ∧ φ' = φ) 2320 13800 := by
  refine hM.of (by decide) (Nat.le_of_ble_eq_true rfl) rfl ?_
  intro p e s m args below meth c ls H locs S hr hlocks hnm hsz hHz hH hK hX hS hA hl
  have hl1 := hI.l1
  have hm := hI.lm
  have hr8 := hI.r8
  refine lv_iconst (pc := 0) (v := nI 1) S.1 S.2.1 dL_areSound_0 (by decide) ?_
  refine lv_istore (pc := 1) (lv' := [(6, .int (nI 1)), (0, .ref (az 0)), (1, .ref (az 9)), (2, .ref (az 10)), (3, .ref (az 12)), (4, .ref (az 13)), (5, .int (nI x))]) S.1 S.2.1 dL_areSound_1 hl (by decide) rfl (fun ls hl => ?_)
  refine lv_aload (pc := 3) S.1 S.2.1 dL_areSound_3 (lv_at hl 5 rfl) ?_
  refine lv_bipush (pc := 5) (v := nI 8) S.1 S.2.1 dL_areSound_5 (by decide) ?_
  refine hv_iald (pc := 7) S hK hH 1 (hY.a4) rfl (vp_in_nI (show 8 < 9 by omega) (by omega)) dL_areSound_7 ?_
  refine hv_ti (y := nI ((o 4) 8)) (hv_ld (by omega)) ?_
  refine hv_ti (y := nI (o 4 8)) (rfl) ?_
  refine lv_sipush (pc := 8) (v := nI 785) S.1 S.2.1 dL_areSound_8 (by decide) ?_
  refine lv_imul (pc := 11) S.1 S.2.1 dL_areSound_11 ?_
  refine hv_ti (y := nI ((o 4 8) * 785)) (pk_mul _ _) ?_
  refine lv_sipush (pc := 12) (v := nI 1000) S.1 S.2.1 dL_areSound_12 (by decide) ?_
  refine lv_idiv (pc := 15) S.1 S.2.1 dL_areSound_15 (by decide) ?_
  refine hv_ti (y := nI (((o 4 8) * 785) / 1000)) (pk_div (by omega) (by omega) (by omega)) ?_
  refine hv_ti (y := nI (o 4 8 * 785 / 1000)) (rfl) ?_
  refine lv_istore (pc := 16) (lv' := [(7, .int (nI (o 4 8 * 785 / 1000))), (6, .int (nI 1)), (0, .ref (az 0)), (1, .ref (az 9)), (2, .ref (az 10)), (3, .ref (az 12)), (4, .ref (az 13)), (5, .int (nI x))]) S.1 S.2.1 dL_areSound_16 hl (by decide) rfl (fun ls hl => ?_)
  refine lv_iconst (pc := 18) (v := nI 0) S.1 S.2.1 dL_areSound_18 (by decide) ?_
  refine lv_istore (pc := 19) (lv' := [(8, .int (nI 0)), (7, .int (nI (o 4 8 * 785 / 1000))), (6, .int (nI 1)), (0, .ref (az 0)), (1, .ref (az 9)), (2, .ref (az 10)), (3, .ref (az 12)), (4, .ref (az 13)), (5, .int (nI x))]) S.1 S.2.1 dL_areSound_19 hl (by decide) rfl (fun ls hl => ?_)
  have hg : ∃ n k : Nat, (k + n = sc 3) ∧ lv_has ls 16 [(8, .int (nI k)), (6, .int (nI 1)), (7, .int (nI (o 4 8 * 785 / 1000))), (5, .int (nI x)), (4, .ref (az 13)), (3, .ref (az 12)), (2, .ref (az 10)), (1, .ref (az 9)), (0, .ref (az 0))] := ⟨sc 3, 0, by omega, lv_sub hl [0, 2, 1, 8, 7, 6, 5, 4, 3] rfl⟩
  clear hl
  try clear hHz
  obtain ⟨n, k, hi, hl⟩ := hg
  refine W.widen (k := 186 * k) (n := 1116 * k) (by omega) (by omega) ?_
  induction n generalizing ls H locs k with
  | zero =>
    have hkN : k = sc 3 := by omega
    refine lv_iload (pc := 21) S.1 S.2.1 dL_areSound_21 (lv_at hl 0 rfl) ?_
    refine lv_aload_n (pc := 23) S.1 S.2.1 dL_areSound_23 rfl (lv_at hl 7 rfl) ?_
    refine lv_iconst (pc := 24) (v := nI 1) S.1 S.2.1 dL_areSound_24 (by decide) ?_
    refine hv_iald (pc := 25) S hK hH 1 (hY.a0) rfl (vp_in_nI (show 1 < 6 by omega) (by omega)) dL_areSound_25 ?_
    refine hv_ti (y := nI ((o 0) 1)) (hv_ld (by omega)) ?_
    refine hv_ti (y := nI (sc 3)) (by rw [hm.2.1]) ?_
    refine hv_icmp_ge (pc := 26) (tgt := 355) (a := k) (b := sc 3) S.1 S.2.1 (by omega) (by omega) dL_areSound_26 (by decide) (fun c_1 => ?_) (fun c9 => absurd c9 (by omega))
    refine lv_iconst (pc := 355) (v := nI 0) S.1 S.2.1 dL_areSound_355 (by decide) ?_
    refine lv_istore (pc := 356) (lv' := [(8, .int (nI 0)), (6, .int (nI 1)), (7, .int (nI (o 4 8 * 785 / 1000))), (5, .int (nI x)), (4, .ref (az 13)), (3, .ref (az 12)), (2, .ref (az 10)), (1, .ref (az 9)), (0, .ref (az 0))]) S.1 S.2.1 dL_areSound_356 hl (by decide) rfl (fun ls hl => ?_)
    clear hi
    have hg : ∃ n k : Nat, (k + n = sc 5) ∧ lv_has ls 16 [(8, .int (nI k)), (6, .int (nI 1)), (7, .int (nI (o 4 8 * 785 / 1000))), (5, .int (nI x)), (4, .ref (az 13)), (3, .ref (az 12)), (2, .ref (az 10)), (1, .ref (az 9)), (0, .ref (az 0))] := ⟨sc 5, 0, by omega, lv_sub hl [0, 1, 2, 3, 4, 5, 6, 7, 8] rfl⟩
    clear hl
    try clear hHz
    obtain ⟨n, k, hi, hl⟩ := hg
    refine W.widen (k := 2232 + 4 * k) (n := 13392 + 24 * k) (by omega) (by omega) ?_
    induction n generalizing ls H locs k with
    | zero =>
      have hkN5 : k = sc 5 := by omega
      refine lv_iload (pc := 358) S.1 S.2.1 dL_areSound_358 (lv_at hl 0 rfl) ?_
      refine lv_aload_n (pc := 360) S.1 S.2.1 dL_areSound_360 rfl (lv_at hl 7 rfl) ?_
      refine lv_iconst (pc := 361) (v := nI 3) S.1 S.2.1 dL_areSound_361 (by decide) ?_
      refine hv_iald (pc := 362) S hK hH 1 (hY.a0) rfl (vp_in_nI (show 3 < 6 by omega) (by omega)) dL_areSound_362 ?_
      refine hv_ti (y := nI ((o 0) 3)) (hv_ld (by omega)) ?_
      refine hv_ti (y := nI (sc 5)) (by rw [hm.2.2.2.1]) ?_
      refine hv_icmp_ge (pc := 363) (tgt := 428) (a := k) (b := sc 5) S.1 S.2.1 (by omega) (by omega) dL_areSound_363 (by decide) (fun c_2 => ?_) (fun c9 => absurd c9 (by omega))
      refine lv_iload (pc := 428) S.1 S.2.1 dL_areSound_428 (lv_at hl 1 rfl) ?_
      refine hv_if_eq (pc := 430) (tgt := 502) (a := 1) S.1 S.2.1 (by omega) dL_areSound_430 (by decide) (fun c9 => absurd c9 (by omega)) (fun c_3 => ?_)
      obtain ⟨q0, q1, q2, q3, q4, q5, q6, q7⟩ := sz_ok (a := o 4 8 * 785 / 1000) (by omega)
      refine lv_iload (pc := 433) S.1 S.2.1 dL_areSound_433 (lv_at hl 2 rfl) ?_
      by_cases ha0 : o 4 8 * 785 / 1000 = 0
      · skip
        have hz0 : (szF 0 (o 4 8 * 785 / 1000)).toNat = 0 := by rw [ha0]; exact sz_00
        refine hv_if_le (pc := 435) (tgt := 442) (a := o 4 8 * 785 / 1000) S.1 S.2.1 (by omega) dL_areSound_435 (by decide) (fun c_4 => ?_) (fun c9 => absurd c9 (by omega))
        refine lv_iconst (pc := 442) (v := nI 0) S.1 S.2.1 dL_areSound_442 (by decide) ?_
        refine lv_aload_n (pc := 443) S.1 S.2.1 dL_areSound_443 rfl (lv_at hl 8 rfl) ?_
        refine lv_iconst (pc := 444) (v := nI 0) S.1 S.2.1 dL_areSound_444 (by decide) ?_
        refine hv_call (pc := 445) (va_runV (As := [.int (nI 0)]) (rest := [.int (nI 0)]) S (ys_size l hfl D cA ga φ H.size az tn tk tm tg sc ar w ez o o 0 hY hI hT (by decide)) (cwV 1 S.2.2.2.2 (gV tw_872 tw_873 tw_874 tw_1 tw_875) rfl rfl rfl (by decide +kernel) ⟨Nat.le_of_ble_eq_true rfl, Nat.le_of_ble_eq_true rfl⟩) (pre0_V hH hK hX hS hA (ycv hH hK hY)) rfl rfl hl.1 rfl (lv_room (Nat.le_of_ble_eq_true rfl)) dL_areSound_445 ⟨Nat.le_trans (show _ ≤ 2320 by omega) (Nat.le_of_ble_eq_true rfl), Nat.le_trans (show _ ≤ 13800 by omega) (Nat.le_of_ble_eq_true rfl)⟩) hS (af_le hH hS hA) (fun v_5 φ_6 H locs hw_v_5 hH hS => ?_)
        obtain ⟨rfl, hqv_5⟩ := hw_v_5
        rw [hqv_5] at hH
        refine hv_if_le (pc := 448) (tgt := 455) (a := (szF 0 (o 4 8 * 785 / 1000)).toNat) S.1 S.2.1 (by omega) dL_areSound_448 (by decide) (fun c_7 => ?_) (fun c9 => absurd c9 (by omega))
        refine lv_iconst (pc := 455) (v := nI 0) S.1 S.2.1 dL_areSound_455 (by decide) ?_
        refine hv_icmp_ne (pc := 456) (tgt := 502) (a := 0) (b := 0) S.1 S.2.1 (by omega) (by omega) dL_areSound_456 (by decide) (fun c9 => absurd c9 (by omega)) (fun c_8 => ?_)
        refine lv_aload_n (pc := 459) S.1 S.2.1 dL_areSound_459 rfl (lv_at hl 8 rfl) ?_
        refine lv_iconst (pc := 460) (v := nI 2) S.1 S.2.1 dL_areSound_460 (by decide) ?_
        refine hv_call (pc := 461) (va_runV (As := [.int (nI 2)]) (rest := []) S (ys_size l hfl D cA ga φ H.size az tn tk tm tg sc ar w ez o o 2 hY hI hT (by decide)) (cwV 1 S.2.2.2.2 (gV tw_872 tw_873 tw_874 tw_1 tw_875) rfl rfl rfl (by decide +kernel) ⟨Nat.le_of_ble_eq_true rfl, Nat.le_of_ble_eq_true rfl⟩) (pre0_V hH hK hX hS hA (ycv hH hK hY)) rfl rfl hl.1 rfl (lv_room (Nat.le_of_ble_eq_true rfl)) dL_areSound_461 ⟨Nat.le_trans (show _ ≤ 2320 by omega) (Nat.le_of_ble_eq_true rfl), Nat.le_trans (show _ ≤ 13800 by omega) (Nat.le_of_ble_eq_true rfl)⟩) hS (af_le hH hS hA) (fun v_9 φ_10 H locs hw_v_9 hH hS => ?_)
        obtain ⟨rfl, hqv_9⟩ := hw_v_9
        rw [hqv_9] at hH
        refine lv_aload_n (pc := 464) S.1 S.2.1 dL_areSound_464 rfl (lv_at hl 8 rfl) ?_
        refine lv_iconst (pc := 465) (v := nI 1) S.1 S.2.1 dL_areSound_465 (by decide) ?_
        refine hv_call (pc := 466) (va_runV (As := [.int (nI 1)]) (rest := [.int (nI ((szF 2 (o 4 8 * 785 / 1000)).toNat))]) S (ys_size l hfl D cA ga φ H.size az tn tk tm tg sc ar w ez o o 1 hY hI hT (by decide)) (cwV 1 S.2.2.2.2 (gV tw_872 tw_873 tw_874 tw_1 tw_875) rfl rfl rfl (by decide +kernel) ⟨Nat.le_of_ble_eq_true rfl, Nat.le_of_ble_eq_true rfl⟩) (pre0_V hH hK hX hS hA (ycv hH hK hY)) rfl rfl hl.1 rfl (lv_room (Nat.le_of_ble_eq_true rfl)) dL_areSound_466 ⟨Nat.le_trans (show _ ≤ 2320 by omega) (Nat.le_of_ble_eq_true rfl), Nat.le_trans (show _ ≤ 13800 by omega) (Nat.le_of_ble_eq_true rfl)⟩) hS (af_le hH hS hA) (fun v_11 φ_12 H locs hw_v_11 hH hS => ?_)
        obtain ⟨rfl, hqv_11⟩ := hw_v_11
        rw [hqv_11] at hH
        refine hv_icmp_le (pc := 469) (tgt := 502) (a := (szF 2 (o 4 8 * 785 / 1000)).toNat) (b := (szF 1 (o 4 8 * 785 / 1000)).toNat) S.1 S.2.1 (by omega) (by omega) dL_areSound_469 (by decide) (fun c9 => absurd c9 (by omega)) (fun c_13 => ?_)
        refine lv_aload_n (pc := 472) S.1 S.2.1 dL_areSound_472 rfl (lv_at hl 8 rfl) ?_
        refine lv_iconst (pc := 473) (v := nI 3) S.1 S.2.1 dL_areSound_473 (by decide) ?_
        refine hv_call (pc := 474) (va_runV (As := [.int (nI 3)]) (rest := []) S (ys_size l hfl D cA ga φ H.size az tn tk tm tg sc ar w ez o o 3 hY hI hT (by decide)) (cwV 1 S.2.2.2.2 (gV tw_872 tw_873 tw_874 tw_1 tw_875) rfl rfl rfl (by decide +kernel) ⟨Nat.le_of_ble_eq_true rfl, Nat.le_of_ble_eq_true rfl⟩) (pre0_V hH hK hX hS hA (ycv hH hK hY)) rfl rfl hl.1 rfl (lv_room (Nat.le_of_ble_eq_true rfl)) dL_areSound_474 ⟨Nat.le_trans (show _ ≤ 2320 by omega) (Nat.le_of_ble_eq_true rfl), Nat.le_trans (show _ ≤ 13800 by omega) (Nat.le_of_ble_eq_true rfl)⟩) hS (af_le hH hS hA) (fun v_14 φ_15 H locs hw_v_14 hH hS => ?_)
        obtain ⟨rfl, hqv_14⟩ := hw_v_14
        rw [hqv_14] at hH
        refine lv_aload_n (pc := 477) S.1 S.2.1 dL_areSound_477 rfl (lv_at hl 8 rfl) ?_
        refine lv_iconst (pc := 478) (v := nI 0) S.1 S.2.1 dL_areSound_478 (by decide) ?_
        refine hv_call (pc := 479) (va_runV (As := [.int (nI 0)]) (rest := [.int (nI ((szF 3 (o 4 8 * 785 / 1000)).toNat))]) S (ys_size l hfl D cA ga φ H.size az tn tk tm tg sc ar w ez o o 0 hY hI hT (by decide)) (cwV 1 S.2.2.2.2 (gV tw_872 tw_873 tw_874 tw_1 tw_875) rfl rfl rfl (by decide +kernel) ⟨Nat.le_of_ble_eq_true rfl, Nat.le_of_ble_eq_true rfl⟩) (pre0_V hH hK hX hS hA (ycv hH hK hY)) rfl rfl hl.1 rfl (lv_room (Nat.le_of_ble_eq_true rfl)) dL_areSound_479 ⟨Nat.le_trans (show _ ≤ 2320 by omega) (Nat.le_of_ble_eq_true rfl), Nat.le_trans (show _ ≤ 13800 by omega) (Nat.le_of_ble_eq_true rfl)⟩) hS (af_le hH hS hA) (fun v_16 φ_17 H locs hw_v_16 hH hS => ?_)
        obtain ⟨rfl, hqv_16⟩ := hw_v_16
        rw [hqv_16] at hH
        refine hv_icmp_lt (pc := 482) (tgt := 502) (a := (szF 3 (o 4 8 * 785 / 1000)).toNat) (b := (szF 0 (o 4 8 * 785 / 1000)).toNat) S.1 S.2.1 (by omega) (by omega) dL_areSound_482 (by decide) (fun c9 => absurd c9 (by omega)) (fun c_18 => ?_)
        refine lv_aload_n (pc := 485) S.1 S.2.1 dL_areSound_485 rfl (lv_at hl 8 rfl) ?_
        refine lv_iconst (pc := 486) (v := nI 1) S.1 S.2.1 dL_areSound_486 (by decide) ?_
        refine hv_call (pc := 487) (va_runV (As := [.int (nI 1)]) (rest := []) S (ys_size l hfl D cA ga φ H.size az tn tk tm tg sc ar w ez o o 1 hY hI hT (by decide)) (cwV 1 S.2.2.2.2 (gV tw_872 tw_873 tw_874 tw_1 tw_875) rfl rfl rfl (by decide +kernel) ⟨Nat.le_of_ble_eq_true rfl, Nat.le_of_ble_eq_true rfl⟩) (pre0_V hH hK hX hS hA (ycv hH hK hY)) rfl rfl hl.1 rfl (lv_room (Nat.le_of_ble_eq_true rfl)) dL_areSound_487 ⟨Nat.le_trans (show _ ≤ 2320 by omega) (Nat.le_of_ble_eq_true rfl), Nat.le_trans (show _ ≤ 13800 by omega) (Nat.le_of_ble_eq_true rfl)⟩) hS (af_le hH hS hA) (fun v_19 φ_20 H locs hw_v_19 hH hS => ?_)
        obtain ⟨rfl, hqv_19⟩ := hw_v_19
        rw [hqv_19] at hH
        refine lv_aload_n (pc := 490) S.1 S.2.1 dL_areSound_490 rfl (lv_at hl 8 rfl) ?_
        refine lv_iconst (pc := 491) (v := nI 0) S.1 S.2.1 dL_areSound_491 (by decide) ?_
        refine hv_call (pc := 492) (va_runV (As := [.int (nI 0)]) (rest := [.int (nI ((szF 1 (o 4 8 * 785 / 1000)).toNat))]) S (ys_size l hfl D cA ga φ H.size az tn tk tm tg sc ar w ez o o 0 hY hI hT (by decide)) (cwV 1 S.2.2.2.2 (gV tw_872 tw_873 tw_874 tw_1 tw_875) rfl rfl rfl (by decide +kernel) ⟨Nat.le_of_ble_eq_true rfl, Nat.le_of_ble_eq_true rfl⟩) (pre0_V hH hK hX hS hA (ycv hH hK hY)) rfl rfl hl.1 rfl (lv_room (Nat.le_of_ble_eq_true rfl)) dL_areSound_492 ⟨Nat.le_trans (show _ ≤ 2320 by omega) (Nat.le_of_ble_eq_true rfl), Nat.le_trans (show _ ≤ 13800 by omega) (Nat.le_of_ble_eq_true rfl)⟩) hS (af_le hH hS hA) (fun v_21 φ_22 H locs hw_v_21 hH hS => ?_)
        obtain ⟨rfl, hqv_21⟩ := hw_v_21
        rw [hqv_21] at hH
        refine hv_icmp_gt (pc := 495) (tgt := 502) (a := (szF 1 (o 4 8 * 785 / 1000)).toNat) (b := (szF 0 (o 4 8 * 785 / 1000)).toNat) S.1 S.2.1 (by omega) (by omega) dL_areSound_495 (by decide) (fun c9 => absurd c9 (by omega)) (fun c_23 => ?_)
        refine lv_iconst (pc := 498) (v := nI 1) S.1 S.2.1 dL_areSound_498 (by decide) ?_
        refine lv_goto (pc := 499) (tgt := 503) S.1 S.2.1 dL_areSound_499 (by decide) ?_
        exact hv_ret (pc := 503) (v := nI 1) S hr rfl hlocks hH hS (⟨rfl, rfl⟩) (by omega) (by omega) dL_areSound_503
      · skip
        have hz0 : 0 < (szF 0 (o 4 8 * 785 / 1000)).toNat := by omega
        refine hv_if_le (pc := 435) (tgt := 442) (a := o 4 8 * 785 / 1000) S.1 S.2.1 (by omega) dL_areSound_435 (by decide) (fun c9 => absurd c9 (by omega)) (fun c_24 => ?_)
        refine lv_iconst (pc := 438) (v := nI 1) S.1 S.2.1 dL_areSound_438 (by decide) ?_
        refine lv_goto (pc := 439) (tgt := 443) S.1 S.2.1 dL_areSound_439 (by decide) ?_
        refine lv_aload_n (pc := 443) S.1 S.2.1 dL_areSound_443 rfl (lv_at hl 8 rfl) ?_
        refine lv_iconst (pc := 444) (v := nI 0) S.1 S.2.1 dL_areSound_444 (by decide) ?_
        refine hv_call (pc := 445) (va_runV (As := [.int (nI 0)]) (rest := [.int (nI 1)]) S (ys_size l hfl D cA ga φ H.size az tn tk tm tg sc ar w ez o o 0 hY hI hT (by decide)) (cwV 1 S.2.2.2.2 (gV tw_872 tw_873 tw_874 tw_1 tw_875) rfl rfl rfl (by decide +kernel) ⟨Nat.le_of_ble_eq_true rfl, Nat.le_of_ble_eq_true rfl⟩) (pre0_V hH hK hX hS hA (ycv hH hK hY)) rfl rfl hl.1 rfl (lv_room (Nat.le_of_ble_eq_true rfl)) dL_areSound_445 ⟨Nat.le_trans (show _ ≤ 2320 by omega) (Nat.le_of_ble_eq_true rfl), Nat.le_trans (show _ ≤ 13800 by omega) (Nat.le_of_ble_eq_true rfl)⟩) hS (af_le hH hS hA) (fun v_25 φ_26 H locs hw_v_25 hH hS => ?_)
        obtain ⟨rfl, hqv_25⟩ := hw_v_25
        rw [hqv_25] at hH
        refine hv_if_le (pc := 448) (tgt := 455) (a := (szF 0 (o 4 8 * 785 / 1000)).toNat) S.1 S.2.1 (by omega) dL_areSound_448 (by decide) (fun c9 => absurd c9 (by omega)) (fun c_27 => ?_)
        refine lv_iconst (pc := 451) (v := nI 1) S.1 S.2.1 dL_areSound_451 (by decide) ?_
        refine lv_goto (pc := 452) (tgt := 456) S.1 S.2.1 dL_areSound_452 (by decide) ?_
        refine hv_icmp_ne (pc := 456) (tgt := 502) (a := 1) (b := 1) S.1 S.2.1 (by omega) (by omega) dL_areSound_456 (by decide) (fun c9 => absurd c9 (by omega)) (fun c_28 => ?_)
        refine lv_aload_n (pc := 459) S.1 S.2.1 dL_areSound_459 rfl (lv_at hl 8 rfl) ?_
        refine lv_iconst (pc := 460) (v := nI 2) S.1 S.2.1 dL_areSound_460 (by decide) ?_
        refine hv_call (pc := 461) (va_runV (As := [.int (nI 2)]) (rest := []) S (ys_size l hfl D cA ga φ H.size az tn tk tm tg sc ar w ez o o 2 hY hI hT (by decide)) (cwV 1 S.2.2.2.2 (gV tw_872 tw_873 tw_874 tw_1 tw_875) rfl rfl rfl (by decide +kernel) ⟨Nat.le_of_ble_eq_true rfl, Nat.le_of_ble_eq_true rfl⟩) (pre0_V hH hK hX hS hA (ycv hH hK hY)) rfl rfl hl.1 rfl (lv_room (Nat.le_of_ble_eq_true rfl)) dL_areSound_461 ⟨Nat.le_trans (show _ ≤ 2320 by omega) (Nat.le_of_ble_eq_true rfl), Nat.le_trans (show _ ≤ 13800 by omega) (Nat.le_of_ble_eq_true rfl)⟩) hS (af_le hH hS hA) (fun v_29 φ_30 H locs hw_v_29 hH hS => ?_)
        obtain ⟨rfl, hqv_29⟩ := hw_v_29
        rw [hqv_29] at hH
        refine lv_aload_n (pc := 464) S.1 S.2.1 dL_areSound_464 rfl (lv_at hl 8 rfl) ?_
        refine lv_iconst (pc := 465) (v := nI 1) S.1 S.2.1 dL_areSound_465 (by decide) ?_
        refine hv_call (pc := 466) (va_runV (As := [.int (nI 1)]) (rest := [.int (nI ((szF 2 (o 4 8 * 785 / 1000)).toNat))]) S (ys_size l hfl D cA ga φ H.size az tn tk tm tg sc ar w ez o o 1 hY hI hT (by decide)) (cwV 1 S.2.2.2.2 (gV tw_872 tw_873 tw_874 tw_1 tw_875) rfl rfl rfl (by decide +kernel) ⟨Nat.le_of_ble_eq_true rfl, Nat.le_of_ble_eq_true rfl⟩) (pre0_V hH hK hX hS hA (ycv hH hK hY)) rfl rfl hl.1 rfl (lv_room (Nat.le_of_ble_eq_true rfl)) dL_areSound_466 ⟨Nat.le_trans (show _ ≤ 2320 by omega) (Nat.le_of_ble_eq_true rfl), Nat.le_trans (show _ ≤ 13800 by omega) (Nat.le_of_ble_eq_true rfl)⟩) hS (af_le hH hS hA) (fun v_31 φ_32 H locs hw_v_31 hH hS => ?_)
        obtain ⟨rfl, hqv_31⟩ := hw_v_31
        rw [hqv_31] at hH
        refine hv_icmp_le (pc := 469) (tgt := 502) (a := (szF 2 (o 4 8 * 785 / 1000)).toNat) (b := (szF 1 (o 4 8 * 785 / 1000)).toNat) S.1 S.2.1 (by omega) (by omega) dL_areSound_469 (by decide) (fun c9 => absurd c9 (by omega)) (fun c_33 => ?_)
        refine lv_aload_n (pc := 472) S.1 S.2.1 dL_areSound_472 rfl (lv_at hl 8 rfl) ?_
        refine lv_iconst (pc := 473) (v := nI 3) S.1 S.2.1 dL_areSound_473 (by decide) ?_
        refine hv_call (pc := 474) (va_runV (As := [.int (nI 3)]) (rest := []) S (ys_size l hfl D cA ga φ H.size az tn tk tm tg sc ar w ez o o 3 hY hI hT (by decide)) (cwV 1 S.2.2.2.2 (gV tw_872 tw_873 tw_874 tw_1 tw_875) rfl rfl rfl (by decide +kernel) ⟨Nat.le_of_ble_eq_true rfl, Nat.le_of_ble_eq_true rfl⟩) (pre0_V hH hK hX hS hA (ycv hH hK hY)) rfl rfl hl.1 rfl (lv_room (Nat.le_of_ble_eq_true rfl)) dL_areSound_474 ⟨Nat.le_trans (show _ ≤ 2320 by omega) (Nat.le_of_ble_eq_true rfl), Nat.le_trans (show _ ≤ 13800 by omega) (Nat.le_of_ble_eq_true rfl)⟩) hS (af_le hH hS hA) (fun v_34 φ_35 H locs hw_v_34 hH hS => ?_)
        obtain ⟨rfl, hqv_34⟩ := hw_v_34
        rw [hqv_34] at hH
        refine lv_aload_n (pc := 477) S.1 S.2.1 dL_areSound_477 rfl (lv_at hl 8 rfl) ?_
        refine lv_iconst (pc := 478) (v := nI 0) S.1 S.2.1 dL_areSound_478 (by decide) ?_
        refine hv_call (pc := 479) (va_runV (As := [.int (nI 0)]) (rest := [.int (nI ((szF 3 (o 4 8 * 785 / 1000)).toNat))]) S (ys_size l hfl D cA ga φ H.size az tn tk tm tg sc ar w ez o o 0 hY hI hT (by decide)) (cwV 1 S.2.2.2.2 (gV tw_872 tw_873 tw_874 tw_1 tw_875) rfl rfl rfl (by decide +kernel) ⟨Nat.le_of_ble_eq_true rfl, Nat.le_of_ble_eq_true rfl⟩) (pre0_V hH hK hX hS hA (ycv hH hK hY)) rfl rfl hl.1 rfl (lv_room (Nat.le_of_ble_eq_true rfl)) dL_areSound_479 ⟨Nat.le_trans (show _ ≤ 2320 by omega) (Nat.le_of_ble_eq_true rfl), Nat.le_trans (show _ ≤ 13800 by omega) (Nat.le_of_ble_eq_true rfl)⟩) hS (af_le hH hS hA) (fun v_36 φ_37 H locs hw_v_36 hH hS => ?_)
        obtain ⟨rfl, hqv_36⟩ := hw_v_36
        rw [hqv_36] at hH
        refine hv_icmp_lt (pc := 482) (tgt := 502) (a := (szF 3 (o 4 8 * 785 / 1000)).toNat) (b := (szF 0 (o 4 8 * 785 / 1000)).toNat) S.1 S.2.1 (by omega) (by omega) dL_areSound_482 (by decide) (fun c9 => absurd c9 (by omega)) (fun c_38 => ?_)
        refine lv_aload_n (pc := 485) S.1 S.2.1 dL_areSound_485 rfl (lv_at hl 8 rfl) ?_
        refine lv_iconst (pc := 486) (v := nI 1) S.1 S.2.1 dL_areSound_486 (by decide) ?_
        refine hv_call (pc := 487) (va_runV (As := [.int (nI 1)]) (rest := []) S (ys_size l hfl D cA ga φ H.size az tn tk tm tg sc ar w ez o o 1 hY hI hT (by decide)) (cwV 1 S.2.2.2.2 (gV tw_872 tw_873 tw_874 tw_1 tw_875) rfl rfl rfl (by decide +kernel) ⟨Nat.le_of_ble_eq_true rfl, Nat.le_of_ble_eq_true rfl⟩) (pre0_V hH hK hX hS hA (ycv hH hK hY)) rfl rfl hl.1 rfl (lv_room (Nat.le_of_ble_eq_true rfl)) dL_areSound_487 ⟨Nat.le_trans (show _ ≤ 2320 by omega) (Nat.le_of_ble_eq_true rfl), Nat.le_trans (show _ ≤ 13800 by omega) (Nat.le_of_ble_eq_true rfl)⟩) hS (af_le hH hS hA) (fun v_39 φ_40 H locs hw_v_39 hH hS => ?_)
        obtain ⟨rfl, hqv_39⟩ := hw_v_39
        rw [hqv_39] at hH
        refine lv_aload_n (pc := 490) S.1 S.2.1 dL_areSound_490 rfl (lv_at hl 8 rfl) ?_
        refine lv_iconst (pc := 491) (v := nI 0) S.1 S.2.1 dL_areSound_491 (by decide) ?_
        refine hv_call (pc := 492) (va_runV (As := [.int (nI 0)]) (rest := [.int (nI ((szF 1 (o 4 8 * 785 / 1000)).toNat))]) S (ys_size l hfl D cA ga φ H.size az tn tk tm tg sc ar w ez o o 0 hY hI hT (by decide)) (cwV 1 S.2.2.2.2 (gV tw_872 tw_873 tw_874 tw_1 tw_875) rfl rfl rfl (by decide +kernel) ⟨Nat.le_of_ble_eq_true rfl, Nat.le_of_ble_eq_true rfl⟩) (pre0_V hH hK hX hS hA (ycv hH hK hY)) rfl rfl hl.1 rfl (lv_room (Nat.le_of_ble_eq_true rfl)) dL_areSound_492 ⟨Nat.le_trans (show _ ≤ 2320 by omega) (Nat.le_of_ble_eq_true rfl), Nat.le_trans (show _ ≤ 13800 by omega) (Nat.le_of_ble_eq_true rfl)⟩) hS (af_le hH hS hA) (fun v_41 φ_42 H locs hw_v_41 hH hS => ?_)
        obtain ⟨rfl, hqv_41⟩ := hw_v_41
        rw [hqv_41] at hH
        refine hv_icmp_gt (pc := 495) (tgt := 502) (a := (szF 1 (o 4 8 * 785 / 1000)).toNat) (b := (szF 0 (o 4 8 * 785 / 1000)).toNat) S.1 S.2.1 (by omega) (by omega) dL_areSound_495 (by decide) (fun c9 => absurd c9 (by omega)) (fun c_43 => ?_)
        refine lv_iconst (pc := 498) (v := nI 1) S.1 S.2.1 dL_areSound_498 (by decide) ?_
        refine lv_goto (pc := 499) (tgt := 503) S.1 S.2.1 dL_areSound_499 (by decide) ?_
        exact hv_ret (pc := 503) (v := nI 1) S hr rfl hlocks hH hS (⟨rfl, rfl⟩) (by omega) (by omega) dL_areSound_503
    | succ n ih =>
      refine lv_iload (pc := 358) S.1 S.2.1 dL_areSound_358 (lv_at hl 0 rfl) ?_
      refine lv_aload_n (pc := 360) S.1 S.2.1 dL_areSound_360 rfl (lv_at hl 7 rfl) ?_
      refine lv_iconst (pc := 361) (v := nI 3) S.1 S.2.1 dL_areSound_361 (by decide) ?_
      refine hv_iald (pc := 362) S hK hH 1 (hY.a0) rfl (vp_in_nI (show 3 < 6 by omega) (by omega)) dL_areSound_362 ?_
      refine hv_ti (y := nI ((o 0) 3)) (hv_ld (by omega)) ?_
      refine hv_ti (y := nI (sc 5)) (by rw [hm.2.2.2.1]) ?_
      refine hv_icmp_ge (pc := 363) (tgt := 428) (a := k) (b := sc 5) S.1 S.2.1 (by omega) (by omega) dL_areSound_363 (by decide) (fun c9 => absurd c9 (by omega)) (fun c_44 => ?_)
      refine lv_iload (pc := 366) S.1 S.2.1 dL_areSound_366 (lv_at hl 1 rfl) ?_
      refine hv_if_eq (pc := 368) (tgt := 428) (a := 1) S.1 S.2.1 (by omega) dL_areSound_368 (by decide) (fun c9 => absurd c9 (by omega)) (fun c_45 => ?_)
      have hk : k < sc 5 := by omega
      have h12 := hI.l7.1 k
      have h13 := hI.l9.2 k
      have hh3 := hI.lh k
      have h1331 : ar 13 k < 2 ^ 31 := by omega
      refine lv_aload_n (pc := 371) S.1 S.2.1 dL_areSound_371 rfl (lv_at hl 8 rfl) ?_
      refine lv_iload (pc := 372) S.1 S.2.1 dL_areSound_372 (lv_at hl 0 rfl) ?_
      refine lv_iconst (pc := 374) (v := nI 1) S.1 S.2.1 dL_areSound_374 (by decide) ?_
      refine hv_call (pc := 375) (va_runV (As := [.int (nI k), .int (nI 1)]) (rest := []) S (ys_air l hfl D cA ga φ H.size az tn tk tm tg sc ar w ez o o k 1 hY hI hT hk (by decide)) (cwV 2 S.2.2.2.2 (gV tw_238 tw_239 tw_240 tw_1 tw_241) rfl rfl rfl (by decide +kernel) ⟨Nat.le_of_ble_eq_true rfl, Nat.le_of_ble_eq_true rfl⟩) (pre0_V hH hK hX hS hA (ycv hH hK hY)) rfl rfl hl.1 rfl (lv_room (Nat.le_of_ble_eq_true rfl)) dL_areSound_375 ⟨Nat.le_trans (show _ ≤ 2320 by omega) (Nat.le_of_ble_eq_true rfl), Nat.le_trans (show _ ≤ 13800 by omega) (Nat.le_of_ble_eq_true rfl)⟩) hS (af_le hH hS hA) (fun v_46 φ_47 H locs hw_v_46 hH hS => ?_)
      obtain ⟨rfl, hqv_46⟩ := hw_v_46
      rw [hqv_46] at hH
      refine lv_aload_n (pc := 378) S.1 S.2.1 dL_areSound_378 rfl (lv_at hl 5 rfl) ?_
      refine lv_iload (pc := 379) S.1 S.2.1 dL_areSound_379 (lv_at hl 0 rfl) ?_
      refine hv_iald (pc := 381) S hK hH 1 (hY.a3) rfl (vp_in_nI (show k < 6 by omega) (by omega)) dL_areSound_381 ?_
      refine hv_ti (y := nI ((o 3) k)) (hv_ld (by omega)) ?_
      refine hv_ti (y := nI (ar 12 k)) (by rw [hh3]) ?_
      refine hv_icmp_ne (pc := 382) (tgt := 419) (a := ar 12 k) (b := ar 12 k) S.1 S.2.1 (by omega) (by omega) dL_areSound_382 (by decide) (fun c9 => absurd c9 (by omega)) (fun c_48 => ?_)
      refine lv_aload_n (pc := 385) S.1 S.2.1 dL_areSound_385 rfl (lv_at hl 5 rfl) ?_
      refine lv_iload (pc := 386) S.1 S.2.1 dL_areSound_386 (lv_at hl 0 rfl) ?_
      refine hv_iald (pc := 388) S hK hH 1 (hY.a3) rfl (vp_in_nI (show k < 6 by omega) (by omega)) dL_areSound_388 ?_
      refine hv_ti (y := nI ((o 3) k)) (hv_ld (by omega)) ?_
      refine hv_ti (y := nI (ar 12 k)) (by rw [hh3]) ?_
      refine hv_if_lt (pc := 389) (tgt := 419) (a := ar 12 k) S.1 S.2.1 (by omega) dL_areSound_389 (by decide) (fun c9 => absurd c9 id) (fun c_49 => ?_)
      refine lv_aload_n (pc := 392) S.1 S.2.1 dL_areSound_392 rfl (lv_at hl 5 rfl) ?_
      refine lv_iload (pc := 393) S.1 S.2.1 dL_areSound_393 (lv_at hl 0 rfl) ?_
      refine hv_iald (pc := 395) S hK hH 1 (hY.a3) rfl (vp_in_nI (show k < 6 by omega) (by omega)) dL_areSound_395 ?_
      refine hv_ti (y := nI ((o 3) k)) (hv_ld (by omega)) ?_
      refine hv_ti (y := nI (ar 12 k)) (by rw [hh3]) ?_
      refine lv_bipush (pc := 396) (v := nI 30) S.1 S.2.1 dL_areSound_396 (by decide) ?_
      refine hv_icmp_gt (pc := 398) (tgt := 419) (a := ar 12 k) (b := 30) S.1 S.2.1 (by omega) (by omega) dL_areSound_398 (by decide) (fun c9 => absurd c9 (by omega)) (fun c_50 => ?_)
      refine lv_aload_n (pc := 401) S.1 S.2.1 dL_areSound_401 rfl (lv_at hl 8 rfl) ?_
      refine lv_iload (pc := 402) S.1 S.2.1 dL_areSound_402 (lv_at hl 0 rfl) ?_
      refine lv_iconst (pc := 404) (v := nI 0) S.1 S.2.1 dL_areSound_404 (by decide) ?_
      refine hv_call (pc := 405) (va_runV (As := [.int (nI k), .int (nI 0)]) (rest := []) S (ys_air l hfl D cA ga φ H.size az tn tk tm tg sc ar w ez o o k 0 hY hI hT hk (by decide)) (cwV 2 S.2.2.2.2 (gV tw_238 tw_239 tw_240 tw_1 tw_241) rfl rfl rfl (by decide +kernel) ⟨Nat.le_of_ble_eq_true rfl, Nat.le_of_ble_eq_true rfl⟩) (pre0_V hH hK hX hS hA (ycv hH hK hY)) rfl rfl hl.1 rfl (lv_room (Nat.le_of_ble_eq_true rfl)) dL_areSound_405 ⟨Nat.le_trans (show _ ≤ 2320 by omega) (Nat.le_of_ble_eq_true rfl), Nat.le_trans (show _ ≤ 13800 by omega) (Nat.le_of_ble_eq_true rfl)⟩) hS (af_le hH hS hA) (fun v_51 φ_52 H locs hw_v_51 hH hS => ?_)
      obtain ⟨rfl, hqv_51⟩ := hw_v_51
      rw [hqv_51] at hH
      refine lv_aload_n (pc := 408) S.1 S.2.1 dL_areSound_408 rfl (lv_at hl 5 rfl) ?_
      refine lv_iload (pc := 409) S.1 S.2.1 dL_areSound_409 (lv_at hl 0 rfl) ?_
      refine hv_iald (pc := 411) S hK hH 1 (hY.a3) rfl (vp_in_nI (show k < 6 by omega) (by omega)) dL_areSound_411 ?_
      refine hv_ti (y := nI ((o 3) k)) (hv_ld (by omega)) ?_
      refine hv_ti (y := nI (ar 12 k)) (by rw [hh3]) ?_
      refine hv_icmp_lt (pc := 412) (tgt := 419) (a := ar 13 k) (b := ar 12 k) S.1 S.2.1 (by omega) (by omega) dL_areSound_412 (by decide) (fun c9 => absurd c9 (by omega)) (fun c_53 => ?_)
      refine lv_iconst (pc := 415) (v := nI 1) S.1 S.2.1 dL_areSound_415 (by decide) ?_
      refine lv_goto (pc := 416) (tgt := 420) S.1 S.2.1 dL_areSound_416 (by decide) ?_
      refine lv_istore (pc := 420) (lv' := [(6, .int (nI 1)), (8, .int (nI k)), (7, .int (nI (o 4 8 * 785 / 1000))), (5, .int (nI x)), (4, .ref (az 13)), (3, .ref (az 12)), (2, .ref (az 10)), (1, .ref (az 9)), (0, .ref (az 0))]) S.1 S.2.1 dL_areSound_420 hl (by decide) rfl (fun ls hl => ?_)
      refine lv_iinc (pc := 422) (v := nI (k + 1)) (lv' := [(8, .int (nI (k + 1))), (6, .int (nI 1)), (7, .int (nI (o 4 8 * 785 / 1000))), (5, .int (nI x)), (4, .ref (az 13)), (3, .ref (az 12)), (2, .ref (az 10)), (1, .ref (az 9)), (0, .ref (az 0))]) S.1 S.2.1 dL_areSound_422 hl (k := 1) rfl (by first | rfl | exact nI_add _ _) (by decide) rfl (fun ls hl => ?_)
      refine lv_goto (pc := 425) (tgt := 358) S.1 S.2.1 dL_areSound_425 (by decide) ?_
      refine W.widen (k := 2232 + 4 * (k + 1)) (n := 13392 + 24 * (k + 1)) (by omega) (by omega) ?_
      have hi2 : (k + 1) + (n) = sc 5 := by omega
      have hl2 : lv_has ls 16 [(8, .int (nI (k + 1))), (6, .int (nI 1)), (7, .int (nI (o 4 8 * 785 / 1000))), (5, .int (nI x)), (4, .ref (az 13)), (3, .ref (az 12)), (2, .ref (az 10)), (1, .ref (az 9)), (0, .ref (az 0))] := lv_sub hl [0, 1, 2, 3, 4, 5, 6, 7, 8] rfl
      apply ih (k := k + 1) <;> assumption
  | succ n ih =>
    refine lv_iload (pc := 21) S.1 S.2.1 dL_areSound_21 (lv_at hl 0 rfl) ?_
    refine lv_aload_n (pc := 23) S.1 S.2.1 dL_areSound_23 rfl (lv_at hl 7 rfl) ?_
    refine lv_iconst (pc := 24) (v := nI 1) S.1 S.2.1 dL_areSound_24 (by decide) ?_
    refine hv_iald (pc := 25) S hK hH 1 (hY.a0) rfl (vp_in_nI (show 1 < 6 by omega) (by omega)) dL_areSound_25 ?_
    refine hv_ti (y := nI ((o 0) 1)) (hv_ld (by omega)) ?_
    refine hv_ti (y := nI (sc 3)) (by rw [hm.2.1]) ?_
    refine hv_icmp_ge (pc := 26) (tgt := 355) (a := k) (b := sc 3) S.1 S.2.1 (by omega) (by omega) dL_areSound_26 (by decide) (fun c9 => absurd c9 (by omega)) (fun c_54 => ?_)
    refine lv_iload (pc := 29) S.1 S.2.1 dL_areSound_29 (lv_at hl 1 rfl) ?_
    refine hv_if_eq (pc := 31) (tgt := 355) (a := 1) S.1 S.2.1 (by omega) dL_areSound_31 (by decide) (fun c9 => absurd c9 (by omega)) (fun c_55 => ?_)
    have hk : k < sc 3 := by omega
    have hlc := hI.lc k
    have hcn := hI.l5 k hk
    have hht := hI.ht hk
    have hwk0 := hcn.1 0
    have h7le := (hI.l3 k).2.1
    refine lv_iconst (pc := 34) (v := nI 0) S.1 S.2.1 dL_areSound_34 (by decide) ?_
    refine lv_istore (pc := 35) (lv' := [(9, .int (nI 0)), (8, .int (nI k)), (6, .int (nI 1)), (7, .int (nI (o 4 8 * 785 / 1000))), (5, .int (nI x)), (4, .ref (az 13)), (3, .ref (az 12)), (2, .ref (az 10)), (1, .ref (az 9)), (0, .ref (az 0))]) S.1 S.2.1 dL_areSound_35 hl (by decide) rfl (fun ls hl => ?_)
    refine lv_sipush (pc := 37) (v := nI 9999) S.1 S.2.1 dL_areSound_37 (by decide) ?_
    refine lv_istore (pc := 40) (lv' := [(10, .int (nI 9999)), (9, .int (nI 0)), (8, .int (nI k)), (6, .int (nI 1)), (7, .int (nI (o 4 8 * 785 / 1000))), (5, .int (nI x)), (4, .ref (az 13)), (3, .ref (az 12)), (2, .ref (az 10)), (1, .ref (az 9)), (0, .ref (az 0))]) S.1 S.2.1 dL_areSound_40 hl (by decide) rfl (fun ls hl => ?_)
    refine lv_aload_n (pc := 42) S.1 S.2.1 dL_areSound_42 rfl (lv_at hl 10 rfl) ?_
    refine lv_iload (pc := 43) S.1 S.2.1 dL_areSound_43 (lv_at hl 2 rfl) ?_
    refine lv_iconst (pc := 45) (v := nI 0) S.1 S.2.1 dL_areSound_45 (by decide) ?_
    refine lv_iconst (pc := 46) (v := nI 0) S.1 S.2.1 dL_areSound_46 (by decide) ?_
    refine hv_call (pc := 47) (va_runV (As := [.int (nI k), .int (nI 0), .int (nI 0)]) (rest := []) S (ys_about l hfl D cA ga φ H.size az tn tk tm tg sc ar w ez o o k 0 0 hY hI hT hk (by decide) (by decide)) (cwV 3 S.2.2.2.2 (gV tw_122 tw_123 tw_124 tw_1 tw_125) rfl rfl rfl (by decide +kernel) ⟨Nat.le_of_ble_eq_true rfl, Nat.le_of_ble_eq_true rfl⟩) (pre0_V hH hK hX hS hA (ycv hH hK hY)) rfl rfl hl.1 rfl (lv_room (Nat.le_of_ble_eq_true rfl)) dL_areSound_47 ⟨Nat.le_trans (show _ ≤ 2320 by omega) (Nat.le_of_ble_eq_true rfl), Nat.le_trans (show _ ≤ 13800 by omega) (Nat.le_of_ble_eq_true rfl)⟩) hS (af_le hH hS hA) (fun v_56 φ_57 H locs hw_v_56 hH hS => ?_)
    obtain ⟨rfl, hqv_56⟩ := hw_v_56
    rw [hqv_56] at hH
    refine hv_ti (y := nI (w 0 k 0)) (rfl) ?_
    refine lv_iload (pc := 50) S.1 S.2.1 dL_areSound_50 (lv_at hl 4 rfl) ?_
    refine lv_isub (pc := 52) S.1 S.2.1 dL_areSound_52 ?_
    refine lv_istore (pc := 53) (lv' := [(11, .int (nI (w 0 k 0) - nI (o 4 8 * 785 / 1000))), (10, .int (nI 9999)), (9, .int (nI 0)), (8, .int (nI k)), (6, .int (nI 1)), (7, .int (nI (o 4 8 * 785 / 1000))), (5, .int (nI x)), (4, .ref (az 13)), (3, .ref (az 12)), (2, .ref (az 10)), (1, .ref (az 9)), (0, .ref (az 0))]) S.1 S.2.1 dL_areSound_53 hl (by decide) rfl (fun ls hl => ?_)
    refine lv_iconst (pc := 55) (v := nI 0) S.1 S.2.1 dL_areSound_55 (by decide) ?_
    refine lv_istore (pc := 56) (lv' := [(12, .int (nI 0)), (11, .int (nI (w 0 k 0) - nI (o 4 8 * 785 / 1000))), (10, .int (nI 9999)), (9, .int (nI 0)), (8, .int (nI k)), (6, .int (nI 1)), (7, .int (nI (o 4 8 * 785 / 1000))), (5, .int (nI x)), (4, .ref (az 13)), (3, .ref (az 12)), (2, .ref (az 10)), (1, .ref (az 9)), (0, .ref (az 0))]) S.1 S.2.1 dL_areSound_56 hl (by decide) rfl (fun ls hl => ?_)
    by_cases he0 : ez 2 k = 0
    · skip
      have hg : ∃ j b : Nat, (b + j = 6) ∧ lv_has ls 16 [(12, .int (nI b)), (11, .int (nI (w 0 k 0) - nI (o 4 8 * 785 / 1000))), (10, .int (nI (lsW (w 0 k) b))), (9, .int (nI (smN (w 1 k) b))), (8, .int (nI k)), (6, .int (nI 1)), (7, .int (nI (o 4 8 * 785 / 1000))), (5, .int (nI x)), (4, .ref (az 13)), (3, .ref (az 12)), (2, .ref (az 10)), (1, .ref (az 9)), (0, .ref (az 0))] := ⟨6, 0, by decide, lv_sub hl [0, 1, 2, 3, 4, 5, 6, 7, 8, 9, 10, 11, 12] rfl⟩
      clear hl
      try clear hHz
      obtain ⟨j, b, hi, hl⟩ := hg
      refine W.widen (k := 186 * k + 5 + 29 * b) (n := 1116 * k + 30 + 174 * b) (by omega) (by omega) ?_
      induction j generalizing ls H locs b with
      | zero =>
        have hb6 : b = 6 := by omega
        refine lv_iload (pc := 58) S.1 S.2.1 dL_areSound_58 (lv_at hl 0 rfl) ?_
        refine lv_bipush (pc := 60) (v := nI 6) S.1 S.2.1 dL_areSound_60 (by decide) ?_
        refine hv_icmp_ge (pc := 62) (tgt := 276) (a := b) (b := 6) S.1 S.2.1 (by omega) (by omega) dL_areSound_62 (by decide) (fun c_58 => ?_) (fun c9 => absurd c9 (by omega))
        refine lv_iload (pc := 276) S.1 S.2.1 dL_areSound_276 (lv_at hl 5 rfl) ?_
        refine hv_if_eq (pc := 278) (tgt := 346) (a := 1) S.1 S.2.1 (by omega) dL_areSound_278 (by decide) (fun c9 => absurd c9 (by omega)) (fun c_59 => ?_)
        subst hb6
        have hfe := hcn.2.2.2.2.2.2
        have hfe5 : smN (w 1 k) 6 < 2 ^ 31 := by have := smN_le hcn.2.1 6; omega
        refine lv_iload (pc := 281) S.1 S.2.1 dL_areSound_281 (lv_at hl 3 rfl) ?_
        refine lv_aload_n (pc := 283) S.1 S.2.1 dL_areSound_283 rfl (lv_at hl 10 rfl) ?_
        refine lv_iconst (pc := 284) (v := nI 4) S.1 S.2.1 dL_areSound_284 (by decide) ?_
        refine lv_iload (pc := 285) S.1 S.2.1 dL_areSound_285 (lv_at hl 4 rfl) ?_
        refine lv_imul (pc := 287) S.1 S.2.1 dL_areSound_287 ?_
        refine hv_ti (y := nI (4 * k)) (pk_mul _ _) ?_
        refine hv_iald (pc := 288) S hK hH 1 (hY.a1) rfl (vp_in_nI (show 4 * k < 48 by omega) (by omega)) dL_areSound_288 ?_
        refine hv_ti (y := nI ((o 1) (4 * k))) (hv_ld (by omega)) ?_
        refine hv_ti (y := nI (smN (w 1 k) 6)) (by rw [hfe]) ?_
        refine hv_icmp_ne (pc := 289) (tgt := 346) (a := smN (w 1 k) 6) (b := smN (w 1 k) 6) S.1 S.2.1 (by omega) (by omega) dL_areSound_289 (by decide) (fun c9 => absurd c9 (by omega)) (fun c_60 => ?_)
        refine lv_aload_n (pc := 292) S.1 S.2.1 dL_areSound_292 rfl (lv_at hl 12 rfl) ?_
        refine lv_iload (pc := 293) S.1 S.2.1 dL_areSound_293 (lv_at hl 4 rfl) ?_
        refine hv_call (pc := 295) (va_runV (As := [.int (nI k)]) (rest := []) S (ys_fits l hfl D cA ga φ H.size az tn tk tm tg sc ar w ez o o k hY hI hT hk) (cwV 1 S.2.2.2.2 (gV tw_868 tw_869 tw_870 tw_1 tw_871) rfl rfl rfl (by decide +kernel) ⟨Nat.le_of_ble_eq_true rfl, Nat.le_of_ble_eq_true rfl⟩) (pre0_V hH hK hX hS hA (ycv hH hK hY)) rfl rfl hl.1 rfl (lv_room (Nat.le_of_ble_eq_true rfl)) dL_areSound_295 ⟨Nat.le_trans (show _ ≤ 2320 by omega) (Nat.le_of_ble_eq_true rfl), Nat.le_trans (show _ ≤ 13800 by omega) (Nat.le_of_ble_eq_true rfl)⟩) hS (af_le hH hS hA) (fun v_61 φ_62 H locs hw_v_61 hH hS => ?_)
        obtain ⟨rfl, hqv_61⟩ := hw_v_61
        rw [hqv_61] at hH
        refine lv_iload (pc := 298) S.1 S.2.1 dL_areSound_298 (lv_at hl 1 rfl) ?_
        by_cases hAw : o 4 8 * 785 / 1000 ≤ w 0 k 0
        · skip
          refine hv_ti (y := nI (w 0 k 0 - (o 4 8 * 785 / 1000))) (pk_sub hAw) ?_
          refine hv_if_lt (pc := 300) (tgt := 314) (a := w 0 k 0 - (o 4 8 * 785 / 1000)) S.1 S.2.1 (by omega) dL_areSound_300 (by decide) (fun c9 => absurd c9 id) (fun c_63 => ?_)
          refine lv_iload (pc := 303) S.1 S.2.1 dL_areSound_303 (lv_at hl 1 rfl) ?_
          refine hv_ti (y := nI (w 0 k 0 - (o 4 8 * 785 / 1000))) (pk_sub hAw) ?_
          refine lv_bipush (pc := 305) (v := nI 13) S.1 S.2.1 dL_areSound_305 (by decide) ?_
          by_cases h13 : w 0 k 0 - (o 4 8 * 785 / 1000) < 13
          · skip
            have hfi := fiR_1 hAw h13
            refine hv_icmp_ge (pc := 307) (tgt := 314) (a := w 0 k 0 - (o 4 8 * 785 / 1000)) (b := 13) S.1 S.2.1 (by omega) (by omega) dL_areSound_307 (by decide) (fun c9 => absurd c9 (by omega)) (fun c_64 => ?_)
            refine lv_iconst (pc := 310) (v := nI 1) S.1 S.2.1 dL_areSound_310 (by decide) ?_
            refine lv_goto (pc := 311) (tgt := 315) S.1 S.2.1 dL_areSound_311 (by decide) ?_
            refine hv_icmp_ne (pc := 315) (tgt := 346) (a := fiR (w 0 k 0) (o 4 8 * 785 / 1000)) (b := 1) S.1 S.2.1 (by omega) (by omega) dL_areSound_315 (by decide) (fun c9 => absurd c9 (by omega)) (fun c_65 => ?_)
            refine lv_aload_n (pc := 318) S.1 S.2.1 dL_areSound_318 rfl (lv_at hl 10 rfl) ?_
            refine lv_iconst (pc := 319) (v := nI 4) S.1 S.2.1 dL_areSound_319 (by decide) ?_
            refine lv_iload (pc := 320) S.1 S.2.1 dL_areSound_320 (lv_at hl 4 rfl) ?_
            refine lv_imul (pc := 322) S.1 S.2.1 dL_areSound_322 ?_
            refine hv_ti (y := nI (4 * k)) (pk_mul _ _) ?_
            refine lv_iconst (pc := 323) (v := nI 1) S.1 S.2.1 dL_areSound_323 (by decide) ?_
            refine lv_iadd (pc := 324) S.1 S.2.1 dL_areSound_324 ?_
            refine hv_ti (y := nI ((4 * k) + 1)) (nI_add _ _) ?_
            refine hv_iald (pc := 325) S hK hH 1 (hY.a1) rfl (vp_in_nI (show (4 * k) + 1 < 48 by omega) (by omega)) dL_areSound_325 ?_
            refine hv_ti (y := nI ((o 1) ((4 * k) + 1))) (hv_ld (by omega)) ?_
            refine hv_ti (y := nI (ar 7 k)) (by rw [hlc.1]) ?_
            by_cases h70 : ar 7 k = 0
            · skip
              refine hv_if_gt (pc := 326) (tgt := 342) (a := ar 7 k) S.1 S.2.1 (by omega) dL_areSound_326 (by decide) (fun c9 => absurd c9 (by omega)) (fun c_66 => ?_)
              have h60 : ez 1 k = 60 := by rw [hcn.2.2.1, h70]; rfl
              refine lv_aload_n (pc := 329) S.1 S.2.1 dL_areSound_329 rfl (lv_at hl 12 rfl) ?_
              refine lv_iload (pc := 330) S.1 S.2.1 dL_areSound_330 (lv_at hl 4 rfl) ?_
              refine lv_iconst (pc := 332) (v := nI 5) S.1 S.2.1 dL_areSound_332 (by decide) ?_
              refine lv_iconst (pc := 333) (v := nI 1) S.1 S.2.1 dL_areSound_333 (by decide) ?_
              refine hv_call (pc := 334) (va_runV (As := [.int (nI k), .int (nI 5), .int (nI 1)]) (rest := []) S (ys_about l hfl D cA ga φ H.size az tn tk tm tg sc ar w ez o o k 5 1 hY hI hT hk (by decide) (by decide)) (cwV 3 S.2.2.2.2 (gV tw_122 tw_123 tw_124 tw_1 tw_125) rfl rfl rfl (by decide +kernel) ⟨Nat.le_of_ble_eq_true rfl, Nat.le_of_ble_eq_true rfl⟩) (pre0_V hH hK hX hS hA (ycv hH hK hY)) rfl rfl hl.1 rfl (lv_room (Nat.le_of_ble_eq_true rfl)) dL_areSound_334 ⟨Nat.le_trans (show _ ≤ 2320 by omega) (Nat.le_of_ble_eq_true rfl), Nat.le_trans (show _ ≤ 13800 by omega) (Nat.le_of_ble_eq_true rfl)⟩) hS (af_le hH hS hA) (fun v_67 φ_68 H locs hw_v_67 hH hS => ?_)
              obtain ⟨rfl, hqv_67⟩ := hw_v_67
              rw [hqv_67] at hH
              refine hv_ti (y := nI (ez 1 k)) (rfl) ?_
              refine lv_bipush (pc := 337) (v := nI 60) S.1 S.2.1 dL_areSound_337 (by decide) ?_
              refine hv_icmp_ne (pc := 339) (tgt := 346) (a := ez 1 k) (b := 60) S.1 S.2.1 (by omega) (by omega) dL_areSound_339 (by decide) (fun c9 => absurd c9 (by omega)) (fun c_69 => ?_)
              refine lv_iconst (pc := 342) (v := nI 1) S.1 S.2.1 dL_areSound_342 (by decide) ?_
              refine lv_goto (pc := 343) (tgt := 347) S.1 S.2.1 dL_areSound_343 (by decide) ?_
              refine lv_istore (pc := 347) (lv' := [(6, .int (nI 1)), (12, .int (nI 6)), (11, .int (nI (w 0 k 0) - nI (o 4 8 * 785 / 1000))), (10, .int (nI (lsW (w 0 k) 6))), (9, .int (nI (smN (w 1 k) 6))), (8, .int (nI k)), (7, .int (nI (o 4 8 * 785 / 1000))), (5, .int (nI x)), (4, .ref (az 13)), (3, .ref (az 12)), (2, .ref (az 10)), (1, .ref (az 9)), (0, .ref (az 0))]) S.1 S.2.1 dL_areSound_347 hl (by decide) rfl (fun ls hl => ?_)
              refine lv_iinc (pc := 349) (v := nI (k + 1)) (lv' := [(8, .int (nI (k + 1))), (6, .int (nI 1)), (12, .int (nI 6)), (11, .int (nI (w 0 k 0) - nI (o 4 8 * 785 / 1000))), (10, .int (nI (lsW (w 0 k) 6))), (9, .int (nI (smN (w 1 k) 6))), (7, .int (nI (o 4 8 * 785 / 1000))), (5, .int (nI x)), (4, .ref (az 13)), (3, .ref (az 12)), (2, .ref (az 10)), (1, .ref (az 9)), (0, .ref (az 0))]) S.1 S.2.1 dL_areSound_349 hl (k := 5) rfl (by first | rfl | exact nI_add _ _) (by decide) rfl (fun ls hl => ?_)
              refine lv_goto (pc := 352) (tgt := 21) S.1 S.2.1 dL_areSound_352 (by decide) ?_
              refine W.widen (k := 186 * (k + 1)) (n := 1116 * (k + 1)) (by omega) (by omega) ?_
              have hi2 : (k + 1) + (n) = sc 3 := by omega
              have hl2 : lv_has ls 16 [(8, .int (nI (k + 1))), (6, .int (nI 1)), (7, .int (nI (o 4 8 * 785 / 1000))), (5, .int (nI x)), (4, .ref (az 13)), (3, .ref (az 12)), (2, .ref (az 10)), (1, .ref (az 9)), (0, .ref (az 0))] := lv_sub hl [0, 1, 6, 7, 8, 9, 10, 11, 12] rfl
              apply ih (k := k + 1) <;> assumption
            · skip
              refine hv_if_gt (pc := 326) (tgt := 342) (a := ar 7 k) S.1 S.2.1 (by omega) dL_areSound_326 (by decide) (fun c_70 => ?_) (fun c9 => absurd c9 (by omega))
              refine lv_iconst (pc := 342) (v := nI 1) S.1 S.2.1 dL_areSound_342 (by decide) ?_
              refine lv_goto (pc := 343) (tgt := 347) S.1 S.2.1 dL_areSound_343 (by decide) ?_
              refine lv_istore (pc := 347) (lv' := [(6, .int (nI 1)), (12, .int (nI 6)), (11, .int (nI (w 0 k 0) - nI (o 4 8 * 785 / 1000))), (10, .int (nI (lsW (w 0 k) 6))), (9, .int (nI (smN (w 1 k) 6))), (8, .int (nI k)), (7, .int (nI (o 4 8 * 785 / 1000))), (5, .int (nI x)), (4, .ref (az 13)), (3, .ref (az 12)), (2, .ref (az 10)), (1, .ref (az 9)), (0, .ref (az 0))]) S.1 S.2.1 dL_areSound_347 hl (by decide) rfl (fun ls hl => ?_)
              refine lv_iinc (pc := 349) (v := nI (k + 1)) (lv' := [(8, .int (nI (k + 1))), (6, .int (nI 1)), (12, .int (nI 6)), (11, .int (nI (w 0 k 0) - nI (o 4 8 * 785 / 1000))), (10, .int (nI (lsW (w 0 k) 6))), (9, .int (nI (smN (w 1 k) 6))), (7, .int (nI (o 4 8 * 785 / 1000))), (5, .int (nI x)), (4, .ref (az 13)), (3, .ref (az 12)), (2, .ref (az 10)), (1, .ref (az 9)), (0, .ref (az 0))]) S.1 S.2.1 dL_areSound_349 hl (k := 5) rfl (by first | rfl | exact nI_add _ _) (by decide) rfl (fun ls hl => ?_)
              refine lv_goto (pc := 352) (tgt := 21) S.1 S.2.1 dL_areSound_352 (by decide) ?_
              refine W.widen (k := 186 * (k + 1)) (n := 1116 * (k + 1)) (by omega) (by omega) ?_
              have hi2 : (k + 1) + (n) = sc 3 := by omega
              have hl2 : lv_has ls 16 [(8, .int (nI (k + 1))), (6, .int (nI 1)), (7, .int (nI (o 4 8 * 785 / 1000))), (5, .int (nI x)), (4, .ref (az 13)), (3, .ref (az 12)), (2, .ref (az 10)), (1, .ref (az 9)), (0, .ref (az 0))] := lv_sub hl [0, 1, 6, 7, 8, 9, 10, 11, 12] rfl
              apply ih (k := k + 1) <;> assumption
          · skip
            have hfi := fiR_0 (a := w 0 k 0) (b := o 4 8 * 785 / 1000) (fun h9 => h13 h9.2)
            refine hv_icmp_ge (pc := 307) (tgt := 314) (a := w 0 k 0 - (o 4 8 * 785 / 1000)) (b := 13) S.1 S.2.1 (by omega) (by omega) dL_areSound_307 (by decide) (fun c_71 => ?_) (fun c9 => absurd c9 (by omega))
            refine lv_iconst (pc := 314) (v := nI 0) S.1 S.2.1 dL_areSound_314 (by decide) ?_
            refine hv_icmp_ne (pc := 315) (tgt := 346) (a := fiR (w 0 k 0) (o 4 8 * 785 / 1000)) (b := 0) S.1 S.2.1 (by omega) (by omega) dL_areSound_315 (by decide) (fun c9 => absurd c9 (by omega)) (fun c_72 => ?_)
            refine lv_aload_n (pc := 318) S.1 S.2.1 dL_areSound_318 rfl (lv_at hl 10 rfl) ?_
            refine lv_iconst (pc := 319) (v := nI 4) S.1 S.2.1 dL_areSound_319 (by decide) ?_
            refine lv_iload (pc := 320) S.1 S.2.1 dL_areSound_320 (lv_at hl 4 rfl) ?_
            refine lv_imul (pc := 322) S.1 S.2.1 dL_areSound_322 ?_
            refine hv_ti (y := nI (4 * k)) (pk_mul _ _) ?_
            refine lv_iconst (pc := 323) (v := nI 1) S.1 S.2.1 dL_areSound_323 (by decide) ?_
            refine lv_iadd (pc := 324) S.1 S.2.1 dL_areSound_324 ?_
            refine hv_ti (y := nI ((4 * k) + 1)) (nI_add _ _) ?_
            refine hv_iald (pc := 325) S hK hH 1 (hY.a1) rfl (vp_in_nI (show (4 * k) + 1 < 48 by omega) (by omega)) dL_areSound_325 ?_
            refine hv_ti (y := nI ((o 1) ((4 * k) + 1))) (hv_ld (by omega)) ?_
            refine hv_ti (y := nI (ar 7 k)) (by rw [hlc.1]) ?_
            by_cases h70 : ar 7 k = 0
            · skip
              refine hv_if_gt (pc := 326) (tgt := 342) (a := ar 7 k) S.1 S.2.1 (by omega) dL_areSound_326 (by decide) (fun c9 => absurd c9 (by omega)) (fun c_73 => ?_)
              have h60 : ez 1 k = 60 := by rw [hcn.2.2.1, h70]; rfl
              refine lv_aload_n (pc := 329) S.1 S.2.1 dL_areSound_329 rfl (lv_at hl 12 rfl) ?_
              refine lv_iload (pc := 330) S.1 S.2.1 dL_areSound_330 (lv_at hl 4 rfl) ?_
              refine lv_iconst (pc := 332) (v := nI 5) S.1 S.2.1 dL_areSound_332 (by decide) ?_
              refine lv_iconst (pc := 333) (v := nI 1) S.1 S.2.1 dL_areSound_333 (by decide) ?_
              refine hv_call (pc := 334) (va_runV (As := [.int (nI k), .int (nI 5), .int (nI 1)]) (rest := []) S (ys_about l hfl D cA ga φ H.size az tn tk tm tg sc ar w ez o o k 5 1 hY hI hT hk (by decide) (by decide)) (cwV 3 S.2.2.2.2 (gV tw_122 tw_123 tw_124 tw_1 tw_125) rfl rfl rfl (by decide +kernel) ⟨Nat.le_of_ble_eq_true rfl, Nat.le_of_ble_eq_true rfl⟩) (pre0_V hH hK hX hS hA (ycv hH hK hY)) rfl rfl hl.1 rfl (lv_room (Nat.le_of_ble_eq_true rfl)) dL_areSound_334 ⟨Nat.le_trans (show _ ≤ 2320 by omega) (Nat.le_of_ble_eq_true rfl), Nat.le_trans (show _ ≤ 13800 by omega) (Nat.le_of_ble_eq_true rfl)⟩) hS (af_le hH hS hA) (fun v_74 φ_75 H locs hw_v_74 hH hS => ?_)
              obtain ⟨rfl, hqv_74⟩ := hw_v_74
              rw [hqv_74] at hH
              refine hv_ti (y := nI (ez 1 k)) (rfl) ?_
              refine lv_bipush (pc := 337) (v := nI 60) S.1 S.2.1 dL_areSound_337 (by decide) ?_
              refine hv_icmp_ne (pc := 339) (tgt := 346) (a := ez 1 k) (b := 60) S.1 S.2.1 (by omega) (by omega) dL_areSound_339 (by decide) (fun c9 => absurd c9 (by omega)) (fun c_76 => ?_)
              refine lv_iconst (pc := 342) (v := nI 1) S.1 S.2.1 dL_areSound_342 (by decide) ?_
              refine lv_goto (pc := 343) (tgt := 347) S.1 S.2.1 dL_areSound_343 (by decide) ?_
              refine lv_istore (pc := 347) (lv' := [(6, .int (nI 1)), (12, .int (nI 6)), (11, .int (nI (w 0 k 0) - nI (o 4 8 * 785 / 1000))), (10, .int (nI (lsW (w 0 k) 6))), (9, .int (nI (smN (w 1 k) 6))), (8, .int (nI k)), (7, .int (nI (o 4 8 * 785 / 1000))), (5, .int (nI x)), (4, .ref (az 13)), (3, .ref (az 12)), (2, .ref (az 10)), (1, .ref (az 9)), (0, .ref (az 0))]) S.1 S.2.1 dL_areSound_347 hl (by decide) rfl (fun ls hl => ?_)
              refine lv_iinc (pc := 349) (v := nI (k + 1)) (lv' := [(8, .int (nI (k + 1))), (6, .int (nI 1)), (12, .int (nI 6)), (11, .int (nI (w 0 k 0) - nI (o 4 8 * 785 / 1000))), (10, .int (nI (lsW (w 0 k) 6))), (9, .int (nI (smN (w 1 k) 6))), (7, .int (nI (o 4 8 * 785 / 1000))), (5, .int (nI x)), (4, .ref (az 13)), (3, .ref (az 12)), (2, .ref (az 10)), (1, .ref (az 9)), (0, .ref (az 0))]) S.1 S.2.1 dL_areSound_349 hl (k := 5) rfl (by first | rfl | exact nI_add _ _) (by decide) rfl (fun ls hl => ?_)
              refine lv_goto (pc := 352) (tgt := 21) S.1 S.2.1 dL_areSound_352 (by decide) ?_
              refine W.widen (k := 186 * (k + 1)) (n := 1116 * (k + 1)) (by omega) (by omega) ?_
              have hi2 : (k + 1) + (n) = sc 3 := by omega
              have hl2 : lv_has ls 16 [(8, .int (nI (k + 1))), (6, .int (nI 1)), (7, .int (nI (o 4 8 * 785 / 1000))), (5, .int (nI x)), (4, .ref (az 13)), (3, .ref (az 12)), (2, .ref (az 10)), (1, .ref (az 9)), (0, .ref (az 0))] := lv_sub hl [0, 1, 6, 7, 8, 9, 10, 11, 12] rfl
              apply ih (k := k + 1) <;> assumption
            · skip
              refine hv_if_gt (pc := 326) (tgt := 342) (a := ar 7 k) S.1 S.2.1 (by omega) dL_areSound_326 (by decide) (fun c_77 => ?_) (fun c9 => absurd c9 (by omega))
              refine lv_iconst (pc := 342) (v := nI 1) S.1 S.2.1 dL_areSound_342 (by decide) ?_
              refine lv_goto (pc := 343) (tgt := 347) S.1 S.2.1 dL_areSound_343 (by decide) ?_
              refine lv_istore (pc := 347) (lv' := [(6, .int (nI 1)), (12, .int (nI 6)), (11, .int (nI (w 0 k 0) - nI (o 4 8 * 785 / 1000))), (10, .int (nI (lsW (w 0 k) 6))), (9, .int (nI (smN (w 1 k) 6))), (8, .int (nI k)), (7, .int (nI (o 4 8 * 785 / 1000))), (5, .int (nI x)), (4, .ref (az 13)), (3, .ref (az 12)), (2, .ref (az 10)), (1, .ref (az 9)), (0, .ref (az 0))]) S.1 S.2.1 dL_areSound_347 hl (by decide) rfl (fun ls hl => ?_)
              refine lv_iinc (pc := 349) (v := nI (k + 1)) (lv' := [(8, .int (nI (k + 1))), (6, .int (nI 1)), (12, .int (nI 6)), (11, .int (nI (w 0 k 0) - nI (o 4 8 * 785 / 1000))), (10, .int (nI (lsW (w 0 k) 6))), (9, .int (nI (smN (w 1 k) 6))), (7, .int (nI (o 4 8 * 785 / 1000))), (5, .int (nI x)), (4, .ref (az 13)), (3, .ref (az 12)), (2, .ref (az 10)), (1, .ref (az 9)), (0, .ref (az 0))]) S.1 S.2.1 dL_areSound_349 hl (k := 5) rfl (by first | rfl | exact nI_add _ _) (by decide) rfl (fun ls hl => ?_)
              refine lv_goto (pc := 352) (tgt := 21) S.1 S.2.1 dL_areSound_352 (by decide) ?_
              refine W.widen (k := 186 * (k + 1)) (n := 1116 * (k + 1)) (by omega) (by omega) ?_
              have hi2 : (k + 1) + (n) = sc 3 := by omega
              have hl2 : lv_has ls 16 [(8, .int (nI (k + 1))), (6, .int (nI 1)), (7, .int (nI (o 4 8 * 785 / 1000))), (5, .int (nI x)), (4, .ref (az 13)), (3, .ref (az 12)), (2, .ref (az 10)), (1, .ref (az 9)), (0, .ref (az 0))] := lv_sub hl [0, 1, 6, 7, 8, 9, 10, 11, 12] rfl
              apply ih (k := k + 1) <;> assumption
        · skip
          have hfi := fiR_0 (a := w 0 k 0) (b := o 4 8 * 785 / 1000) (fun h9 => hAw h9.1)
          refine lv_if_lt (pc := 300) (tgt := 314) S.1 S.2.1 dL_areSound_300 (by decide) (fun c_78 => ?_) (fun c9 => absurd c9 (fun h9 => h9 (neg_lt (by omega) (by omega))))
          refine lv_iconst (pc := 314) (v := nI 0) S.1 S.2.1 dL_areSound_314 (by decide) ?_
          refine hv_icmp_ne (pc := 315) (tgt := 346) (a := fiR (w 0 k 0) (o 4 8 * 785 / 1000)) (b := 0) S.1 S.2.1 (by omega) (by omega) dL_areSound_315 (by decide) (fun c9 => absurd c9 (by omega)) (fun c_79 => ?_)
          refine lv_aload_n (pc := 318) S.1 S.2.1 dL_areSound_318 rfl (lv_at hl 10 rfl) ?_
          refine lv_iconst (pc := 319) (v := nI 4) S.1 S.2.1 dL_areSound_319 (by decide) ?_
          refine lv_iload (pc := 320) S.1 S.2.1 dL_areSound_320 (lv_at hl 4 rfl) ?_
          refine lv_imul (pc := 322) S.1 S.2.1 dL_areSound_322 ?_
          refine hv_ti (y := nI (4 * k)) (pk_mul _ _) ?_
          refine lv_iconst (pc := 323) (v := nI 1) S.1 S.2.1 dL_areSound_323 (by decide) ?_
          refine lv_iadd (pc := 324) S.1 S.2.1 dL_areSound_324 ?_
          refine hv_ti (y := nI ((4 * k) + 1)) (nI_add _ _) ?_
          refine hv_iald (pc := 325) S hK hH 1 (hY.a1) rfl (vp_in_nI (show (4 * k) + 1 < 48 by omega) (by omega)) dL_areSound_325 ?_
          refine hv_ti (y := nI ((o 1) ((4 * k) + 1))) (hv_ld (by omega)) ?_
          refine hv_ti (y := nI (ar 7 k)) (by rw [hlc.1]) ?_
          by_cases h70 : ar 7 k = 0
          · skip
            refine hv_if_gt (pc := 326) (tgt := 342) (a := ar 7 k) S.1 S.2.1 (by omega) dL_areSound_326 (by decide) (fun c9 => absurd c9 (by omega)) (fun c_80 => ?_)
            have h60 : ez 1 k = 60 := by rw [hcn.2.2.1, h70]; rfl
            refine lv_aload_n (pc := 329) S.1 S.2.1 dL_areSound_329 rfl (lv_at hl 12 rfl) ?_
            refine lv_iload (pc := 330) S.1 S.2.1 dL_areSound_330 (lv_at hl 4 rfl) ?_
            refine lv_iconst (pc := 332) (v := nI 5) S.1 S.2.1 dL_areSound_332 (by decide) ?_
            refine lv_iconst (pc := 333) (v := nI 1) S.1 S.2.1 dL_areSound_333 (by decide) ?_
            refine hv_call (pc := 334) (va_runV (As := [.int (nI k), .int (nI 5), .int (nI 1)]) (rest := []) S (ys_about l hfl D cA ga φ H.size az tn tk tm tg sc ar w ez o o k 5 1 hY hI hT hk (by decide) (by decide)) (cwV 3 S.2.2.2.2 (gV tw_122 tw_123 tw_124 tw_1 tw_125) rfl rfl rfl (by decide +kernel) ⟨Nat.le_of_ble_eq_true rfl, Nat.le_of_ble_eq_true rfl⟩) (pre0_V hH hK hX hS hA (ycv hH hK hY)) rfl rfl hl.1 rfl (lv_room (Nat.le_of_ble_eq_true rfl)) dL_areSound_334 ⟨Nat.le_trans (show _ ≤ 2320 by omega) (Nat.le_of_ble_eq_true rfl), Nat.le_trans (show _ ≤ 13800 by omega) (Nat.le_of_ble_eq_true rfl)⟩) hS (af_le hH hS hA) (fun v_81 φ_82 H locs hw_v_81 hH hS => ?_)
            obtain ⟨rfl, hqv_81⟩ := hw_v_81
            rw [hqv_81] at hH
            refine hv_ti (y := nI (ez 1 k)) (rfl) ?_
            refine lv_bipush (pc := 337) (v := nI 60) S.1 S.2.1 dL_areSound_337 (by decide) ?_
            refine hv_icmp_ne (pc := 339) (tgt := 346) (a := ez 1 k) (b := 60) S.1 S.2.1 (by omega) (by omega) dL_areSound_339 (by decide) (fun c9 => absurd c9 (by omega)) (fun c_83 => ?_)
            refine lv_iconst (pc := 342) (v := nI 1) S.1 S.2.1 dL_areSound_342 (by decide) ?_
            refine lv_goto (pc := 343) (tgt := 347) S.1 S.2.1 dL_areSound_343 (by decide) ?_
            refine lv_istore (pc := 347) (lv' := [(6, .int (nI 1)), (12, .int (nI 6)), (11, .int (nI (w 0 k 0) - nI (o 4 8 * 785 / 1000))), (10, .int (nI (lsW (w 0 k) 6))), (9, .int (nI (smN (w 1 k) 6))), (8, .int (nI k)), (7, .int (nI (o 4 8 * 785 / 1000))), (5, .int (nI x)), (4, .ref (az 13)), (3, .ref (az 12)), (2, .ref (az 10)), (1, .ref (az 9)), (0, .ref (az 0))]) S.1 S.2.1 dL_areSound_347 hl (by decide) rfl (fun ls hl => ?_)
            refine lv_iinc (pc := 349) (v := nI (k + 1)) (lv' := [(8, .int (nI (k + 1))), (6, .int (nI 1)), (12, .int (nI 6)), (11, .int (nI (w 0 k 0) - nI (o 4 8 * 785 / 1000))), (10, .int (nI (lsW (w 0 k) 6))), (9, .int (nI (smN (w 1 k) 6))), (7, .int (nI (o 4 8 * 785 / 1000))), (5, .int (nI x)), (4, .ref (az 13)), (3, .ref (az 12)), (2, .ref (az 10)), (1, .ref (az 9)), (0, .ref (az 0))]) S.1 S.2.1 dL_areSound_349 hl (k := 5) rfl (by first | rfl | exact nI_add _ _) (by decide) rfl (fun ls hl => ?_)
            refine lv_goto (pc := 352) (tgt := 21) S.1 S.2.1 dL_areSound_352 (by decide) ?_
            refine W.widen (k := 186 * (k + 1)) (n := 1116 * (k + 1)) (by omega) (by omega) ?_
            have hi2 : (k + 1) + (n) = sc 3 := by omega
            have hl2 : lv_has ls 16 [(8, .int (nI (k + 1))), (6, .int (nI 1)), (7, .int (nI (o 4 8 * 785 / 1000))), (5, .int (nI x)), (4, .ref (az 13)), (3, .ref (az 12)), (2, .ref (az 10)), (1, .ref (az 9)), (0, .ref (az 0))] := lv_sub hl [0, 1, 6, 7, 8, 9, 10, 11, 12] rfl
            apply ih (k := k + 1) <;> assumption
          · skip
            refine hv_if_gt (pc := 326) (tgt := 342) (a := ar 7 k) S.1 S.2.1 (by omega) dL_areSound_326 (by decide) (fun c_84 => ?_) (fun c9 => absurd c9 (by omega))
            refine lv_iconst (pc := 342) (v := nI 1) S.1 S.2.1 dL_areSound_342 (by decide) ?_
            refine lv_goto (pc := 343) (tgt := 347) S.1 S.2.1 dL_areSound_343 (by decide) ?_
            refine lv_istore (pc := 347) (lv' := [(6, .int (nI 1)), (12, .int (nI 6)), (11, .int (nI (w 0 k 0) - nI (o 4 8 * 785 / 1000))), (10, .int (nI (lsW (w 0 k) 6))), (9, .int (nI (smN (w 1 k) 6))), (8, .int (nI k)), (7, .int (nI (o 4 8 * 785 / 1000))), (5, .int (nI x)), (4, .ref (az 13)), (3, .ref (az 12)), (2, .ref (az 10)), (1, .ref (az 9)), (0, .ref (az 0))]) S.1 S.2.1 dL_areSound_347 hl (by decide) rfl (fun ls hl => ?_)
            refine lv_iinc (pc := 349) (v := nI (k + 1)) (lv' := [(8, .int (nI (k + 1))), (6, .int (nI 1)), (12, .int (nI 6)), (11, .int (nI (w 0 k 0) - nI (o 4 8 * 785 / 1000))), (10, .int (nI (lsW (w 0 k) 6))), (9, .int (nI (smN (w 1 k) 6))), (7, .int (nI (o 4 8 * 785 / 1000))), (5, .int (nI x)), (4, .ref (az 13)), (3, .ref (az 12)), (2, .ref (az 10)), (1, .ref (az 9)), (0, .ref (az 0))]) S.1 S.2.1 dL_areSound_349 hl (k := 5) rfl (by first | rfl | exact nI_add _ _) (by decide) rfl (fun ls hl => ?_)
            refine lv_goto (pc := 352) (tgt := 21) S.1 S.2.1 dL_areSound_352 (by decide) ?_
            refine W.widen (k := 186 * (k + 1)) (n := 1116 * (k + 1)) (by omega) (by omega) ?_
            have hi2 : (k + 1) + (n) = sc 3 := by omega
            have hl2 : lv_has ls 16 [(8, .int (nI (k + 1))), (6, .int (nI 1)), (7, .int (nI (o 4 8 * 785 / 1000))), (5, .int (nI x)), (4, .ref (az 13)), (3, .ref (az 12)), (2, .ref (az 10)), (1, .ref (az 9)), (0, .ref (az 0))] := lv_sub hl [0, 1, 6, 7, 8, 9, 10, 11, 12] rfl
            apply ih (k := k + 1) <;> assumption
      | succ j ihb =>
        refine lv_iload (pc := 58) S.1 S.2.1 dL_areSound_58 (lv_at hl 0 rfl) ?_
        refine lv_bipush (pc := 60) (v := nI 6) S.1 S.2.1 dL_areSound_60 (by decide) ?_
        refine hv_icmp_ge (pc := 62) (tgt := 276) (a := b) (b := 6) S.1 S.2.1 (by omega) (by omega) dL_areSound_62 (by decide) (fun c9 => absurd c9 (by omega)) (fun c_85 => ?_)
        refine lv_iload (pc := 65) S.1 S.2.1 dL_areSound_65 (lv_at hl 5 rfl) ?_
        refine hv_if_eq (pc := 67) (tgt := 276) (a := 1) S.1 S.2.1 (by omega) dL_areSound_67 (by decide) (fun c9 => absurd c9 (by omega)) (fun c_86 => ?_)
        have hb : b < 6 := by omega
        have hwp := hI.wp hk hb
        have hw12 := hcn.1 b
        have hg5 := hcn.2.1 b
        have hgp := hcn.2.2.2.2.2.1 b hb
        have hls := hI.ls hk hb
        have hsm := smN_le hcn.2.1 b
        have hwf := hI.wf hk hb he0
        have hls2 := hls.2.1 he0
        have hwh : w 0 k b * ez 1 k ≤ 1200 * 60 := Nat.mul_le_mul hw12 hht.2
        have hwh0 : 0 < w 0 k b * ez 1 k := Nat.mul_pos (by omega) hht.1
        have hdne : ¬ nI (w 0 k b * ez 1 k) = 0 := fun h9 => by have := jI_inj (h9.trans nI_0.symm) (by omega) (by decide); omega
        have hq31 : w 1 k b * 100000 / (w 0 k b * ez 1 k) < 2 ^ 31 := Nat.lt_of_le_of_lt (Nat.div_le_self _ _) (by omega)
        refine lv_aload_n (pc := 70) S.1 S.2.1 dL_areSound_70 rfl (lv_at hl 12 rfl) ?_
        refine lv_iload (pc := 71) S.1 S.2.1 dL_areSound_71 (lv_at hl 4 rfl) ?_
        refine lv_iload (pc := 73) S.1 S.2.1 dL_areSound_73 (lv_at hl 0 rfl) ?_
        refine lv_iconst (pc := 75) (v := nI 0) S.1 S.2.1 dL_areSound_75 (by decide) ?_
        refine hv_call (pc := 76) (va_runV (As := [.int (nI k), .int (nI b), .int (nI 0)]) (rest := []) S (ys_about l hfl D cA ga φ H.size az tn tk tm tg sc ar w ez o o k b 0 hY hI hT hk hb (by decide)) (cwV 3 S.2.2.2.2 (gV tw_122 tw_123 tw_124 tw_1 tw_125) rfl rfl rfl (by decide +kernel) ⟨Nat.le_of_ble_eq_true rfl, Nat.le_of_ble_eq_true rfl⟩) (pre0_V hH hK hX hS hA (ycv hH hK hY)) rfl rfl hl.1 rfl (lv_room (Nat.le_of_ble_eq_true rfl)) dL_areSound_76 ⟨Nat.le_trans (show _ ≤ 2320 by omega) (Nat.le_of_ble_eq_true rfl), Nat.le_trans (show _ ≤ 13800 by omega) (Nat.le_of_ble_eq_true rfl)⟩) hS (af_le hH hS hA) (fun v_87 φ_88 H locs hw_v_87 hH hS => ?_)
        obtain ⟨rfl, hqv_87⟩ := hw_v_87
        rw [hqv_87] at hH
        refine hv_ti (y := nI (w 0 k b)) (rfl) ?_
        refine lv_istore (pc := 79) (lv' := [(13, .int (nI (w 0 k b))), (12, .int (nI b)), (11, .int (nI (w 0 k 0) - nI (o 4 8 * 785 / 1000))), (10, .int (nI (lsW (w 0 k) b))), (9, .int (nI (smN (w 1 k) b))), (8, .int (nI k)), (6, .int (nI 1)), (7, .int (nI (o 4 8 * 785 / 1000))), (5, .int (nI x)), (4, .ref (az 13)), (3, .ref (az 12)), (2, .ref (az 10)), (1, .ref (az 9)), (0, .ref (az 0))]) S.1 S.2.1 dL_areSound_79 hl (by decide) rfl (fun ls hl => ?_)
        refine lv_aload_n (pc := 81) S.1 S.2.1 dL_areSound_81 rfl (lv_at hl 13 rfl) ?_
        refine lv_iload (pc := 82) S.1 S.2.1 dL_areSound_82 (lv_at hl 5 rfl) ?_
        refine lv_iload (pc := 84) S.1 S.2.1 dL_areSound_84 (lv_at hl 1 rfl) ?_
        refine lv_iconst (pc := 86) (v := nI 1) S.1 S.2.1 dL_areSound_86 (by decide) ?_
        refine hv_call (pc := 87) (va_runV (As := [.int (nI k), .int (nI b), .int (nI 1)]) (rest := []) S (ys_about l hfl D cA ga φ H.size az tn tk tm tg sc ar w ez o o k b 1 hY hI hT hk hb (by decide)) (cwV 3 S.2.2.2.2 (gV tw_122 tw_123 tw_124 tw_1 tw_125) rfl rfl rfl (by decide +kernel) ⟨Nat.le_of_ble_eq_true rfl, Nat.le_of_ble_eq_true rfl⟩) (pre0_V hH hK hX hS hA (ycv hH hK hY)) rfl rfl hl.1 rfl (lv_room (Nat.le_of_ble_eq_true rfl)) dL_areSound_87 ⟨Nat.le_trans (show _ ≤ 2320 by omega) (Nat.le_of_ble_eq_true rfl), Nat.le_trans (show _ ≤ 13800 by omega) (Nat.le_of_ble_eq_true rfl)⟩) hS (af_le hH hS hA) (fun v_89 φ_90 H locs hw_v_89 hH hS => ?_)
        obtain ⟨rfl, hqv_89⟩ := hw_v_89
        rw [hqv_89] at hH
        refine hv_ti (y := nI (ez 1 k)) (rfl) ?_
        refine lv_istore (pc := 90) (lv' := [(14, .int (nI (ez 1 k))), (13, .int (nI (w 0 k b))), (12, .int (nI b)), (11, .int (nI (w 0 k 0) - nI (o 4 8 * 785 / 1000))), (10, .int (nI (lsW (w 0 k) b))), (9, .int (nI (smN (w 1 k) b))), (8, .int (nI k)), (6, .int (nI 1)), (7, .int (nI (o 4 8 * 785 / 1000))), (5, .int (nI x)), (4, .ref (az 13)), (3, .ref (az 12)), (2, .ref (az 10)), (1, .ref (az 9)), (0, .ref (az 0))]) S.1 S.2.1 dL_areSound_90 hl (by decide) rfl (fun ls hl => ?_)
        refine lv_aload_n (pc := 92) S.1 S.2.1 dL_areSound_92 rfl (lv_at hl 14 rfl) ?_
        refine lv_iload (pc := 93) S.1 S.2.1 dL_areSound_93 (lv_at hl 6 rfl) ?_
        refine lv_iload (pc := 95) S.1 S.2.1 dL_areSound_95 (lv_at hl 2 rfl) ?_
        refine lv_iconst (pc := 97) (v := nI 2) S.1 S.2.1 dL_areSound_97 (by decide) ?_
        refine hv_call (pc := 98) (va_runV (As := [.int (nI k), .int (nI b), .int (nI 2)]) (rest := []) S (ys_about l hfl D cA ga φ H.size az tn tk tm tg sc ar w ez o o k b 2 hY hI hT hk hb (by decide)) (cwV 3 S.2.2.2.2 (gV tw_122 tw_123 tw_124 tw_1 tw_125) rfl rfl rfl (by decide +kernel) ⟨Nat.le_of_ble_eq_true rfl, Nat.le_of_ble_eq_true rfl⟩) (pre0_V hH hK hX hS hA (ycv hH hK hY)) rfl rfl hl.1 rfl (lv_room (Nat.le_of_ble_eq_true rfl)) dL_areSound_98 ⟨Nat.le_trans (show _ ≤ 2320 by omega) (Nat.le_of_ble_eq_true rfl), Nat.le_trans (show _ ≤ 13800 by omega) (Nat.le_of_ble_eq_true rfl)⟩) hS (af_le hH hS hA) (fun v_91 φ_92 H locs hw_v_91 hH hS => ?_)
        obtain ⟨rfl, hqv_91⟩ := hw_v_91
        rw [hqv_91] at hH
        refine hv_ti (y := nI (w 1 k b)) (rfl) ?_
        refine lv_istore (pc := 101) (lv' := [(15, .int (nI (w 1 k b))), (14, .int (nI (ez 1 k))), (13, .int (nI (w 0 k b))), (12, .int (nI b)), (11, .int (nI (w 0 k 0) - nI (o 4 8 * 785 / 1000))), (10, .int (nI (lsW (w 0 k) b))), (9, .int (nI (smN (w 1 k) b))), (8, .int (nI k)), (6, .int (nI 1)), (7, .int (nI (o 4 8 * 785 / 1000))), (5, .int (nI x)), (4, .ref (az 13)), (3, .ref (az 12)), (2, .ref (az 10)), (1, .ref (az 9)), (0, .ref (az 0))]) S.1 S.2.1 dL_areSound_101 hl (by decide) rfl (fun ls hl => ?_)
        refine lv_iload (pc := 103) S.1 S.2.1 dL_areSound_103 (lv_at hl 6 rfl) ?_
        refine lv_iload (pc := 105) S.1 S.2.1 dL_areSound_105 (lv_at hl 0 rfl) ?_
        refine lv_iadd (pc := 107) S.1 S.2.1 dL_areSound_107 ?_
        refine hv_ti (y := nI ((smN (w 1 k) b) + (w 1 k b))) (nI_add _ _) ?_
        refine hv_ti (y := nI (smN (w 1 k) (b + 1))) (rfl) ?_
        refine lv_istore (pc := 108) (lv' := [(9, .int (nI (smN (w 1 k) (b + 1)))), (15, .int (nI (w 1 k b))), (14, .int (nI (ez 1 k))), (13, .int (nI (w 0 k b))), (12, .int (nI b)), (11, .int (nI (w 0 k 0) - nI (o 4 8 * 785 / 1000))), (10, .int (nI (lsW (w 0 k) b))), (8, .int (nI k)), (6, .int (nI 1)), (7, .int (nI (o 4 8 * 785 / 1000))), (5, .int (nI x)), (4, .ref (az 13)), (3, .ref (az 12)), (2, .ref (az 10)), (1, .ref (az 9)), (0, .ref (az 0))]) S.1 S.2.1 dL_areSound_108 hl (by decide) rfl (fun ls hl => ?_)
        refine lv_iload (pc := 110) S.1 S.2.1 dL_areSound_110 (lv_at hl 3 rfl) ?_
        refine lv_bipush (pc := 112) (v := nI 49) S.1 S.2.1 dL_areSound_112 (by decide) ?_
        refine hv_icmp_le (pc := 114) (tgt := 263) (a := w 0 k b) (b := 49) S.1 S.2.1 (by omega) (by omega) dL_areSound_114 (by decide) (fun c9 => absurd c9 (by omega)) (fun c_93 => ?_)
        refine lv_iload (pc := 117) S.1 S.2.1 dL_areSound_117 (lv_at hl 3 rfl) ?_
        refine lv_sipush (pc := 119) (v := nI 1200) S.1 S.2.1 dL_areSound_119 (by decide) ?_
        refine lv_aload_n (pc := 122) S.1 S.2.1 dL_areSound_122 rfl (lv_at hl 13 rfl) ?_
        refine lv_iconst (pc := 123) (v := nI 4) S.1 S.2.1 dL_areSound_123 (by decide) ?_
        refine lv_iload (pc := 124) S.1 S.2.1 dL_areSound_124 (lv_at hl 7 rfl) ?_
        refine lv_imul (pc := 126) S.1 S.2.1 dL_areSound_126 ?_
        refine hv_ti (y := nI (4 * k)) (pk_mul _ _) ?_
        refine lv_iconst (pc := 127) (v := nI 2) S.1 S.2.1 dL_areSound_127 (by decide) ?_
        refine lv_iadd (pc := 128) S.1 S.2.1 dL_areSound_128 ?_
        refine hv_ti (y := nI ((4 * k) + 2)) (nI_add _ _) ?_
        refine hv_iald (pc := 129) S hK hH 1 (hY.a1) rfl (vp_in_nI (show (4 * k) + 2 < 48 by omega) (by omega)) dL_areSound_129 ?_
        refine hv_ti (y := nI ((o 1) ((4 * k) + 2))) (hv_ld (by omega)) ?_
        refine hv_ti (y := nI 0) (by rw [hlc.2.1, if_pos he0]) ?_
        refine hv_if_le (pc := 130) (tgt := 137) (a := 0) S.1 S.2.1 (by omega) dL_areSound_130 (by decide) (fun c_94 => ?_) (fun c9 => absurd c9 (by omega))
        refine lv_sipush (pc := 137) (v := nI 150) S.1 S.2.1 dL_areSound_137 (by decide) ?_
        refine lv_iload (pc := 140) S.1 S.2.1 dL_areSound_140 (lv_at hl 4 rfl) ?_
        refine lv_imul (pc := 142) S.1 S.2.1 dL_areSound_142 ?_
        refine hv_ti (y := nI (150 * b)) (pk_mul _ _) ?_
        refine lv_isub (pc := 143) S.1 S.2.1 dL_areSound_143 ?_
        refine hv_ti (y := nI (1200 - (150 * b))) (pk_sub (by omega)) ?_
        refine hv_icmp_gt (pc := 144) (tgt := 263) (a := w 0 k b) (b := 1200 - (150 * b)) S.1 S.2.1 (by omega) (by omega) dL_areSound_144 (by decide) (fun c9 => absurd c9 (by omega)) (fun c_95 => ?_)
        refine lv_aload_n (pc := 147) S.1 S.2.1 dL_areSound_147 rfl (lv_at hl 13 rfl) ?_
        refine lv_iconst (pc := 148) (v := nI 4) S.1 S.2.1 dL_areSound_148 (by decide) ?_
        refine lv_iload (pc := 149) S.1 S.2.1 dL_areSound_149 (lv_at hl 7 rfl) ?_
        refine lv_imul (pc := 151) S.1 S.2.1 dL_areSound_151 ?_
        refine hv_ti (y := nI (4 * k)) (pk_mul _ _) ?_
        refine lv_iconst (pc := 152) (v := nI 2) S.1 S.2.1 dL_areSound_152 (by decide) ?_
        refine lv_iadd (pc := 153) S.1 S.2.1 dL_areSound_153 ?_
        refine hv_ti (y := nI ((4 * k) + 2)) (nI_add _ _) ?_
        refine hv_iald (pc := 154) S hK hH 1 (hY.a1) rfl (vp_in_nI (show (4 * k) + 2 < 48 by omega) (by omega)) dL_areSound_154 ?_
        refine hv_ti (y := nI ((o 1) ((4 * k) + 2))) (hv_ld (by omega)) ?_
        refine hv_ti (y := nI 0) (by rw [hlc.2.1, if_pos he0]) ?_
        refine hv_if_le (pc := 155) (tgt := 168) (a := 0) S.1 S.2.1 (by omega) dL_areSound_155 (by decide) (fun c_96 => ?_) (fun c9 => absurd c9 (by omega))
        refine lv_iload (pc := 168) S.1 S.2.1 dL_areSound_168 (lv_at hl 3 rfl) ?_
        refine lv_iload (pc := 170) S.1 S.2.1 dL_areSound_170 (lv_at hl 6 rfl) ?_
        refine hv_icmp_ge (pc := 172) (tgt := 263) (a := w 0 k b) (b := lsW (w 0 k) b) S.1 S.2.1 (by omega) (by omega) dL_areSound_172 (by decide) (fun c9 => absurd c9 (by omega)) (fun c_97 => ?_)
        refine lv_iload (pc := 175) S.1 S.2.1 dL_areSound_175 (lv_at hl 2 rfl) ?_
        refine hv_if_le (pc := 177) (tgt := 263) (a := ez 1 k) S.1 S.2.1 (by omega) dL_areSound_177 (by decide) (fun c9 => absurd c9 (by omega)) (fun c_98 => ?_)
        refine lv_iload (pc := 180) S.1 S.2.1 dL_areSound_180 (lv_at hl 2 rfl) ?_
        refine lv_bipush (pc := 182) (v := nI 60) S.1 S.2.1 dL_areSound_182 (by decide) ?_
        refine hv_icmp_gt (pc := 184) (tgt := 263) (a := ez 1 k) (b := 60) S.1 S.2.1 (by omega) (by omega) dL_areSound_184 (by decide) (fun c9 => absurd c9 (by omega)) (fun c_99 => ?_)
        refine lv_iload (pc := 187) S.1 S.2.1 dL_areSound_187 (lv_at hl 1 rfl) ?_
        refine hv_if_le (pc := 189) (tgt := 263) (a := w 1 k b) S.1 S.2.1 (by omega) dL_areSound_189 (by decide) (fun c9 => absurd c9 (by omega)) (fun c_100 => ?_)
        refine lv_aload_n (pc := 192) S.1 S.2.1 dL_areSound_192 rfl (lv_at hl 15 rfl) ?_
        refine lv_iload (pc := 193) S.1 S.2.1 dL_areSound_193 (lv_at hl 7 rfl) ?_
        refine lv_iload (pc := 195) S.1 S.2.1 dL_areSound_195 (lv_at hl 4 rfl) ?_
        refine lv_iconst (pc := 197) (v := nI 3) S.1 S.2.1 dL_areSound_197 (by decide) ?_
        refine hv_call (pc := 198) (va_runV (As := [.int (nI k), .int (nI b), .int (nI 3)]) (rest := []) S (ys_about l hfl D cA ga φ H.size az tn tk tm tg sc ar w ez o o k b 3 hY hI hT hk hb (by decide)) (cwV 3 S.2.2.2.2 (gV tw_122 tw_123 tw_124 tw_1 tw_125) rfl rfl rfl (by decide +kernel) ⟨Nat.le_of_ble_eq_true rfl, Nat.le_of_ble_eq_true rfl⟩) (pre0_V hH hK hX hS hA (ycv hH hK hY)) rfl rfl hl.1 rfl (lv_room (Nat.le_of_ble_eq_true rfl)) dL_areSound_198 ⟨Nat.le_trans (show _ ≤ 2320 by omega) (Nat.le_of_ble_eq_true rfl), Nat.le_trans (show _ ≤ 13800 by omega) (Nat.le_of_ble_eq_true rfl)⟩) hS (af_le hH hS hA) (fun v_101 φ_102 H locs hw_v_101 hH hS => ?_)
        obtain ⟨rfl, hqv_101⟩ := hw_v_101
        rw [hqv_101] at hH
        refine hv_ti (y := nI (w 1 k b * 100000 / (w 0 k b * ez 1 k))) (rfl) ?_
        refine lv_iload (pc := 201) S.1 S.2.1 dL_areSound_201 (lv_at hl 1 rfl) ?_
        refine lv_ldc (pc := 203) (v := nI 100000) S.1 S.2.1 S.2.2.2.1 (S.2.2.2.2 _ tw_899) dL_areSound_203 ?_
        refine lv_imul (pc := 205) S.1 S.2.1 dL_areSound_205 ?_
        refine hv_ti (y := nI ((w 1 k b) * 100000)) (pk_mul _ _) ?_
        refine lv_iload (pc := 206) S.1 S.2.1 dL_areSound_206 (lv_at hl 3 rfl) ?_
        refine lv_iload (pc := 208) S.1 S.2.1 dL_areSound_208 (lv_at hl 2 rfl) ?_
        refine lv_imul (pc := 210) S.1 S.2.1 dL_areSound_210 ?_
        refine hv_ti (y := nI ((w 0 k b) * (ez 1 k))) (pk_mul _ _) ?_
        refine lv_idiv (pc := 211) S.1 S.2.1 dL_areSound_211 (by assumption) ?_
        refine hv_ti (y := nI (((w 1 k b) * 100000) / ((w 0 k b) * (ez 1 k)))) (pk_div (by omega) (by omega) (by omega)) ?_
        refine hv_icmp_ne (pc := 212) (tgt := 263) (a := w 1 k b * 100000 / (w 0 k b * ez 1 k)) (b := ((w 1 k b) * 100000) / ((w 0 k b) * (ez 1 k))) S.1 S.2.1 (by omega) (by omega) dL_areSound_212 (by decide) (fun c9 => absurd c9 (by omega)) (fun c_103 => ?_)
        refine lv_iload (pc := 215) S.1 S.2.1 dL_areSound_215 (lv_at hl 7 rfl) ?_
        refine lv_iload (pc := 217) S.1 S.2.1 dL_areSound_217 (lv_at hl 4 rfl) ?_
        refine lv_iadd (pc := 219) S.1 S.2.1 dL_areSound_219 ?_
        refine hv_ti (y := nI (k + b)) (nI_add _ _) ?_
        refine lv_iload (pc := 220) S.1 S.2.1 dL_areSound_220 (lv_at hl 10 rfl) ?_
        refine lv_iadd (pc := 222) S.1 S.2.1 dL_areSound_222 ?_
        refine hv_ti (y := nI ((k + b) + x)) (nI_add _ _) ?_
        refine lv_iconst (pc := 223) (v := nI 5) S.1 S.2.1 dL_areSound_223 (by decide) ?_
        refine lv_irem (pc := 224) S.1 S.2.1 dL_areSound_224 (by decide) ?_
        refine hv_ti (y := nI (((k + b) + x) % 5)) (pk_rem (by omega) (by omega) (by omega)) ?_
        by_cases h50 : (k + b + x) % 5 = 0
        · skip
          refine hv_if_gt (pc := 225) (tgt := 241) (a := ((k + b) + x) % 5) S.1 S.2.1 (by omega) dL_areSound_225 (by decide) (fun c9 => absurd c9 (by omega)) (fun c_104 => ?_)
          refine lv_aload_n (pc := 228) S.1 S.2.1 dL_areSound_228 rfl (lv_at hl 15 rfl) ?_
          refine lv_iload (pc := 229) S.1 S.2.1 dL_areSound_229 (lv_at hl 7 rfl) ?_
          refine lv_iload (pc := 231) S.1 S.2.1 dL_areSound_231 (lv_at hl 4 rfl) ?_
          refine hv_call (pc := 233) (va_runV (As := [.int (nI k), .int (nI b)]) (rest := []) S (ys_widthAnew l hfl D cA ga φ H.size az tn tk tm tg sc ar w ez o o k b hY hI hT hk hb) (cwV 2 S.2.2.2.2 (gV tw_799 tw_800 tw_801 tw_1 tw_802) rfl rfl rfl (by decide +kernel) ⟨Nat.le_of_ble_eq_true rfl, Nat.le_of_ble_eq_true rfl⟩) (pre0_V hH hK hX hS hA (ycv hH hK hY)) rfl rfl hl.1 rfl (lv_room (Nat.le_of_ble_eq_true rfl)) dL_areSound_233 ⟨Nat.le_trans (show _ ≤ 2320 by omega) (Nat.le_of_ble_eq_true rfl), Nat.le_trans (show _ ≤ 13800 by omega) (Nat.le_of_ble_eq_true rfl)⟩) hS (af_le hH hS hA) (fun v_105 φ_106 H locs hw_v_105 hH hS => ?_)
          obtain ⟨rfl, hqv_105⟩ := hw_v_105
          rw [hqv_105] at hH
          refine lv_iload (pc := 236) S.1 S.2.1 dL_areSound_236 (lv_at hl 3 rfl) ?_
          refine hv_icmp_ne (pc := 238) (tgt := 263) (a := w 0 k b) (b := w 0 k b) S.1 S.2.1 (by omega) (by omega) dL_areSound_238 (by decide) (fun c9 => absurd c9 (by omega)) (fun c_107 => ?_)
          refine lv_iload (pc := 241) S.1 S.2.1 dL_areSound_241 (lv_at hl 4 rfl) ?_
          by_cases hb0 : b = 0
          · skip
            refine hv_if_eq (pc := 243) (tgt := 259) (a := b) S.1 S.2.1 (by omega) dL_areSound_243 (by decide) (fun c_108 => ?_) (fun c9 => absurd c9 (by omega))
            refine lv_iconst (pc := 259) (v := nI 1) S.1 S.2.1 dL_areSound_259 (by decide) ?_
            refine lv_goto (pc := 260) (tgt := 264) S.1 S.2.1 dL_areSound_260 (by decide) ?_
            refine lv_istore (pc := 264) (lv' := [(6, .int (nI 1)), (9, .int (nI (smN (w 1 k) (b + 1)))), (15, .int (nI (w 1 k b))), (14, .int (nI (ez 1 k))), (13, .int (nI (w 0 k b))), (12, .int (nI b)), (11, .int (nI (w 0 k 0) - nI (o 4 8 * 785 / 1000))), (10, .int (nI (lsW (w 0 k) b))), (8, .int (nI k)), (7, .int (nI (o 4 8 * 785 / 1000))), (5, .int (nI x)), (4, .ref (az 13)), (3, .ref (az 12)), (2, .ref (az 10)), (1, .ref (az 9)), (0, .ref (az 0))]) S.1 S.2.1 dL_areSound_264 hl (by decide) rfl (fun ls hl => ?_)
            refine lv_iload (pc := 266) S.1 S.2.1 dL_areSound_266 (lv_at hl 4 rfl) ?_
            refine lv_istore (pc := 268) (lv' := [(10, .int (nI (w 0 k b))), (6, .int (nI 1)), (9, .int (nI (smN (w 1 k) (b + 1)))), (15, .int (nI (w 1 k b))), (14, .int (nI (ez 1 k))), (13, .int (nI (w 0 k b))), (12, .int (nI b)), (11, .int (nI (w 0 k 0) - nI (o 4 8 * 785 / 1000))), (8, .int (nI k)), (7, .int (nI (o 4 8 * 785 / 1000))), (5, .int (nI x)), (4, .ref (az 13)), (3, .ref (az 12)), (2, .ref (az 10)), (1, .ref (az 9)), (0, .ref (az 0))]) S.1 S.2.1 dL_areSound_268 hl (by decide) rfl (fun ls hl => ?_)
            refine lv_iinc (pc := 270) (v := nI (b + 1)) (lv' := [(12, .int (nI (b + 1))), (10, .int (nI (w 0 k b))), (6, .int (nI 1)), (9, .int (nI (smN (w 1 k) (b + 1)))), (15, .int (nI (w 1 k b))), (14, .int (nI (ez 1 k))), (13, .int (nI (w 0 k b))), (11, .int (nI (w 0 k 0) - nI (o 4 8 * 785 / 1000))), (8, .int (nI k)), (7, .int (nI (o 4 8 * 785 / 1000))), (5, .int (nI x)), (4, .ref (az 13)), (3, .ref (az 12)), (2, .ref (az 10)), (1, .ref (az 9)), (0, .ref (az 0))]) S.1 S.2.1 dL_areSound_270 hl (k := 6) rfl (by first | rfl | exact nI_add _ _) (by decide) rfl (fun ls hl => ?_)
            refine lv_goto (pc := 273) (tgt := 58) S.1 S.2.1 dL_areSound_273 (by decide) ?_
            refine W.widen (k := 186 * k + 5 + 29 * (b + 1)) (n := 1116 * k + 30 + 174 * (b + 1)) (by omega) (by omega) ?_
            have hi2 : (b + 1) + j = 6 := by omega
            have hl2 : lv_has ls 16 [(12, .int (nI (b + 1))), (11, .int (nI (w 0 k 0) - nI (o 4 8 * 785 / 1000))), (10, .int (nI (lsW (w 0 k) (b + 1)))), (9, .int (nI (smN (w 1 k) (b + 1)))), (8, .int (nI k)), (6, .int (nI 1)), (7, .int (nI (o 4 8 * 785 / 1000))), (5, .int (nI x)), (4, .ref (az 13)), (3, .ref (az 12)), (2, .ref (az 10)), (1, .ref (az 9)), (0, .ref (az 0))] := lv_sub hl [0, 7, 1, 3, 8, 2, 9, 10, 11, 12, 13, 14, 15] rfl
            apply ihb (b := b + 1) <;> assumption
          · skip
            refine hv_if_eq (pc := 243) (tgt := 259) (a := b) S.1 S.2.1 (by omega) dL_areSound_243 (by decide) (fun c9 => absurd c9 (by omega)) (fun c_109 => ?_)
            refine lv_iload (pc := 246) S.1 S.2.1 dL_areSound_246 (lv_at hl 2 rfl) ?_
            refine lv_aload_n (pc := 248) S.1 S.2.1 dL_areSound_248 rfl (lv_at hl 15 rfl) ?_
            refine lv_iload (pc := 249) S.1 S.2.1 dL_areSound_249 (lv_at hl 7 rfl) ?_
            refine lv_iconst (pc := 251) (v := nI 0) S.1 S.2.1 dL_areSound_251 (by decide) ?_
            refine lv_iconst (pc := 252) (v := nI 1) S.1 S.2.1 dL_areSound_252 (by decide) ?_
            refine hv_call (pc := 253) (va_runV (As := [.int (nI k), .int (nI 0), .int (nI 1)]) (rest := [.int (nI (ez 1 k))]) S (ys_about l hfl D cA ga φ H.size az tn tk tm tg sc ar w ez o o k 0 1 hY hI hT hk (by decide) (by decide)) (cwV 3 S.2.2.2.2 (gV tw_122 tw_123 tw_124 tw_1 tw_125) rfl rfl rfl (by decide +kernel) ⟨Nat.le_of_ble_eq_true rfl, Nat.le_of_ble_eq_true rfl⟩) (pre0_V hH hK hX hS hA (ycv hH hK hY)) rfl rfl hl.1 rfl (lv_room (Nat.le_of_ble_eq_true rfl)) dL_areSound_253 ⟨Nat.le_trans (show _ ≤ 2320 by omega) (Nat.le_of_ble_eq_true rfl), Nat.le_trans (show _ ≤ 13800 by omega) (Nat.le_of_ble_eq_true rfl)⟩) hS (af_le hH hS hA) (fun v_110 φ_111 H locs hw_v_110 hH hS => ?_)
            obtain ⟨rfl, hqv_110⟩ := hw_v_110
            rw [hqv_110] at hH
            refine hv_ti (y := nI (ez 1 k)) (rfl) ?_
            refine hv_icmp_ne (pc := 256) (tgt := 263) (a := ez 1 k) (b := ez 1 k) S.1 S.2.1 (by omega) (by omega) dL_areSound_256 (by decide) (fun c9 => absurd c9 (by omega)) (fun c_112 => ?_)
            refine lv_iconst (pc := 259) (v := nI 1) S.1 S.2.1 dL_areSound_259 (by decide) ?_
            refine lv_goto (pc := 260) (tgt := 264) S.1 S.2.1 dL_areSound_260 (by decide) ?_
            refine lv_istore (pc := 264) (lv' := [(6, .int (nI 1)), (9, .int (nI (smN (w 1 k) (b + 1)))), (15, .int (nI (w 1 k b))), (14, .int (nI (ez 1 k))), (13, .int (nI (w 0 k b))), (12, .int (nI b)), (11, .int (nI (w 0 k 0) - nI (o 4 8 * 785 / 1000))), (10, .int (nI (lsW (w 0 k) b))), (8, .int (nI k)), (7, .int (nI (o 4 8 * 785 / 1000))), (5, .int (nI x)), (4, .ref (az 13)), (3, .ref (az 12)), (2, .ref (az 10)), (1, .ref (az 9)), (0, .ref (az 0))]) S.1 S.2.1 dL_areSound_264 hl (by decide) rfl (fun ls hl => ?_)
            refine lv_iload (pc := 266) S.1 S.2.1 dL_areSound_266 (lv_at hl 4 rfl) ?_
            refine lv_istore (pc := 268) (lv' := [(10, .int (nI (w 0 k b))), (6, .int (nI 1)), (9, .int (nI (smN (w 1 k) (b + 1)))), (15, .int (nI (w 1 k b))), (14, .int (nI (ez 1 k))), (13, .int (nI (w 0 k b))), (12, .int (nI b)), (11, .int (nI (w 0 k 0) - nI (o 4 8 * 785 / 1000))), (8, .int (nI k)), (7, .int (nI (o 4 8 * 785 / 1000))), (5, .int (nI x)), (4, .ref (az 13)), (3, .ref (az 12)), (2, .ref (az 10)), (1, .ref (az 9)), (0, .ref (az 0))]) S.1 S.2.1 dL_areSound_268 hl (by decide) rfl (fun ls hl => ?_)
            refine lv_iinc (pc := 270) (v := nI (b + 1)) (lv' := [(12, .int (nI (b + 1))), (10, .int (nI (w 0 k b))), (6, .int (nI 1)), (9, .int (nI (smN (w 1 k) (b + 1)))), (15, .int (nI (w 1 k b))), (14, .int (nI (ez 1 k))), (13, .int (nI (w 0 k b))), (11, .int (nI (w 0 k 0) - nI (o 4 8 * 785 / 1000))), (8, .int (nI k)), (7, .int (nI (o 4 8 * 785 / 1000))), (5, .int (nI x)), (4, .ref (az 13)), (3, .ref (az 12)), (2, .ref (az 10)), (1, .ref (az 9)), (0, .ref (az 0))]) S.1 S.2.1 dL_areSound_270 hl (k := 6) rfl (by first | rfl | exact nI_add _ _) (by decide) rfl (fun ls hl => ?_)
            refine lv_goto (pc := 273) (tgt := 58) S.1 S.2.1 dL_areSound_273 (by decide) ?_
            refine W.widen (k := 186 * k + 5 + 29 * (b + 1)) (n := 1116 * k + 30 + 174 * (b + 1)) (by omega) (by omega) ?_
            have hi2 : (b + 1) + j = 6 := by omega
            have hl2 : lv_has ls 16 [(12, .int (nI (b + 1))), (11, .int (nI (w 0 k 0) - nI (o 4 8 * 785 / 1000))), (10, .int (nI (lsW (w 0 k) (b + 1)))), (9, .int (nI (smN (w 1 k) (b + 1)))), (8, .int (nI k)), (6, .int (nI 1)), (7, .int (nI (o 4 8 * 785 / 1000))), (5, .int (nI x)), (4, .ref (az 13)), (3, .ref (az 12)), (2, .ref (az 10)), (1, .ref (az 9)), (0, .ref (az 0))] := lv_sub hl [0, 7, 1, 3, 8, 2, 9, 10, 11, 12, 13, 14, 15] rfl
            apply ihb (b := b + 1) <;> assumption
        · skip
          refine hv_if_gt (pc := 225) (tgt := 241) (a := ((k + b) + x) % 5) S.1 S.2.1 (by omega) dL_areSound_225 (by decide) (fun c_113 => ?_) (fun c9 => absurd c9 (by omega))
          refine lv_iload (pc := 241) S.1 S.2.1 dL_areSound_241 (lv_at hl 4 rfl) ?_
          by_cases hb0 : b = 0
          · skip
            refine hv_if_eq (pc := 243) (tgt := 259) (a := b) S.1 S.2.1 (by omega) dL_areSound_243 (by decide) (fun c_114 => ?_) (fun c9 => absurd c9 (by omega))
            refine lv_iconst (pc := 259) (v := nI 1) S.1 S.2.1 dL_areSound_259 (by decide) ?_
            refine lv_goto (pc := 260) (tgt := 264) S.1 S.2.1 dL_areSound_260 (by decide) ?_
            refine lv_istore (pc := 264) (lv' := [(6, .int (nI 1)), (9, .int (nI (smN (w 1 k) (b + 1)))), (15, .int (nI (w 1 k b))), (14, .int (nI (ez 1 k))), (13, .int (nI (w 0 k b))), (12, .int (nI b)), (11, .int (nI (w 0 k 0) - nI (o 4 8 * 785 / 1000))), (10, .int (nI (lsW (w 0 k) b))), (8, .int (nI k)), (7, .int (nI (o 4 8 * 785 / 1000))), (5, .int (nI x)), (4, .ref (az 13)), (3, .ref (az 12)), (2, .ref (az 10)), (1, .ref (az 9)), (0, .ref (az 0))]) S.1 S.2.1 dL_areSound_264 hl (by decide) rfl (fun ls hl => ?_)
            refine lv_iload (pc := 266) S.1 S.2.1 dL_areSound_266 (lv_at hl 4 rfl) ?_
            refine lv_istore (pc := 268) (lv' := [(10, .int (nI (w 0 k b))), (6, .int (nI 1)), (9, .int (nI (smN (w 1 k) (b + 1)))), (15, .int (nI (w 1 k b))), (14, .int (nI (ez 1 k))), (13, .int (nI (w 0 k b))), (12, .int (nI b)), (11, .int (nI (w 0 k 0) - nI (o 4 8 * 785 / 1000))), (8, .int (nI k)), (7, .int (nI (o 4 8 * 785 / 1000))), (5, .int (nI x)), (4, .ref (az 13)), (3, .ref (az 12)), (2, .ref (az 10)), (1, .ref (az 9)), (0, .ref (az 0))]) S.1 S.2.1 dL_areSound_268 hl (by decide) rfl (fun ls hl => ?_)
            refine lv_iinc (pc := 270) (v := nI (b + 1)) (lv' := [(12, .int (nI (b + 1))), (10, .int (nI (w 0 k b))), (6, .int (nI 1)), (9, .int (nI (smN (w 1 k) (b + 1)))), (15, .int (nI (w 1 k b))), (14, .int (nI (ez 1 k))), (13, .int (nI (w 0 k b))), (11, .int (nI (w 0 k 0) - nI (o 4 8 * 785 / 1000))), (8, .int (nI k)), (7, .int (nI (o 4 8 * 785 / 1000))), (5, .int (nI x)), (4, .ref (az 13)), (3, .ref (az 12)), (2, .ref (az 10)), (1, .ref (az 9)), (0, .ref (az 0))]) S.1 S.2.1 dL_areSound_270 hl (k := 6) rfl (by first | rfl | exact nI_add _ _) (by decide) rfl (fun ls hl => ?_)
            refine lv_goto (pc := 273) (tgt := 58) S.1 S.2.1 dL_areSound_273 (by decide) ?_
            refine W.widen (k := 186 * k + 5 + 29 * (b + 1)) (n := 1116 * k + 30 + 174 * (b + 1)) (by omega) (by omega) ?_
            have hi2 : (b + 1) + j = 6 := by omega
            have hl2 : lv_has ls 16 [(12, .int (nI (b + 1))), (11, .int (nI (w 0 k 0) - nI (o 4 8 * 785 / 1000))), (10, .int (nI (lsW (w 0 k) (b + 1)))), (9, .int (nI (smN (w 1 k) (b + 1)))), (8, .int (nI k)), (6, .int (nI 1)), (7, .int (nI (o 4 8 * 785 / 1000))), (5, .int (nI x)), (4, .ref (az 13)), (3, .ref (az 12)), (2, .ref (az 10)), (1, .ref (az 9)), (0, .ref (az 0))] := lv_sub hl [0, 7, 1, 3, 8, 2, 9, 10, 11, 12, 13, 14, 15] rfl
            apply ihb (b := b + 1) <;> assumption
          · skip
            refine hv_if_eq (pc := 243) (tgt := 259) (a := b) S.1 S.2.1 (by omega) dL_areSound_243 (by decide) (fun c9 => absurd c9 (by omega)) (fun c_115 => ?_)
            refine lv_iload (pc := 246) S.1 S.2.1 dL_areSound_246 (lv_at hl 2 rfl) ?_
            refine lv_aload_n (pc := 248) S.1 S.2.1 dL_areSound_248 rfl (lv_at hl 15 rfl) ?_
            refine lv_iload (pc := 249) S.1 S.2.1 dL_areSound_249 (lv_at hl 7 rfl) ?_
            refine lv_iconst (pc := 251) (v := nI 0) S.1 S.2.1 dL_areSound_251 (by decide) ?_
            refine lv_iconst (pc := 252) (v := nI 1) S.1 S.2.1 dL_areSound_252 (by decide) ?_
            refine hv_call (pc := 253) (va_runV (As := [.int (nI k), .int (nI 0), .int (nI 1)]) (rest := [.int (nI (ez 1 k))]) S (ys_about l hfl D cA ga φ H.size az tn tk tm tg sc ar w ez o o k 0 1 hY hI hT hk (by decide) (by decide)) (cwV 3 S.2.2.2.2 (gV tw_122 tw_123 tw_124 tw_1 tw_125) rfl rfl rfl (by decide +kernel) ⟨Nat.le_of_ble_eq_true rfl, Nat.le_of_ble_eq_true rfl⟩) (pre0_V hH hK hX hS hA (ycv hH hK hY)) rfl rfl hl.1 rfl (lv_room (Nat.le_of_ble_eq_true rfl)) dL_areSound_253 ⟨Nat.le_trans (show _ ≤ 2320 by omega) (Nat.le_of_ble_eq_true rfl), Nat.le_trans (show _ ≤ 13800 by omega) (Nat.le_of_ble_eq_true rfl)⟩) hS (af_le hH hS hA) (fun v_116 φ_117 H locs hw_v_116 hH hS => ?_)
            obtain ⟨rfl, hqv_116⟩ := hw_v_116
            rw [hqv_116] at hH
            refine hv_ti (y := nI (ez 1 k)) (rfl) ?_
            refine hv_icmp_ne (pc := 256) (tgt := 263) (a := ez 1 k) (b := ez 1 k) S.1 S.2.1 (by omega) (by omega) dL_areSound_256 (by decide) (fun c9 => absurd c9 (by omega)) (fun c_118 => ?_)
            refine lv_iconst (pc := 259) (v := nI 1) S.1 S.2.1 dL_areSound_259 (by decide) ?_
            refine lv_goto (pc := 260) (tgt := 264) S.1 S.2.1 dL_areSound_260 (by decide) ?_
            refine lv_istore (pc := 264) (lv' := [(6, .int (nI 1)), (9, .int (nI (smN (w 1 k) (b + 1)))), (15, .int (nI (w 1 k b))), (14, .int (nI (ez 1 k))), (13, .int (nI (w 0 k b))), (12, .int (nI b)), (11, .int (nI (w 0 k 0) - nI (o 4 8 * 785 / 1000))), (10, .int (nI (lsW (w 0 k) b))), (8, .int (nI k)), (7, .int (nI (o 4 8 * 785 / 1000))), (5, .int (nI x)), (4, .ref (az 13)), (3, .ref (az 12)), (2, .ref (az 10)), (1, .ref (az 9)), (0, .ref (az 0))]) S.1 S.2.1 dL_areSound_264 hl (by decide) rfl (fun ls hl => ?_)
            refine lv_iload (pc := 266) S.1 S.2.1 dL_areSound_266 (lv_at hl 4 rfl) ?_
            refine lv_istore (pc := 268) (lv' := [(10, .int (nI (w 0 k b))), (6, .int (nI 1)), (9, .int (nI (smN (w 1 k) (b + 1)))), (15, .int (nI (w 1 k b))), (14, .int (nI (ez 1 k))), (13, .int (nI (w 0 k b))), (12, .int (nI b)), (11, .int (nI (w 0 k 0) - nI (o 4 8 * 785 / 1000))), (8, .int (nI k)), (7, .int (nI (o 4 8 * 785 / 1000))), (5, .int (nI x)), (4, .ref (az 13)), (3, .ref (az 12)), (2, .ref (az 10)), (1, .ref (az 9)), (0, .ref (az 0))]) S.1 S.2.1 dL_areSound_268 hl (by decide) rfl (fun ls hl => ?_)
            refine lv_iinc (pc := 270) (v := nI (b + 1)) (lv' := [(12, .int (nI (b + 1))), (10, .int (nI (w 0 k b))), (6, .int (nI 1)), (9, .int (nI (smN (w 1 k) (b + 1)))), (15, .int (nI (w 1 k b))), (14, .int (nI (ez 1 k))), (13, .int (nI (w 0 k b))), (11, .int (nI (w 0 k 0) - nI (o 4 8 * 785 / 1000))), (8, .int (nI k)), (7, .int (nI (o 4 8 * 785 / 1000))), (5, .int (nI x)), (4, .ref (az 13)), (3, .ref (az 12)), (2, .ref (az 10)), (1, .ref (az 9)), (0, .ref (az 0))]) S.1 S.2.1 dL_areSound_270 hl (k := 6) rfl (by first | rfl | exact nI_add _ _) (by decide) rfl (fun ls hl => ?_)
            refine lv_goto (pc := 273) (tgt := 58) S.1 S.2.1 dL_areSound_273 (by decide) ?_
            refine W.widen (k := 186 * k + 5 + 29 * (b + 1)) (n := 1116 * k + 30 + 174 * (b + 1)) (by omega) (by omega) ?_
            have hi2 : (b + 1) + j = 6 := by omega
            have hl2 : lv_has ls 16 [(12, .int (nI (b + 1))), (11, .int (nI (w 0 k 0) - nI (o 4 8 * 785 / 1000))), (10, .int (nI (lsW (w 0 k) (b + 1)))), (9, .int (nI (smN (w 1 k) (b + 1)))), (8, .int (nI k)), (6, .int (nI 1)), (7, .int (nI (o 4 8 * 785 / 1000))), (5, .int (nI x)), (4, .ref (az 13)), (3, .ref (az 12)), (2, .ref (az 10)), (1, .ref (az 9)), (0, .ref (az 0))] := lv_sub hl [0, 7, 1, 3, 8, 2, 9, 10, 11, 12, 13, 14, 15] rfl
            apply ihb (b := b + 1) <;> assumption
    · skip
      have hg : ∃ j b : Nat, (b + j = 6) ∧ lv_has ls 16 [(12, .int (nI b)), (11, .int (nI (w 0 k 0) - nI (o 4 8 * 785 / 1000))), (10, .int (nI (lsW (w 0 k) b))), (9, .int (nI (smN (w 1 k) b))), (8, .int (nI k)), (6, .int (nI 1)), (7, .int (nI (o 4 8 * 785 / 1000))), (5, .int (nI x)), (4, .ref (az 13)), (3, .ref (az 12)), (2, .ref (az 10)), (1, .ref (az 9)), (0, .ref (az 0))] := ⟨6, 0, by decide, lv_sub hl [0, 1, 2, 3, 4, 5, 6, 7, 8, 9, 10, 11, 12] rfl⟩
      clear hl
      try clear hHz
      obtain ⟨j, b, hi, hl⟩ := hg
      refine W.widen (k := 186 * k + 5 + 29 * b) (n := 1116 * k + 30 + 174 * b) (by omega) (by omega) ?_
      induction j generalizing ls H locs b with
      | zero =>
        have hb6 : b = 6 := by omega
        refine lv_iload (pc := 58) S.1 S.2.1 dL_areSound_58 (lv_at hl 0 rfl) ?_
        refine lv_bipush (pc := 60) (v := nI 6) S.1 S.2.1 dL_areSound_60 (by decide) ?_
        refine hv_icmp_ge (pc := 62) (tgt := 276) (a := b) (b := 6) S.1 S.2.1 (by omega) (by omega) dL_areSound_62 (by decide) (fun c_119 => ?_) (fun c9 => absurd c9 (by omega))
        refine lv_iload (pc := 276) S.1 S.2.1 dL_areSound_276 (lv_at hl 5 rfl) ?_
        refine hv_if_eq (pc := 278) (tgt := 346) (a := 1) S.1 S.2.1 (by omega) dL_areSound_278 (by decide) (fun c9 => absurd c9 (by omega)) (fun c_120 => ?_)
        subst hb6
        have hfe := hcn.2.2.2.2.2.2
        have hfe5 : smN (w 1 k) 6 < 2 ^ 31 := by have := smN_le hcn.2.1 6; omega
        refine lv_iload (pc := 281) S.1 S.2.1 dL_areSound_281 (lv_at hl 3 rfl) ?_
        refine lv_aload_n (pc := 283) S.1 S.2.1 dL_areSound_283 rfl (lv_at hl 10 rfl) ?_
        refine lv_iconst (pc := 284) (v := nI 4) S.1 S.2.1 dL_areSound_284 (by decide) ?_
        refine lv_iload (pc := 285) S.1 S.2.1 dL_areSound_285 (lv_at hl 4 rfl) ?_
        refine lv_imul (pc := 287) S.1 S.2.1 dL_areSound_287 ?_
        refine hv_ti (y := nI (4 * k)) (pk_mul _ _) ?_
        refine hv_iald (pc := 288) S hK hH 1 (hY.a1) rfl (vp_in_nI (show 4 * k < 48 by omega) (by omega)) dL_areSound_288 ?_
        refine hv_ti (y := nI ((o 1) (4 * k))) (hv_ld (by omega)) ?_
        refine hv_ti (y := nI (smN (w 1 k) 6)) (by rw [hfe]) ?_
        refine hv_icmp_ne (pc := 289) (tgt := 346) (a := smN (w 1 k) 6) (b := smN (w 1 k) 6) S.1 S.2.1 (by omega) (by omega) dL_areSound_289 (by decide) (fun c9 => absurd c9 (by omega)) (fun c_121 => ?_)
        refine lv_aload_n (pc := 292) S.1 S.2.1 dL_areSound_292 rfl (lv_at hl 12 rfl) ?_
        refine lv_iload (pc := 293) S.1 S.2.1 dL_areSound_293 (lv_at hl 4 rfl) ?_
        refine hv_call (pc := 295) (va_runV (As := [.int (nI k)]) (rest := []) S (ys_fits l hfl D cA ga φ H.size az tn tk tm tg sc ar w ez o o k hY hI hT hk) (cwV 1 S.2.2.2.2 (gV tw_868 tw_869 tw_870 tw_1 tw_871) rfl rfl rfl (by decide +kernel) ⟨Nat.le_of_ble_eq_true rfl, Nat.le_of_ble_eq_true rfl⟩) (pre0_V hH hK hX hS hA (ycv hH hK hY)) rfl rfl hl.1 rfl (lv_room (Nat.le_of_ble_eq_true rfl)) dL_areSound_295 ⟨Nat.le_trans (show _ ≤ 2320 by omega) (Nat.le_of_ble_eq_true rfl), Nat.le_trans (show _ ≤ 13800 by omega) (Nat.le_of_ble_eq_true rfl)⟩) hS (af_le hH hS hA) (fun v_122 φ_123 H locs hw_v_122 hH hS => ?_)
        obtain ⟨rfl, hqv_122⟩ := hw_v_122
        rw [hqv_122] at hH
        refine lv_iload (pc := 298) S.1 S.2.1 dL_areSound_298 (lv_at hl 1 rfl) ?_
        by_cases hAw : o 4 8 * 785 / 1000 ≤ w 0 k 0
        · skip
          refine hv_ti (y := nI (w 0 k 0 - (o 4 8 * 785 / 1000))) (pk_sub hAw) ?_
          refine hv_if_lt (pc := 300) (tgt := 314) (a := w 0 k 0 - (o 4 8 * 785 / 1000)) S.1 S.2.1 (by omega) dL_areSound_300 (by decide) (fun c9 => absurd c9 id) (fun c_124 => ?_)
          refine lv_iload (pc := 303) S.1 S.2.1 dL_areSound_303 (lv_at hl 1 rfl) ?_
          refine hv_ti (y := nI (w 0 k 0 - (o 4 8 * 785 / 1000))) (pk_sub hAw) ?_
          refine lv_bipush (pc := 305) (v := nI 13) S.1 S.2.1 dL_areSound_305 (by decide) ?_
          by_cases h13 : w 0 k 0 - (o 4 8 * 785 / 1000) < 13
          · skip
            have hfi := fiR_1 hAw h13
            refine hv_icmp_ge (pc := 307) (tgt := 314) (a := w 0 k 0 - (o 4 8 * 785 / 1000)) (b := 13) S.1 S.2.1 (by omega) (by omega) dL_areSound_307 (by decide) (fun c9 => absurd c9 (by omega)) (fun c_125 => ?_)
            refine lv_iconst (pc := 310) (v := nI 1) S.1 S.2.1 dL_areSound_310 (by decide) ?_
            refine lv_goto (pc := 311) (tgt := 315) S.1 S.2.1 dL_areSound_311 (by decide) ?_
            refine hv_icmp_ne (pc := 315) (tgt := 346) (a := fiR (w 0 k 0) (o 4 8 * 785 / 1000)) (b := 1) S.1 S.2.1 (by omega) (by omega) dL_areSound_315 (by decide) (fun c9 => absurd c9 (by omega)) (fun c_126 => ?_)
            refine lv_aload_n (pc := 318) S.1 S.2.1 dL_areSound_318 rfl (lv_at hl 10 rfl) ?_
            refine lv_iconst (pc := 319) (v := nI 4) S.1 S.2.1 dL_areSound_319 (by decide) ?_
            refine lv_iload (pc := 320) S.1 S.2.1 dL_areSound_320 (lv_at hl 4 rfl) ?_
            refine lv_imul (pc := 322) S.1 S.2.1 dL_areSound_322 ?_
            refine hv_ti (y := nI (4 * k)) (pk_mul _ _) ?_
            refine lv_iconst (pc := 323) (v := nI 1) S.1 S.2.1 dL_areSound_323 (by decide) ?_
            refine lv_iadd (pc := 324) S.1 S.2.1 dL_areSound_324 ?_
            refine hv_ti (y := nI ((4 * k) + 1)) (nI_add _ _) ?_
            refine hv_iald (pc := 325) S hK hH 1 (hY.a1) rfl (vp_in_nI (show (4 * k) + 1 < 48 by omega) (by omega)) dL_areSound_325 ?_
            refine hv_ti (y := nI ((o 1) ((4 * k) + 1))) (hv_ld (by omega)) ?_
            refine hv_ti (y := nI (ar 7 k)) (by rw [hlc.1]) ?_
            by_cases h70 : ar 7 k = 0
            · skip
              refine hv_if_gt (pc := 326) (tgt := 342) (a := ar 7 k) S.1 S.2.1 (by omega) dL_areSound_326 (by decide) (fun c9 => absurd c9 (by omega)) (fun c_127 => ?_)
              have h60 : ez 1 k = 60 := by rw [hcn.2.2.1, h70]; rfl
              refine lv_aload_n (pc := 329) S.1 S.2.1 dL_areSound_329 rfl (lv_at hl 12 rfl) ?_
              refine lv_iload (pc := 330) S.1 S.2.1 dL_areSound_330 (lv_at hl 4 rfl) ?_
              refine lv_iconst (pc := 332) (v := nI 5) S.1 S.2.1 dL_areSound_332 (by decide) ?_
              refine lv_iconst (pc := 333) (v := nI 1) S.1 S.2.1 dL_areSound_333 (by decide) ?_
              refine hv_call (pc := 334) (va_runV (As := [.int (nI k), .int (nI 5), .int (nI 1)]) (rest := []) S (ys_about l hfl D cA ga φ H.size az tn tk tm tg sc ar w ez o o k 5 1 hY hI hT hk (by decide) (by decide)) (cwV 3 S.2.2.2.2 (gV tw_122 tw_123 tw_124 tw_1 tw_125) rfl rfl rfl (by decide +kernel) ⟨Nat.le_of_ble_eq_true rfl, Nat.le_of_ble_eq_true rfl⟩) (pre0_V hH hK hX hS hA (ycv hH hK hY)) rfl rfl hl.1 rfl (lv_room (Nat.le_of_ble_eq_true rfl)) dL_areSound_334 ⟨Nat.le_trans (show _ ≤ 2320 by omega) (Nat.le_of_ble_eq_true rfl), Nat.le_trans (show _ ≤ 13800 by omega) (Nat.le_of_ble_eq_true rfl)⟩) hS (af_le hH hS hA) (fun v_128 φ_129 H locs hw_v_128 hH hS => ?_)
              obtain ⟨rfl, hqv_128⟩ := hw_v_128
              rw [hqv_128] at hH
              refine hv_ti (y := nI (ez 1 k)) (rfl) ?_
              refine lv_bipush (pc := 337) (v := nI 60) S.1 S.2.1 dL_areSound_337 (by decide) ?_
              refine hv_icmp_ne (pc := 339) (tgt := 346) (a := ez 1 k) (b := 60) S.1 S.2.1 (by omega) (by omega) dL_areSound_339 (by decide) (fun c9 => absurd c9 (by omega)) (fun c_130 => ?_)
              refine lv_iconst (pc := 342) (v := nI 1) S.1 S.2.1 dL_areSound_342 (by decide) ?_
              refine lv_goto (pc := 343) (tgt := 347) S.1 S.2.1 dL_areSound_343 (by decide) ?_
              refine lv_istore (pc := 347) (lv' := [(6, .int (nI 1)), (12, .int (nI 6)), (11, .int (nI (w 0 k 0) - nI (o 4 8 * 785 / 1000))), (10, .int (nI (lsW (w 0 k) 6))), (9, .int (nI (smN (w 1 k) 6))), (8, .int (nI k)), (7, .int (nI (o 4 8 * 785 / 1000))), (5, .int (nI x)), (4, .ref (az 13)), (3, .ref (az 12)), (2, .ref (az 10)), (1, .ref (az 9)), (0, .ref (az 0))]) S.1 S.2.1 dL_areSound_347 hl (by decide) rfl (fun ls hl => ?_)
              refine lv_iinc (pc := 349) (v := nI (k + 1)) (lv' := [(8, .int (nI (k + 1))), (6, .int (nI 1)), (12, .int (nI 6)), (11, .int (nI (w 0 k 0) - nI (o 4 8 * 785 / 1000))), (10, .int (nI (lsW (w 0 k) 6))), (9, .int (nI (smN (w 1 k) 6))), (7, .int (nI (o 4 8 * 785 / 1000))), (5, .int (nI x)), (4, .ref (az 13)), (3, .ref (az 12)), (2, .ref (az 10)), (1, .ref (az 9)), (0, .ref (az 0))]) S.1 S.2.1 dL_areSound_349 hl (k := 5) rfl (by first | rfl | exact nI_add _ _) (by decide) rfl (fun ls hl => ?_)
              refine lv_goto (pc := 352) (tgt := 21) S.1 S.2.1 dL_areSound_352 (by decide) ?_
              refine W.widen (k := 186 * (k + 1)) (n := 1116 * (k + 1)) (by omega) (by omega) ?_
              have hi2 : (k + 1) + (n) = sc 3 := by omega
              have hl2 : lv_has ls 16 [(8, .int (nI (k + 1))), (6, .int (nI 1)), (7, .int (nI (o 4 8 * 785 / 1000))), (5, .int (nI x)), (4, .ref (az 13)), (3, .ref (az 12)), (2, .ref (az 10)), (1, .ref (az 9)), (0, .ref (az 0))] := lv_sub hl [0, 1, 6, 7, 8, 9, 10, 11, 12] rfl
              apply ih (k := k + 1) <;> assumption
            · skip
              refine hv_if_gt (pc := 326) (tgt := 342) (a := ar 7 k) S.1 S.2.1 (by omega) dL_areSound_326 (by decide) (fun c_131 => ?_) (fun c9 => absurd c9 (by omega))
              refine lv_iconst (pc := 342) (v := nI 1) S.1 S.2.1 dL_areSound_342 (by decide) ?_
              refine lv_goto (pc := 343) (tgt := 347) S.1 S.2.1 dL_areSound_343 (by decide) ?_
              refine lv_istore (pc := 347) (lv' := [(6, .int (nI 1)), (12, .int (nI 6)), (11, .int (nI (w 0 k 0) - nI (o 4 8 * 785 / 1000))), (10, .int (nI (lsW (w 0 k) 6))), (9, .int (nI (smN (w 1 k) 6))), (8, .int (nI k)), (7, .int (nI (o 4 8 * 785 / 1000))), (5, .int (nI x)), (4, .ref (az 13)), (3, .ref (az 12)), (2, .ref (az 10)), (1, .ref (az 9)), (0, .ref (az 0))]) S.1 S.2.1 dL_areSound_347 hl (by decide) rfl (fun ls hl => ?_)
              refine lv_iinc (pc := 349) (v := nI (k + 1)) (lv' := [(8, .int (nI (k + 1))), (6, .int (nI 1)), (12, .int (nI 6)), (11, .int (nI (w 0 k 0) - nI (o 4 8 * 785 / 1000))), (10, .int (nI (lsW (w 0 k) 6))), (9, .int (nI (smN (w 1 k) 6))), (7, .int (nI (o 4 8 * 785 / 1000))), (5, .int (nI x)), (4, .ref (az 13)), (3, .ref (az 12)), (2, .ref (az 10)), (1, .ref (az 9)), (0, .ref (az 0))]) S.1 S.2.1 dL_areSound_349 hl (k := 5) rfl (by first | rfl | exact nI_add _ _) (by decide) rfl (fun ls hl => ?_)
              refine lv_goto (pc := 352) (tgt := 21) S.1 S.2.1 dL_areSound_352 (by decide) ?_
              refine W.widen (k := 186 * (k + 1)) (n := 1116 * (k + 1)) (by omega) (by omega) ?_
              have hi2 : (k + 1) + (n) = sc 3 := by omega
              have hl2 : lv_has ls 16 [(8, .int (nI (k + 1))), (6, .int (nI 1)), (7, .int (nI (o 4 8 * 785 / 1000))), (5, .int (nI x)), (4, .ref (az 13)), (3, .ref (az 12)), (2, .ref (az 10)), (1, .ref (az 9)), (0, .ref (az 0))] := lv_sub hl [0, 1, 6, 7, 8, 9, 10, 11, 12] rfl
              apply ih (k := k + 1) <;> assumption
          · skip
            have hfi := fiR_0 (a := w 0 k 0) (b := o 4 8 * 785 / 1000) (fun h9 => h13 h9.2)
            refine hv_icmp_ge (pc := 307) (tgt := 314) (a := w 0 k 0 - (o 4 8 * 785 / 1000)) (b := 13) S.1 S.2.1 (by omega) (by omega) dL_areSound_307 (by decide) (fun c_132 => ?_) (fun c9 => absurd c9 (by omega))
            refine lv_iconst (pc := 314) (v := nI 0) S.1 S.2.1 dL_areSound_314 (by decide) ?_
            refine hv_icmp_ne (pc := 315) (tgt := 346) (a := fiR (w 0 k 0) (o 4 8 * 785 / 1000)) (b := 0) S.1 S.2.1 (by omega) (by omega) dL_areSound_315 (by decide) (fun c9 => absurd c9 (by omega)) (fun c_133 => ?_)
            refine lv_aload_n (pc := 318) S.1 S.2.1 dL_areSound_318 rfl (lv_at hl 10 rfl) ?_
            refine lv_iconst (pc := 319) (v := nI 4) S.1 S.2.1 dL_areSound_319 (by decide) ?_
            refine lv_iload (pc := 320) S.1 S.2.1 dL_areSound_320 (lv_at hl 4 rfl) ?_
            refine lv_imul (pc := 322) S.1 S.2.1 dL_areSound_322 ?_
            refine hv_ti (y := nI (4 * k)) (pk_mul _ _) ?_
            refine lv_iconst (pc := 323) (v := nI 1) S.1 S.2.1 dL_areSound_323 (by decide) ?_
            refine lv_iadd (pc := 324) S.1 S.2.1 dL_areSound_324 ?_
            refine hv_ti (y := nI ((4 * k) + 1)) (nI_add _ _) ?_
            refine hv_iald (pc := 325) S hK hH 1 (hY.a1) rfl (vp_in_nI (show (4 * k) + 1 < 48 by omega) (by omega)) dL_areSound_325 ?_
            refine hv_ti (y := nI ((o 1) ((4 * k) + 1))) (hv_ld (by omega)) ?_
            refine hv_ti (y := nI (ar 7 k)) (by rw [hlc.1]) ?_
            by_cases h70 : ar 7 k = 0
            · skip
              refine hv_if_gt (pc := 326) (tgt := 342) (a := ar 7 k) S.1 S.2.1 (by omega) dL_areSound_326 (by decide) (fun c9 => absurd c9 (by omega)) (fun c_134 => ?_)
              have h60 : ez 1 k = 60 := by rw [hcn.2.2.1, h70]; rfl
              refine lv_aload_n (pc := 329) S.1 S.2.1 dL_areSound_329 rfl (lv_at hl 12 rfl) ?_
              refine lv_iload (pc := 330) S.1 S.2.1 dL_areSound_330 (lv_at hl 4 rfl) ?_
              refine lv_iconst (pc := 332) (v := nI 5) S.1 S.2.1 dL_areSound_332 (by decide) ?_
              refine lv_iconst (pc := 333) (v := nI 1) S.1 S.2.1 dL_areSound_333 (by decide) ?_
              refine hv_call (pc := 334) (va_runV (As := [.int (nI k), .int (nI 5), .int (nI 1)]) (rest := []) S (ys_about l hfl D cA ga φ H.size az tn tk tm tg sc ar w ez o o k 5 1 hY hI hT hk (by decide) (by decide)) (cwV 3 S.2.2.2.2 (gV tw_122 tw_123 tw_124 tw_1 tw_125) rfl rfl rfl (by decide +kernel) ⟨Nat.le_of_ble_eq_true rfl, Nat.le_of_ble_eq_true rfl⟩) (pre0_V hH hK hX hS hA (ycv hH hK hY)) rfl rfl hl.1 rfl (lv_room (Nat.le_of_ble_eq_true rfl)) dL_areSound_334 ⟨Nat.le_trans (show _ ≤ 2320 by omega) (Nat.le_of_ble_eq_true rfl), Nat.le_trans (show _ ≤ 13800 by omega) (Nat.le_of_ble_eq_true rfl)⟩) hS (af_le hH hS hA) (fun v_135 φ_136 H locs hw_v_135 hH hS => ?_)
              obtain ⟨rfl, hqv_135⟩ := hw_v_135
              rw [hqv_135] at hH
              refine hv_ti (y := nI (ez 1 k)) (rfl) ?_
              refine lv_bipush (pc := 337) (v := nI 60) S.1 S.2.1 dL_areSound_337 (by decide) ?_
              refine hv_icmp_ne (pc := 339) (tgt := 346) (a := ez 1 k) (b := 60) S.1 S.2.1 (by omega) (by omega) dL_areSound_339 (by decide) (fun c9 => absurd c9 (by omega)) (fun c_137 => ?_)
              refine lv_iconst (pc := 342) (v := nI 1) S.1 S.2.1 dL_areSound_342 (by decide) ?_
              refine lv_goto (pc := 343) (tgt := 347) S.1 S.2.1 dL_areSound_343 (by decide) ?_
              refine lv_istore (pc := 347) (lv' := [(6, .int (nI 1)), (12, .int (nI 6)), (11, .int (nI (w 0 k 0) - nI (o 4 8 * 785 / 1000))), (10, .int (nI (lsW (w 0 k) 6))), (9, .int (nI (smN (w 1 k) 6))), (8, .int (nI k)), (7, .int (nI (o 4 8 * 785 / 1000))), (5, .int (nI x)), (4, .ref (az 13)), (3, .ref (az 12)), (2, .ref (az 10)), (1, .ref (az 9)), (0, .ref (az 0))]) S.1 S.2.1 dL_areSound_347 hl (by decide) rfl (fun ls hl => ?_)
              refine lv_iinc (pc := 349) (v := nI (k + 1)) (lv' := [(8, .int (nI (k + 1))), (6, .int (nI 1)), (12, .int (nI 6)), (11, .int (nI (w 0 k 0) - nI (o 4 8 * 785 / 1000))), (10, .int (nI (lsW (w 0 k) 6))), (9, .int (nI (smN (w 1 k) 6))), (7, .int (nI (o 4 8 * 785 / 1000))), (5, .int (nI x)), (4, .ref (az 13)), (3, .ref (az 12)), (2, .ref (az 10)), (1, .ref (az 9)), (0, .ref (az 0))]) S.1 S.2.1 dL_areSound_349 hl (k := 5) rfl (by first | rfl | exact nI_add _ _) (by decide) rfl (fun ls hl => ?_)
              refine lv_goto (pc := 352) (tgt := 21) S.1 S.2.1 dL_areSound_352 (by decide) ?_
              refine W.widen (k := 186 * (k + 1)) (n := 1116 * (k + 1)) (by omega) (by omega) ?_
              have hi2 : (k + 1) + (n) = sc 3 := by omega
              have hl2 : lv_has ls 16 [(8, .int (nI (k + 1))), (6, .int (nI 1)), (7, .int (nI (o 4 8 * 785 / 1000))), (5, .int (nI x)), (4, .ref (az 13)), (3, .ref (az 12)), (2, .ref (az 10)), (1, .ref (az 9)), (0, .ref (az 0))] := lv_sub hl [0, 1, 6, 7, 8, 9, 10, 11, 12] rfl
              apply ih (k := k + 1) <;> assumption
            · skip
              refine hv_if_gt (pc := 326) (tgt := 342) (a := ar 7 k) S.1 S.2.1 (by omega) dL_areSound_326 (by decide) (fun c_138 => ?_) (fun c9 => absurd c9 (by omega))
              refine lv_iconst (pc := 342) (v := nI 1) S.1 S.2.1 dL_areSound_342 (by decide) ?_
              refine lv_goto (pc := 343) (tgt := 347) S.1 S.2.1 dL_areSound_343 (by decide) ?_
              refine lv_istore (pc := 347) (lv' := [(6, .int (nI 1)), (12, .int (nI 6)), (11, .int (nI (w 0 k 0) - nI (o 4 8 * 785 / 1000))), (10, .int (nI (lsW (w 0 k) 6))), (9, .int (nI (smN (w 1 k) 6))), (8, .int (nI k)), (7, .int (nI (o 4 8 * 785 / 1000))), (5, .int (nI x)), (4, .ref (az 13)), (3, .ref (az 12)), (2, .ref (az 10)), (1, .ref (az 9)), (0, .ref (az 0))]) S.1 S.2.1 dL_areSound_347 hl (by decide) rfl (fun ls hl => ?_)
              refine lv_iinc (pc := 349) (v := nI (k + 1)) (lv' := [(8, .int (nI (k + 1))), (6, .int (nI 1)), (12, .int (nI 6)), (11, .int (nI (w 0 k 0) - nI (o 4 8 * 785 / 1000))), (10, .int (nI (lsW (w 0 k) 6))), (9, .int (nI (smN (w 1 k) 6))), (7, .int (nI (o 4 8 * 785 / 1000))), (5, .int (nI x)), (4, .ref (az 13)), (3, .ref (az 12)), (2, .ref (az 10)), (1, .ref (az 9)), (0, .ref (az 0))]) S.1 S.2.1 dL_areSound_349 hl (k := 5) rfl (by first | rfl | exact nI_add _ _) (by decide) rfl (fun ls hl => ?_)
              refine lv_goto (pc := 352) (tgt := 21) S.1 S.2.1 dL_areSound_352 (by decide) ?_
              refine W.widen (k := 186 * (k + 1)) (n := 1116 * (k + 1)) (by omega) (by omega) ?_
              have hi2 : (k + 1) + (n) = sc 3 := by omega
              have hl2 : lv_has ls 16 [(8, .int (nI (k + 1))), (6, .int (nI 1)), (7, .int (nI (o 4 8 * 785 / 1000))), (5, .int (nI x)), (4, .ref (az 13)), (3, .ref (az 12)), (2, .ref (az 10)), (1, .ref (az 9)), (0, .ref (az 0))] := lv_sub hl [0, 1, 6, 7, 8, 9, 10, 11, 12] rfl
              apply ih (k := k + 1) <;> assumption
        · skip
          have hfi := fiR_0 (a := w 0 k 0) (b := o 4 8 * 785 / 1000) (fun h9 => hAw h9.1)
          refine lv_if_lt (pc := 300) (tgt := 314) S.1 S.2.1 dL_areSound_300 (by decide) (fun c_139 => ?_) (fun c9 => absurd c9 (fun h9 => h9 (neg_lt (by omega) (by omega))))
          refine lv_iconst (pc := 314) (v := nI 0) S.1 S.2.1 dL_areSound_314 (by decide) ?_
          refine hv_icmp_ne (pc := 315) (tgt := 346) (a := fiR (w 0 k 0) (o 4 8 * 785 / 1000)) (b := 0) S.1 S.2.1 (by omega) (by omega) dL_areSound_315 (by decide) (fun c9 => absurd c9 (by omega)) (fun c_140 => ?_)
          refine lv_aload_n (pc := 318) S.1 S.2.1 dL_areSound_318 rfl (lv_at hl 10 rfl) ?_
          refine lv_iconst (pc := 319) (v := nI 4) S.1 S.2.1 dL_areSound_319 (by decide) ?_
          refine lv_iload (pc := 320) S.1 S.2.1 dL_areSound_320 (lv_at hl 4 rfl) ?_
          refine lv_imul (pc := 322) S.1 S.2.1 dL_areSound_322 ?_
          refine hv_ti (y := nI (4 * k)) (pk_mul _ _) ?_
          refine lv_iconst (pc := 323) (v := nI 1) S.1 S.2.1 dL_areSound_323 (by decide) ?_
          refine lv_iadd (pc := 324) S.1 S.2.1 dL_areSound_324 ?_
          refine hv_ti (y := nI ((4 * k) + 1)) (nI_add _ _) ?_
          refine hv_iald (pc := 325) S hK hH 1 (hY.a1) rfl (vp_in_nI (show (4 * k) + 1 < 48 by omega) (by omega)) dL_areSound_325 ?_
          refine hv_ti (y := nI ((o 1) ((4 * k) + 1))) (hv_ld (by omega)) ?_
          refine hv_ti (y := nI (ar 7 k)) (by rw [hlc.1]) ?_
          by_cases h70 : ar 7 k = 0
          · skip
            refine hv_if_gt (pc := 326) (tgt := 342) (a := ar 7 k) S.1 S.2.1 (by omega) dL_areSound_326 (by decide) (fun c9 => absurd c9 (by omega)) (fun c_141 => ?_)
            have h60 : ez 1 k = 60 := by rw [hcn.2.2.1, h70]; rfl
            refine lv_aload_n (pc := 329) S.1 S.2.1 dL_areSound_329 rfl (lv_at hl 12 rfl) ?_
            refine lv_iload (pc := 330) S.1 S.2.1 dL_areSound_330 (lv_at hl 4 rfl) ?_
            refine lv_iconst (pc := 332) (v := nI 5) S.1 S.2.1 dL_areSound_332 (by decide) ?_
            refine lv_iconst (pc := 333) (v := nI 1) S.1 S.2.1 dL_areSound_333 (by decide) ?_
            refine hv_call (pc := 334) (va_runV (As := [.int (nI k), .int (nI 5), .int (nI 1)]) (rest := []) S (ys_about l hfl D cA ga φ H.size az tn tk tm tg sc ar w ez o o k 5 1 hY hI hT hk (by decide) (by decide)) (cwV 3 S.2.2.2.2 (gV tw_122 tw_123 tw_124 tw_1 tw_125) rfl rfl rfl (by decide +kernel) ⟨Nat.le_of_ble_eq_true rfl, Nat.le_of_ble_eq_true rfl⟩) (pre0_V hH hK hX hS hA (ycv hH hK hY)) rfl rfl hl.1 rfl (lv_room (Nat.le_of_ble_eq_true rfl)) dL_areSound_334 ⟨Nat.le_trans (show _ ≤ 2320 by omega) (Nat.le_of_ble_eq_true rfl), Nat.le_trans (show _ ≤ 13800 by omega) (Nat.le_of_ble_eq_true rfl)⟩) hS (af_le hH hS hA) (fun v_142 φ_143 H locs hw_v_142 hH hS => ?_)
            obtain ⟨rfl, hqv_142⟩ := hw_v_142
            rw [hqv_142] at hH
            refine hv_ti (y := nI (ez 1 k)) (rfl) ?_
            refine lv_bipush (pc := 337) (v := nI 60) S.1 S.2.1 dL_areSound_337 (by decide) ?_
            refine hv_icmp_ne (pc := 339) (tgt := 346) (a := ez 1 k) (b := 60) S.1 S.2.1 (by omega) (by omega) dL_areSound_339 (by decide) (fun c9 => absurd c9 (by omega)) (fun c_144 => ?_)
            refine lv_iconst (pc := 342) (v := nI 1) S.1 S.2.1 dL_areSound_342 (by decide) ?_
            refine lv_goto (pc := 343) (tgt := 347) S.1 S.2.1 dL_areSound_343 (by decide) ?_
            refine lv_istore (pc := 347) (lv' := [(6, .int (nI 1)), (12, .int (nI 6)), (11, .int (nI (w 0 k 0) - nI (o 4 8 * 785 / 1000))), (10, .int (nI (lsW (w 0 k) 6))), (9, .int (nI (smN (w 1 k) 6))), (8, .int (nI k)), (7, .int (nI (o 4 8 * 785 / 1000))), (5, .int (nI x)), (4, .ref (az 13)), (3, .ref (az 12)), (2, .ref (az 10)), (1, .ref (az 9)), (0, .ref (az 0))]) S.1 S.2.1 dL_areSound_347 hl (by decide) rfl (fun ls hl => ?_)
            refine lv_iinc (pc := 349) (v := nI (k + 1)) (lv' := [(8, .int (nI (k + 1))), (6, .int (nI 1)), (12, .int (nI 6)), (11, .int (nI (w 0 k 0) - nI (o 4 8 * 785 / 1000))), (10, .int (nI (lsW (w 0 k) 6))), (9, .int (nI (smN (w 1 k) 6))), (7, .int (nI (o 4 8 * 785 / 1000))), (5, .int (nI x)), (4, .ref (az 13)), (3, .ref (az 12)), (2, .ref (az 10)), (1, .ref (az 9)), (0, .ref (az 0))]) S.1 S.2.1 dL_areSound_349 hl (k := 5) rfl (by first | rfl | exact nI_add _ _) (by decide) rfl (fun ls hl => ?_)
            refine lv_goto (pc := 352) (tgt := 21) S.1 S.2.1 dL_areSound_352 (by decide) ?_
            refine W.widen (k := 186 * (k + 1)) (n := 1116 * (k + 1)) (by omega) (by omega) ?_
            have hi2 : (k + 1) + (n) = sc 3 := by omega
            have hl2 : lv_has ls 16 [(8, .int (nI (k + 1))), (6, .int (nI 1)), (7, .int (nI (o 4 8 * 785 / 1000))), (5, .int (nI x)), (4, .ref (az 13)), (3, .ref (az 12)), (2, .ref (az 10)), (1, .ref (az 9)), (0, .ref (az 0))] := lv_sub hl [0, 1, 6, 7, 8, 9, 10, 11, 12] rfl
            apply ih (k := k + 1) <;> assumption
          · skip
            refine hv_if_gt (pc := 326) (tgt := 342) (a := ar 7 k) S.1 S.2.1 (by omega) dL_areSound_326 (by decide) (fun c_145 => ?_) (fun c9 => absurd c9 (by omega))
            refine lv_iconst (pc := 342) (v := nI 1) S.1 S.2.1 dL_areSound_342 (by decide) ?_
            refine lv_goto (pc := 343) (tgt := 347) S.1 S.2.1 dL_areSound_343 (by decide) ?_
            refine lv_istore (pc := 347) (lv' := [(6, .int (nI 1)), (12, .int (nI 6)), (11, .int (nI (w 0 k 0) - nI (o 4 8 * 785 / 1000))), (10, .int (nI (lsW (w 0 k) 6))), (9, .int (nI (smN (w 1 k) 6))), (8, .int (nI k)), (7, .int (nI (o 4 8 * 785 / 1000))), (5, .int (nI x)), (4, .ref (az 13)), (3, .ref (az 12)), (2, .ref (az 10)), (1, .ref (az 9)), (0, .ref (az 0))]) S.1 S.2.1 dL_areSound_347 hl (by decide) rfl (fun ls hl => ?_)
            refine lv_iinc (pc := 349) (v := nI (k + 1)) (lv' := [(8, .int (nI (k + 1))), (6, .int (nI 1)), (12, .int (nI 6)), (11, .int (nI (w 0 k 0) - nI (o 4 8 * 785 / 1000))), (10, .int (nI (lsW (w 0 k) 6))), (9, .int (nI (smN (w 1 k) 6))), (7, .int (nI (o 4 8 * 785 / 1000))), (5, .int (nI x)), (4, .ref (az 13)), (3, .ref (az 12)), (2, .ref (az 10)), (1, .ref (az 9)), (0, .ref (az 0))]) S.1 S.2.1 dL_areSound_349 hl (k := 5) rfl (by first | rfl | exact nI_add _ _) (by decide) rfl (fun ls hl => ?_)
            refine lv_goto (pc := 352) (tgt := 21) S.1 S.2.1 dL_areSound_352 (by decide) ?_
            refine W.widen (k := 186 * (k + 1)) (n := 1116 * (k + 1)) (by omega) (by omega) ?_
            have hi2 : (k + 1) + (n) = sc 3 := by omega
            have hl2 : lv_has ls 16 [(8, .int (nI (k + 1))), (6, .int (nI 1)), (7, .int (nI (o 4 8 * 785 / 1000))), (5, .int (nI x)), (4, .ref (az 13)), (3, .ref (az 12)), (2, .ref (az 10)), (1, .ref (az 9)), (0, .ref (az 0))] := lv_sub hl [0, 1, 6, 7, 8, 9, 10, 11, 12] rfl
            apply ih (k := k + 1) <;> assumption
      | succ j ihb =>
        refine lv_iload (pc := 58) S.1 S.2.1 dL_areSound_58 (lv_at hl 0 rfl) ?_
        refine lv_bipush (pc := 60) (v := nI 6) S.1 S.2.1 dL_areSound_60 (by decide) ?_
        refine hv_icmp_ge (pc := 62) (tgt := 276) (a := b) (b := 6) S.1 S.2.1 (by omega) (by omega) dL_areSound_62 (by decide) (fun c9 => absurd c9 (by omega)) (fun c_146 => ?_)
        refine lv_iload (pc := 65) S.1 S.2.1 dL_areSound_65 (lv_at hl 5 rfl) ?_
        refine hv_if_eq (pc := 67) (tgt := 276) (a := 1) S.1 S.2.1 (by omega) dL_areSound_67 (by decide) (fun c9 => absurd c9 (by omega)) (fun c_147 => ?_)
        have hb : b < 6 := by omega
        have hwp := hI.wp hk hb
        have hw12 := hcn.1 b
        have hg5 := hcn.2.1 b
        have hgp := hcn.2.2.2.2.2.1 b hb
        have hls := hI.ls hk hb
        have hsm := smN_le hcn.2.1 b
        have hwh : w 0 k b * ez 1 k ≤ 1200 * 60 := Nat.mul_le_mul hw12 hht.2
        have hwh0 : 0 < w 0 k b * ez 1 k := Nat.mul_pos (by omega) hht.1
        have hdne : ¬ nI (w 0 k b * ez 1 k) = 0 := fun h9 => by have := jI_inj (h9.trans nI_0.symm) (by omega) (by decide); omega
        have hq31 : w 1 k b * 100000 / (w 0 k b * ez 1 k) < 2 ^ 31 := Nat.lt_of_le_of_lt (Nat.div_le_self _ _) (by omega)
        refine lv_aload_n (pc := 70) S.1 S.2.1 dL_areSound_70 rfl (lv_at hl 12 rfl) ?_
        refine lv_iload (pc := 71) S.1 S.2.1 dL_areSound_71 (lv_at hl 4 rfl) ?_
        refine lv_iload (pc := 73) S.1 S.2.1 dL_areSound_73 (lv_at hl 0 rfl) ?_
        refine lv_iconst (pc := 75) (v := nI 0) S.1 S.2.1 dL_areSound_75 (by decide) ?_
        refine hv_call (pc := 76) (va_runV (As := [.int (nI k), .int (nI b), .int (nI 0)]) (rest := []) S (ys_about l hfl D cA ga φ H.size az tn tk tm tg sc ar w ez o o k b 0 hY hI hT hk hb (by decide)) (cwV 3 S.2.2.2.2 (gV tw_122 tw_123 tw_124 tw_1 tw_125) rfl rfl rfl (by decide +kernel) ⟨Nat.le_of_ble_eq_true rfl, Nat.le_of_ble_eq_true rfl⟩) (pre0_V hH hK hX hS hA (ycv hH hK hY)) rfl rfl hl.1 rfl (lv_room (Nat.le_of_ble_eq_true rfl)) dL_areSound_76 ⟨Nat.le_trans (show _ ≤ 2320 by omega) (Nat.le_of_ble_eq_true rfl), Nat.le_trans (show _ ≤ 13800 by omega) (Nat.le_of_ble_eq_true rfl)⟩) hS (af_le hH hS hA) (fun v_148 φ_149 H locs hw_v_148 hH hS => ?_)
        obtain ⟨rfl, hqv_148⟩ := hw_v_148
        rw [hqv_148] at hH
        refine hv_ti (y := nI (w 0 k b)) (rfl) ?_
        refine lv_istore (pc := 79) (lv' := [(13, .int (nI (w 0 k b))), (12, .int (nI b)), (11, .int (nI (w 0 k 0) - nI (o 4 8 * 785 / 1000))), (10, .int (nI (lsW (w 0 k) b))), (9, .int (nI (smN (w 1 k) b))), (8, .int (nI k)), (6, .int (nI 1)), (7, .int (nI (o 4 8 * 785 / 1000))), (5, .int (nI x)), (4, .ref (az 13)), (3, .ref (az 12)), (2, .ref (az 10)), (1, .ref (az 9)), (0, .ref (az 0))]) S.1 S.2.1 dL_areSound_79 hl (by decide) rfl (fun ls hl => ?_)
        refine lv_aload_n (pc := 81) S.1 S.2.1 dL_areSound_81 rfl (lv_at hl 13 rfl) ?_
        refine lv_iload (pc := 82) S.1 S.2.1 dL_areSound_82 (lv_at hl 5 rfl) ?_
        refine lv_iload (pc := 84) S.1 S.2.1 dL_areSound_84 (lv_at hl 1 rfl) ?_
        refine lv_iconst (pc := 86) (v := nI 1) S.1 S.2.1 dL_areSound_86 (by decide) ?_
        refine hv_call (pc := 87) (va_runV (As := [.int (nI k), .int (nI b), .int (nI 1)]) (rest := []) S (ys_about l hfl D cA ga φ H.size az tn tk tm tg sc ar w ez o o k b 1 hY hI hT hk hb (by decide)) (cwV 3 S.2.2.2.2 (gV tw_122 tw_123 tw_124 tw_1 tw_125) rfl rfl rfl (by decide +kernel) ⟨Nat.le_of_ble_eq_true rfl, Nat.le_of_ble_eq_true rfl⟩) (pre0_V hH hK hX hS hA (ycv hH hK hY)) rfl rfl hl.1 rfl (lv_room (Nat.le_of_ble_eq_true rfl)) dL_areSound_87 ⟨Nat.le_trans (show _ ≤ 2320 by omega) (Nat.le_of_ble_eq_true rfl), Nat.le_trans (show _ ≤ 13800 by omega) (Nat.le_of_ble_eq_true rfl)⟩) hS (af_le hH hS hA) (fun v_150 φ_151 H locs hw_v_150 hH hS => ?_)
        obtain ⟨rfl, hqv_150⟩ := hw_v_150
        rw [hqv_150] at hH
        refine hv_ti (y := nI (ez 1 k)) (rfl) ?_
        refine lv_istore (pc := 90) (lv' := [(14, .int (nI (ez 1 k))), (13, .int (nI (w 0 k b))), (12, .int (nI b)), (11, .int (nI (w 0 k 0) - nI (o 4 8 * 785 / 1000))), (10, .int (nI (lsW (w 0 k) b))), (9, .int (nI (smN (w 1 k) b))), (8, .int (nI k)), (6, .int (nI 1)), (7, .int (nI (o 4 8 * 785 / 1000))), (5, .int (nI x)), (4, .ref (az 13)), (3, .ref (az 12)), (2, .ref (az 10)), (1, .ref (az 9)), (0, .ref (az 0))]) S.1 S.2.1 dL_areSound_90 hl (by decide) rfl (fun ls hl => ?_)
        refine lv_aload_n (pc := 92) S.1 S.2.1 dL_areSound_92 rfl (lv_at hl 14 rfl) ?_
        refine lv_iload (pc := 93) S.1 S.2.1 dL_areSound_93 (lv_at hl 6 rfl) ?_
        refine lv_iload (pc := 95) S.1 S.2.1 dL_areSound_95 (lv_at hl 2 rfl) ?_
        refine lv_iconst (pc := 97) (v := nI 2) S.1 S.2.1 dL_areSound_97 (by decide) ?_
        refine hv_call (pc := 98) (va_runV (As := [.int (nI k), .int (nI b), .int (nI 2)]) (rest := []) S (ys_about l hfl D cA ga φ H.size az tn tk tm tg sc ar w ez o o k b 2 hY hI hT hk hb (by decide)) (cwV 3 S.2.2.2.2 (gV tw_122 tw_123 tw_124 tw_1 tw_125) rfl rfl rfl (by decide +kernel) ⟨Nat.le_of_ble_eq_true rfl, Nat.le_of_ble_eq_true rfl⟩) (pre0_V hH hK hX hS hA (ycv hH hK hY)) rfl rfl hl.1 rfl (lv_room (Nat.le_of_ble_eq_true rfl)) dL_areSound_98 ⟨Nat.le_trans (show _ ≤ 2320 by omega) (Nat.le_of_ble_eq_true rfl), Nat.le_trans (show _ ≤ 13800 by omega) (Nat.le_of_ble_eq_true rfl)⟩) hS (af_le hH hS hA) (fun v_152 φ_153 H locs hw_v_152 hH hS => ?_)
        obtain ⟨rfl, hqv_152⟩ := hw_v_152
        rw [hqv_152] at hH
        refine hv_ti (y := nI (w 1 k b)) (rfl) ?_
        refine lv_istore (pc := 101) (lv' := [(15, .int (nI (w 1 k b))), (14, .int (nI (ez 1 k))), (13, .int (nI (w 0 k b))), (12, .int (nI b)), (11, .int (nI (w 0 k 0) - nI (o 4 8 * 785 / 1000))), (10, .int (nI (lsW (w 0 k) b))), (9, .int (nI (smN (w 1 k) b))), (8, .int (nI k)), (6, .int (nI 1)), (7, .int (nI (o 4 8 * 785 / 1000))), (5, .int (nI x)), (4, .ref (az 13)), (3, .ref (az 12)), (2, .ref (az 10)), (1, .ref (az 9)), (0, .ref (az 0))]) S.1 S.2.1 dL_areSound_101 hl (by decide) rfl (fun ls hl => ?_)
        refine lv_iload (pc := 103) S.1 S.2.1 dL_areSound_103 (lv_at hl 6 rfl) ?_
        refine lv_iload (pc := 105) S.1 S.2.1 dL_areSound_105 (lv_at hl 0 rfl) ?_
        refine lv_iadd (pc := 107) S.1 S.2.1 dL_areSound_107 ?_
        refine hv_ti (y := nI ((smN (w 1 k) b) + (w 1 k b))) (nI_add _ _) ?_
        refine hv_ti (y := nI (smN (w 1 k) (b + 1))) (rfl) ?_
        refine lv_istore (pc := 108) (lv' := [(9, .int (nI (smN (w 1 k) (b + 1)))), (15, .int (nI (w 1 k b))), (14, .int (nI (ez 1 k))), (13, .int (nI (w 0 k b))), (12, .int (nI b)), (11, .int (nI (w 0 k 0) - nI (o 4 8 * 785 / 1000))), (10, .int (nI (lsW (w 0 k) b))), (8, .int (nI k)), (6, .int (nI 1)), (7, .int (nI (o 4 8 * 785 / 1000))), (5, .int (nI x)), (4, .ref (az 13)), (3, .ref (az 12)), (2, .ref (az 10)), (1, .ref (az 9)), (0, .ref (az 0))]) S.1 S.2.1 dL_areSound_108 hl (by decide) rfl (fun ls hl => ?_)
        refine lv_iload (pc := 110) S.1 S.2.1 dL_areSound_110 (lv_at hl 3 rfl) ?_
        refine lv_bipush (pc := 112) (v := nI 49) S.1 S.2.1 dL_areSound_112 (by decide) ?_
        refine hv_icmp_le (pc := 114) (tgt := 263) (a := w 0 k b) (b := 49) S.1 S.2.1 (by omega) (by omega) dL_areSound_114 (by decide) (fun c9 => absurd c9 (by omega)) (fun c_154 => ?_)
        refine lv_iload (pc := 117) S.1 S.2.1 dL_areSound_117 (lv_at hl 3 rfl) ?_
        refine lv_sipush (pc := 119) (v := nI 1200) S.1 S.2.1 dL_areSound_119 (by decide) ?_
        refine lv_aload_n (pc := 122) S.1 S.2.1 dL_areSound_122 rfl (lv_at hl 13 rfl) ?_
        refine lv_iconst (pc := 123) (v := nI 4) S.1 S.2.1 dL_areSound_123 (by decide) ?_
        refine lv_iload (pc := 124) S.1 S.2.1 dL_areSound_124 (lv_at hl 7 rfl) ?_
        refine lv_imul (pc := 126) S.1 S.2.1 dL_areSound_126 ?_
        refine hv_ti (y := nI (4 * k)) (pk_mul _ _) ?_
        refine lv_iconst (pc := 127) (v := nI 2) S.1 S.2.1 dL_areSound_127 (by decide) ?_
        refine lv_iadd (pc := 128) S.1 S.2.1 dL_areSound_128 ?_
        refine hv_ti (y := nI ((4 * k) + 2)) (nI_add _ _) ?_
        refine hv_iald (pc := 129) S hK hH 1 (hY.a1) rfl (vp_in_nI (show (4 * k) + 2 < 48 by omega) (by omega)) dL_areSound_129 ?_
        refine hv_ti (y := nI ((o 1) ((4 * k) + 2))) (hv_ld (by omega)) ?_
        refine hv_ti (y := nI 1) (by rw [hlc.2.1, if_neg he0]) ?_
        refine hv_if_le (pc := 130) (tgt := 137) (a := 1) S.1 S.2.1 (by omega) dL_areSound_130 (by decide) (fun c9 => absurd c9 (by omega)) (fun c_155 => ?_)
        refine lv_iconst (pc := 133) (v := nI 0) S.1 S.2.1 dL_areSound_133 (by decide) ?_
        refine lv_goto (pc := 134) (tgt := 143) S.1 S.2.1 dL_areSound_134 (by decide) ?_
        refine lv_isub (pc := 143) S.1 S.2.1 dL_areSound_143 ?_
        refine hv_ti (y := nI (1200 - 0)) (pk_sub (by omega)) ?_
        refine hv_icmp_gt (pc := 144) (tgt := 263) (a := w 0 k b) (b := 1200 - 0) S.1 S.2.1 (by omega) (by omega) dL_areSound_144 (by decide) (fun c9 => absurd c9 (by omega)) (fun c_156 => ?_)
        refine lv_aload_n (pc := 147) S.1 S.2.1 dL_areSound_147 rfl (lv_at hl 13 rfl) ?_
        refine lv_iconst (pc := 148) (v := nI 4) S.1 S.2.1 dL_areSound_148 (by decide) ?_
        refine lv_iload (pc := 149) S.1 S.2.1 dL_areSound_149 (lv_at hl 7 rfl) ?_
        refine lv_imul (pc := 151) S.1 S.2.1 dL_areSound_151 ?_
        refine hv_ti (y := nI (4 * k)) (pk_mul _ _) ?_
        refine lv_iconst (pc := 152) (v := nI 2) S.1 S.2.1 dL_areSound_152 (by decide) ?_
        refine lv_iadd (pc := 153) S.1 S.2.1 dL_areSound_153 ?_
        refine hv_ti (y := nI ((4 * k) + 2)) (nI_add _ _) ?_
        refine hv_iald (pc := 154) S hK hH 1 (hY.a1) rfl (vp_in_nI (show (4 * k) + 2 < 48 by omega) (by omega)) dL_areSound_154 ?_
        refine hv_ti (y := nI ((o 1) ((4 * k) + 2))) (hv_ld (by omega)) ?_
        refine hv_ti (y := nI 1) (by rw [hlc.2.1, if_neg he0]) ?_
        refine hv_if_le (pc := 155) (tgt := 168) (a := 1) S.1 S.2.1 (by omega) dL_areSound_155 (by decide) (fun c9 => absurd c9 (by omega)) (fun c_157 => ?_)
        refine lv_iload (pc := 158) S.1 S.2.1 dL_areSound_158 (lv_at hl 3 rfl) ?_
        refine lv_iload (pc := 160) S.1 S.2.1 dL_areSound_160 (lv_at hl 6 rfl) ?_
        refine hv_icmp_gt (pc := 162) (tgt := 263) (a := w 0 k b) (b := lsW (w 0 k) b) S.1 S.2.1 (by omega) (by omega) dL_areSound_162 (by decide) (fun c9 => absurd c9 (by omega)) (fun c_158 => ?_)
        refine lv_goto (pc := 165) (tgt := 175) S.1 S.2.1 dL_areSound_165 (by decide) ?_
        refine lv_iload (pc := 175) S.1 S.2.1 dL_areSound_175 (lv_at hl 2 rfl) ?_
        refine hv_if_le (pc := 177) (tgt := 263) (a := ez 1 k) S.1 S.2.1 (by omega) dL_areSound_177 (by decide) (fun c9 => absurd c9 (by omega)) (fun c_159 => ?_)
        refine lv_iload (pc := 180) S.1 S.2.1 dL_areSound_180 (lv_at hl 2 rfl) ?_
        refine lv_bipush (pc := 182) (v := nI 60) S.1 S.2.1 dL_areSound_182 (by decide) ?_
        refine hv_icmp_gt (pc := 184) (tgt := 263) (a := ez 1 k) (b := 60) S.1 S.2.1 (by omega) (by omega) dL_areSound_184 (by decide) (fun c9 => absurd c9 (by omega)) (fun c_160 => ?_)
        refine lv_iload (pc := 187) S.1 S.2.1 dL_areSound_187 (lv_at hl 1 rfl) ?_
        refine hv_if_le (pc := 189) (tgt := 263) (a := w 1 k b) S.1 S.2.1 (by omega) dL_areSound_189 (by decide) (fun c9 => absurd c9 (by omega)) (fun c_161 => ?_)
        refine lv_aload_n (pc := 192) S.1 S.2.1 dL_areSound_192 rfl (lv_at hl 15 rfl) ?_
        refine lv_iload (pc := 193) S.1 S.2.1 dL_areSound_193 (lv_at hl 7 rfl) ?_
        refine lv_iload (pc := 195) S.1 S.2.1 dL_areSound_195 (lv_at hl 4 rfl) ?_
        refine lv_iconst (pc := 197) (v := nI 3) S.1 S.2.1 dL_areSound_197 (by decide) ?_
        refine hv_call (pc := 198) (va_runV (As := [.int (nI k), .int (nI b), .int (nI 3)]) (rest := []) S (ys_about l hfl D cA ga φ H.size az tn tk tm tg sc ar w ez o o k b 3 hY hI hT hk hb (by decide)) (cwV 3 S.2.2.2.2 (gV tw_122 tw_123 tw_124 tw_1 tw_125) rfl rfl rfl (by decide +kernel) ⟨Nat.le_of_ble_eq_true rfl, Nat.le_of_ble_eq_true rfl⟩) (pre0_V hH hK hX hS hA (ycv hH hK hY)) rfl rfl hl.1 rfl (lv_room (Nat.le_of_ble_eq_true rfl)) dL_areSound_198 ⟨Nat.le_trans (show _ ≤ 2320 by omega) (Nat.le_of_ble_eq_true rfl), Nat.le_trans (show _ ≤ 13800 by omega) (Nat.le_of_ble_eq_true rfl)⟩) hS (af_le hH hS hA) (fun v_162 φ_163 H locs hw_v_162 hH hS => ?_)
        obtain ⟨rfl, hqv_162⟩ := hw_v_162
        rw [hqv_162] at hH
        refine hv_ti (y := nI (w 1 k b * 100000 / (w 0 k b * ez 1 k))) (rfl) ?_
        refine lv_iload (pc := 201) S.1 S.2.1 dL_areSound_201 (lv_at hl 1 rfl) ?_
        refine lv_ldc (pc := 203) (v := nI 100000) S.1 S.2.1 S.2.2.2.1 (S.2.2.2.2 _ tw_899) dL_areSound_203 ?_
        refine lv_imul (pc := 205) S.1 S.2.1 dL_areSound_205 ?_
        refine hv_ti (y := nI ((w 1 k b) * 100000)) (pk_mul _ _) ?_
        refine lv_iload (pc := 206) S.1 S.2.1 dL_areSound_206 (lv_at hl 3 rfl) ?_
        refine lv_iload (pc := 208) S.1 S.2.1 dL_areSound_208 (lv_at hl 2 rfl) ?_
        refine lv_imul (pc := 210) S.1 S.2.1 dL_areSound_210 ?_
        refine hv_ti (y := nI ((w 0 k b) * (ez 1 k))) (pk_mul _ _) ?_
        refine lv_idiv (pc := 211) S.1 S.2.1 dL_areSound_211 (by assumption) ?_
        refine hv_ti (y := nI (((w 1 k b) * 100000) / ((w 0 k b) * (ez 1 k)))) (pk_div (by omega) (by omega) (by omega)) ?_
        refine hv_icmp_ne (pc := 212) (tgt := 263) (a := w 1 k b * 100000 / (w 0 k b * ez 1 k)) (b := ((w 1 k b) * 100000) / ((w 0 k b) * (ez 1 k))) S.1 S.2.1 (by omega) (by omega) dL_areSound_212 (by decide) (fun c9 => absurd c9 (by omega)) (fun c_164 => ?_)
        refine lv_iload (pc := 215) S.1 S.2.1 dL_areSound_215 (lv_at hl 7 rfl) ?_
        refine lv_iload (pc := 217) S.1 S.2.1 dL_areSound_217 (lv_at hl 4 rfl) ?_
        refine lv_iadd (pc := 219) S.1 S.2.1 dL_areSound_219 ?_
        refine hv_ti (y := nI (k + b)) (nI_add _ _) ?_
        refine lv_iload (pc := 220) S.1 S.2.1 dL_areSound_220 (lv_at hl 10 rfl) ?_
        refine lv_iadd (pc := 222) S.1 S.2.1 dL_areSound_222 ?_
        refine hv_ti (y := nI ((k + b) + x)) (nI_add _ _) ?_
        refine lv_iconst (pc := 223) (v := nI 5) S.1 S.2.1 dL_areSound_223 (by decide) ?_
        refine lv_irem (pc := 224) S.1 S.2.1 dL_areSound_224 (by decide) ?_
        refine hv_ti (y := nI (((k + b) + x) % 5)) (pk_rem (by omega) (by omega) (by omega)) ?_
        by_cases h50 : (k + b + x) % 5 = 0
        · skip
          refine hv_if_gt (pc := 225) (tgt := 241) (a := ((k + b) + x) % 5) S.1 S.2.1 (by omega) dL_areSound_225 (by decide) (fun c9 => absurd c9 (by omega)) (fun c_165 => ?_)
          refine lv_aload_n (pc := 228) S.1 S.2.1 dL_areSound_228 rfl (lv_at hl 15 rfl) ?_
          refine lv_iload (pc := 229) S.1 S.2.1 dL_areSound_229 (lv_at hl 7 rfl) ?_
          refine lv_iload (pc := 231) S.1 S.2.1 dL_areSound_231 (lv_at hl 4 rfl) ?_
          refine hv_call (pc := 233) (va_runV (As := [.int (nI k), .int (nI b)]) (rest := []) S (ys_widthAnew l hfl D cA ga φ H.size az tn tk tm tg sc ar w ez o o k b hY hI hT hk hb) (cwV 2 S.2.2.2.2 (gV tw_799 tw_800 tw_801 tw_1 tw_802) rfl rfl rfl (by decide +kernel) ⟨Nat.le_of_ble_eq_true rfl, Nat.le_of_ble_eq_true rfl⟩) (pre0_V hH hK hX hS hA (ycv hH hK hY)) rfl rfl hl.1 rfl (lv_room (Nat.le_of_ble_eq_true rfl)) dL_areSound_233 ⟨Nat.le_trans (show _ ≤ 2320 by omega) (Nat.le_of_ble_eq_true rfl), Nat.le_trans (show _ ≤ 13800 by omega) (Nat.le_of_ble_eq_true rfl)⟩) hS (af_le hH hS hA) (fun v_166 φ_167 H locs hw_v_166 hH hS => ?_)
          obtain ⟨rfl, hqv_166⟩ := hw_v_166
          rw [hqv_166] at hH
          refine lv_iload (pc := 236) S.1 S.2.1 dL_areSound_236 (lv_at hl 3 rfl) ?_
          refine hv_icmp_ne (pc := 238) (tgt := 263) (a := w 0 k b) (b := w 0 k b) S.1 S.2.1 (by omega) (by omega) dL_areSound_238 (by decide) (fun c9 => absurd c9 (by omega)) (fun c_168 => ?_)
          refine lv_iload (pc := 241) S.1 S.2.1 dL_areSound_241 (lv_at hl 4 rfl) ?_
          by_cases hb0 : b = 0
          · skip
            refine hv_if_eq (pc := 243) (tgt := 259) (a := b) S.1 S.2.1 (by omega) dL_areSound_243 (by decide) (fun c_169 => ?_) (fun c9 => absurd c9 (by omega))
            refine lv_iconst (pc := 259) (v := nI 1) S.1 S.2.1 dL_areSound_259 (by decide) ?_
            refine lv_goto (pc := 260) (tgt := 264) S.1 S.2.1 dL_areSound_260 (by decide) ?_
            refine lv_istore (pc := 264) (lv' := [(6, .int (nI 1)), (9, .int (nI (smN (w 1 k) (b + 1)))), (15, .int (nI (w 1 k b))), (14, .int (nI (ez 1 k))), (13, .int (nI (w 0 k b))), (12, .int (nI b)), (11, .int (nI (w 0 k 0) - nI (o 4 8 * 785 / 1000))), (10, .int (nI (lsW (w 0 k) b))), (8, .int (nI k)), (7, .int (nI (o 4 8 * 785 / 1000))), (5, .int (nI x)), (4, .ref (az 13)), (3, .ref (az 12)), (2, .ref (az 10)), (1, .ref (az 9)), (0, .ref (az 0))]) S.1 S.2.1 dL_areSound_264 hl (by decide) rfl (fun ls hl => ?_)
            refine lv_iload (pc := 266) S.1 S.2.1 dL_areSound_266 (lv_at hl 4 rfl) ?_
            refine lv_istore (pc := 268) (lv' := [(10, .int (nI (w 0 k b))), (6, .int (nI 1)), (9, .int (nI (smN (w 1 k) (b + 1)))), (15, .int (nI (w 1 k b))), (14, .int (nI (ez 1 k))), (13, .int (nI (w 0 k b))), (12, .int (nI b)), (11, .int (nI (w 0 k 0) - nI (o 4 8 * 785 / 1000))), (8, .int (nI k)), (7, .int (nI (o 4 8 * 785 / 1000))), (5, .int (nI x)), (4, .ref (az 13)), (3, .ref (az 12)), (2, .ref (az 10)), (1, .ref (az 9)), (0, .ref (az 0))]) S.1 S.2.1 dL_areSound_268 hl (by decide) rfl (fun ls hl => ?_)
            refine lv_iinc (pc := 270) (v := nI (b + 1)) (lv' := [(12, .int (nI (b + 1))), (10, .int (nI (w 0 k b))), (6, .int (nI 1)), (9, .int (nI (smN (w 1 k) (b + 1)))), (15, .int (nI (w 1 k b))), (14, .int (nI (ez 1 k))), (13, .int (nI (w 0 k b))), (11, .int (nI (w 0 k 0) - nI (o 4 8 * 785 / 1000))), (8, .int (nI k)), (7, .int (nI (o 4 8 * 785 / 1000))), (5, .int (nI x)), (4, .ref (az 13)), (3, .ref (az 12)), (2, .ref (az 10)), (1, .ref (az 9)), (0, .ref (az 0))]) S.1 S.2.1 dL_areSound_270 hl (k := 6) rfl (by first | rfl | exact nI_add _ _) (by decide) rfl (fun ls hl => ?_)
            refine lv_goto (pc := 273) (tgt := 58) S.1 S.2.1 dL_areSound_273 (by decide) ?_
            refine W.widen (k := 186 * k + 5 + 29 * (b + 1)) (n := 1116 * k + 30 + 174 * (b + 1)) (by omega) (by omega) ?_
            have hi2 : (b + 1) + j = 6 := by omega
            have hl2 : lv_has ls 16 [(12, .int (nI (b + 1))), (11, .int (nI (w 0 k 0) - nI (o 4 8 * 785 / 1000))), (10, .int (nI (lsW (w 0 k) (b + 1)))), (9, .int (nI (smN (w 1 k) (b + 1)))), (8, .int (nI k)), (6, .int (nI 1)), (7, .int (nI (o 4 8 * 785 / 1000))), (5, .int (nI x)), (4, .ref (az 13)), (3, .ref (az 12)), (2, .ref (az 10)), (1, .ref (az 9)), (0, .ref (az 0))] := lv_sub hl [0, 7, 1, 3, 8, 2, 9, 10, 11, 12, 13, 14, 15] rfl
            apply ihb (b := b + 1) <;> assumption
          · skip
            refine hv_if_eq (pc := 243) (tgt := 259) (a := b) S.1 S.2.1 (by omega) dL_areSound_243 (by decide) (fun c9 => absurd c9 (by omega)) (fun c_170 => ?_)
            refine lv_iload (pc := 246) S.1 S.2.1 dL_areSound_246 (lv_at hl 2 rfl) ?_
            refine lv_aload_n (pc := 248) S.1 S.2.1 dL_areSound_248 rfl (lv_at hl 15 rfl) ?_
            refine lv_iload (pc := 249) S.1 S.2.1 dL_areSound_249 (lv_at hl 7 rfl) ?_
            refine lv_iconst (pc := 251) (v := nI 0) S.1 S.2.1 dL_areSound_251 (by decide) ?_
            refine lv_iconst (pc := 252) (v := nI 1) S.1 S.2.1 dL_areSound_252 (by decide) ?_
            refine hv_call (pc := 253) (va_runV (As := [.int (nI k), .int (nI 0), .int (nI 1)]) (rest := [.int (nI (ez 1 k))]) S (ys_about l hfl D cA ga φ H.size az tn tk tm tg sc ar w ez o o k 0 1 hY hI hT hk (by decide) (by decide)) (cwV 3 S.2.2.2.2 (gV tw_122 tw_123 tw_124 tw_1 tw_125) rfl rfl rfl (by decide +kernel) ⟨Nat.le_of_ble_eq_true rfl, Nat.le_of_ble_eq_true rfl⟩) (pre0_V hH hK hX hS hA (ycv hH hK hY)) rfl rfl hl.1 rfl (lv_room (Nat.le_of_ble_eq_true rfl)) dL_areSound_253 ⟨Nat.le_trans (show _ ≤ 2320 by omega) (Nat.le_of_ble_eq_true rfl), Nat.le_trans (show _ ≤ 13800 by omega) (Nat.le_of_ble_eq_true rfl)⟩) hS (af_le hH hS hA) (fun v_171 φ_172 H locs hw_v_171 hH hS => ?_)
            obtain ⟨rfl, hqv_171⟩ := hw_v_171
            rw [hqv_171] at hH
            refine hv_ti (y := nI (ez 1 k)) (rfl) ?_
            refine hv_icmp_ne (pc := 256) (tgt := 263) (a := ez 1 k) (b := ez 1 k) S.1 S.2.1 (by omega) (by omega) dL_areSound_256 (by decide) (fun c9 => absurd c9 (by omega)) (fun c_173 => ?_)
            refine lv_iconst (pc := 259) (v := nI 1) S.1 S.2.1 dL_areSound_259 (by decide) ?_
            refine lv_goto (pc := 260) (tgt := 264) S.1 S.2.1 dL_areSound_260 (by decide) ?_
            refine lv_istore (pc := 264) (lv' := [(6, .int (nI 1)), (9, .int (nI (smN (w 1 k) (b + 1)))), (15, .int (nI (w 1 k b))), (14, .int (nI (ez 1 k))), (13, .int (nI (w 0 k b))), (12, .int (nI b)), (11, .int (nI (w 0 k 0) - nI (o 4 8 * 785 / 1000))), (10, .int (nI (lsW (w 0 k) b))), (8, .int (nI k)), (7, .int (nI (o 4 8 * 785 / 1000))), (5, .int (nI x)), (4, .ref (az 13)), (3, .ref (az 12)), (2, .ref (az 10)), (1, .ref (az 9)), (0, .ref (az 0))]) S.1 S.2.1 dL_areSound_264 hl (by decide) rfl (fun ls hl => ?_)
            refine lv_iload (pc := 266) S.1 S.2.1 dL_areSound_266 (lv_at hl 4 rfl) ?_
            refine lv_istore (pc := 268) (lv' := [(10, .int (nI (w 0 k b))), (6, .int (nI 1)), (9, .int (nI (smN (w 1 k) (b + 1)))), (15, .int (nI (w 1 k b))), (14, .int (nI (ez 1 k))), (13, .int (nI (w 0 k b))), (12, .int (nI b)), (11, .int (nI (w 0 k 0) - nI (o 4 8 * 785 / 1000))), (8, .int (nI k)), (7, .int (nI (o 4 8 * 785 / 1000))), (5, .int (nI x)), (4, .ref (az 13)), (3, .ref (az 12)), (2, .ref (az 10)), (1, .ref (az 9)), (0, .ref (az 0))]) S.1 S.2.1 dL_areSound_268 hl (by decide) rfl (fun ls hl => ?_)
            refine lv_iinc (pc := 270) (v := nI (b + 1)) (lv' := [(12, .int (nI (b + 1))), (10, .int (nI (w 0 k b))), (6, .int (nI 1)), (9, .int (nI (smN (w 1 k) (b + 1)))), (15, .int (nI (w 1 k b))), (14, .int (nI (ez 1 k))), (13, .int (nI (w 0 k b))), (11, .int (nI (w 0 k 0) - nI (o 4 8 * 785 / 1000))), (8, .int (nI k)), (7, .int (nI (o 4 8 * 785 / 1000))), (5, .int (nI x)), (4, .ref (az 13)), (3, .ref (az 12)), (2, .ref (az 10)), (1, .ref (az 9)), (0, .ref (az 0))]) S.1 S.2.1 dL_areSound_270 hl (k := 6) rfl (by first | rfl | exact nI_add _ _) (by decide) rfl (fun ls hl => ?_)
            refine lv_goto (pc := 273) (tgt := 58) S.1 S.2.1 dL_areSound_273 (by decide) ?_
            refine W.widen (k := 186 * k + 5 + 29 * (b + 1)) (n := 1116 * k + 30 + 174 * (b + 1)) (by omega) (by omega) ?_
            have hi2 : (b + 1) + j = 6 := by omega
            have hl2 : lv_has ls 16 [(12, .int (nI (b + 1))), (11, .int (nI (w 0 k 0) - nI (o 4 8 * 785 / 1000))), (10, .int (nI (lsW (w 0 k) (b + 1)))), (9, .int (nI (smN (w 1 k) (b + 1)))), (8, .int (nI k)), (6, .int (nI 1)), (7, .int (nI (o 4 8 * 785 / 1000))), (5, .int (nI x)), (4, .ref (az 13)), (3, .ref (az 12)), (2, .ref (az 10)), (1, .ref (az 9)), (0, .ref (az 0))] := lv_sub hl [0, 7, 1, 3, 8, 2, 9, 10, 11, 12, 13, 14, 15] rfl
            apply ihb (b := b + 1) <;> assumption
        · skip
          refine hv_if_gt (pc := 225) (tgt := 241) (a := ((k + b) + x) % 5) S.1 S.2.1 (by omega) dL_areSound_225 (by decide) (fun c_174 => ?_) (fun c9 => absurd c9 (by omega))
          refine lv_iload (pc := 241) S.1 S.2.1 dL_areSound_241 (lv_at hl 4 rfl) ?_
          by_cases hb0 : b = 0
          · skip
            refine hv_if_eq (pc := 243) (tgt := 259) (a := b) S.1 S.2.1 (by omega) dL_areSound_243 (by decide) (fun c_175 => ?_) (fun c9 => absurd c9 (by omega))
            refine lv_iconst (pc := 259) (v := nI 1) S.1 S.2.1 dL_areSound_259 (by decide) ?_
            refine lv_goto (pc := 260) (tgt := 264) S.1 S.2.1 dL_areSound_260 (by decide) ?_
            refine lv_istore (pc := 264) (lv' := [(6, .int (nI 1)), (9, .int (nI (smN (w 1 k) (b + 1)))), (15, .int (nI (w 1 k b))), (14, .int (nI (ez 1 k))), (13, .int (nI (w 0 k b))), (12, .int (nI b)), (11, .int (nI (w 0 k 0) - nI (o 4 8 * 785 / 1000))), (10, .int (nI (lsW (w 0 k) b))), (8, .int (nI k)), (7, .int (nI (o 4 8 * 785 / 1000))), (5, .int (nI x)), (4, .ref (az 13)), (3, .ref (az 12)), (2, .ref (az 10)), (1, .ref (az 9)), (0, .ref (az 0))]) S.1 S.2.1 dL_areSound_264 hl (by decide) rfl (fun ls hl => ?_)
            refine lv_iload (pc := 266) S.1 S.2.1 dL_areSound_266 (lv_at hl 4 rfl) ?_
            refine lv_istore (pc := 268) (lv' := [(10, .int (nI (w 0 k b))), (6, .int (nI 1)), (9, .int (nI (smN (w 1 k) (b + 1)))), (15, .int (nI (w 1 k b))), (14, .int (nI (ez 1 k))), (13, .int (nI (w 0 k b))), (12, .int (nI b)), (11, .int (nI (w 0 k 0) - nI (o 4 8 * 785 / 1000))), (8, .int (nI k)), (7, .int (nI (o 4 8 * 785 / 1000))), (5, .int (nI x)), (4, .ref (az 13)), (3, .ref (az 12)), (2, .ref (az 10)), (1, .ref (az 9)), (0, .ref (az 0))]) S.1 S.2.1 dL_areSound_268 hl (by decide) rfl (fun ls hl => ?_)
            refine lv_iinc (pc := 270) (v := nI (b + 1)) (lv' := [(12, .int (nI (b + 1))), (10, .int (nI (w 0 k b))), (6, .int (nI 1)), (9, .int (nI (smN (w 1 k) (b + 1)))), (15, .int (nI (w 1 k b))), (14, .int (nI (ez 1 k))), (13, .int (nI (w 0 k b))), (11, .int (nI (w 0 k 0) - nI (o 4 8 * 785 / 1000))), (8, .int (nI k)), (7, .int (nI (o 4 8 * 785 / 1000))), (5, .int (nI x)), (4, .ref (az 13)), (3, .ref (az 12)), (2, .ref (az 10)), (1, .ref (az 9)), (0, .ref (az 0))]) S.1 S.2.1 dL_areSound_270 hl (k := 6) rfl (by first | rfl | exact nI_add _ _) (by decide) rfl (fun ls hl => ?_)
            refine lv_goto (pc := 273) (tgt := 58) S.1 S.2.1 dL_areSound_273 (by decide) ?_
            refine W.widen (k := 186 * k + 5 + 29 * (b + 1)) (n := 1116 * k + 30 + 174 * (b + 1)) (by omega) (by omega) ?_
            have hi2 : (b + 1) + j = 6 := by omega
            have hl2 : lv_has ls 16 [(12, .int (nI (b + 1))), (11, .int (nI (w 0 k 0) - nI (o 4 8 * 785 / 1000))), (10, .int (nI (lsW (w 0 k) (b + 1)))), (9, .int (nI (smN (w 1 k) (b + 1)))), (8, .int (nI k)), (6, .int (nI 1)), (7, .int (nI (o 4 8 * 785 / 1000))), (5, .int (nI x)), (4, .ref (az 13)), (3, .ref (az 12)), (2, .ref (az 10)), (1, .ref (az 9)), (0, .ref (az 0))] := lv_sub hl [0, 7, 1, 3, 8, 2, 9, 10, 11, 12, 13, 14, 15] rfl
            apply ihb (b := b + 1) <;> assumption
          · skip
            refine hv_if_eq (pc := 243) (tgt := 259) (a := b) S.1 S.2.1 (by omega) dL_areSound_243 (by decide) (fun c9 => absurd c9 (by omega)) (fun c_176 => ?_)
            refine lv_iload (pc := 246) S.1 S.2.1 dL_areSound_246 (lv_at hl 2 rfl) ?_
            refine lv_aload_n (pc := 248) S.1 S.2.1 dL_areSound_248 rfl (lv_at hl 15 rfl) ?_
            refine lv_iload (pc := 249) S.1 S.2.1 dL_areSound_249 (lv_at hl 7 rfl) ?_
            refine lv_iconst (pc := 251) (v := nI 0) S.1 S.2.1 dL_areSound_251 (by decide) ?_
            refine lv_iconst (pc := 252) (v := nI 1) S.1 S.2.1 dL_areSound_252 (by decide) ?_
            refine hv_call (pc := 253) (va_runV (As := [.int (nI k), .int (nI 0), .int (nI 1)]) (rest := [.int (nI (ez 1 k))]) S (ys_about l hfl D cA ga φ H.size az tn tk tm tg sc ar w ez o o k 0 1 hY hI hT hk (by decide) (by decide)) (cwV 3 S.2.2.2.2 (gV tw_122 tw_123 tw_124 tw_1 tw_125) rfl rfl rfl (by decide +kernel) ⟨Nat.le_of_ble_eq_true rfl, Nat.le_of_ble_eq_true rfl⟩) (pre0_V hH hK hX hS hA (ycv hH hK hY)) rfl rfl hl.1 rfl (lv_room (Nat.le_of_ble_eq_true rfl)) dL_areSound_253 ⟨Nat.le_trans (show _ ≤ 2320 by omega) (Nat.le_of_ble_eq_true rfl), Nat.le_trans (show _ ≤ 13800 by omega) (Nat.le_of_ble_eq_true rfl)⟩) hS (af_le hH hS hA) (fun v_177 φ_178 H locs hw_v_177 hH hS => ?_)
            obtain ⟨rfl, hqv_177⟩ := hw_v_177
            rw [hqv_177] at hH
            refine hv_ti (y := nI (ez 1 k)) (rfl) ?_
            refine hv_icmp_ne (pc := 256) (tgt := 263) (a := ez 1 k) (b := ez 1 k) S.1 S.2.1 (by omega) (by omega) dL_areSound_256 (by decide) (fun c9 => absurd c9 (by omega)) (fun c_179 => ?_)
            refine lv_iconst (pc := 259) (v := nI 1) S.1 S.2.1 dL_areSound_259 (by decide) ?_
            refine lv_goto (pc := 260) (tgt := 264) S.1 S.2.1 dL_areSound_260 (by decide) ?_
            refine lv_istore (pc := 264) (lv' := [(6, .int (nI 1)), (9, .int (nI (smN (w 1 k) (b + 1)))), (15, .int (nI (w 1 k b))), (14, .int (nI (ez 1 k))), (13, .int (nI (w 0 k b))), (12, .int (nI b)), (11, .int (nI (w 0 k 0) - nI (o 4 8 * 785 / 1000))), (10, .int (nI (lsW (w 0 k) b))), (8, .int (nI k)), (7, .int (nI (o 4 8 * 785 / 1000))), (5, .int (nI x)), (4, .ref (az 13)), (3, .ref (az 12)), (2, .ref (az 10)), (1, .ref (az 9)), (0, .ref (az 0))]) S.1 S.2.1 dL_areSound_264 hl (by decide) rfl (fun ls hl => ?_)
            refine lv_iload (pc := 266) S.1 S.2.1 dL_areSound_266 (lv_at hl 4 rfl) ?_
            refine lv_istore (pc := 268) (lv' := [(10, .int (nI (w 0 k b))), (6, .int (nI 1)), (9, .int (nI (smN (w 1 k) (b + 1)))), (15, .int (nI (w 1 k b))), (14, .int (nI (ez 1 k))), (13, .int (nI (w 0 k b))), (12, .int (nI b)), (11, .int (nI (w 0 k 0) - nI (o 4 8 * 785 / 1000))), (8, .int (nI k)), (7, .int (nI (o 4 8 * 785 / 1000))), (5, .int (nI x)), (4, .ref (az 13)), (3, .ref (az 12)), (2, .ref (az 10)), (1, .ref (az 9)), (0, .ref (az 0))]) S.1 S.2.1 dL_areSound_268 hl (by decide) rfl (fun ls hl => ?_)
            refine lv_iinc (pc := 270) (v := nI (b + 1)) (lv' := [(12, .int (nI (b + 1))), (10, .int (nI (w 0 k b))), (6, .int (nI 1)), (9, .int (nI (smN (w 1 k) (b + 1)))), (15, .int (nI (w 1 k b))), (14, .int (nI (ez 1 k))), (13, .int (nI (w 0 k b))), (11, .int (nI (w 0 k 0) - nI (o 4 8 * 785 / 1000))), (8, .int (nI k)), (7, .int (nI (o 4 8 * 785 / 1000))), (5, .int (nI x)), (4, .ref (az 13)), (3, .ref (az 12)), (2, .ref (az 10)), (1, .ref (az 9)), (0, .ref (az 0))]) S.1 S.2.1 dL_areSound_270 hl (k := 6) rfl (by first | rfl | exact nI_add _ _) (by decide) rfl (fun ls hl => ?_)
            refine lv_goto (pc := 273) (tgt := 58) S.1 S.2.1 dL_areSound_273 (by decide) ?_
            refine W.widen (k := 186 * k + 5 + 29 * (b + 1)) (n := 1116 * k + 30 + 174 * (b + 1)) (by omega) (by omega) ?_
            have hi2 : (b + 1) + j = 6 := by omega
            have hl2 : lv_has ls 16 [(12, .int (nI (b + 1))), (11, .int (nI (w 0 k 0) - nI (o 4 8 * 785 / 1000))), (10, .int (nI (lsW (w 0 k) (b + 1)))), (9, .int (nI (smN (w 1 k) (b + 1)))), (8, .int (nI k)), (6, .int (nI 1)), (7, .int (nI (o 4 8 * 785 / 1000))), (5, .int (nI x)), (4, .ref (az 13)), (3, .ref (az 12)), (2, .ref (az 10)), (1, .ref (az 9)), (0, .ref (az 0))] := lv_sub hl [0, 7, 1, 3, 8, 2, 9, 10, 11, 12, 13, 14, 15] rfl
            apply ihb (b := b + 1) <;> assumption

