set_option maxHeartbeats 4000000 in
set_option maxRecDepth 100000 in
/-- a cone is formed -/
theorem law_cone (l : Launch) (hfl : l.stackTraces = false) {p : Program} {e : Env} {s : State} {m : MethodId} {below : List Frame} {meth : Method} {c : Code} {b : Nat} {D : va_G} {cA : Nat → ClassId} {ga : Nat → Nat → Nat} {Q : State → Prop} (S : CallFix p m c code 19 s #[.ref b] Wc RL) (hK : va_K D vwCl (tysL cA) s) (hX : Sx ga (fun q => s.heap.size ≤ q) s s.heap) {k x9 hw y9 cn z9 cells slots : Nat} {H : Heap} {locs : List Loc} {ls : Array Slot} {az : Nat → Nat} {tk tm : Nat} {tg sc : Nat → Nat} {ar : Nat → Nat → Nat} {w : Nat → Nat → Nat → Nat} {ez o : Nat → Nat → Nat} {φ : hpM} (hk : k < 130) (hc : cells ≤ 500000) (hs : slots ≤ 5000000) (hz9 : z9 < 2 ^ 27) (hw34 : hw < 34)
    (hY : YW cA ga az tk tm tg sc ar w ez o φ) (hI : LI k sc ar w ez o) (hT : TY tk tg) (h5 : o 0 5 = tk) (hH : hp D (fun q => s.heap.size ≤ q) φ H) (hS : va_S (fun q => s.heap.size ≤ q) s.heap H locs) (hcn : 0 < sc 3 → cn < sc 3) (hl : lv_has ls 19 [(13, .int (nI z9)), (12, .int (nI cn)), (11, .int (nI y9)), (10, .int (nI hw)), (9, .int (nI x9)), (8, .int (nI k)), (7, .int (nI 1)), (6, .ref (az 13)), (5, .ref (az 12)), (4, .ref (az 11)), (3, .ref (az 10)), (2, .ref (az 9)), (1, .ref (az 0)), (0, .ref b)])
    (kk : ∀ (H1 : Heap) (locs1 : List Loc) (ls1 : Array Slot), WLD cA ga D (fun q => s.heap.size ≤ q) az (k + 1) H1 → va_S (fun q => s.heap.size ≤ q) s.heap H1 locs1 → lv_has ls1 19 [(11, .int (nI y9)), (9, .int (nI x9)), (8, .int (nI k)), (7, .int (nI 1)), (6, .ref (az 13)), (5, .ref (az 12)), (4, .ref (az 11)), (3, .ref (az 10)), (2, .ref (az 9)), (1, .ref (az 0)), (0, .ref b)] → W p l e room_1 s m #[.ref b] below meth c H1 locs1 (cells + 130) (slots + 800) Q (F0 m 1489 ls1 [])) (h : 3 ≤ hw ∧ hw < 7) (h0 : 0 < sc 2) :
    W p l e room_1 s m #[.ref b] below meth c H locs cells slots Q (F0 m 201 ls []) := by
  have hA : ∀ q, s.heap.size ≤ q → (fun q => s.heap.size ≤ q) q := fun _ h => h
  have hl1 := hI.l1
  have hm := hI.lm
  have h200 : k ≤ 200 := by omega
  have hk7 := hT.1
  refine lv_iload (pc := 201) S.1 S.2.1 dL_law_201 (lv_at hl 3 rfl) ?_
  refine lv_iconst (pc := 203) (v := nI 3) S.1 S.2.1 dL_law_203 (by decide) ?_
  refine hv_icmp_ge (pc := 204) (tgt := 389) (a := hw) (b := 3) S.1 S.2.1 (by omega) (by omega) dL_law_204 (by decide) (fun c_1 => ?_) (fun c9 => absurd c9 (by omega))
  refine lv_iload (pc := 389) S.1 S.2.1 dL_law_389 (lv_at hl 3 rfl) ?_
  refine lv_bipush (pc := 391) (v := nI 7) S.1 S.2.1 dL_law_391 (by decide) ?_
  refine hv_icmp_ge (pc := 393) (tgt := 546) (a := hw) (b := 7) S.1 S.2.1 (by omega) (by omega) dL_law_393 (by decide) (fun c9 => absurd c9 (by omega)) (fun c_2 => ?_)
  refine lv_aload_n (pc := 396) S.1 S.2.1 dL_law_396 rfl (lv_at hl 11 rfl) ?_
  refine lv_iconst (pc := 397) (v := nI 0) S.1 S.2.1 dL_law_397 (by decide) ?_
  refine hv_iald (pc := 398) S hK hH 1 (hY.a0) rfl (vp_in_nI (show 0 < 6 by omega) (by omega)) dL_law_398 ?_
  refine hv_ti (y := nI ((o 0) 0)) (hv_ld (by omega)) ?_
  refine hv_ti (y := nI (sc 2)) (congrArg nI hm.1) ?_
  refine hv_if_le (pc := 399) (tgt := 546) (a := sc 2) S.1 S.2.1 (by omega) dL_law_399 (by decide) (fun c9 => absurd c9 (by omega)) (fun c_3 => ?_)
  refine lv_iload (pc := 402) S.1 S.2.1 dL_law_402 (lv_at hl 0 rfl) ?_
  refine lv_aload_n (pc := 404) S.1 S.2.1 dL_law_404 rfl (lv_at hl 11 rfl) ?_
  refine lv_iconst (pc := 405) (v := nI 0) S.1 S.2.1 dL_law_405 (by decide) ?_
  refine hv_iald (pc := 406) S hK hH 1 (hY.a0) rfl (vp_in_nI (show 0 < 6 by omega) (by omega)) dL_law_406 ?_
  refine hv_ti (y := nI ((o 0) 0)) (hv_ld (by omega)) ?_
  refine hv_ti (y := nI (sc 2)) (congrArg nI hm.1) ?_
  refine lv_irem (pc := 407) S.1 S.2.1 dL_law_407 (fun h9 => by have := jI_inj (show nI (sc 2) = nI 0 from h9.trans nI_0.symm) (by omega) (by decide); omega) ?_
  refine hv_ti (y := nI (z9 % (sc 2))) (pk_rem (by omega) (by omega) (by omega)) ?_
  have hmod : z9 % sc 2 < sc 2 := Nat.mod_lt _ h0
  obtain ⟨L9, hL9⟩ : ∃ L9 : Nat, L9 = z9 % (sc 2) := ⟨_, rfl⟩
  refine hv_ti (y := nI L9) (by rw [hL9]) ?_
  have hbL9 : L9 < sc 2 := by omega
  refine lv_istore (pc := 408) (lv' := [(14, .int (nI L9)), (13, .int (nI z9)), (12, .int (nI cn)), (11, .int (nI y9)), (10, .int (nI hw)), (9, .int (nI x9)), (8, .int (nI k)), (7, .int (nI 1)), (6, .ref (az 13)), (5, .ref (az 12)), (4, .ref (az 11)), (3, .ref (az 10)), (2, .ref (az 9)), (1, .ref (az 0)), (0, .ref b)]) S.1 S.2.1 dL_law_408 hl (by decide) rfl (fun ls hl => ?_)
  refine lv_bipush (pc := 410) (v := nI 10) S.1 S.2.1 dL_law_410 (by decide) ?_
  refine lv_iload (pc := 412) S.1 S.2.1 dL_law_412 (lv_at hl 1 rfl) ?_
  refine lv_bipush (pc := 414) (v := nI 10) S.1 S.2.1 dL_law_414 (by decide) ?_
  refine lv_idiv (pc := 416) S.1 S.2.1 dL_law_416 (by decide) ?_
  refine hv_ti (y := nI (z9 / 10)) (pk_div (by omega) (by omega) (by omega)) ?_
  refine lv_sipush (pc := 417) (v := nI 491) S.1 S.2.1 dL_law_417 (by decide) ?_
  refine lv_irem (pc := 420) S.1 S.2.1 dL_law_420 (by decide) ?_
  refine hv_ti (y := nI ((z9 / 10) % 491)) (pk_rem (by omega) (by omega) (by omega)) ?_
  refine lv_iadd (pc := 421) S.1 S.2.1 dL_law_421 ?_
  refine hv_ti (y := nI (10 + ((z9 / 10) % 491))) (nI_add _ _) ?_
  obtain ⟨G9, hG9⟩ : ∃ G9 : Nat, G9 = 10 + ((z9 / 10) % 491) := ⟨_, rfl⟩
  refine hv_ti (y := nI G9) (by rw [hG9]) ?_
  have hbG9 : 10 ≤ G9 ∧ G9 ≤ 500 := by omega
  refine lv_istore (pc := 422) (lv' := [(15, .int (nI G9)), (14, .int (nI L9)), (13, .int (nI z9)), (12, .int (nI cn)), (11, .int (nI y9)), (10, .int (nI hw)), (9, .int (nI x9)), (8, .int (nI k)), (7, .int (nI 1)), (6, .ref (az 13)), (5, .ref (az 12)), (4, .ref (az 11)), (3, .ref (az 10)), (2, .ref (az 9)), (1, .ref (az 0)), (0, .ref b)]) S.1 S.2.1 dL_law_422 hl (by decide) rfl (fun ls hl => ?_)
  refine lv_aload_n (pc := 424) S.1 S.2.1 dL_law_424 rfl (lv_at hl 14 rfl) ?_
  refine lv_iload (pc := 425) S.1 S.2.1 dL_law_425 (lv_at hl 1 rfl) ?_
  refine hv_call (pc := 427) (va_runV (As := [.int (nI L9)]) (rest := []) S (ys_grams l hfl D cA ga φ H.size az k tk tm tg sc ar w ez o o L9 hY hI hT hbL9) (cwV 1 S.2.2.2.2 (gV tw_247 tw_248 tw_249 tw_1 tw_250) rfl rfl rfl (by decide +kernel) ⟨Nat.le_of_ble_eq_true rfl, Nat.le_of_ble_eq_true rfl⟩) (pre0_V hH hK hX hS hA (ycv hH hK hY)) rfl rfl hl.1 rfl (lv_room (Nat.le_of_ble_eq_true rfl)) dL_law_427 ⟨Nat.le_trans (show _ ≤ 600000 by omega) (Nat.le_of_ble_eq_true rfl), Nat.le_trans (show _ ≤ 7000000 by omega) (Nat.le_of_ble_eq_true rfl)⟩) hS (af_le hH hS hA) (fun v_4 φ_5 H locs hw_v_4 hH hS => ?_)
  obtain ⟨rfl, hqv_4⟩ := hw_v_4
  rw [hqv_4] at hH
  have hg5 := (hI.l2 L9).2
  refine lv_istore (pc := 430) (lv' := [(16, .int (nI (ar 2 L9))), (15, .int (nI G9)), (14, .int (nI L9)), (13, .int (nI z9)), (12, .int (nI cn)), (11, .int (nI y9)), (10, .int (nI hw)), (9, .int (nI x9)), (8, .int (nI k)), (7, .int (nI 1)), (6, .ref (az 13)), (5, .ref (az 12)), (4, .ref (az 11)), (3, .ref (az 10)), (2, .ref (az 9)), (1, .ref (az 0)), (0, .ref b)]) S.1 S.2.1 dL_law_430 hl (by decide) rfl (fun ls hl => ?_)
  refine lv_iload (pc := 432) S.1 S.2.1 dL_law_432 (lv_at hl 0 rfl) ?_
  refine lv_iload (pc := 434) S.1 S.2.1 dL_law_434 (lv_at hl 1 rfl) ?_
  by_cases hcan : G9 ≤ ar 2 L9 ∧ sc 3 < 12
  · skip
    refine hv_icmp_lt (pc := 436) (tgt := 451) (a := ar 2 L9) (b := G9) S.1 S.2.1 (by omega) (by omega) dL_law_436 (by decide) (fun c9 => absurd c9 (by omega)) (fun c_6 => ?_)
    refine lv_aload_n (pc := 439) S.1 S.2.1 dL_law_439 rfl (lv_at hl 14 rfl) ?_
    refine lv_iconst (pc := 440) (v := nI 1) S.1 S.2.1 dL_law_440 (by decide) ?_
    refine hv_iald (pc := 441) S hK hH 1 (hY.a0) rfl (vp_in_nI (show 1 < 6 by omega) (by omega)) dL_law_441 ?_
    refine hv_ti (y := nI ((o 0) 1)) (hv_ld (by omega)) ?_
    refine hv_ti (y := nI (sc 3)) (congrArg nI hm.2.1) ?_
    refine lv_bipush (pc := 442) (v := nI 12) S.1 S.2.1 dL_law_442 (by decide) ?_
    refine hv_icmp_ge (pc := 444) (tgt := 451) (a := sc 3) (b := 12) S.1 S.2.1 (by omega) (by omega) dL_law_444 (by decide) (fun c9 => absurd c9 (by omega)) (fun c_7 => ?_)
    refine lv_iconst (pc := 447) (v := nI 1) S.1 S.2.1 dL_law_447 (by decide) ?_
    refine lv_goto (pc := 448) (tgt := 452) S.1 S.2.1 dL_law_448 (by decide) ?_
    refine lv_istore (pc := 452) (lv' := [(17, .int (nI 1)), (16, .int (nI (ar 2 L9))), (15, .int (nI G9)), (14, .int (nI L9)), (13, .int (nI z9)), (12, .int (nI cn)), (11, .int (nI y9)), (10, .int (nI hw)), (9, .int (nI x9)), (8, .int (nI k)), (7, .int (nI 1)), (6, .ref (az 13)), (5, .ref (az 12)), (4, .ref (az 11)), (3, .ref (az 10)), (2, .ref (az 9)), (1, .ref (az 0)), (0, .ref b)]) S.1 S.2.1 dL_law_452 hl (by decide) rfl (fun ls hl => ?_)
    refine lv_aload_n (pc := 454) S.1 S.2.1 dL_law_454 rfl (lv_at hl 16 rfl) ?_
    refine lv_iconst (pc := 455) (v := nI 2) S.1 S.2.1 dL_law_455 (by decide) ?_
    refine lv_iload (pc := 456) S.1 S.2.1 dL_law_456 (lv_at hl 3 rfl) ?_
    refine lv_iload (pc := 458) S.1 S.2.1 dL_law_458 (lv_at hl 2 rfl) ?_
    refine lv_iload (pc := 460) S.1 S.2.1 dL_law_460 (lv_at hl 4 rfl) ?_
    refine lv_bipush (pc := 462) (v := nI 7) S.1 S.2.1 dL_law_462 (by decide) ?_
    refine lv_idiv (pc := 464) S.1 S.2.1 dL_law_464 (by decide) ?_
    refine hv_ti (y := nI (z9 / 7)) (pk_div (by omega) (by omega) (by omega)) ?_
    refine lv_bipush (pc := 465) (v := nI 6) S.1 S.2.1 dL_law_465 (by decide) ?_
    refine lv_irem (pc := 467) S.1 S.2.1 dL_law_467 (by decide) ?_
    refine hv_ti (y := nI ((z9 / 7) % 6)) (pk_rem (by omega) (by omega) (by omega)) ?_
    obtain ⟨T9, hT9⟩ : ∃ T9 : Nat, T9 = (z9 / 7) % 6 := ⟨_, rfl⟩
    refine hv_ti (y := nI T9) (by rw [hT9]) ?_
    have hbT9 : T9 ≤ 5 := by omega
    refine hv_call (pc := 468) (vx_runSW (As := [.ref (az 0), .int (nI 2), .int (nI L9), .int (nI G9), .int (nI T9)]) (rest := []) S (as_cone l hfl D cA ga φ H.size az k tk tm tg sc ar w ez o o L9 G9 T9 hY hI hT h200 hbL9 hbG9.1 hbG9.2 hbT9 hcan.2 hcan.1) (vx_cwSW 5 S.2.2.2.2 (gSW tw_261 tw_262 tw_0 tw_263) rfl rfl rfl (by decide +kernel) ⟨Nat.le_of_ble_eq_true rfl, Nat.le_of_ble_eq_true rfl⟩) (pre0_S hH hK hX hS hA) rfl rfl hl.1 rfl (lv_room (Nat.le_of_ble_eq_true rfl)) dL_law_468 ⟨Nat.le_trans (show _ ≤ 600000 by omega) (Nat.le_of_ble_eq_true rfl), Nat.le_trans (show _ ≤ 7000000 by omega) (Nat.le_of_ble_eq_true rfl)⟩) hS (af_le hH hS hA) (fun v_8 φ_9 H locs hw_v_8 hH hS => ?_)
    obtain ⟨rfl, hY2⟩ := hw_v_8
    have hLF := hI.cone hbL9 hbG9.1 hbG9.2 hbT9 hcan.2
    refine lv_istore (pc := 471) (lv' := [(18, .int (nI (sc 3))), (17, .int (nI 1)), (16, .int (nI (ar 2 L9))), (15, .int (nI G9)), (14, .int (nI L9)), (13, .int (nI z9)), (12, .int (nI cn)), (11, .int (nI y9)), (10, .int (nI hw)), (9, .int (nI x9)), (8, .int (nI k)), (7, .int (nI 1)), (6, .ref (az 13)), (5, .ref (az 12)), (4, .ref (az 11)), (3, .ref (az 10)), (2, .ref (az 9)), (1, .ref (az 0)), (0, .ref b)]) S.1 S.2.1 dL_law_471 hl (by decide) rfl (fun ls hl => ?_)
    refine lv_iload (pc := 473) S.1 S.2.1 dL_law_473 (lv_at hl 0 rfl) ?_
    refine lv_iload (pc := 475) S.1 S.2.1 dL_law_475 (lv_at hl 1 rfl) ?_
    refine hv_if_eq (pc := 477) (tgt := 486) (a := 1) S.1 S.2.1 (by omega) dL_law_477 (by decide) (fun c9 => absurd c9 (by omega)) (fun c_10 => ?_)
    refine lv_aload_n (pc := 480) S.1 S.2.1 dL_law_480 rfl (lv_at hl 16 rfl) ?_
    refine lv_iconst (pc := 481) (v := nI 1) S.1 S.2.1 dL_law_481 (by decide) ?_
    refine hv_iald (pc := 482) S hK hH 1 (hY2.a0) rfl (vp_in_nI (show 1 < 6 by omega) (by omega)) dL_law_482 ?_
    refine hv_ti (y := nI ((o 0) 1)) (hv_ld (by omega)) ?_
    refine hv_ti (y := nI (sc 3)) (congrArg nI hm.2.1) ?_
    refine lv_goto (pc := 483) (tgt := 488) S.1 S.2.1 dL_law_483 (by decide) ?_
    refine hv_icmp_ne (pc := 488) (tgt := 519) (a := sc 3) (b := sc 3) S.1 S.2.1 (by omega) (by omega) dL_law_488 (by decide) (fun c9 => absurd c9 (by omega)) (fun c_11 => ?_)
    refine lv_aload_n (pc := 491) S.1 S.2.1 dL_law_491 rfl (lv_at hl 17 rfl) ?_
    refine lv_iload (pc := 492) S.1 S.2.1 dL_law_492 (lv_at hl 4 rfl) ?_
    refine hv_call (pc := 494) (va_runV (As := [.int (nI L9)]) (rest := []) S (ys_grams l hfl D cA ga φ_9 H.size az (k + 1) tk tm tg (va_up sc 3 (sc 3 + 1)) (va_up (va_up ar 2 (va_up (ar 2) L9 (ar 2 L9 - G9))) 3 (va_up (ar 3) (sc 3) (ar 1 L9))) (va_up (va_up w 0 (va_up (w 0) (sc 3) (pfx (fun b => 1200 - 150 * b) zr 6))) 1 (va_up (w 1) (sc 3) (va_up (pfx (gB G9 T9) zr 6) 0 (gB G9 T9 0 + (G9 - smN (gB G9 T9) 6))))) (va_up (va_up ez 1 (va_up (ez 1) (sc 3) 60)) 2 (va_up (ez 2) (sc 3) 0)) o _ L9 hY2 hLF hT (show L9 < sc 2 by omega)) (cwV 1 S.2.2.2.2 (gV tw_247 tw_248 tw_249 tw_1 tw_250) rfl rfl rfl (by decide +kernel) ⟨Nat.le_of_ble_eq_true rfl, Nat.le_of_ble_eq_true rfl⟩) (pre0_V hH hK hX hS hA (ycv hH hK hY2)) rfl rfl hl.1 rfl (lv_room (Nat.le_of_ble_eq_true rfl)) dL_law_494 ⟨Nat.le_trans (show _ ≤ 600000 by omega) (Nat.le_of_ble_eq_true rfl), Nat.le_trans (show _ ≤ 7000000 by omega) (Nat.le_of_ble_eq_true rfl)⟩) hS (af_le hH hS hA) (fun v_12 φ_13 H locs hw_v_12 hH hS => ?_)
    obtain ⟨rfl, hqv_12⟩ := hw_v_12
    rw [hqv_12] at hH
    refine hv_ti (y := nI (ar 2 L9 - G9)) (congrArg nI (va_up_self (ar 2) L9 (ar 2 L9 - G9))) ?_
    refine lv_iload (pc := 497) S.1 S.2.1 dL_law_497 (lv_at hl 1 rfl) ?_
    refine hv_if_eq (pc := 499) (tgt := 510) (a := 1) S.1 S.2.1 (by omega) dL_law_499 (by decide) (fun c9 => absurd c9 (by omega)) (fun c_14 => ?_)
    refine lv_iload (pc := 502) S.1 S.2.1 dL_law_502 (lv_at hl 2 rfl) ?_
    refine lv_iload (pc := 504) S.1 S.2.1 dL_law_504 (lv_at hl 3 rfl) ?_
    refine lv_isub (pc := 506) S.1 S.2.1 dL_law_506 ?_
    refine hv_ti (y := nI ((ar 2 L9) - G9)) (pk_sub (by omega)) ?_
    refine lv_goto (pc := 507) (tgt := 512) S.1 S.2.1 dL_law_507 (by decide) ?_
    refine hv_icmp_ne (pc := 512) (tgt := 519) (a := ar 2 L9 - G9) (b := (ar 2 L9) - G9) S.1 S.2.1 (by omega) (by omega) dL_law_512 (by decide) (fun c9 => absurd c9 (by omega)) (fun c_15 => ?_)
    refine lv_iconst (pc := 515) (v := nI 1) S.1 S.2.1 dL_law_515 (by decide) ?_
    refine lv_goto (pc := 516) (tgt := 520) S.1 S.2.1 dL_law_516 (by decide) ?_
    refine lv_istore (pc := 520) (lv' := [(7, .int (nI 1)), (18, .int (nI (sc 3))), (17, .int (nI 1)), (16, .int (nI (ar 2 L9))), (15, .int (nI G9)), (14, .int (nI L9)), (13, .int (nI z9)), (12, .int (nI cn)), (11, .int (nI y9)), (10, .int (nI hw)), (9, .int (nI x9)), (8, .int (nI k)), (6, .ref (az 13)), (5, .ref (az 12)), (4, .ref (az 11)), (3, .ref (az 10)), (2, .ref (az 9)), (1, .ref (az 0)), (0, .ref b)]) S.1 S.2.1 dL_law_520 hl (by decide) rfl (fun ls hl => ?_)
    refine lv_iload (pc := 522) S.1 S.2.1 dL_law_522 (lv_at hl 2 rfl) ?_
    refine hv_if_eq (pc := 524) (tgt := 543) (a := 1) S.1 S.2.1 (by omega) dL_law_524 (by decide) (fun c9 => absurd c9 (by omega)) (fun c_16 => ?_)
    refine lv_aload_n (pc := 527) S.1 S.2.1 dL_law_527 rfl (lv_at hl 15 rfl) ?_
    refine lv_iconst (pc := 528) (v := nI 4) S.1 S.2.1 dL_law_528 (by decide) ?_
    refine lv_aload_n (pc := 529) S.1 S.2.1 dL_law_529 rfl (lv_at hl 16 rfl) ?_
    refine lv_iconst (pc := 530) (v := nI 1) S.1 S.2.1 dL_law_530 (by decide) ?_
    refine hv_iald (pc := 531) S hK hH 1 (hY2.a0) rfl (vp_in_nI (show 1 < 6 by omega) (by omega)) dL_law_531 ?_
    refine hv_ti (y := nI ((o 0) 1)) (hv_ld (by omega)) ?_
    refine hv_ti (y := nI (sc 3)) (congrArg nI hm.2.1) ?_
    refine lv_imul (pc := 532) S.1 S.2.1 dL_law_532 ?_
    refine hv_ti (y := nI (4 * (sc 3))) (pk_mul _ _) ?_
    refine lv_iload (pc := 533) S.1 S.2.1 dL_law_533 (lv_at hl 4 rfl) ?_
    refine hv_iast (pc := 535) S hK hH hS 1 (hY2.a1) rfl (vp_in_nI (show 4 * sc 3 < 48 by omega) (by omega)) dL_law_535 (fun H locs hH hS => ?_)
    rw [hv_upd (by omega)] at hH
    replace hH := nup (e := .inl (cA 1, 48, .inl (fun j => nI ((va_up (o 1) (4 * sc 3) G9) j)))) hH
    obtain ⟨φ_18, hφ_18, fa_φ_18, fr_φ_18, hH⟩ := hH
    have hY_17 := hY2.s1 (4 * sc 3) G9
    rw [← hφ_18] at hY_17
    refine lv_aload_n (pc := 536) S.1 S.2.1 dL_law_536 rfl (lv_at hl 16 rfl) ?_
    refine lv_iconst (pc := 537) (v := nI 1) S.1 S.2.1 dL_law_537 (by decide) ?_
    refine lv_dup2_11 (pc := 538) S.1 S.2.1 dL_law_538 rfl rfl ?_
    refine hv_iald (pc := 539) S hK hH 1 (hY_17.a0) rfl (vp_in_nI (show 1 < 6 by omega) (by omega)) dL_law_539 ?_
    refine hv_ti (y := nI (((va_up o 1 (va_up (o 1) (4 * sc 3) G9)) 0) 1)) (hv_ld (by omega)) ?_
    refine hv_ti (y := nI (sc 3)) (congrArg nI hm.2.1) ?_
    refine lv_iconst (pc := 540) (v := nI 1) S.1 S.2.1 dL_law_540 (by decide) ?_
    refine lv_iadd (pc := 541) S.1 S.2.1 dL_law_541 ?_
    refine hv_ti (y := nI ((sc 3) + 1)) (nI_add _ _) ?_
    refine hv_iast (pc := 542) S hK hH hS 1 (hY_17.a0) rfl (vp_in_nI (show 1 < 6 by omega) (by omega)) dL_law_542 (fun H locs hH hS => ?_)
    rw [hv_upd (by omega)] at hH
    replace hH := nup (e := .inl (cA 1, 6, .inl (fun j => nI ((va_up ((va_up o 1 (va_up (o 1) (4 * sc 3) G9)) 0) 1 (sc 3 + 1)) j)))) hH
    obtain ⟨φ_20, hφ_20, fa_φ_20, fr_φ_20, hH⟩ := hH
    have hY_19 := hY_17.s0 1 (sc 3 + 1)
    rw [← hφ_20] at hY_19
    refine lv_goto (pc := 543) (tgt := 1489) S.1 S.2.1 dL_law_543 (by decide) ?_
    refine W.widen (k := cells + 130) (n := slots + 800) (by omega) (by omega) ?_
    exact kk _ _ _ ⟨tk, tm, tg, va_up sc 3 (sc 3 + 1), va_up (va_up ar 2 (va_up (ar 2) L9 (ar 2 L9 - G9))) 3 (va_up (ar 3) (sc 3) (ar 1 L9)), va_up (va_up w 0 (va_up (w 0) (sc 3) (pfx (fun b => 1200 - 150 * b) zr 6))) 1 (va_up (w 1) (sc 3) (va_up (pfx (gB G9 T9) zr 6) 0 (gB G9 T9 0 + (G9 - smN (gB G9 T9) 6)))), va_up (va_up ez 1 (va_up (ez 1) (sc 3) 60)) 2 (va_up (ez 2) (sc 3) 0), _, _, hY_19, hLF, hT, h5, hH⟩ hS (lv_sub hl [8, 10, 11, 0, 12, 13, 14, 15, 16, 17, 18] rfl)
  · skip
    by_cases hg9 : G9 ≤ ar 2 L9
    · skip
      refine hv_icmp_lt (pc := 436) (tgt := 451) (a := ar 2 L9) (b := G9) S.1 S.2.1 (by omega) (by omega) dL_law_436 (by decide) (fun c9 => absurd c9 (by omega)) (fun c_21 => ?_)
      refine lv_aload_n (pc := 439) S.1 S.2.1 dL_law_439 rfl (lv_at hl 14 rfl) ?_
      refine lv_iconst (pc := 440) (v := nI 1) S.1 S.2.1 dL_law_440 (by decide) ?_
      refine hv_iald (pc := 441) S hK hH 1 (hY.a0) rfl (vp_in_nI (show 1 < 6 by omega) (by omega)) dL_law_441 ?_
      refine hv_ti (y := nI ((o 0) 1)) (hv_ld (by omega)) ?_
      refine hv_ti (y := nI (sc 3)) (congrArg nI hm.2.1) ?_
      refine lv_bipush (pc := 442) (v := nI 12) S.1 S.2.1 dL_law_442 (by decide) ?_
      refine hv_icmp_ge (pc := 444) (tgt := 451) (a := sc 3) (b := 12) S.1 S.2.1 (by omega) (by omega) dL_law_444 (by decide) (fun c_22 => ?_) (fun c9 => absurd c9 (by omega))
      refine lv_iconst (pc := 451) (v := nI 0) S.1 S.2.1 dL_law_451 (by decide) ?_
      refine lv_istore (pc := 452) (lv' := [(17, .int (nI 0)), (16, .int (nI (ar 2 L9))), (15, .int (nI G9)), (14, .int (nI L9)), (13, .int (nI z9)), (12, .int (nI cn)), (11, .int (nI y9)), (10, .int (nI hw)), (9, .int (nI x9)), (8, .int (nI k)), (7, .int (nI 1)), (6, .ref (az 13)), (5, .ref (az 12)), (4, .ref (az 11)), (3, .ref (az 10)), (2, .ref (az 9)), (1, .ref (az 0)), (0, .ref b)]) S.1 S.2.1 dL_law_452 hl (by decide) rfl (fun ls hl => ?_)
      refine lv_aload_n (pc := 454) S.1 S.2.1 dL_law_454 rfl (lv_at hl 16 rfl) ?_
      refine lv_iconst (pc := 455) (v := nI 2) S.1 S.2.1 dL_law_455 (by decide) ?_
      refine lv_iload (pc := 456) S.1 S.2.1 dL_law_456 (lv_at hl 3 rfl) ?_
      refine lv_iload (pc := 458) S.1 S.2.1 dL_law_458 (lv_at hl 2 rfl) ?_
      refine lv_iload (pc := 460) S.1 S.2.1 dL_law_460 (lv_at hl 4 rfl) ?_
      refine lv_bipush (pc := 462) (v := nI 7) S.1 S.2.1 dL_law_462 (by decide) ?_
      refine lv_idiv (pc := 464) S.1 S.2.1 dL_law_464 (by decide) ?_
      refine hv_ti (y := nI (z9 / 7)) (pk_div (by omega) (by omega) (by omega)) ?_
      refine lv_bipush (pc := 465) (v := nI 6) S.1 S.2.1 dL_law_465 (by decide) ?_
      refine lv_irem (pc := 467) S.1 S.2.1 dL_law_467 (by decide) ?_
      refine hv_ti (y := nI ((z9 / 7) % 6)) (pk_rem (by omega) (by omega) (by omega)) ?_
      obtain ⟨T9, hT9⟩ : ∃ T9 : Nat, T9 = (z9 / 7) % 6 := ⟨_, rfl⟩
      refine hv_ti (y := nI T9) (by rw [hT9]) ?_
      have hbT9 : T9 ≤ 5 := by omega
      refine hv_call (pc := 468) (vx_runSW (As := [.ref (az 0), .int (nI 2), .int (nI L9), .int (nI G9), .int (nI T9)]) (rest := []) S (ax_cone_2 l hfl D cA ga φ H.size az k tk tm tg sc ar w ez o o (nI L9) (nI G9) (nI T9) hY hI hT h200 (coneX_2 hbL9 (by omega) hbG9.1 hbG9.2 hbT9 (by omega))) (vx_cwSW 5 S.2.2.2.2 (gSW tw_261 tw_262 tw_0 tw_263) rfl rfl rfl (by decide +kernel) ⟨Nat.le_of_ble_eq_true rfl, Nat.le_of_ble_eq_true rfl⟩) (pre0_S hH hK hX hS hA) rfl rfl hl.1 rfl (lv_room (Nat.le_of_ble_eq_true rfl)) dL_law_468 ⟨Nat.le_trans (show _ ≤ 600000 by omega) (Nat.le_of_ble_eq_true rfl), Nat.le_trans (show _ ≤ 7000000 by omega) (Nat.le_of_ble_eq_true rfl)⟩) hS (af_le hH hS hA) (fun v_23 φ_24 H locs hw_v_23 hH hS => ?_)
      obtain ⟨rfl, hqv_23⟩ := hw_v_23
      rw [hqv_23] at hH
      refine lv_istore (pc := 471) (lv' := [(18, .int ((-16830000 : Int32))), (17, .int (nI 0)), (16, .int (nI (ar 2 L9))), (15, .int (nI G9)), (14, .int (nI L9)), (13, .int (nI z9)), (12, .int (nI cn)), (11, .int (nI y9)), (10, .int (nI hw)), (9, .int (nI x9)), (8, .int (nI k)), (7, .int (nI 1)), (6, .ref (az 13)), (5, .ref (az 12)), (4, .ref (az 11)), (3, .ref (az 10)), (2, .ref (az 9)), (1, .ref (az 0)), (0, .ref b)]) S.1 S.2.1 dL_law_471 hl (by decide) rfl (fun ls hl => ?_)
      refine lv_iload (pc := 473) S.1 S.2.1 dL_law_473 (lv_at hl 0 rfl) ?_
      refine lv_iload (pc := 475) S.1 S.2.1 dL_law_475 (lv_at hl 1 rfl) ?_
      refine hv_if_eq (pc := 477) (tgt := 486) (a := 0) S.1 S.2.1 (by omega) dL_law_477 (by decide) (fun c_25 => ?_) (fun c9 => absurd c9 (by omega))
      refine lv_ldc (pc := 486) (v := (-16830000 : Int32)) S.1 S.2.1 S.2.2.2.1 (S.2.2.2.2 _ tw_887) dL_law_486 ?_
      refine lv_icmp_ne (pc := 488) (tgt := 519) S.1 S.2.1 dL_law_488 (by decide) (fun c9 => absurd c9 (fun h9 => h9 rfl)) (fun c_26 => ?_)
      refine lv_aload_n (pc := 491) S.1 S.2.1 dL_law_491 rfl (lv_at hl 17 rfl) ?_
      refine lv_iload (pc := 492) S.1 S.2.1 dL_law_492 (lv_at hl 4 rfl) ?_
      refine hv_call (pc := 494) (va_runV (As := [.int (nI L9)]) (rest := []) S (ys_grams l hfl D cA ga φ H.size az k tk tm tg sc ar w ez o o L9 hY hI hT hbL9) (cwV 1 S.2.2.2.2 (gV tw_247 tw_248 tw_249 tw_1 tw_250) rfl rfl rfl (by decide +kernel) ⟨Nat.le_of_ble_eq_true rfl, Nat.le_of_ble_eq_true rfl⟩) (pre0_V hH hK hX hS hA (ycv hH hK hY)) rfl rfl hl.1 rfl (lv_room (Nat.le_of_ble_eq_true rfl)) dL_law_494 ⟨Nat.le_trans (show _ ≤ 600000 by omega) (Nat.le_of_ble_eq_true rfl), Nat.le_trans (show _ ≤ 7000000 by omega) (Nat.le_of_ble_eq_true rfl)⟩) hS (af_le hH hS hA) (fun v_27 φ_28 H locs hw_v_27 hH hS => ?_)
      obtain ⟨rfl, hqv_27⟩ := hw_v_27
      rw [hqv_27] at hH
      refine lv_iload (pc := 497) S.1 S.2.1 dL_law_497 (lv_at hl 1 rfl) ?_
      refine hv_if_eq (pc := 499) (tgt := 510) (a := 0) S.1 S.2.1 (by omega) dL_law_499 (by decide) (fun c_29 => ?_) (fun c9 => absurd c9 (by omega))
      refine lv_iload (pc := 510) S.1 S.2.1 dL_law_510 (lv_at hl 2 rfl) ?_
      refine hv_icmp_ne (pc := 512) (tgt := 519) (a := ar 2 L9) (b := ar 2 L9) S.1 S.2.1 (by omega) (by omega) dL_law_512 (by decide) (fun c9 => absurd c9 (by omega)) (fun c_30 => ?_)
      refine lv_iconst (pc := 515) (v := nI 1) S.1 S.2.1 dL_law_515 (by decide) ?_
      refine lv_goto (pc := 516) (tgt := 520) S.1 S.2.1 dL_law_516 (by decide) ?_
      refine lv_istore (pc := 520) (lv' := [(7, .int (nI 1)), (18, .int ((-16830000 : Int32))), (17, .int (nI 0)), (16, .int (nI (ar 2 L9))), (15, .int (nI G9)), (14, .int (nI L9)), (13, .int (nI z9)), (12, .int (nI cn)), (11, .int (nI y9)), (10, .int (nI hw)), (9, .int (nI x9)), (8, .int (nI k)), (6, .ref (az 13)), (5, .ref (az 12)), (4, .ref (az 11)), (3, .ref (az 10)), (2, .ref (az 9)), (1, .ref (az 0)), (0, .ref b)]) S.1 S.2.1 dL_law_520 hl (by decide) rfl (fun ls hl => ?_)
      refine lv_iload (pc := 522) S.1 S.2.1 dL_law_522 (lv_at hl 2 rfl) ?_
      refine hv_if_eq (pc := 524) (tgt := 543) (a := 0) S.1 S.2.1 (by omega) dL_law_524 (by decide) (fun c_31 => ?_) (fun c9 => absurd c9 (by omega))
      refine lv_goto (pc := 543) (tgt := 1489) S.1 S.2.1 dL_law_543 (by decide) ?_
      refine W.widen (k := cells + 130) (n := slots + 800) (by omega) (by omega) ?_
      exact kk _ _ _ ⟨tk, tm, tg, sc, ar, w, ez, o, _, hY, hI.up, hT, h5, hH⟩ hS (lv_sub hl [8, 10, 11, 0, 12, 13, 14, 15, 16, 17, 18] rfl)
    · skip
      refine hv_icmp_lt (pc := 436) (tgt := 451) (a := ar 2 L9) (b := G9) S.1 S.2.1 (by omega) (by omega) dL_law_436 (by decide) (fun c_32 => ?_) (fun c9 => absurd c9 (by omega))
      refine lv_iconst (pc := 451) (v := nI 0) S.1 S.2.1 dL_law_451 (by decide) ?_
      refine lv_istore (pc := 452) (lv' := [(17, .int (nI 0)), (16, .int (nI (ar 2 L9))), (15, .int (nI G9)), (14, .int (nI L9)), (13, .int (nI z9)), (12, .int (nI cn)), (11, .int (nI y9)), (10, .int (nI hw)), (9, .int (nI x9)), (8, .int (nI k)), (7, .int (nI 1)), (6, .ref (az 13)), (5, .ref (az 12)), (4, .ref (az 11)), (3, .ref (az 10)), (2, .ref (az 9)), (1, .ref (az 0)), (0, .ref b)]) S.1 S.2.1 dL_law_452 hl (by decide) rfl (fun ls hl => ?_)
      refine lv_aload_n (pc := 454) S.1 S.2.1 dL_law_454 rfl (lv_at hl 16 rfl) ?_
      refine lv_iconst (pc := 455) (v := nI 2) S.1 S.2.1 dL_law_455 (by decide) ?_
      refine lv_iload (pc := 456) S.1 S.2.1 dL_law_456 (lv_at hl 3 rfl) ?_
      refine lv_iload (pc := 458) S.1 S.2.1 dL_law_458 (lv_at hl 2 rfl) ?_
      refine lv_iload (pc := 460) S.1 S.2.1 dL_law_460 (lv_at hl 4 rfl) ?_
      refine lv_bipush (pc := 462) (v := nI 7) S.1 S.2.1 dL_law_462 (by decide) ?_
      refine lv_idiv (pc := 464) S.1 S.2.1 dL_law_464 (by decide) ?_
      refine hv_ti (y := nI (z9 / 7)) (pk_div (by omega) (by omega) (by omega)) ?_
      refine lv_bipush (pc := 465) (v := nI 6) S.1 S.2.1 dL_law_465 (by decide) ?_
      refine lv_irem (pc := 467) S.1 S.2.1 dL_law_467 (by decide) ?_
      refine hv_ti (y := nI ((z9 / 7) % 6)) (pk_rem (by omega) (by omega) (by omega)) ?_
      obtain ⟨T9, hT9⟩ : ∃ T9 : Nat, T9 = (z9 / 7) % 6 := ⟨_, rfl⟩
      refine hv_ti (y := nI T9) (by rw [hT9]) ?_
      have hbT9 : T9 ≤ 5 := by omega
      refine hv_call (pc := 468) (vx_runSW (As := [.ref (az 0), .int (nI 2), .int (nI L9), .int (nI G9), .int (nI T9)]) (rest := []) S (ax_cone_2 l hfl D cA ga φ H.size az k tk tm tg sc ar w ez o o (nI L9) (nI G9) (nI T9) hY hI hT h200 (coneX_2 hbL9 (by omega) hbG9.1 hbG9.2 hbT9 (by omega))) (vx_cwSW 5 S.2.2.2.2 (gSW tw_261 tw_262 tw_0 tw_263) rfl rfl rfl (by decide +kernel) ⟨Nat.le_of_ble_eq_true rfl, Nat.le_of_ble_eq_true rfl⟩) (pre0_S hH hK hX hS hA) rfl rfl hl.1 rfl (lv_room (Nat.le_of_ble_eq_true rfl)) dL_law_468 ⟨Nat.le_trans (show _ ≤ 600000 by omega) (Nat.le_of_ble_eq_true rfl), Nat.le_trans (show _ ≤ 7000000 by omega) (Nat.le_of_ble_eq_true rfl)⟩) hS (af_le hH hS hA) (fun v_33 φ_34 H locs hw_v_33 hH hS => ?_)
      obtain ⟨rfl, hqv_33⟩ := hw_v_33
      rw [hqv_33] at hH
      refine lv_istore (pc := 471) (lv' := [(18, .int ((-16830000 : Int32))), (17, .int (nI 0)), (16, .int (nI (ar 2 L9))), (15, .int (nI G9)), (14, .int (nI L9)), (13, .int (nI z9)), (12, .int (nI cn)), (11, .int (nI y9)), (10, .int (nI hw)), (9, .int (nI x9)), (8, .int (nI k)), (7, .int (nI 1)), (6, .ref (az 13)), (5, .ref (az 12)), (4, .ref (az 11)), (3, .ref (az 10)), (2, .ref (az 9)), (1, .ref (az 0)), (0, .ref b)]) S.1 S.2.1 dL_law_471 hl (by decide) rfl (fun ls hl => ?_)
      refine lv_iload (pc := 473) S.1 S.2.1 dL_law_473 (lv_at hl 0 rfl) ?_
      refine lv_iload (pc := 475) S.1 S.2.1 dL_law_475 (lv_at hl 1 rfl) ?_
      refine hv_if_eq (pc := 477) (tgt := 486) (a := 0) S.1 S.2.1 (by omega) dL_law_477 (by decide) (fun c_35 => ?_) (fun c9 => absurd c9 (by omega))
      refine lv_ldc (pc := 486) (v := (-16830000 : Int32)) S.1 S.2.1 S.2.2.2.1 (S.2.2.2.2 _ tw_887) dL_law_486 ?_
      refine lv_icmp_ne (pc := 488) (tgt := 519) S.1 S.2.1 dL_law_488 (by decide) (fun c9 => absurd c9 (fun h9 => h9 rfl)) (fun c_36 => ?_)
      refine lv_aload_n (pc := 491) S.1 S.2.1 dL_law_491 rfl (lv_at hl 17 rfl) ?_
      refine lv_iload (pc := 492) S.1 S.2.1 dL_law_492 (lv_at hl 4 rfl) ?_
      refine hv_call (pc := 494) (va_runV (As := [.int (nI L9)]) (rest := []) S (ys_grams l hfl D cA ga φ H.size az k tk tm tg sc ar w ez o o L9 hY hI hT hbL9) (cwV 1 S.2.2.2.2 (gV tw_247 tw_248 tw_249 tw_1 tw_250) rfl rfl rfl (by decide +kernel) ⟨Nat.le_of_ble_eq_true rfl, Nat.le_of_ble_eq_true rfl⟩) (pre0_V hH hK hX hS hA (ycv hH hK hY)) rfl rfl hl.1 rfl (lv_room (Nat.le_of_ble_eq_true rfl)) dL_law_494 ⟨Nat.le_trans (show _ ≤ 600000 by omega) (Nat.le_of_ble_eq_true rfl), Nat.le_trans (show _ ≤ 7000000 by omega) (Nat.le_of_ble_eq_true rfl)⟩) hS (af_le hH hS hA) (fun v_37 φ_38 H locs hw_v_37 hH hS => ?_)
      obtain ⟨rfl, hqv_37⟩ := hw_v_37
      rw [hqv_37] at hH
      refine lv_iload (pc := 497) S.1 S.2.1 dL_law_497 (lv_at hl 1 rfl) ?_
      refine hv_if_eq (pc := 499) (tgt := 510) (a := 0) S.1 S.2.1 (by omega) dL_law_499 (by decide) (fun c_39 => ?_) (fun c9 => absurd c9 (by omega))
      refine lv_iload (pc := 510) S.1 S.2.1 dL_law_510 (lv_at hl 2 rfl) ?_
      refine hv_icmp_ne (pc := 512) (tgt := 519) (a := ar 2 L9) (b := ar 2 L9) S.1 S.2.1 (by omega) (by omega) dL_law_512 (by decide) (fun c9 => absurd c9 (by omega)) (fun c_40 => ?_)
      refine lv_iconst (pc := 515) (v := nI 1) S.1 S.2.1 dL_law_515 (by decide) ?_
      refine lv_goto (pc := 516) (tgt := 520) S.1 S.2.1 dL_law_516 (by decide) ?_
      refine lv_istore (pc := 520) (lv' := [(7, .int (nI 1)), (18, .int ((-16830000 : Int32))), (17, .int (nI 0)), (16, .int (nI (ar 2 L9))), (15, .int (nI G9)), (14, .int (nI L9)), (13, .int (nI z9)), (12, .int (nI cn)), (11, .int (nI y9)), (10, .int (nI hw)), (9, .int (nI x9)), (8, .int (nI k)), (6, .ref (az 13)), (5, .ref (az 12)), (4, .ref (az 11)), (3, .ref (az 10)), (2, .ref (az 9)), (1, .ref (az 0)), (0, .ref b)]) S.1 S.2.1 dL_law_520 hl (by decide) rfl (fun ls hl => ?_)
      refine lv_iload (pc := 522) S.1 S.2.1 dL_law_522 (lv_at hl 2 rfl) ?_
      refine hv_if_eq (pc := 524) (tgt := 543) (a := 0) S.1 S.2.1 (by omega) dL_law_524 (by decide) (fun c_41 => ?_) (fun c9 => absurd c9 (by omega))
      refine lv_goto (pc := 543) (tgt := 1489) S.1 S.2.1 dL_law_543 (by decide) ?_
      refine W.widen (k := cells + 130) (n := slots + 800) (by omega) (by omega) ?_
      exact kk _ _ _ ⟨tk, tm, tg, sc, ar, w, ez, o, _, hY, hI.up, hT, h5, hH⟩ hS (lv_sub hl [8, 10, 11, 0, 12, 13, 14, 15, 16, 17, 18] rfl)
set_option maxHeartbeats 4000000 in
set_option maxRecDepth 100000 in
/-- a cycle -/
theorem law_cycle (l : Launch) (hfl : l.stackTraces = false) {p : Program} {e : Env} {s : State} {m : MethodId} {below : List Frame} {meth : Method} {c : Code} {b : Nat} {D : va_G} {cA : Nat → ClassId} {ga : Nat → Nat → Nat} {Q : State → Prop} (S : CallFix p m c code 19 s #[.ref b] Wc RL) (hK : va_K D vwCl (tysL cA) s) (hX : Sx ga (fun q => s.heap.size ≤ q) s s.heap) {k x9 hw y9 cn z9 cells slots : Nat} {H : Heap} {locs : List Loc} {ls : Array Slot} {az : Nat → Nat} {tk tm : Nat} {tg sc : Nat → Nat} {ar : Nat → Nat → Nat} {w : Nat → Nat → Nat → Nat} {ez o : Nat → Nat → Nat} {φ : hpM} (hk : k < 130) (hc : cells ≤ 500000) (hs : slots ≤ 5000000) (hz9 : z9 < 2 ^ 27) (hw34 : hw < 34)
    (hY : YW cA ga az tk tm tg sc ar w ez o φ) (hI : LI k sc ar w ez o) (hT : TY tk tg) (h5 : o 0 5 = tk) (hH : hp D (fun q => s.heap.size ≤ q) φ H) (hS : va_S (fun q => s.heap.size ≤ q) s.heap H locs) (hcn : 0 < sc 3 → cn < sc 3) (hl : lv_has ls 19 [(13, .int (nI z9)), (12, .int (nI cn)), (11, .int (nI y9)), (10, .int (nI hw)), (9, .int (nI x9)), (8, .int (nI k)), (7, .int (nI 1)), (6, .ref (az 13)), (5, .ref (az 12)), (4, .ref (az 11)), (3, .ref (az 10)), (2, .ref (az 9)), (1, .ref (az 0)), (0, .ref b)])
    (kk : ∀ (H1 : Heap) (locs1 : List Loc) (ls1 : Array Slot), WLD cA ga D (fun q => s.heap.size ≤ q) az (k + 1) H1 → va_S (fun q => s.heap.size ≤ q) s.heap H1 locs1 → lv_has ls1 19 [(11, .int (nI y9)), (9, .int (nI x9)), (8, .int (nI k)), (7, .int (nI 1)), (6, .ref (az 13)), (5, .ref (az 12)), (4, .ref (az 11)), (3, .ref (az 10)), (2, .ref (az 9)), (1, .ref (az 0)), (0, .ref b)] → W p l e room_1 s m #[.ref b] below meth c H1 locs1 (cells + 130) (slots + 800) Q (F0 m 1489 ls1 [])) (h : 11 ≤ hw ∧ hw < 21) (h03 : 0 < sc 3) (h05 : 0 < sc 5) :
    W p l e room_1 s m #[.ref b] below meth c H locs cells slots Q (F0 m 201 ls []) := by
  have hA : ∀ q, s.heap.size ≤ q → (fun q => s.heap.size ≤ q) q := fun _ h => h
  have hl1 := hI.l1
  have hm := hI.lm
  have h200 : k ≤ 200 := by omega
  have hk7 := hT.1
  have hcn3 := hcn h03
  refine lv_iload (pc := 201) S.1 S.2.1 dL_law_201 (lv_at hl 3 rfl) ?_
  refine lv_iconst (pc := 203) (v := nI 3) S.1 S.2.1 dL_law_203 (by decide) ?_
  refine hv_icmp_ge (pc := 204) (tgt := 389) (a := hw) (b := 3) S.1 S.2.1 (by omega) (by omega) dL_law_204 (by decide) (fun c_1 => ?_) (fun c9 => absurd c9 (by omega))
  refine lv_iload (pc := 389) S.1 S.2.1 dL_law_389 (lv_at hl 3 rfl) ?_
  refine lv_bipush (pc := 391) (v := nI 7) S.1 S.2.1 dL_law_391 (by decide) ?_
  refine hv_icmp_ge (pc := 393) (tgt := 546) (a := hw) (b := 7) S.1 S.2.1 (by omega) (by omega) dL_law_393 (by decide) (fun c_2 => ?_) (fun c9 => absurd c9 (by omega))
  refine lv_iload (pc := 546) S.1 S.2.1 dL_law_546 (lv_at hl 3 rfl) ?_
  refine lv_bipush (pc := 548) (v := nI 9) S.1 S.2.1 dL_law_548 (by decide) ?_
  refine hv_icmp_ge (pc := 550) (tgt := 610) (a := hw) (b := 9) S.1 S.2.1 (by omega) (by omega) dL_law_550 (by decide) (fun c_3 => ?_) (fun c9 => absurd c9 (by omega))
  refine lv_iload (pc := 610) S.1 S.2.1 dL_law_610 (lv_at hl 3 rfl) ?_
  refine lv_bipush (pc := 612) (v := nI 11) S.1 S.2.1 dL_law_612 (by decide) ?_
  refine hv_icmp_ge (pc := 614) (tgt := 726) (a := hw) (b := 11) S.1 S.2.1 (by omega) (by omega) dL_law_614 (by decide) (fun c_4 => ?_) (fun c9 => absurd c9 (by omega))
  refine lv_iload (pc := 726) S.1 S.2.1 dL_law_726 (lv_at hl 3 rfl) ?_
  refine lv_bipush (pc := 728) (v := nI 21) S.1 S.2.1 dL_law_728 (by decide) ?_
  refine hv_icmp_ge (pc := 730) (tgt := 908) (a := hw) (b := 21) S.1 S.2.1 (by omega) (by omega) dL_law_730 (by decide) (fun c9 => absurd c9 (by omega)) (fun c_5 => ?_)
  refine lv_aload_n (pc := 733) S.1 S.2.1 dL_law_733 rfl (lv_at hl 11 rfl) ?_
  refine lv_iconst (pc := 734) (v := nI 1) S.1 S.2.1 dL_law_734 (by decide) ?_
  refine hv_iald (pc := 735) S hK hH 1 (hY.a0) rfl (vp_in_nI (show 1 < 6 by omega) (by omega)) dL_law_735 ?_
  refine hv_ti (y := nI ((o 0) 1)) (hv_ld (by omega)) ?_
  refine hv_ti (y := nI (sc 3)) (congrArg nI hm.2.1) ?_
  refine hv_if_le (pc := 736) (tgt := 908) (a := sc 3) S.1 S.2.1 (by omega) dL_law_736 (by decide) (fun c9 => absurd c9 (by omega)) (fun c_6 => ?_)
  refine lv_aload_n (pc := 739) S.1 S.2.1 dL_law_739 rfl (lv_at hl 11 rfl) ?_
  refine lv_iconst (pc := 740) (v := nI 3) S.1 S.2.1 dL_law_740 (by decide) ?_
  refine hv_iald (pc := 741) S hK hH 1 (hY.a0) rfl (vp_in_nI (show 3 < 6 by omega) (by omega)) dL_law_741 ?_
  refine hv_ti (y := nI ((o 0) 3)) (hv_ld (by omega)) ?_
  refine hv_ti (y := nI (sc 5)) (congrArg nI hm.2.2.2.1) ?_
  refine hv_if_le (pc := 742) (tgt := 908) (a := sc 5) S.1 S.2.1 (by omega) dL_law_742 (by decide) (fun c9 => absurd c9 (by omega)) (fun c_7 => ?_)
  refine lv_iload (pc := 745) S.1 S.2.1 dL_law_745 (lv_at hl 0 rfl) ?_
  refine lv_aload_n (pc := 747) S.1 S.2.1 dL_law_747 rfl (lv_at hl 11 rfl) ?_
  refine lv_iconst (pc := 748) (v := nI 3) S.1 S.2.1 dL_law_748 (by decide) ?_
  refine hv_iald (pc := 749) S hK hH 1 (hY.a0) rfl (vp_in_nI (show 3 < 6 by omega) (by omega)) dL_law_749 ?_
  refine hv_ti (y := nI ((o 0) 3)) (hv_ld (by omega)) ?_
  refine hv_ti (y := nI (sc 5)) (congrArg nI hm.2.2.2.1) ?_
  refine lv_irem (pc := 750) S.1 S.2.1 dL_law_750 (fun h9 => by have := jI_inj (show nI (sc 5) = nI 0 from h9.trans nI_0.symm) (by omega) (by decide); omega) ?_
  refine hv_ti (y := nI (z9 % (sc 5))) (pk_rem (by omega) (by omega) (by omega)) ?_
  have hmod : z9 % sc 5 < sc 5 := Nat.mod_lt _ h05
  obtain ⟨J9, hJ9⟩ : ∃ J9 : Nat, J9 = z9 % (sc 5) := ⟨_, rfl⟩
  refine hv_ti (y := nI J9) (by rw [hJ9]) ?_
  have hbJ9 : J9 < sc 5 := by omega
  have hh3 := hI.lh J9
  have h12 := hI.l7.1 J9
  have hfa := fAir_le (ar 3 cn)
  have hw12 := (hI.l5 cn hcn3).1 0
  have hwp := hI.wp hcn3 (j := 0) (by decide)
  have h7le := (hI.l3 cn).2.1
  have hf4 := (hI.l3 cn).1
  refine lv_istore (pc := 751) (lv' := [(14, .int (nI J9)), (13, .int (nI z9)), (12, .int (nI cn)), (11, .int (nI y9)), (10, .int (nI hw)), (9, .int (nI x9)), (8, .int (nI k)), (7, .int (nI 1)), (6, .ref (az 13)), (5, .ref (az 12)), (4, .ref (az 11)), (3, .ref (az 10)), (2, .ref (az 9)), (1, .ref (az 0)), (0, .ref b)]) S.1 S.2.1 dL_law_751 hl (by decide) rfl (fun ls hl => ?_)
  refine lv_aload_n (pc := 753) S.1 S.2.1 dL_law_753 rfl (lv_at hl 13 rfl) ?_
  refine lv_iload (pc := 754) S.1 S.2.1 dL_law_754 (lv_at hl 2 rfl) ?_
  refine lv_iconst (pc := 756) (v := nI 0) S.1 S.2.1 dL_law_756 (by decide) ?_
  refine lv_iconst (pc := 757) (v := nI 0) S.1 S.2.1 dL_law_757 (by decide) ?_
  refine hv_call (pc := 758) (va_runV (As := [.int (nI cn), .int (nI 0), .int (nI 0)]) (rest := []) S (ys_about l hfl D cA ga φ H.size az k tk tm tg sc ar w ez o o cn 0 0 hY hI hT hcn3 (by decide) (by decide)) (cwV 3 S.2.2.2.2 (gV tw_122 tw_123 tw_124 tw_1 tw_125) rfl rfl rfl (by decide +kernel) ⟨Nat.le_of_ble_eq_true rfl, Nat.le_of_ble_eq_true rfl⟩) (pre0_V hH hK hX hS hA (ycv hH hK hY)) rfl rfl hl.1 rfl (lv_room (Nat.le_of_ble_eq_true rfl)) dL_law_758 ⟨Nat.le_trans (show _ ≤ 600000 by omega) (Nat.le_of_ble_eq_true rfl), Nat.le_trans (show _ ≤ 7000000 by omega) (Nat.le_of_ble_eq_true rfl)⟩) hS (af_le hH hS hA) (fun v_8 φ_9 H locs hw_v_8 hH hS => ?_)
  obtain ⟨rfl, hqv_8⟩ := hw_v_8
  rw [hqv_8] at hH
  refine hv_ti (y := nI (w 0 cn 0)) (rfl) ?_
  refine lv_istore (pc := 761) (lv' := [(15, .int (nI (w 0 cn 0))), (14, .int (nI J9)), (13, .int (nI z9)), (12, .int (nI cn)), (11, .int (nI y9)), (10, .int (nI hw)), (9, .int (nI x9)), (8, .int (nI k)), (7, .int (nI 1)), (6, .ref (az 13)), (5, .ref (az 12)), (4, .ref (az 11)), (3, .ref (az 10)), (2, .ref (az 9)), (1, .ref (az 0)), (0, .ref b)]) S.1 S.2.1 dL_law_761 hl (by decide) rfl (fun ls hl => ?_)
  refine lv_aload_n (pc := 763) S.1 S.2.1 dL_law_763 rfl (lv_at hl 14 rfl) ?_
  refine lv_iconst (pc := 764) (v := nI 4) S.1 S.2.1 dL_law_764 (by decide) ?_
  refine lv_iload (pc := 765) S.1 S.2.1 dL_law_765 (lv_at hl 3 rfl) ?_
  refine lv_iload (pc := 767) S.1 S.2.1 dL_law_767 (lv_at hl 1 rfl) ?_
  refine lv_iconst (pc := 769) (v := nI 0) S.1 S.2.1 dL_law_769 (by decide) ?_
  by_cases hok : ar 12 J9 + fAir (ar 3 cn) ≤ 30 ∧ ez 2 cn = 0 ∧ ar 7 cn < 12
  · skip
    refine hv_call (pc := 770) (vx_runSW (As := [.ref (az 0), .int (nI 4), .int (nI cn), .int (nI J9), .int (nI 0)]) (rest := []) S (as_cycle l hfl D cA ga φ H.size az k tk tm tg sc ar w ez o o cn J9 hY hI hT h200 hcn3 hbJ9 hok.1 hok.2.1 hok.2.2) (vx_cwSW 5 S.2.2.2.2 (gSW tw_261 tw_262 tw_0 tw_263) rfl rfl rfl (by decide +kernel) ⟨Nat.le_of_ble_eq_true rfl, Nat.le_of_ble_eq_true rfl⟩) (pre0_S hH hK hX hS hA) rfl rfl hl.1 rfl (lv_room (Nat.le_of_ble_eq_true rfl)) dL_law_770 ⟨Nat.le_trans (show _ ≤ 600000 by omega) (Nat.le_of_ble_eq_true rfl), Nat.le_trans (show _ ≤ 7000000 by omega) (Nat.le_of_ble_eq_true rfl)⟩) hS (af_le hH hS hA) (fun v_10 φ_11 H locs hw_v_10 hH hS => ?_)
    obtain ⟨rfl, hY2⟩ := hw_v_10
    have hLF := hI.cycle hcn3 hbJ9 hok.2.1 hok.2.2 hok.1
    have hsl : shA (ar 3 cn) (w 0 cn 0) < w 0 cn 0 := shA_lt hf4 (by omega)
    have hsp : 49 < shA (ar 3 cn) (w 0 cn 0) := by
      have h9 := hLF.wp (i := cn) hcn3 (j := 0) (by decide)
      have e9 : (va_up w 0 (va_up (w 0) cn (shP (ar 3 cn) (w 0 cn) 6))) 0 cn 0 = shA (ar 3 cn) (w 0 cn 0) := by show va_up (w 0) cn (shP (ar 3 cn) (w 0 cn) 6) cn 0 = _; rw [va_up_self]; rfl
      rw [e9] at h9; exact h9
    refine lv_istore (pc := 773) (lv' := [(16, .int (nI (shA (ar 3 cn) (w 0 cn 0)))), (15, .int (nI (w 0 cn 0))), (14, .int (nI J9)), (13, .int (nI z9)), (12, .int (nI cn)), (11, .int (nI y9)), (10, .int (nI hw)), (9, .int (nI x9)), (8, .int (nI k)), (7, .int (nI 1)), (6, .ref (az 13)), (5, .ref (az 12)), (4, .ref (az 11)), (3, .ref (az 10)), (2, .ref (az 9)), (1, .ref (az 0)), (0, .ref b)]) S.1 S.2.1 dL_law_773 hl (by decide) rfl (fun ls hl => ?_)
    refine lv_aload_n (pc := 775) S.1 S.2.1 dL_law_775 rfl (lv_at hl 15 rfl) ?_
    refine lv_iload (pc := 776) S.1 S.2.1 dL_law_776 (lv_at hl 2 rfl) ?_
    refine lv_iconst (pc := 778) (v := nI 1) S.1 S.2.1 dL_law_778 (by decide) ?_
    refine hv_call (pc := 779) (va_runV (As := [.int (nI J9), .int (nI 1)]) (rest := []) S (ys_air l hfl D cA ga φ_11 H.size az (k + 1) tk tm tg sc (va_up (va_up (va_up ar 7 (va_up (ar 7) cn (ar 7 cn + 1))) 12 (va_up (ar 12) J9 (ar 12 J9 + fAir (ar 3 cn)))) 13 (va_up (ar 13) J9 (ar 13 J9 + fAir (ar 3 cn)))) (va_up w 0 (va_up (w 0) cn (shP (ar 3 cn) (w 0 cn) 6))) (va_up ez 1 (va_up (ez 1) cn (shL (ar 3 cn) (ez 1 cn)))) o _ J9 1 hY2 hLF hT hbJ9 (by decide)) (cwV 2 S.2.2.2.2 (gV tw_238 tw_239 tw_240 tw_1 tw_241) rfl rfl rfl (by decide +kernel) ⟨Nat.le_of_ble_eq_true rfl, Nat.le_of_ble_eq_true rfl⟩) (pre0_V hH hK hX hS hA (ycv hH hK hY2)) rfl rfl hl.1 rfl (lv_room (Nat.le_of_ble_eq_true rfl)) dL_law_779 ⟨Nat.le_trans (show _ ≤ 600000 by omega) (Nat.le_of_ble_eq_true rfl), Nat.le_trans (show _ ≤ 7000000 by omega) (Nat.le_of_ble_eq_true rfl)⟩) hS (af_le hH hS hA) (fun v_12 φ_13 H locs hw_v_12 hH hS => ?_)
    obtain ⟨rfl, hqv_12⟩ := hw_v_12
    rw [hqv_12] at hH
    refine hv_ti (y := nI (ar 12 J9 + fAir (ar 3 cn))) (congrArg nI (va_up_self (ar 12) J9 (ar 12 J9 + fAir (ar 3 cn)))) ?_
    refine lv_aload (pc := 782) S.1 S.2.1 dL_law_782 (lv_at hl 11 rfl) ?_
    refine lv_iload (pc := 784) S.1 S.2.1 dL_law_784 (lv_at hl 2 rfl) ?_
    refine hv_iald (pc := 786) S hK hH 1 (hY2.a3) rfl (vp_in_nI (show J9 < 6 by omega) (by omega)) dL_law_786 ?_
    refine hv_ti (y := nI ((o 3) J9)) (hv_ld (by omega)) ?_
    refine hv_ti (y := nI (ar 12 J9)) (congrArg nI hh3) ?_
    refine lv_isub (pc := 787) S.1 S.2.1 dL_law_787 ?_
    refine hv_ti (y := nI ((ar 12 J9 + fAir (ar 3 cn)) - (ar 12 J9))) (pk_sub (by omega)) ?_
    refine hv_ti (y := nI (fAir (ar 3 cn))) (congrArg nI (by omega)) ?_
    refine lv_istore (pc := 788) (lv' := [(17, .int (nI (fAir (ar 3 cn)))), (16, .int (nI (shA (ar 3 cn) (w 0 cn 0)))), (15, .int (nI (w 0 cn 0))), (14, .int (nI J9)), (13, .int (nI z9)), (12, .int (nI cn)), (11, .int (nI y9)), (10, .int (nI hw)), (9, .int (nI x9)), (8, .int (nI k)), (7, .int (nI 1)), (6, .ref (az 13)), (5, .ref (az 12)), (4, .ref (az 11)), (3, .ref (az 10)), (2, .ref (az 9)), (1, .ref (az 0)), (0, .ref b)]) S.1 S.2.1 dL_law_788 hl (by decide) rfl (fun ls hl => ?_)
    refine lv_iload (pc := 790) S.1 S.2.1 dL_law_790 (lv_at hl 1 rfl) ?_
    refine lv_ldc (pc := 792) (v := (-16830000 : Int32)) S.1 S.2.1 S.2.2.2.1 (S.2.2.2.2 _ tw_887) dL_law_792 ?_
    refine lv_icmp_ne (pc := 794) (tgt := 810) S.1 S.2.1 dL_law_794 (by decide) (fun c_14 => ?_) (fun c9 => absurd c9 (nI_nn (by omega)))
    refine lv_iload (pc := 810) S.1 S.2.1 dL_law_810 (lv_at hl 1 rfl) ?_
    refine lv_aload_n (pc := 812) S.1 S.2.1 dL_law_812 rfl (lv_at hl 16 rfl) ?_
    refine lv_iload (pc := 813) S.1 S.2.1 dL_law_813 (lv_at hl 5 rfl) ?_
    refine lv_iconst (pc := 815) (v := nI 0) S.1 S.2.1 dL_law_815 (by decide) ?_
    refine lv_iconst (pc := 816) (v := nI 0) S.1 S.2.1 dL_law_816 (by decide) ?_
    refine hv_call (pc := 817) (va_runV (As := [.int (nI cn), .int (nI 0), .int (nI 0)]) (rest := [.int (nI (shA (ar 3 cn) (w 0 cn 0)))]) S (ys_about l hfl D cA ga φ_11 H.size az (k + 1) tk tm tg sc (va_up (va_up (va_up ar 7 (va_up (ar 7) cn (ar 7 cn + 1))) 12 (va_up (ar 12) J9 (ar 12 J9 + fAir (ar 3 cn)))) 13 (va_up (ar 13) J9 (ar 13 J9 + fAir (ar 3 cn)))) (va_up w 0 (va_up (w 0) cn (shP (ar 3 cn) (w 0 cn) 6))) (va_up ez 1 (va_up (ez 1) cn (shL (ar 3 cn) (ez 1 cn)))) o _ cn 0 0 hY2 hLF hT hcn3 (by decide) (by decide)) (cwV 3 S.2.2.2.2 (gV tw_122 tw_123 tw_124 tw_1 tw_125) rfl rfl rfl (by decide +kernel) ⟨Nat.le_of_ble_eq_true rfl, Nat.le_of_ble_eq_true rfl⟩) (pre0_V hH hK hX hS hA (ycv hH hK hY2)) rfl rfl hl.1 rfl (lv_room (Nat.le_of_ble_eq_true rfl)) dL_law_817 ⟨Nat.le_trans (show _ ≤ 600000 by omega) (Nat.le_of_ble_eq_true rfl), Nat.le_trans (show _ ≤ 7000000 by omega) (Nat.le_of_ble_eq_true rfl)⟩) hS (af_le hH hS hA) (fun v_15 φ_16 H locs hw_v_15 hH hS => ?_)
    obtain ⟨rfl, hqv_15⟩ := hw_v_15
    rw [hqv_15] at hH
    refine hv_ti (y := nI (shA (ar 3 cn) (w 0 cn 0))) (by show nI (va_up (w 0) cn (shP (ar 3 cn) (w 0 cn) 6) cn 0) = _; rw [va_up_self]; rfl) ?_
    refine hv_icmp_ne (pc := 820) (tgt := 871) (a := shA (ar 3 cn) (w 0 cn 0)) (b := shA (ar 3 cn) (w 0 cn 0)) S.1 S.2.1 (by omega) (by omega) dL_law_820 (by decide) (fun c9 => absurd c9 (by omega)) (fun c_17 => ?_)
    refine lv_iload (pc := 823) S.1 S.2.1 dL_law_823 (lv_at hl 1 rfl) ?_
    refine lv_iload (pc := 825) S.1 S.2.1 dL_law_825 (lv_at hl 2 rfl) ?_
    refine hv_icmp_ge (pc := 827) (tgt := 871) (a := shA (ar 3 cn) (w 0 cn 0)) (b := w 0 cn 0) S.1 S.2.1 (by omega) (by omega) dL_law_827 (by decide) (fun c9 => absurd c9 (by omega)) (fun c_18 => ?_)
    refine lv_iload (pc := 830) S.1 S.2.1 dL_law_830 (lv_at hl 0 rfl) ?_
    refine lv_bipush (pc := 832) (v := nI 8) S.1 S.2.1 dL_law_832 (by decide) ?_
    have h856 : ∀ (ls : Array Slot) (H : Heap) (locs : List Loc), hp D (fun q => s.heap.size ≤ q) φ_11 H → va_S (fun q => s.heap.size ≤ q) s.heap H locs → lv_has ls 19 [(17, .int (nI (fAir (ar 3 cn)))), (16, .int (nI (shA (ar 3 cn) (w 0 cn 0)))), (15, .int (nI (w 0 cn 0))), (14, .int (nI J9)), (13, .int (nI z9)), (12, .int (nI cn)), (11, .int (nI y9)), (10, .int (nI hw)), (9, .int (nI x9)), (8, .int (nI k)), (7, .int (nI 1)), (6, .ref (az 13)), (5, .ref (az 12)), (4, .ref (az 11)), (3, .ref (az 10)), (2, .ref (az 9)), (1, .ref (az 0)), (0, .ref b)] → W p l e room_1 s m #[.ref b] below meth c H locs (cells + 40) (slots + 300) Q (F0 m 856 ls []) := by
      intro ls H locs hH hS hl
      have hc2 := (hI.lc cn).2.1
      rw [if_pos hok.2.1] at hc2
      refine lv_aload_n (pc := 856) S.1 S.2.1 dL_law_856 rfl (lv_at hl 14 rfl) ?_
      refine lv_iconst (pc := 857) (v := nI 4) S.1 S.2.1 dL_law_857 (by decide) ?_
      refine lv_iload (pc := 858) S.1 S.2.1 dL_law_858 (lv_at hl 5 rfl) ?_
      refine lv_imul (pc := 860) S.1 S.2.1 dL_law_860 ?_
      refine hv_ti (y := nI (4 * cn)) (pk_mul _ _) ?_
      refine lv_iconst (pc := 861) (v := nI 2) S.1 S.2.1 dL_law_861 (by decide) ?_
      refine lv_iadd (pc := 862) S.1 S.2.1 dL_law_862 ?_
      refine hv_ti (y := nI ((4 * cn) + 2)) (nI_add _ _) ?_
      refine hv_iald (pc := 863) S hK hH 1 (hY2.a1) rfl (vp_in_nI (show (4 * cn) + 2 < 48 by omega) (by omega)) dL_law_863 ?_
      refine hv_ti (y := nI ((o 1) ((4 * cn) + 2))) (hv_ld (by omega)) ?_
      refine hv_ti (y := nI 0) (congrArg nI hc2) ?_
      refine hv_if_ne (pc := 864) (tgt := 871) (a := 0) S.1 S.2.1 (by omega) dL_law_864 (by decide) (fun c9 => absurd c9 (by omega)) (fun c_19 => ?_)
      refine lv_iconst (pc := 867) (v := nI 1) S.1 S.2.1 dL_law_867 (by decide) ?_
      refine lv_goto (pc := 868) (tgt := 872) S.1 S.2.1 dL_law_868 (by decide) ?_
      refine lv_istore (pc := 872) (lv' := [(7, .int (nI 1)), (17, .int (nI (fAir (ar 3 cn)))), (16, .int (nI (shA (ar 3 cn) (w 0 cn 0)))), (15, .int (nI (w 0 cn 0))), (14, .int (nI J9)), (13, .int (nI z9)), (12, .int (nI cn)), (11, .int (nI y9)), (10, .int (nI hw)), (9, .int (nI x9)), (8, .int (nI k)), (6, .ref (az 13)), (5, .ref (az 12)), (4, .ref (az 11)), (3, .ref (az 10)), (2, .ref (az 9)), (1, .ref (az 0)), (0, .ref b)]) S.1 S.2.1 dL_law_872 hl (by decide) rfl (fun ls hl => ?_)
      refine lv_aload_n (pc := 874) S.1 S.2.1 dL_law_874 rfl (lv_at hl 14 rfl) ?_
      refine lv_iconst (pc := 875) (v := nI 4) S.1 S.2.1 dL_law_875 (by decide) ?_
      refine lv_iload (pc := 876) S.1 S.2.1 dL_law_876 (lv_at hl 6 rfl) ?_
      refine lv_imul (pc := 878) S.1 S.2.1 dL_law_878 ?_
      refine hv_ti (y := nI (4 * cn)) (pk_mul _ _) ?_
      refine lv_iconst (pc := 879) (v := nI 1) S.1 S.2.1 dL_law_879 (by decide) ?_
      refine lv_iadd (pc := 880) S.1 S.2.1 dL_law_880 ?_
      refine hv_ti (y := nI ((4 * cn) + 1)) (nI_add _ _) ?_
      refine lv_dup2_11 (pc := 881) S.1 S.2.1 dL_law_881 rfl rfl ?_
      refine hv_iald (pc := 882) S hK hH 1 (hY2.a1) rfl (vp_in_nI (show (4 * cn) + 1 < 48 by omega) (by omega)) dL_law_882 ?_
      refine hv_ti (y := nI ((o 1) ((4 * cn) + 1))) (hv_ld (by omega)) ?_
      refine hv_ti (y := nI (o 1 (4 * cn + 1))) (rfl) ?_
      have hc1 := (hI.lc cn).1
      refine lv_iload (pc := 883) S.1 S.2.1 dL_law_883 (lv_at hl 2 rfl) ?_
      refine hv_if_le (pc := 885) (tgt := 892) (a := shA (ar 3 cn) (w 0 cn 0)) S.1 S.2.1 (by omega) dL_law_885 (by decide) (fun c9 => absurd c9 (by omega)) (fun c_20 => ?_)
      refine lv_iconst (pc := 888) (v := nI 1) S.1 S.2.1 dL_law_888 (by decide) ?_
      refine lv_goto (pc := 889) (tgt := 893) S.1 S.2.1 dL_law_889 (by decide) ?_
      refine lv_iadd (pc := 893) S.1 S.2.1 dL_law_893 ?_
      refine hv_ti (y := nI ((o 1 (4 * cn + 1)) + 1)) (nI_add _ _) ?_
      refine hv_iast (pc := 894) S hK hH hS 1 (hY2.a1) rfl (vp_in_nI (show 4 * cn + 1 < 48 by omega) (by omega)) dL_law_894 (fun H locs hH hS => ?_)
      rw [hv_upd (by omega)] at hH
      replace hH := nup (e := .inl (cA 1, 48, .inl (fun j => nI ((va_up (o 1) (4 * cn + 1) (o 1 (4 * cn + 1) + 1)) j)))) hH
      obtain ⟨φ_22, hφ_22, fa_φ_22, fr_φ_22, hH⟩ := hH
      have hY_21 := hY2.s1 (4 * cn + 1) (o 1 (4 * cn + 1) + 1)
      rw [← hφ_22] at hY_21
      refine lv_aload (pc := 895) S.1 S.2.1 dL_law_895 (lv_at hl 12 rfl) ?_
      refine lv_iload (pc := 897) S.1 S.2.1 dL_law_897 (lv_at hl 4 rfl) ?_
      refine lv_dup2_11 (pc := 899) S.1 S.2.1 dL_law_899 rfl rfl ?_
      refine hv_iald (pc := 900) S hK hH 1 (hY_21.a3) rfl (vp_in_nI (show J9 < 6 by omega) (by omega)) dL_law_900 ?_
      refine hv_ti (y := nI (((va_up o 1 (va_up (o 1) (4 * cn + 1) (o 1 (4 * cn + 1) + 1))) 3) J9)) (hv_ld (by omega)) ?_
      refine hv_ti (y := nI (o 3 J9)) (rfl) ?_
      refine lv_iload (pc := 901) S.1 S.2.1 dL_law_901 (lv_at hl 1 rfl) ?_
      refine lv_iadd (pc := 903) S.1 S.2.1 dL_law_903 ?_
      refine hv_ti (y := nI ((o 3 J9) + (fAir (ar 3 cn)))) (nI_add _ _) ?_
      refine hv_iast (pc := 904) S hK hH hS 1 (hY_21.a3) rfl (vp_in_nI (show J9 < 6 by omega) (by omega)) dL_law_904 (fun H locs hH hS => ?_)
      rw [hv_upd (by omega)] at hH
      replace hH := nup (e := .inl (cA 1, 6, .inl (fun j => nI ((va_up ((va_up o 1 (va_up (o 1) (4 * cn + 1) (o 1 (4 * cn + 1) + 1))) 3) J9 (o 3 J9 + fAir (ar 3 cn))) j)))) hH
      obtain ⟨φ_24, hφ_24, fa_φ_24, fr_φ_24, hH⟩ := hH
      have hY_23 := hY_21.s3 J9 (o 3 J9 + fAir (ar 3 cn))
      rw [← hφ_24] at hY_23
      refine lv_goto (pc := 905) (tgt := 1489) S.1 S.2.1 dL_law_905 (by decide) ?_
      refine W.widen (k := cells + 130) (n := slots + 800) (by omega) (by omega) ?_
      exact kk _ _ _ ⟨tk, tm, tg, sc, va_up (va_up (va_up ar 7 (va_up (ar 7) cn (ar 7 cn + 1))) 12 (va_up (ar 12) J9 (ar 12 J9 + fAir (ar 3 cn)))) 13 (va_up (ar 13) J9 (ar 13 J9 + fAir (ar 3 cn))), va_up w 0 (va_up (w 0) cn (shP (ar 3 cn) (w 0 cn) 6)), va_up ez 1 (va_up (ez 1) cn (shL (ar 3 cn) (ez 1 cn))), _, _, hY_23, hLF, hT, h5, hH⟩ hS (lv_sub hl [7, 9, 10, 0, 11, 12, 13, 14, 15, 16, 17] rfl)
    rcases fAir_is hf4 with hf | hf | hf | hf
    · skip
      refine hv_icmp_eq (pc := 834) (tgt := 856) (a := fAir (ar 3 cn)) (b := 8) S.1 S.2.1 (by omega) (by omega) dL_law_834 (by decide) (fun c_25 => ?_) (fun c9 => absurd c9 (by omega))
      refine W.widen (k := cells + 40) (n := slots + 300) (by omega) (by omega) ?_
      exact h856 ls H locs hH hS (lv_sub hl [0, 1, 2, 3, 4, 5, 6, 7, 8, 9, 10, 11, 12, 13, 14, 15, 16, 17] rfl)
    · skip
      refine hv_icmp_eq (pc := 834) (tgt := 856) (a := fAir (ar 3 cn)) (b := 8) S.1 S.2.1 (by omega) (by omega) dL_law_834 (by decide) (fun c9 => absurd c9 (by omega)) (fun c_26 => ?_)
      refine lv_iload (pc := 837) S.1 S.2.1 dL_law_837 (lv_at hl 0 rfl) ?_
      refine lv_iconst (pc := 839) (v := nI 2) S.1 S.2.1 dL_law_839 (by decide) ?_
      refine hv_icmp_eq (pc := 840) (tgt := 856) (a := fAir (ar 3 cn)) (b := 2) S.1 S.2.1 (by omega) (by omega) dL_law_840 (by decide) (fun c_27 => ?_) (fun c9 => absurd c9 (by omega))
      refine W.widen (k := cells + 40) (n := slots + 300) (by omega) (by omega) ?_
      exact h856 ls H locs hH hS (lv_sub hl [0, 1, 2, 3, 4, 5, 6, 7, 8, 9, 10, 11, 12, 13, 14, 15, 16, 17] rfl)
    · skip
      refine hv_icmp_eq (pc := 834) (tgt := 856) (a := fAir (ar 3 cn)) (b := 8) S.1 S.2.1 (by omega) (by omega) dL_law_834 (by decide) (fun c9 => absurd c9 (by omega)) (fun c_28 => ?_)
      refine lv_iload (pc := 837) S.1 S.2.1 dL_law_837 (lv_at hl 0 rfl) ?_
      refine lv_iconst (pc := 839) (v := nI 2) S.1 S.2.1 dL_law_839 (by decide) ?_
      refine hv_icmp_eq (pc := 840) (tgt := 856) (a := fAir (ar 3 cn)) (b := 2) S.1 S.2.1 (by omega) (by omega) dL_law_840 (by decide) (fun c9 => absurd c9 (by omega)) (fun c_29 => ?_)
      refine lv_iload (pc := 843) S.1 S.2.1 dL_law_843 (lv_at hl 0 rfl) ?_
      refine lv_iconst (pc := 845) (v := nI 5) S.1 S.2.1 dL_law_845 (by decide) ?_
      refine hv_icmp_eq (pc := 846) (tgt := 856) (a := fAir (ar 3 cn)) (b := 5) S.1 S.2.1 (by omega) (by omega) dL_law_846 (by decide) (fun c_30 => ?_) (fun c9 => absurd c9 (by omega))
      refine W.widen (k := cells + 40) (n := slots + 300) (by omega) (by omega) ?_
      exact h856 ls H locs hH hS (lv_sub hl [0, 1, 2, 3, 4, 5, 6, 7, 8, 9, 10, 11, 12, 13, 14, 15, 16, 17] rfl)
    · skip
      refine hv_icmp_eq (pc := 834) (tgt := 856) (a := fAir (ar 3 cn)) (b := 8) S.1 S.2.1 (by omega) (by omega) dL_law_834 (by decide) (fun c9 => absurd c9 (by omega)) (fun c_31 => ?_)
      refine lv_iload (pc := 837) S.1 S.2.1 dL_law_837 (lv_at hl 0 rfl) ?_
      refine lv_iconst (pc := 839) (v := nI 2) S.1 S.2.1 dL_law_839 (by decide) ?_
      refine hv_icmp_eq (pc := 840) (tgt := 856) (a := fAir (ar 3 cn)) (b := 2) S.1 S.2.1 (by omega) (by omega) dL_law_840 (by decide) (fun c9 => absurd c9 (by omega)) (fun c_32 => ?_)
      refine lv_iload (pc := 843) S.1 S.2.1 dL_law_843 (lv_at hl 0 rfl) ?_
      refine lv_iconst (pc := 845) (v := nI 5) S.1 S.2.1 dL_law_845 (by decide) ?_
      refine hv_icmp_eq (pc := 846) (tgt := 856) (a := fAir (ar 3 cn)) (b := 5) S.1 S.2.1 (by omega) (by omega) dL_law_846 (by decide) (fun c9 => absurd c9 (by omega)) (fun c_33 => ?_)
      refine lv_iload (pc := 849) S.1 S.2.1 dL_law_849 (lv_at hl 0 rfl) ?_
      refine lv_bipush (pc := 851) (v := nI 12) S.1 S.2.1 dL_law_851 (by decide) ?_
      refine hv_icmp_ne (pc := 853) (tgt := 871) (a := fAir (ar 3 cn)) (b := 12) S.1 S.2.1 (by omega) (by omega) dL_law_853 (by decide) (fun c9 => absurd c9 (by omega)) (fun c_34 => ?_)
      refine W.widen (k := cells + 40) (n := slots + 300) (by omega) (by omega) ?_
      exact h856 ls H locs hH hS (lv_sub hl [0, 1, 2, 3, 4, 5, 6, 7, 8, 9, 10, 11, 12, 13, 14, 15, 16, 17] rfl)
  · skip
    refine hv_call (pc := 770) (vx_runSW (As := [.ref (az 0), .int (nI 4), .int (nI cn), .int (nI J9), .int (nI 0)]) (rest := []) S (ax_cycle_2 l hfl D cA ga φ H.size az k tk tm tg sc ar w ez o o (nI cn) (nI J9) (nI 0) hY hI hT h200 (cycleX_2 hcn3 (by omega) hbJ9 (by omega) (by omega))) (vx_cwSW 5 S.2.2.2.2 (gSW tw_261 tw_262 tw_0 tw_263) rfl rfl rfl (by decide +kernel) ⟨Nat.le_of_ble_eq_true rfl, Nat.le_of_ble_eq_true rfl⟩) (pre0_S hH hK hX hS hA) rfl rfl hl.1 rfl (lv_room (Nat.le_of_ble_eq_true rfl)) dL_law_770 ⟨Nat.le_trans (show _ ≤ 600000 by omega) (Nat.le_of_ble_eq_true rfl), Nat.le_trans (show _ ≤ 7000000 by omega) (Nat.le_of_ble_eq_true rfl)⟩) hS (af_le hH hS hA) (fun v_35 φ_36 H locs hw_v_35 hH hS => ?_)
    obtain ⟨rfl, hqv_35⟩ := hw_v_35
    rw [hqv_35] at hH
    refine lv_istore (pc := 773) (lv' := [(16, .int ((-16830000 : Int32))), (15, .int (nI (w 0 cn 0))), (14, .int (nI J9)), (13, .int (nI z9)), (12, .int (nI cn)), (11, .int (nI y9)), (10, .int (nI hw)), (9, .int (nI x9)), (8, .int (nI k)), (7, .int (nI 1)), (6, .ref (az 13)), (5, .ref (az 12)), (4, .ref (az 11)), (3, .ref (az 10)), (2, .ref (az 9)), (1, .ref (az 0)), (0, .ref b)]) S.1 S.2.1 dL_law_773 hl (by decide) rfl (fun ls hl => ?_)
    refine lv_aload_n (pc := 775) S.1 S.2.1 dL_law_775 rfl (lv_at hl 15 rfl) ?_
    refine lv_iload (pc := 776) S.1 S.2.1 dL_law_776 (lv_at hl 2 rfl) ?_
    refine lv_iconst (pc := 778) (v := nI 1) S.1 S.2.1 dL_law_778 (by decide) ?_
    refine hv_call (pc := 779) (va_runV (As := [.int (nI J9), .int (nI 1)]) (rest := []) S (ys_air l hfl D cA ga φ H.size az k tk tm tg sc ar w ez o o J9 1 hY hI hT hbJ9 (by decide)) (cwV 2 S.2.2.2.2 (gV tw_238 tw_239 tw_240 tw_1 tw_241) rfl rfl rfl (by decide +kernel) ⟨Nat.le_of_ble_eq_true rfl, Nat.le_of_ble_eq_true rfl⟩) (pre0_V hH hK hX hS hA (ycv hH hK hY)) rfl rfl hl.1 rfl (lv_room (Nat.le_of_ble_eq_true rfl)) dL_law_779 ⟨Nat.le_trans (show _ ≤ 600000 by omega) (Nat.le_of_ble_eq_true rfl), Nat.le_trans (show _ ≤ 7000000 by omega) (Nat.le_of_ble_eq_true rfl)⟩) hS (af_le hH hS hA) (fun v_37 φ_38 H locs hw_v_37 hH hS => ?_)
    obtain ⟨rfl, hqv_37⟩ := hw_v_37
    rw [hqv_37] at hH
    refine hv_ti (y := nI (ar 12 J9)) (rfl) ?_
    refine lv_aload (pc := 782) S.1 S.2.1 dL_law_782 (lv_at hl 11 rfl) ?_
    refine lv_iload (pc := 784) S.1 S.2.1 dL_law_784 (lv_at hl 2 rfl) ?_
    refine hv_iald (pc := 786) S hK hH 1 (hY.a3) rfl (vp_in_nI (show J9 < 6 by omega) (by omega)) dL_law_786 ?_
    refine hv_ti (y := nI ((o 3) J9)) (hv_ld (by omega)) ?_
    refine hv_ti (y := nI (ar 12 J9)) (congrArg nI hh3) ?_
    refine lv_isub (pc := 787) S.1 S.2.1 dL_law_787 ?_
    refine hv_ti (y := nI ((ar 12 J9) - (ar 12 J9))) (pk_sub (by omega)) ?_
    refine hv_ti (y := nI 0) (congrArg nI (by omega)) ?_
    refine lv_istore (pc := 788) (lv' := [(17, .int (nI 0)), (16, .int ((-16830000 : Int32))), (15, .int (nI (w 0 cn 0))), (14, .int (nI J9)), (13, .int (nI z9)), (12, .int (nI cn)), (11, .int (nI y9)), (10, .int (nI hw)), (9, .int (nI x9)), (8, .int (nI k)), (7, .int (nI 1)), (6, .ref (az 13)), (5, .ref (az 12)), (4, .ref (az 11)), (3, .ref (az 10)), (2, .ref (az 9)), (1, .ref (az 0)), (0, .ref b)]) S.1 S.2.1 dL_law_788 hl (by decide) rfl (fun ls hl => ?_)
    refine lv_iload (pc := 790) S.1 S.2.1 dL_law_790 (lv_at hl 1 rfl) ?_
    refine lv_ldc (pc := 792) (v := (-16830000 : Int32)) S.1 S.2.1 S.2.2.2.1 (S.2.2.2.2 _ tw_887) dL_law_792 ?_
    refine lv_icmp_ne (pc := 794) (tgt := 810) S.1 S.2.1 dL_law_794 (by decide) (fun c9 => absurd c9 (fun h9 => h9 rfl)) (fun c_39 => ?_)
    refine lv_iload (pc := 797) S.1 S.2.1 dL_law_797 (lv_at hl 0 rfl) ?_
    refine hv_if_ne (pc := 799) (tgt := 806) (a := 0) S.1 S.2.1 (by omega) dL_law_799 (by decide) (fun c9 => absurd c9 (by omega)) (fun c_40 => ?_)
    refine lv_iconst (pc := 802) (v := nI 1) S.1 S.2.1 dL_law_802 (by decide) ?_
    refine lv_goto (pc := 803) (tgt := 872) S.1 S.2.1 dL_law_803 (by decide) ?_
    refine lv_istore (pc := 872) (lv' := [(7, .int (nI 1)), (17, .int (nI 0)), (16, .int ((-16830000 : Int32))), (15, .int (nI (w 0 cn 0))), (14, .int (nI J9)), (13, .int (nI z9)), (12, .int (nI cn)), (11, .int (nI y9)), (10, .int (nI hw)), (9, .int (nI x9)), (8, .int (nI k)), (6, .ref (az 13)), (5, .ref (az 12)), (4, .ref (az 11)), (3, .ref (az 10)), (2, .ref (az 9)), (1, .ref (az 0)), (0, .ref b)]) S.1 S.2.1 dL_law_872 hl (by decide) rfl (fun ls hl => ?_)
    refine lv_aload_n (pc := 874) S.1 S.2.1 dL_law_874 rfl (lv_at hl 14 rfl) ?_
    refine lv_iconst (pc := 875) (v := nI 4) S.1 S.2.1 dL_law_875 (by decide) ?_
    refine lv_iload (pc := 876) S.1 S.2.1 dL_law_876 (lv_at hl 6 rfl) ?_
    refine lv_imul (pc := 878) S.1 S.2.1 dL_law_878 ?_
    refine hv_ti (y := nI (4 * cn)) (pk_mul _ _) ?_
    refine lv_iconst (pc := 879) (v := nI 1) S.1 S.2.1 dL_law_879 (by decide) ?_
    refine lv_iadd (pc := 880) S.1 S.2.1 dL_law_880 ?_
    refine hv_ti (y := nI ((4 * cn) + 1)) (nI_add _ _) ?_
    refine lv_dup2_11 (pc := 881) S.1 S.2.1 dL_law_881 rfl rfl ?_
    refine hv_iald (pc := 882) S hK hH 1 (hY.a1) rfl (vp_in_nI (show (4 * cn) + 1 < 48 by omega) (by omega)) dL_law_882 ?_
    refine hv_ti (y := nI ((o 1) ((4 * cn) + 1))) (hv_ld (by omega)) ?_
    refine hv_ti (y := nI (o 1 (4 * cn + 1))) (rfl) ?_
    have hc1 := (hI.lc cn).1
    refine lv_iload (pc := 883) S.1 S.2.1 dL_law_883 (lv_at hl 2 rfl) ?_
    refine lv_if_le (pc := 885) (tgt := 892) S.1 S.2.1 dL_law_885 (by decide) (fun c_41 => ?_) (fun c9 => absurd c9 (fun h9 => h9 (by decide)))
    refine lv_iconst (pc := 892) (v := nI 0) S.1 S.2.1 dL_law_892 (by decide) ?_
    refine lv_iadd (pc := 893) S.1 S.2.1 dL_law_893 ?_
    refine hv_ti (y := nI ((o 1 (4 * cn + 1)) + 0)) (nI_add _ _) ?_
    refine hv_iast (pc := 894) S hK hH hS 1 (hY.a1) rfl (vp_in_nI (show 4 * cn + 1 < 48 by omega) (by omega)) dL_law_894 (fun H locs hH hS => ?_)
    rw [hv_upd (by omega)] at hH
    replace hH := nup (e := .inl (cA 1, 48, .inl (fun j => nI ((va_up (o 1) (4 * cn + 1) (o 1 (4 * cn + 1) + 0)) j)))) hH
    obtain ⟨φ_43, hφ_43, fa_φ_43, fr_φ_43, hH⟩ := hH
    have hY_42 := hY.s1 (4 * cn + 1) (o 1 (4 * cn + 1) + 0)
    rw [← hφ_43] at hY_42
    rw [up_id (k := 1) (j := 4 * cn + 1) (v := o 1 (4 * cn + 1) + 0) rfl] at hY_42
    refine lv_aload (pc := 895) S.1 S.2.1 dL_law_895 (lv_at hl 12 rfl) ?_
    refine lv_iload (pc := 897) S.1 S.2.1 dL_law_897 (lv_at hl 4 rfl) ?_
    refine lv_dup2_11 (pc := 899) S.1 S.2.1 dL_law_899 rfl rfl ?_
    refine hv_iald (pc := 900) S hK hH 1 (hY_42.a3) rfl (vp_in_nI (show J9 < 6 by omega) (by omega)) dL_law_900 ?_
    refine hv_ti (y := nI ((o 3) J9)) (hv_ld (by omega)) ?_
    refine hv_ti (y := nI (o 3 J9)) (rfl) ?_
    refine lv_iload (pc := 901) S.1 S.2.1 dL_law_901 (lv_at hl 1 rfl) ?_
    refine lv_iadd (pc := 903) S.1 S.2.1 dL_law_903 ?_
    refine hv_ti (y := nI ((o 3 J9) + 0)) (nI_add _ _) ?_
    refine hv_iast (pc := 904) S hK hH hS 1 (hY_42.a3) rfl (vp_in_nI (show J9 < 6 by omega) (by omega)) dL_law_904 (fun H locs hH hS => ?_)
    rw [hv_upd (by omega)] at hH
    replace hH := nup (e := .inl (cA 1, 6, .inl (fun j => nI ((va_up (o 3) J9 (o 3 J9 + 0)) j)))) hH
    obtain ⟨φ_45, hφ_45, fa_φ_45, fr_φ_45, hH⟩ := hH
    have hY_44 := hY_42.s3 J9 (o 3 J9 + 0)
    rw [← hφ_45] at hY_44
    rw [up_id (k := 3) (j := J9) (v := o 3 J9 + 0) rfl] at hY_44
    refine lv_goto (pc := 905) (tgt := 1489) S.1 S.2.1 dL_law_905 (by decide) ?_
    refine W.widen (k := cells + 130) (n := slots + 800) (by omega) (by omega) ?_
    exact kk _ _ _ ⟨tk, tm, tg, sc, ar, w, ez, o, _, hY_44, hI.up, hT, h5, hH⟩ hS (lv_sub hl [7, 9, 10, 0, 11, 12, 13, 14, 15, 16, 17] rfl)
