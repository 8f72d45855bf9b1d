/-! A turn of the law -/
/-- the world as it is ahead of turn k -/
def WLD (cA : Nat → ClassId) (ga : Nat → Nat → Nat) (D : va_G) (A : Nat → Prop) (az : Nat → Nat) (k : Nat) (H : Heap) : Prop :=
  ∃ (tk tm : Nat) (tg sc : Nat → Nat) (ar : Nat → Nat → Nat) (w : Nat → Nat → Nat → Nat) (ez o : Nat → Nat → Nat) (φ : hpM), YW cA ga az tk tm tg sc ar w ez o φ ∧ LI k sc ar w ez o ∧ TY tk tg ∧ o 0 5 = tk ∧ hp D A φ H
theorem lotX_2g {k x : Nat} (h : 10 ≤ k) (h1 : 1 ≤ x) (h2 : x ≤ 5000) : lotX k (nI x) = 2 := by rw [lotX, if_pos ((inR_nI (by omega) (by omega) (by omega)).mpr ⟨h1, h2⟩), if_neg (by omega)]
theorem blockX_2g {nb x z : Nat} (h : 8 ≤ nb) (h1 : 300 ≤ x) (h2 : x ≤ 700) (h3 : 1 ≤ z) (h4 : z ≤ 6) : blockX nb (nI x) (nI z) = 2 := by rw [blockX, if_pos ((inR_nI (by omega) (by omega) (by omega)).mpr ⟨h1, h2⟩), if_pos ((inR_nI (by omega) (by omega) (by omega)).mpr ⟨h3, h4⟩), if_neg (by omega)]
theorem fur_of : ∀ f, f < 5 → fiL 0 (lsN (wdN f) 8) 4 0 = if f < 4 then some f else none := by decide +kernel
theorem upk (o : Nat → Nat → Nat) (k j v : Nat) (f : Nat → Nat) : va_up (va_up o k f) k (va_up ((va_up o k f) k) j v) = va_up o k (va_up f j v) := by
  funext x y
  by_cases hx : x = k
  · subst hx; rw [va_up_self, va_up_self, va_up_self]
  · rw [va_up_ne _ _ hx, va_up_ne _ _ hx, va_up_ne _ _ hx]
theorem nI_nn {a : Nat} (h : a < 2 ^ 31) : ¬ nI a = (-16830000 : Int32) := fun z => by
  have h1 := congrArg Int32.toInt z
  rw [nI_toInt h] at h1
  have h2 : (-16830000 : Int32).toInt = -16830000 := by decide
  omega
set_option maxHeartbeats 4000000 in
set_option maxRecDepth 100000 in
/-- a lot is bought -/
theorem law_lot (l : Launch) (hfl : l.stackTraces = false) {p : Program} {e : Env} {s : State} {m : MethodId} {below : List Frame} {meth : Method} {c : Code} {b : Nat} {D : va_G} {cA : Nat → ClassId} {ga : Nat → Nat → Nat} {Q : State → Prop} (S : CallFix p m c code 19 s #[.ref b] Wc RL) (hK : va_K D vwCl (tysL cA) s) (hX : Sx ga (fun q => s.heap.size ≤ q) s s.heap) {k x9 hw y9 cn z9 cells slots : Nat} {H : Heap} {locs : List Loc} {ls : Array Slot} {az : Nat → Nat} {tk tm : Nat} {tg sc : Nat → Nat} {ar : Nat → Nat → Nat} {w : Nat → Nat → Nat → Nat} {ez o : Nat → Nat → Nat} {φ : hpM} (hk : k < 130) (hc : cells ≤ 500000) (hs : slots ≤ 5000000) (hz9 : z9 < 2 ^ 27) (hw34 : hw < 34)
    (hY : YW cA ga az tk tm tg sc ar w ez o φ) (hI : LI k sc ar w ez o) (hT : TY tk tg) (h5 : o 0 5 = tk) (hH : hp D (fun q => s.heap.size ≤ q) φ H) (hS : va_S (fun q => s.heap.size ≤ q) s.heap H locs) (hcn : 0 < sc 3 → cn < sc 3) (hl : lv_has ls 19 [(13, .int (nI z9)), (12, .int (nI cn)), (11, .int (nI y9)), (10, .int (nI hw)), (9, .int (nI x9)), (8, .int (nI k)), (7, .int (nI 1)), (6, .ref (az 13)), (5, .ref (az 12)), (4, .ref (az 11)), (3, .ref (az 10)), (2, .ref (az 9)), (1, .ref (az 0)), (0, .ref b)])
    (kk : ∀ (H1 : Heap) (locs1 : List Loc) (ls1 : Array Slot), WLD cA ga D (fun q => s.heap.size ≤ q) az (k + 1) H1 → va_S (fun q => s.heap.size ≤ q) s.heap H1 locs1 → lv_has ls1 19 [(11, .int (nI y9)), (9, .int (nI x9)), (8, .int (nI k)), (7, .int (nI 1)), (6, .ref (az 13)), (5, .ref (az 12)), (4, .ref (az 11)), (3, .ref (az 10)), (2, .ref (az 9)), (1, .ref (az 0)), (0, .ref b)] → W p l e room_1 s m #[.ref b] below meth c H1 locs1 (cells + 130) (slots + 800) Q (F0 m 1489 ls1 [])) (h : hw < 3) :
    W p l e room_1 s m #[.ref b] below meth c H locs cells slots Q (F0 m 201 ls []) := by
  have hA : ∀ q, s.heap.size ≤ q → (fun q => s.heap.size ≤ q) q := fun _ h => h
  have hl1 := hI.l1
  have hm := hI.lm
  have h200 : k ≤ 200 := by omega
  have hk7 := hT.1
  refine lv_iload (pc := 201) S.1 S.2.1 dL_law_201 (lv_at hl 3 rfl) ?_
  refine lv_iconst (pc := 203) (v := nI 3) S.1 S.2.1 dL_law_203 (by decide) ?_
  refine hv_icmp_ge (pc := 204) (tgt := 389) (a := hw) (b := 3) S.1 S.2.1 (by omega) (by omega) dL_law_204 (by decide) (fun c9 => absurd c9 (by omega)) (fun c_1 => ?_)
  refine lv_iload (pc := 207) S.1 S.2.1 dL_law_207 (lv_at hl 0 rfl) ?_
  refine lv_iconst (pc := 209) (v := nI 5) S.1 S.2.1 dL_law_209 (by decide) ?_
  refine lv_irem (pc := 210) S.1 S.2.1 dL_law_210 (by decide) ?_
  refine hv_ti (y := nI (z9 % 5)) (pk_rem (by omega) (by omega) (by omega)) ?_
  obtain ⟨f9, hf9⟩ : ∃ f9 : Nat, f9 = z9 % 5 := ⟨_, rfl⟩
  refine hv_ti (y := nI f9) (by rw [hf9]) ?_
  have hbf9 : f9 < 5 := by omega
  refine lv_istore (pc := 211) (lv' := [(14, .int (nI f9)), (13, .int (nI z9)), (12, .int (nI cn)), (11, .int (nI y9)), (10, .int (nI hw)), (9, .int (nI x9)), (8, .int (nI k)), (7, .int (nI 1)), (6, .ref (az 13)), (5, .ref (az 12)), (4, .ref (az 11)), (3, .ref (az 10)), (2, .ref (az 9)), (1, .ref (az 0)), (0, .ref b)]) S.1 S.2.1 dL_law_211 hl (by decide) rfl (fun ls hl => ?_)
  refine lv_iconst (pc := 213) (v := nI 1) S.1 S.2.1 dL_law_213 (by decide) ?_
  refine lv_iload (pc := 214) S.1 S.2.1 dL_law_214 (lv_at hl 1 rfl) ?_
  refine lv_iconst (pc := 216) (v := nI 5) S.1 S.2.1 dL_law_216 (by decide) ?_
  refine lv_idiv (pc := 217) S.1 S.2.1 dL_law_217 (by decide) ?_
  refine hv_ti (y := nI (z9 / 5)) (pk_div (by omega) (by omega) (by omega)) ?_
  refine lv_sipush (pc := 218) (v := nI 5000) S.1 S.2.1 dL_law_218 (by decide) ?_
  refine lv_irem (pc := 221) S.1 S.2.1 dL_law_221 (by decide) ?_
  refine hv_ti (y := nI ((z9 / 5) % 5000)) (pk_rem (by omega) (by omega) (by omega)) ?_
  refine lv_iadd (pc := 222) S.1 S.2.1 dL_law_222 ?_
  refine hv_ti (y := nI (1 + ((z9 / 5) % 5000))) (nI_add _ _) ?_
  obtain ⟨G9, hG9⟩ : ∃ G9 : Nat, G9 = 1 + ((z9 / 5) % 5000) := ⟨_, rfl⟩
  refine hv_ti (y := nI G9) (by rw [hG9]) ?_
  have hbG9 : 1 ≤ G9 ∧ G9 ≤ 5000 := by omega
  refine lv_istore (pc := 223) (lv' := [(15, .int (nI G9)), (14, .int (nI f9)), (13, .int (nI z9)), (12, .int (nI cn)), (11, .int (nI y9)), (10, .int (nI hw)), (9, .int (nI x9)), (8, .int (nI k)), (7, .int (nI 1)), (6, .ref (az 13)), (5, .ref (az 12)), (4, .ref (az 11)), (3, .ref (az 10)), (2, .ref (az 9)), (1, .ref (az 0)), (0, .ref b)]) S.1 S.2.1 dL_law_223 hl (by decide) rfl (fun ls hl => ?_)
  refine lv_aload_n (pc := 225) S.1 S.2.1 dL_law_225 rfl (lv_at hl 14 rfl) ?_
  refine lv_aload_n (pc := 226) S.1 S.2.1 dL_law_226 rfl (lv_at hl 13 rfl) ?_
  refine lv_iload (pc := 227) S.1 S.2.1 dL_law_227 (lv_at hl 1 rfl) ?_
  have h277 : ∀ (ls : Array Slot) (H : Heap) (locs : List Loc), hp D (fun q => s.heap.size ≤ q) φ H → va_S (fun q => s.heap.size ≤ q) s.heap H locs → lv_has ls 19 [(15, .int (nI G9)), (14, .int (nI f9)), (13, .int (nI z9)), (12, .int (nI cn)), (11, .int (nI y9)), (10, .int (nI hw)), (9, .int (nI x9)), (8, .int (nI k)), (7, .int (nI 1)), (6, .ref (az 13)), (5, .ref (az 12)), (4, .ref (az 11)), (3, .ref (az 10)), (2, .ref (az 9)), (1, .ref (az 0)), (0, .ref b)] → W p l e room_1 s m #[.ref b] below meth c H locs (cells) (slots) Q (F0 m 277 ls [.long (Int64.ofNat (wdN f9)), .ref (az 9), .ref (az 0)]) := by
    intro ls H locs hH hS hl
    refine hv_call (pc := 277) (va_runS (As := [.ref (az 0), .ref (az 9), .long (Int64.ofNat (wdN f9))]) (rest := []) S (l_types l hfl D cA ga φ H.size az k tk tm tg sc ar w ez o f9 hY hI hT h200 (by omega)) (va_cwS 3 S.2.2.2.2 (gS tw_900 tw_901 tw_0 tw_902) rfl rfl rfl (by decide +kernel) ⟨Nat.le_of_ble_eq_true rfl, Nat.le_of_ble_eq_true rfl⟩) (pre0_S hH hK hX hS hA) rfl rfl hl.1 rfl (lv_room (Nat.le_of_ble_eq_true rfl)) dL_law_277 ⟨Nat.le_trans (show _ ≤ 600000 by omega) (Nat.le_of_ble_eq_true rfl), Nat.le_trans (show _ ≤ 7000000 by omega) (Nat.le_of_ble_eq_true rfl)⟩) hS (af_le hH hS hA) (fun v_2 φ_3 H locs hw_v_2 hH hS => ?_)
    obtain ⟨rfl, k9, km, kg, hY1, hL1⟩ := hw_v_2
    have hT1 := TY.ofl (show f9 < 11 by omega) (by decide) hL1
    have hI1 := hI.m5 k9
    have hm1 := hI1.lm
    have hm0 := (hI.m5 0).lm
    refine lv_istore (pc := 280) (lv' := [(7, .int (nI 1)), (15, .int (nI G9)), (14, .int (nI f9)), (13, .int (nI z9)), (12, .int (nI cn)), (11, .int (nI y9)), (10, .int (nI hw)), (9, .int (nI x9)), (8, .int (nI k)), (6, .ref (az 13)), (5, .ref (az 12)), (4, .ref (az 11)), (3, .ref (az 10)), (2, .ref (az 9)), (1, .ref (az 0)), (0, .ref b)]) S.1 S.2.1 dL_law_280 hl (by decide) rfl (fun ls hl => ?_)
    refine lv_aload_n (pc := 282) S.1 S.2.1 dL_law_282 rfl (lv_at hl 14 rfl) ?_
    refine lv_iconst (pc := 283) (v := nI 1) S.1 S.2.1 dL_law_283 (by decide) ?_
    refine lv_iload (pc := 284) S.1 S.2.1 dL_law_284 (lv_at hl 1 rfl) ?_
    refine lv_iconst (pc := 286) (v := nI 0) S.1 S.2.1 dL_law_286 (by decide) ?_
    refine lv_iconst (pc := 287) (v := nI 0) S.1 S.2.1 dL_law_287 (by decide) ?_
    by_cases h10 : 10 ≤ sc 2
    · skip
      refine hv_call (pc := 288) (vx_runSW (As := [.ref (az 0), .int (nI 1), .int (nI G9), .int (nI 0), .int (nI 0)]) (rest := []) S (ax_lot_2 l hfl D cA ga φ_3 H.size az k k9 km kg sc ar w ez (va_up o 0 (va_up (o 0) 5 k9)) (va_up o 0 (va_up (o 0) 5 k9)) (nI G9) (nI 0) (nI 0) hY1 hI1 hT1 h200 (lotX_2g h10 hbG9.1 hbG9.2)) (vx_cwSW 5 S.2.2.2.2 (gSW tw_261 tw_262 tw_0 tw_263) rfl rfl rfl (by decide +kernel) ⟨Nat.le_of_ble_eq_true rfl, Nat.le_of_ble_eq_true rfl⟩) (pre0_S hH hK hX hS hA) rfl rfl hl.1 rfl (lv_room (Nat.le_of_ble_eq_true rfl)) dL_law_288 ⟨Nat.le_trans (show _ ≤ 600000 by omega) (Nat.le_of_ble_eq_true rfl), Nat.le_trans (show _ ≤ 7000000 by omega) (Nat.le_of_ble_eq_true rfl)⟩) hS (af_le hH hS hA) (fun v_4 φ_5 H locs hw_v_4 hH hS => ?_)
      obtain ⟨rfl, hqv_4⟩ := hw_v_4
      rw [hqv_4] at hH
      refine lv_istore (pc := 291) (lv' := [(16, .int ((-16830000 : Int32))), (7, .int (nI 1)), (15, .int (nI G9)), (14, .int (nI f9)), (13, .int (nI z9)), (12, .int (nI cn)), (11, .int (nI y9)), (10, .int (nI hw)), (9, .int (nI x9)), (8, .int (nI k)), (6, .ref (az 13)), (5, .ref (az 12)), (4, .ref (az 11)), (3, .ref (az 10)), (2, .ref (az 9)), (1, .ref (az 0)), (0, .ref b)]) S.1 S.2.1 dL_law_291 hl (by decide) rfl (fun ls hl => ?_)
      refine lv_iload (pc := 293) S.1 S.2.1 dL_law_293 (lv_at hl 1 rfl) ?_
      refine hv_if_eq (pc := 295) (tgt := 349) (a := 1) S.1 S.2.1 (by omega) dL_law_295 (by decide) (fun c9 => absurd c9 (by omega)) (fun c_6 => ?_)
      refine lv_iload (pc := 298) S.1 S.2.1 dL_law_298 (lv_at hl 0 rfl) ?_
      refine lv_aload_n (pc := 300) S.1 S.2.1 dL_law_300 rfl (lv_at hl 14 rfl) ?_
      refine lv_iconst (pc := 301) (v := nI 0) S.1 S.2.1 dL_law_301 (by decide) ?_
      refine hv_iald (pc := 302) S hK hH 1 (hY1.a0) rfl (vp_in_nI (show 0 < 6 by omega) (by omega)) dL_law_302 ?_
      refine hv_ti (y := nI (((va_up o 0 (va_up (o 0) 5 k9)) 0) 0)) (hv_ld (by omega)) ?_
      refine hv_ti (y := nI (sc 2)) (congrArg nI hm1.1) ?_
      refine lv_bipush (pc := 303) (v := nI 10) S.1 S.2.1 dL_law_303 (by decide) ?_
      refine hv_icmp_ne (pc := 305) (tgt := 313) (a := sc 2) (b := 10) S.1 S.2.1 (by omega) (by omega) dL_law_305 (by decide) (fun c9 => absurd c9 (by omega)) (fun c_7 => ?_)
      refine lv_ldc (pc := 308) (v := (-16830000 : Int32)) S.1 S.2.1 S.2.2.2.1 (S.2.2.2.2 _ tw_887) dL_law_308 ?_
      refine lv_goto (pc := 310) (tgt := 326) S.1 S.2.1 dL_law_310 (by decide) ?_
      refine lv_icmp_ne (pc := 326) (tgt := 349) S.1 S.2.1 dL_law_326 (by decide) (fun c9 => absurd c9 (fun h9 => h9 rfl)) (fun c_8 => ?_)
      refine lv_iload (pc := 329) S.1 S.2.1 dL_law_329 (lv_at hl 0 rfl) ?_
      refine lv_if_lt (pc := 331) (tgt := 345) S.1 S.2.1 dL_law_331 (by decide) (fun c_9 => ?_) (fun c9 => absurd c9 (fun h9 => h9 (by decide)))
      refine lv_iconst (pc := 345) (v := nI 1) S.1 S.2.1 dL_law_345 (by decide) ?_
      refine lv_goto (pc := 346) (tgt := 350) S.1 S.2.1 dL_law_346 (by decide) ?_
      refine lv_istore (pc := 350) (lv' := [(7, .int (nI 1)), (16, .int ((-16830000 : Int32))), (15, .int (nI G9)), (14, .int (nI f9)), (13, .int (nI z9)), (12, .int (nI cn)), (11, .int (nI y9)), (10, .int (nI hw)), (9, .int (nI x9)), (8, .int (nI k)), (6, .ref (az 13)), (5, .ref (az 12)), (4, .ref (az 11)), (3, .ref (az 10)), (2, .ref (az 9)), (1, .ref (az 0)), (0, .ref b)]) S.1 S.2.1 dL_law_350 hl (by decide) rfl (fun ls hl => ?_)
      refine lv_aload_n (pc := 352) S.1 S.2.1 dL_law_352 rfl (lv_at hl 14 rfl) ?_
      refine lv_iconst (pc := 353) (v := nI 5) S.1 S.2.1 dL_law_353 (by decide) ?_
      refine lv_aload_n (pc := 354) S.1 S.2.1 dL_law_354 rfl (lv_at hl 14 rfl) ?_
      refine lv_iconst (pc := 355) (v := nI 0) S.1 S.2.1 dL_law_355 (by decide) ?_
      refine hv_iald (pc := 356) S hK hH 1 (hY1.a0) rfl (vp_in_nI (show 0 < 6 by omega) (by omega)) dL_law_356 ?_
      refine hv_ti (y := nI (((va_up o 0 (va_up (o 0) 5 k9)) 0) 0)) (hv_ld (by omega)) ?_
      refine hv_ti (y := nI (sc 2)) (congrArg nI hm1.1) ?_
      refine lv_bipush (pc := 357) (v := nI 10) S.1 S.2.1 dL_law_357 (by decide) ?_
      refine hv_icmp_ne (pc := 359) (tgt := 368) (a := sc 2) (b := 10) S.1 S.2.1 (by omega) (by omega) dL_law_359 (by decide) (fun c9 => absurd c9 (by omega)) (fun c_10 => ?_)
      refine lv_aload_n (pc := 362) S.1 S.2.1 dL_law_362 rfl (lv_at hl 14 rfl) ?_
      refine lv_iconst (pc := 363) (v := nI 5) S.1 S.2.1 dL_law_363 (by decide) ?_
      refine hv_iald (pc := 364) S hK hH 1 (hY1.a0) rfl (vp_in_nI (show 5 < 6 by omega) (by omega)) dL_law_364 ?_
      refine hv_ti (y := nI (((va_up o 0 (va_up (o 0) 5 k9)) 0) 5)) (hv_ld (by omega)) ?_
      refine hv_ti (y := nI k9) (rfl) ?_
      refine lv_goto (pc := 365) (tgt := 369) S.1 S.2.1 dL_law_365 (by decide) ?_
      refine hv_iast (pc := 369) S hK hH hS 1 (hY1.a0) rfl (vp_in_nI (show 5 < 6 by omega) (by omega)) dL_law_369 (fun H locs hH hS => ?_)
      rw [hv_upd (by omega)] at hH
      replace hH := nup (e := .inl (cA 1, 6, .inl (fun j => nI ((va_up ((va_up o 0 (va_up (o 0) 5 k9)) 0) 5 k9) j)))) hH
      obtain ⟨φ_12, hφ_12, fa_φ_12, fr_φ_12, hH⟩ := hH
      have hY_11 := hY1.s0 5 k9
      rw [← hφ_12] at hY_11
      rw [up_up] at hY_11
      refine lv_aload_n (pc := 370) S.1 S.2.1 dL_law_370 rfl (lv_at hl 14 rfl) ?_
      refine lv_iconst (pc := 371) (v := nI 0) S.1 S.2.1 dL_law_371 (by decide) ?_
      refine lv_dup2_11 (pc := 372) S.1 S.2.1 dL_law_372 rfl rfl ?_
      refine hv_iald (pc := 373) S hK hH 1 (hY_11.a0) rfl (vp_in_nI (show 0 < 6 by omega) (by omega)) dL_law_373 ?_
      refine hv_ti (y := nI (((va_up o 0 (va_up (o 0) 5 k9)) 0) 0)) (hv_ld (by omega)) ?_
      refine hv_ti (y := nI (sc 2)) (congrArg nI hm1.1) ?_
      refine lv_iload (pc := 374) S.1 S.2.1 dL_law_374 (lv_at hl 1 rfl) ?_
      refine lv_if_ge (pc := 376) (tgt := 383) S.1 S.2.1 dL_law_376 (by decide) (fun c9 => absurd c9 (by decide)) (fun c_13 => ?_)
      refine lv_iconst (pc := 379) (v := nI 0) S.1 S.2.1 dL_law_379 (by decide) ?_
      refine lv_goto (pc := 380) (tgt := 384) S.1 S.2.1 dL_law_380 (by decide) ?_
      refine lv_iadd (pc := 384) S.1 S.2.1 dL_law_384 ?_
      refine hv_ti (y := nI ((sc 2) + 0)) (nI_add _ _) ?_
      refine hv_iast (pc := 385) S hK hH hS 1 (hY_11.a0) rfl (vp_in_nI (show 0 < 6 by omega) (by omega)) dL_law_385 (fun H locs hH hS => ?_)
      rw [hv_upd (by omega)] at hH
      replace hH := nup (e := .inl (cA 1, 6, .inl (fun j => nI ((va_up ((va_up o 0 (va_up (o 0) 5 k9)) 0) 0 (sc 2 + 0)) j)))) hH
      obtain ⟨φ_15, hφ_15, fa_φ_15, fr_φ_15, hH⟩ := hH
      have hY_14 := hY_11.s0 0 (sc 2 + 0)
      rw [← hφ_15] at hY_14
      rw [up_id (k := 0) (j := 0) (v := sc 2 + 0) hm1.1] at hY_14
      refine lv_goto (pc := 386) (tgt := 1489) S.1 S.2.1 dL_law_386 (by decide) ?_
      refine W.widen (k := cells + 130) (n := slots + 800) (by omega) (by omega) ?_
      exact kk _ _ _ ⟨k9, km, kg, sc, ar, w, ez, va_up o 0 (va_up (o 0) 5 k9), _, hY_14, hI1.up, hT1, rfl, hH⟩ hS (lv_sub hl [6, 8, 9, 0, 10, 11, 12, 13, 14, 15, 16] rfl)
    · skip
      refine hv_call (pc := 288) (vx_runSW (As := [.ref (az 0), .int (nI 1), .int (nI G9), .int (nI 0), .int (nI 0)]) (rest := []) S (as_lot l hfl D cA ga φ_3 H.size az k k9 km kg sc ar w ez (va_up o 0 (va_up (o 0) 5 k9)) (va_up o 0 (va_up (o 0) 5 k9)) G9 hY1 hI1 hT1 h200 (by omega) hbG9.1 hbG9.2) (vx_cwSW 5 S.2.2.2.2 (gSW tw_261 tw_262 tw_0 tw_263) rfl rfl rfl (by decide +kernel) ⟨Nat.le_of_ble_eq_true rfl, Nat.le_of_ble_eq_true rfl⟩) (pre0_S hH hK hX hS hA) rfl rfl hl.1 rfl (lv_room (Nat.le_of_ble_eq_true rfl)) dL_law_288 ⟨Nat.le_trans (show _ ≤ 600000 by omega) (Nat.le_of_ble_eq_true rfl), Nat.le_trans (show _ ≤ 7000000 by omega) (Nat.le_of_ble_eq_true rfl)⟩) hS (af_le hH hS hA) (fun v_16 φ_17 H locs hw_v_16 hH hS => ?_)
      rw [fi_L, hL1, fur_of f9 hbf9] at hw_v_16
      rcases hw_v_16 with ⟨hno, rfl, hY2⟩ | ⟨fu, hso, rfl, hY2⟩
      · skip
        have hf4 : f9 = 4 := by
          by_cases hq : f9 < 4
          · rw [if_pos hq] at hno; cases hno
          · omega
        refine lv_istore (pc := 291) (lv' := [(16, .int ((-1 : Int32))), (7, .int (nI 1)), (15, .int (nI G9)), (14, .int (nI f9)), (13, .int (nI z9)), (12, .int (nI cn)), (11, .int (nI y9)), (10, .int (nI hw)), (9, .int (nI x9)), (8, .int (nI k)), (6, .ref (az 13)), (5, .ref (az 12)), (4, .ref (az 11)), (3, .ref (az 10)), (2, .ref (az 9)), (1, .ref (az 0)), (0, .ref b)]) S.1 S.2.1 dL_law_291 hl (by decide) rfl (fun ls hl => ?_)
        refine lv_iload (pc := 293) S.1 S.2.1 dL_law_293 (lv_at hl 1 rfl) ?_
        refine hv_if_eq (pc := 295) (tgt := 349) (a := 1) S.1 S.2.1 (by omega) dL_law_295 (by decide) (fun c9 => absurd c9 (by omega)) (fun c_18 => ?_)
        refine lv_iload (pc := 298) S.1 S.2.1 dL_law_298 (lv_at hl 0 rfl) ?_
        refine lv_aload_n (pc := 300) S.1 S.2.1 dL_law_300 rfl (lv_at hl 14 rfl) ?_
        refine lv_iconst (pc := 301) (v := nI 0) S.1 S.2.1 dL_law_301 (by decide) ?_
        refine hv_iald (pc := 302) S hK hH 1 (hY2.a0) rfl (vp_in_nI (show 0 < 6 by omega) (by omega)) dL_law_302 ?_
        refine hv_ti (y := nI (((va_up o 0 (va_up (o 0) 5 k9)) 0) 0)) (hv_ld (by omega)) ?_
        refine hv_ti (y := nI (sc 2)) (congrArg nI hm1.1) ?_
        refine lv_bipush (pc := 303) (v := nI 10) S.1 S.2.1 dL_law_303 (by decide) ?_
        refine hv_icmp_ne (pc := 305) (tgt := 313) (a := sc 2) (b := 10) S.1 S.2.1 (by omega) (by omega) dL_law_305 (by decide) (fun c_19 => ?_) (fun c9 => absurd c9 (by omega))
        refine lv_iload (pc := 313) S.1 S.2.1 dL_law_313 (lv_at hl 3 rfl) ?_
        refine lv_iconst (pc := 315) (v := nI 4) S.1 S.2.1 dL_law_315 (by decide) ?_
        refine hv_icmp_ne (pc := 316) (tgt := 323) (a := f9) (b := 4) S.1 S.2.1 (by omega) (by omega) dL_law_316 (by decide) (fun c9 => absurd c9 (by omega)) (fun c_20 => ?_)
        refine lv_iconst (pc := 319) (v := (-1 : Int32)) S.1 S.2.1 dL_law_319 (by decide) ?_
        refine lv_goto (pc := 320) (tgt := 326) S.1 S.2.1 dL_law_320 (by decide) ?_
        refine lv_icmp_ne (pc := 326) (tgt := 349) S.1 S.2.1 dL_law_326 (by decide) (fun c9 => absurd c9 (fun h9 => h9 rfl)) (fun c_21 => ?_)
        refine lv_iload (pc := 329) S.1 S.2.1 dL_law_329 (lv_at hl 0 rfl) ?_
        refine lv_if_lt (pc := 331) (tgt := 345) S.1 S.2.1 dL_law_331 (by decide) (fun c_22 => ?_) (fun c9 => absurd c9 (fun h9 => h9 (by decide)))
        refine lv_iconst (pc := 345) (v := nI 1) S.1 S.2.1 dL_law_345 (by decide) ?_
        refine lv_goto (pc := 346) (tgt := 350) S.1 S.2.1 dL_law_346 (by decide) ?_
        refine lv_istore (pc := 350) (lv' := [(7, .int (nI 1)), (16, .int ((-1 : Int32))), (15, .int (nI G9)), (14, .int (nI f9)), (13, .int (nI z9)), (12, .int (nI cn)), (11, .int (nI y9)), (10, .int (nI hw)), (9, .int (nI x9)), (8, .int (nI k)), (6, .ref (az 13)), (5, .ref (az 12)), (4, .ref (az 11)), (3, .ref (az 10)), (2, .ref (az 9)), (1, .ref (az 0)), (0, .ref b)]) S.1 S.2.1 dL_law_350 hl (by decide) rfl (fun ls hl => ?_)
        refine lv_aload_n (pc := 352) S.1 S.2.1 dL_law_352 rfl (lv_at hl 14 rfl) ?_
        refine lv_iconst (pc := 353) (v := nI 5) S.1 S.2.1 dL_law_353 (by decide) ?_
        refine lv_aload_n (pc := 354) S.1 S.2.1 dL_law_354 rfl (lv_at hl 14 rfl) ?_
        refine lv_iconst (pc := 355) (v := nI 0) S.1 S.2.1 dL_law_355 (by decide) ?_
        refine hv_iald (pc := 356) S hK hH 1 (hY2.a0) rfl (vp_in_nI (show 0 < 6 by omega) (by omega)) dL_law_356 ?_
        refine hv_ti (y := nI (((va_up o 0 (va_up (o 0) 5 k9)) 0) 0)) (hv_ld (by omega)) ?_
        refine hv_ti (y := nI (sc 2)) (congrArg nI hm1.1) ?_
        refine lv_bipush (pc := 357) (v := nI 10) S.1 S.2.1 dL_law_357 (by decide) ?_
        refine hv_icmp_ne (pc := 359) (tgt := 368) (a := sc 2) (b := 10) S.1 S.2.1 (by omega) (by omega) dL_law_359 (by decide) (fun c_23 => ?_) (fun c9 => absurd c9 (by omega))
        refine lv_iconst (pc := 368) (v := nI 0) S.1 S.2.1 dL_law_368 (by decide) ?_
        refine hv_iast (pc := 369) S hK hH hS 1 (hY2.a0) rfl (vp_in_nI (show 5 < 6 by omega) (by omega)) dL_law_369 (fun H locs hH hS => ?_)
        rw [hv_upd (by omega)] at hH
        replace hH := nup (e := .inl (cA 1, 6, .inl (fun j => nI ((va_up ((va_up o 0 (va_up (o 0) 5 k9)) 0) 5 0) j)))) hH
        obtain ⟨φ_25, hφ_25, fa_φ_25, fr_φ_25, hH⟩ := hH
        have hY_24 := hY2.s0 5 0
        rw [← hφ_25] at hY_24
        rw [up_up] at hY_24
        refine lv_aload_n (pc := 370) S.1 S.2.1 dL_law_370 rfl (lv_at hl 14 rfl) ?_
        refine lv_iconst (pc := 371) (v := nI 0) S.1 S.2.1 dL_law_371 (by decide) ?_
        refine lv_dup2_11 (pc := 372) S.1 S.2.1 dL_law_372 rfl rfl ?_
        refine hv_iald (pc := 373) S hK hH 1 (hY_24.a0) rfl (vp_in_nI (show 0 < 6 by omega) (by omega)) dL_law_373 ?_
        refine hv_ti (y := nI (((va_up o 0 (va_up (o 0) 5 0)) 0) 0)) (hv_ld (by omega)) ?_
        refine hv_ti (y := nI (sc 2)) (congrArg nI hm0.1) ?_
        refine lv_iload (pc := 374) S.1 S.2.1 dL_law_374 (lv_at hl 1 rfl) ?_
        refine lv_if_ge (pc := 376) (tgt := 383) S.1 S.2.1 dL_law_376 (by decide) (fun c9 => absurd c9 (by decide)) (fun c_26 => ?_)
        refine lv_iconst (pc := 379) (v := nI 0) S.1 S.2.1 dL_law_379 (by decide) ?_
        refine lv_goto (pc := 380) (tgt := 384) S.1 S.2.1 dL_law_380 (by decide) ?_
        refine lv_iadd (pc := 384) S.1 S.2.1 dL_law_384 ?_
        refine hv_ti (y := nI ((sc 2) + 0)) (nI_add _ _) ?_
        refine hv_iast (pc := 385) S hK hH hS 1 (hY_24.a0) rfl (vp_in_nI (show 0 < 6 by omega) (by omega)) dL_law_385 (fun H locs hH hS => ?_)
        rw [hv_upd (by omega)] at hH
        replace hH := nup (e := .inl (cA 1, 6, .inl (fun j => nI ((va_up ((va_up o 0 (va_up (o 0) 5 0)) 0) 0 (sc 2 + 0)) j)))) hH
        obtain ⟨φ_28, hφ_28, fa_φ_28, fr_φ_28, hH⟩ := hH
        have hY_27 := hY_24.s0 0 (sc 2 + 0)
        rw [← hφ_28] at hY_27
        rw [up_id (k := 0) (j := 0) (v := sc 2 + 0) hm0.1] at hY_27
        refine lv_goto (pc := 386) (tgt := 1489) S.1 S.2.1 dL_law_386 (by decide) ?_
        refine W.widen (k := cells + 130) (n := slots + 800) (by omega) (by omega) ?_
        exact kk _ _ _ ⟨0, _, kg, sc, ar, w, ez, va_up o 0 (va_up (o 0) 5 0), _, hY_27, (hI.m5 0).up, TY.nil _, rfl, hH⟩ hS (lv_sub hl [6, 8, 9, 0, 10, 11, 12, 13, 14, 15, 16] rfl)
      · skip
        have hf4 : f9 < 4 ∧ fu = f9 := by
          by_cases hq : f9 < 4
          · rw [if_pos hq] at hso; cases hso; exact ⟨hq, rfl⟩
          · rw [if_neg hq] at hso; cases hso
        have hLI := hI.lot (show sc 2 < 10 by omega) (fu := fu) (x1 := G9) (by omega) hbG9.2
        have hLF := (hI.m5 0).lot (show sc 2 < 10 by omega) (fu := fu) (x1 := G9) (by omega) hbG9.2
        refine lv_istore (pc := 291) (lv' := [(16, .int (nI (sc 2))), (7, .int (nI 1)), (15, .int (nI G9)), (14, .int (nI f9)), (13, .int (nI z9)), (12, .int (nI cn)), (11, .int (nI y9)), (10, .int (nI hw)), (9, .int (nI x9)), (8, .int (nI k)), (6, .ref (az 13)), (5, .ref (az 12)), (4, .ref (az 11)), (3, .ref (az 10)), (2, .ref (az 9)), (1, .ref (az 0)), (0, .ref b)]) S.1 S.2.1 dL_law_291 hl (by decide) rfl (fun ls hl => ?_)
        refine lv_iload (pc := 293) S.1 S.2.1 dL_law_293 (lv_at hl 1 rfl) ?_
        refine hv_if_eq (pc := 295) (tgt := 349) (a := 1) S.1 S.2.1 (by omega) dL_law_295 (by decide) (fun c9 => absurd c9 (by omega)) (fun c_29 => ?_)
        refine lv_iload (pc := 298) S.1 S.2.1 dL_law_298 (lv_at hl 0 rfl) ?_
        refine lv_aload_n (pc := 300) S.1 S.2.1 dL_law_300 rfl (lv_at hl 14 rfl) ?_
        refine lv_iconst (pc := 301) (v := nI 0) S.1 S.2.1 dL_law_301 (by decide) ?_
        refine hv_iald (pc := 302) S hK hH 1 (hY2.a0) rfl (vp_in_nI (show 0 < 6 by omega) (by omega)) dL_law_302 ?_
        refine hv_ti (y := nI (((va_up o 0 (va_up (o 0) 5 k9)) 0) 0)) (hv_ld (by omega)) ?_
        refine hv_ti (y := nI (sc 2)) (congrArg nI hm1.1) ?_
        refine lv_bipush (pc := 303) (v := nI 10) S.1 S.2.1 dL_law_303 (by decide) ?_
        refine hv_icmp_ne (pc := 305) (tgt := 313) (a := sc 2) (b := 10) S.1 S.2.1 (by omega) (by omega) dL_law_305 (by decide) (fun c_30 => ?_) (fun c9 => absurd c9 (by omega))
        refine lv_iload (pc := 313) S.1 S.2.1 dL_law_313 (lv_at hl 3 rfl) ?_
        refine lv_iconst (pc := 315) (v := nI 4) S.1 S.2.1 dL_law_315 (by decide) ?_
        refine hv_icmp_ne (pc := 316) (tgt := 323) (a := f9) (b := 4) S.1 S.2.1 (by omega) (by omega) dL_law_316 (by decide) (fun c_31 => ?_) (fun c9 => absurd c9 (by omega))
        refine lv_aload_n (pc := 323) S.1 S.2.1 dL_law_323 rfl (lv_at hl 14 rfl) ?_
        refine lv_iconst (pc := 324) (v := nI 0) S.1 S.2.1 dL_law_324 (by decide) ?_
        refine hv_iald (pc := 325) S hK hH 1 (hY2.a0) rfl (vp_in_nI (show 0 < 6 by omega) (by omega)) dL_law_325 ?_
        refine hv_ti (y := nI (((va_up o 0 (va_up (o 0) 5 k9)) 0) 0)) (hv_ld (by omega)) ?_
        refine hv_ti (y := nI (sc 2)) (congrArg nI hm1.1) ?_
        refine hv_icmp_ne (pc := 326) (tgt := 349) (a := sc 2) (b := sc 2) S.1 S.2.1 (by omega) (by omega) dL_law_326 (by decide) (fun c9 => absurd c9 (by omega)) (fun c_32 => ?_)
        refine lv_iload (pc := 329) S.1 S.2.1 dL_law_329 (lv_at hl 0 rfl) ?_
        refine hv_if_lt (pc := 331) (tgt := 345) (a := sc 2) S.1 S.2.1 (by omega) dL_law_331 (by decide) (fun c9 => absurd c9 id) (fun c_33 => ?_)
        refine lv_aload_n (pc := 334) S.1 S.2.1 dL_law_334 rfl (lv_at hl 15 rfl) ?_
        refine lv_iload (pc := 335) S.1 S.2.1 dL_law_335 (lv_at hl 0 rfl) ?_
        refine hv_call (pc := 337) (va_runV (As := [.int (nI (sc 2))]) (rest := []) S (ys_grams l hfl D cA ga φ_17 H.size az (k + 1) 0 _ kg (va_up sc 2 (sc 2 + 1)) (va_up (va_up ar 1 (va_up (ar 1) (sc 2) fu)) 2 (va_up (ar 2) (sc 2) G9)) w ez (va_up o 0 (va_up (o 0) 5 k9)) _ (sc 2) hY2 hLI (TY.nil _) (show sc 2 < sc 2 + 1 by omega)) (cwV 1 S.2.2.2.2 (gV tw_247 tw_248 tw_249 tw_1 tw_250) rfl rfl rfl (by decide +kernel) ⟨Nat.le_of_ble_eq_true rfl, Nat.le_of_ble_eq_true rfl⟩) (pre0_V hH hK hX hS hA (ycv hH hK hY2)) rfl rfl hl.1 rfl (lv_room (Nat.le_of_ble_eq_true rfl)) dL_law_337 ⟨Nat.le_trans (show _ ≤ 600000 by omega) (Nat.le_of_ble_eq_true rfl), Nat.le_trans (show _ ≤ 7000000 by omega) (Nat.le_of_ble_eq_true rfl)⟩) hS (af_le hH hS hA) (fun v_34 φ_35 H locs hw_v_34 hH hS => ?_)
        obtain ⟨rfl, hqv_34⟩ := hw_v_34
        rw [hqv_34] at hH
        refine hv_ti (y := nI G9) (by rw [va_up_self, va_up_self]) ?_
        refine lv_iload (pc := 340) S.1 S.2.1 dL_law_340 (lv_at hl 2 rfl) ?_
        refine hv_icmp_ne (pc := 342) (tgt := 349) (a := G9) (b := G9) S.1 S.2.1 (by omega) (by omega) dL_law_342 (by decide) (fun c9 => absurd c9 (by omega)) (fun c_36 => ?_)
        refine lv_iconst (pc := 345) (v := nI 1) S.1 S.2.1 dL_law_345 (by decide) ?_
        refine lv_goto (pc := 346) (tgt := 350) S.1 S.2.1 dL_law_346 (by decide) ?_
        refine lv_istore (pc := 350) (lv' := [(7, .int (nI 1)), (16, .int (nI (sc 2))), (15, .int (nI G9)), (14, .int (nI f9)), (13, .int (nI z9)), (12, .int (nI cn)), (11, .int (nI y9)), (10, .int (nI hw)), (9, .int (nI x9)), (8, .int (nI k)), (6, .ref (az 13)), (5, .ref (az 12)), (4, .ref (az 11)), (3, .ref (az 10)), (2, .ref (az 9)), (1, .ref (az 0)), (0, .ref b)]) S.1 S.2.1 dL_law_350 hl (by decide) rfl (fun ls hl => ?_)
        refine lv_aload_n (pc := 352) S.1 S.2.1 dL_law_352 rfl (lv_at hl 14 rfl) ?_
        refine lv_iconst (pc := 353) (v := nI 5) S.1 S.2.1 dL_law_353 (by decide) ?_
        refine lv_aload_n (pc := 354) S.1 S.2.1 dL_law_354 rfl (lv_at hl 14 rfl) ?_
        refine lv_iconst (pc := 355) (v := nI 0) S.1 S.2.1 dL_law_355 (by decide) ?_
        refine hv_iald (pc := 356) S hK hH 1 (hY2.a0) rfl (vp_in_nI (show 0 < 6 by omega) (by omega)) dL_law_356 ?_
        refine hv_ti (y := nI (((va_up o 0 (va_up (o 0) 5 k9)) 0) 0)) (hv_ld (by omega)) ?_
        refine hv_ti (y := nI (sc 2)) (congrArg nI hm1.1) ?_
        refine lv_bipush (pc := 357) (v := nI 10) S.1 S.2.1 dL_law_357 (by decide) ?_
        refine hv_icmp_ne (pc := 359) (tgt := 368) (a := sc 2) (b := 10) S.1 S.2.1 (by omega) (by omega) dL_law_359 (by decide) (fun c_37 => ?_) (fun c9 => absurd c9 (by omega))
        refine lv_iconst (pc := 368) (v := nI 0) S.1 S.2.1 dL_law_368 (by decide) ?_
        refine hv_iast (pc := 369) S hK hH hS 1 (hY2.a0) rfl (vp_in_nI (show 5 < 6 by omega) (by omega)) dL_law_369 (fun H locs hH hS => ?_)
        rw [hv_upd (by omega)] at hH
        replace hH := nup (e := .inl (cA 1, 6, .inl (fun j => nI ((va_up ((va_up o 0 (va_up (o 0) 5 k9)) 0) 5 0) j)))) hH
        obtain ⟨φ_39, hφ_39, fa_φ_39, fr_φ_39, hH⟩ := hH
        have hY_38 := hY2.s0 5 0
        rw [← hφ_39] at hY_38
        rw [up_up] at hY_38
        refine lv_aload_n (pc := 370) S.1 S.2.1 dL_law_370 rfl (lv_at hl 14 rfl) ?_
        refine lv_iconst (pc := 371) (v := nI 0) S.1 S.2.1 dL_law_371 (by decide) ?_
        refine lv_dup2_11 (pc := 372) S.1 S.2.1 dL_law_372 rfl rfl ?_
        refine hv_iald (pc := 373) S hK hH 1 (hY_38.a0) rfl (vp_in_nI (show 0 < 6 by omega) (by omega)) dL_law_373 ?_
        refine hv_ti (y := nI (((va_up o 0 (va_up (o 0) 5 0)) 0) 0)) (hv_ld (by omega)) ?_
        refine hv_ti (y := nI (sc 2)) (congrArg nI hm0.1) ?_
        refine lv_iload (pc := 374) S.1 S.2.1 dL_law_374 (lv_at hl 1 rfl) ?_
        refine hv_if_ge (pc := 376) (tgt := 383) (a := sc 2) S.1 S.2.1 (by omega) dL_law_376 (by decide) (fun c_40 => ?_) (fun c9 => absurd c9 id)
        refine lv_iconst (pc := 383) (v := nI 1) S.1 S.2.1 dL_law_383 (by decide) ?_
        refine lv_iadd (pc := 384) S.1 S.2.1 dL_law_384 ?_
        refine hv_ti (y := nI ((sc 2) + 1)) (nI_add _ _) ?_
        refine hv_iast (pc := 385) S hK hH hS 1 (hY_38.a0) rfl (vp_in_nI (show 0 < 6 by omega) (by omega)) dL_law_385 (fun H locs hH hS => ?_)
        rw [hv_upd (by omega)] at hH
        replace hH := nup (e := .inl (cA 1, 6, .inl (fun j => nI ((va_up ((va_up o 0 (va_up (o 0) 5 0)) 0) 0 (sc 2 + 1)) j)))) hH
        obtain ⟨φ_42, hφ_42, fa_φ_42, fr_φ_42, hH⟩ := hH
        have hY_41 := hY_38.s0 0 (sc 2 + 1)
        rw [← hφ_42] at hY_41
        refine lv_goto (pc := 386) (tgt := 1489) S.1 S.2.1 dL_law_386 (by decide) ?_
        refine W.widen (k := cells + 130) (n := slots + 800) (by omega) (by omega) ?_
        exact kk _ _ _ ⟨0, _, kg, va_up sc 2 (sc 2 + 1), va_up (va_up ar 1 (va_up (ar 1) (sc 2) fu)) 2 (va_up (ar 2) (sc 2) G9), w, ez, va_up (va_up o 0 (va_up (o 0) 5 0)) 0 (va_up ((va_up o 0 (va_up (o 0) 5 0)) 0) 0 (sc 2 + 1)), _, hY_41, hLF, TY.nil _, rfl, hH⟩ hS (lv_sub hl [6, 8, 9, 0, 10, 11, 12, 13, 14, 15, 16] rfl)
  rcases (show f9 = 0 ∨ f9 = 1 ∨ f9 = 2 ∨ f9 = 3 ∨ f9 = 4 by omega) with h4 | h4 | h4 | h4 | h4
  · skip
    refine hv_if_ne (pc := 229) (tgt := 238) (a := f9) S.1 S.2.1 (by omega) dL_law_229 (by decide) (fun c9 => absurd c9 (by omega)) (fun c_43 => ?_)
    refine lv_ldc2 (pc := 232) (v := Int64.ofNat 125762588010868) S.1 S.2.1 S.2.2.2.1 (S.2.2.2.2 _ tw_911) dL_law_232 ?_
    refine lv_goto (pc := 235) (tgt := 277) S.1 S.2.1 dL_law_235 (by decide) ?_
    refine hv_tv (y := .long (Int64.ofNat (wdN f9))) (by rw [h4]; rfl) ?_
    refine W.widen (k := cells) (n := slots) (by omega) (by omega) ?_
    exact h277 ls H locs hH hS (lv_sub hl [0, 1, 2, 3, 4, 5, 6, 7, 8, 9, 10, 11, 12, 13, 14, 15] rfl)
  · skip
    refine hv_if_ne (pc := 229) (tgt := 238) (a := f9) S.1 S.2.1 (by omega) dL_law_229 (by decide) (fun c_44 => ?_) (fun c9 => absurd c9 (by omega))
    refine lv_iload (pc := 238) S.1 S.2.1 dL_law_238 (lv_at hl 1 rfl) ?_
    refine lv_iconst (pc := 240) (v := nI 1) S.1 S.2.1 dL_law_240 (by decide) ?_
    refine hv_icmp_ne (pc := 241) (tgt := 250) (a := f9) (b := 1) S.1 S.2.1 (by omega) (by omega) dL_law_241 (by decide) (fun c9 => absurd c9 (by omega)) (fun c_45 => ?_)
    refine lv_ldc2 (pc := 244) (v := Int64.ofNat 2003791724) S.1 S.2.1 S.2.2.2.1 (S.2.2.2.2 _ tw_912) dL_law_244 ?_
    refine lv_goto (pc := 247) (tgt := 277) S.1 S.2.1 dL_law_247 (by decide) ?_
    refine hv_tv (y := .long (Int64.ofNat (wdN f9))) (by rw [h4]; rfl) ?_
    refine W.widen (k := cells) (n := slots) (by omega) (by omega) ?_
    exact h277 ls H locs hH hS (lv_sub hl [0, 1, 2, 3, 4, 5, 6, 7, 8, 9, 10, 11, 12, 13, 14, 15] rfl)
  · skip
    refine hv_if_ne (pc := 229) (tgt := 238) (a := f9) S.1 S.2.1 (by omega) dL_law_229 (by decide) (fun c_46 => ?_) (fun c9 => absurd c9 (by omega))
    refine lv_iload (pc := 238) S.1 S.2.1 dL_law_238 (lv_at hl 1 rfl) ?_
    refine lv_iconst (pc := 240) (v := nI 1) S.1 S.2.1 dL_law_240 (by decide) ?_
    refine hv_icmp_ne (pc := 241) (tgt := 250) (a := f9) (b := 1) S.1 S.2.1 (by omega) (by omega) dL_law_241 (by decide) (fun c_47 => ?_) (fun c9 => absurd c9 (by omega))
    refine lv_iload (pc := 250) S.1 S.2.1 dL_law_250 (lv_at hl 1 rfl) ?_
    refine lv_iconst (pc := 252) (v := nI 2) S.1 S.2.1 dL_law_252 (by decide) ?_
    refine hv_icmp_ne (pc := 253) (tgt := 262) (a := f9) (b := 2) S.1 S.2.1 (by omega) (by omega) dL_law_253 (by decide) (fun c9 => absurd c9 (by omega)) (fun c_48 => ?_)
    refine lv_ldc2 (pc := 256) (v := Int64.ofNat 108187566368114) S.1 S.2.1 S.2.2.2.1 (S.2.2.2.2 _ tw_913) dL_law_256 ?_
    refine lv_goto (pc := 259) (tgt := 277) S.1 S.2.1 dL_law_259 (by decide) ?_
    refine hv_tv (y := .long (Int64.ofNat (wdN f9))) (by rw [h4]; rfl) ?_
    refine W.widen (k := cells) (n := slots) (by omega) (by omega) ?_
    exact h277 ls H locs hH hS (lv_sub hl [0, 1, 2, 3, 4, 5, 6, 7, 8, 9, 10, 11, 12, 13, 14, 15] rfl)
  · skip
    refine hv_if_ne (pc := 229) (tgt := 238) (a := f9) S.1 S.2.1 (by omega) dL_law_229 (by decide) (fun c_49 => ?_) (fun c9 => absurd c9 (by omega))
    refine lv_iload (pc := 238) S.1 S.2.1 dL_law_238 (lv_at hl 1 rfl) ?_
    refine lv_iconst (pc := 240) (v := nI 1) S.1 S.2.1 dL_law_240 (by decide) ?_
    refine hv_icmp_ne (pc := 241) (tgt := 250) (a := f9) (b := 1) S.1 S.2.1 (by omega) (by omega) dL_law_241 (by decide) (fun c_50 => ?_) (fun c9 => absurd c9 (by omega))
    refine lv_iload (pc := 250) S.1 S.2.1 dL_law_250 (lv_at hl 1 rfl) ?_
    refine lv_iconst (pc := 252) (v := nI 2) S.1 S.2.1 dL_law_252 (by decide) ?_
    refine hv_icmp_ne (pc := 253) (tgt := 262) (a := f9) (b := 2) S.1 S.2.1 (by omega) (by omega) dL_law_253 (by decide) (fun c_51 => ?_) (fun c9 => absurd c9 (by omega))
    refine lv_iload (pc := 262) S.1 S.2.1 dL_law_262 (lv_at hl 1 rfl) ?_
    refine lv_iconst (pc := 264) (v := nI 3) S.1 S.2.1 dL_law_264 (by decide) ?_
    refine hv_icmp_ne (pc := 265) (tgt := 274) (a := f9) (b := 3) S.1 S.2.1 (by omega) (by omega) dL_law_265 (by decide) (fun c9 => absurd c9 (by omega)) (fun c_52 => ?_)
    refine lv_ldc2 (pc := 268) (v := Int64.ofNat 1751216741) S.1 S.2.1 S.2.2.2.1 (S.2.2.2.2 _ tw_914) dL_law_268 ?_
    refine lv_goto (pc := 271) (tgt := 277) S.1 S.2.1 dL_law_271 (by decide) ?_
    refine hv_tv (y := .long (Int64.ofNat (wdN f9))) (by rw [h4]; rfl) ?_
    refine W.widen (k := cells) (n := slots) (by omega) (by omega) ?_
    exact h277 ls H locs hH hS (lv_sub hl [0, 1, 2, 3, 4, 5, 6, 7, 8, 9, 10, 11, 12, 13, 14, 15] rfl)
  · skip
    refine hv_if_ne (pc := 229) (tgt := 238) (a := f9) S.1 S.2.1 (by omega) dL_law_229 (by decide) (fun c_53 => ?_) (fun c9 => absurd c9 (by omega))
    refine lv_iload (pc := 238) S.1 S.2.1 dL_law_238 (lv_at hl 1 rfl) ?_
    refine lv_iconst (pc := 240) (v := nI 1) S.1 S.2.1 dL_law_240 (by decide) ?_
    refine hv_icmp_ne (pc := 241) (tgt := 250) (a := f9) (b := 1) S.1 S.2.1 (by omega) (by omega) dL_law_241 (by decide) (fun c_54 => ?_) (fun c9 => absurd c9 (by omega))
    refine lv_iload (pc := 250) S.1 S.2.1 dL_law_250 (lv_at hl 1 rfl) ?_
    refine lv_iconst (pc := 252) (v := nI 2) S.1 S.2.1 dL_law_252 (by decide) ?_
    refine hv_icmp_ne (pc := 253) (tgt := 262) (a := f9) (b := 2) S.1 S.2.1 (by omega) (by omega) dL_law_253 (by decide) (fun c_55 => ?_) (fun c9 => absurd c9 (by omega))
    refine lv_iload (pc := 262) S.1 S.2.1 dL_law_262 (lv_at hl 1 rfl) ?_
    refine lv_iconst (pc := 264) (v := nI 3) S.1 S.2.1 dL_law_264 (by decide) ?_
    refine hv_icmp_ne (pc := 265) (tgt := 274) (a := f9) (b := 3) S.1 S.2.1 (by omega) (by omega) dL_law_265 (by decide) (fun c_56 => ?_) (fun c9 => absurd c9 (by omega))
    refine lv_ldc2 (pc := 274) (v := Int64.ofNat 6840690) S.1 S.2.1 S.2.2.2.1 (S.2.2.2.2 _ tw_915) dL_law_274 ?_
    refine hv_tv (y := .long (Int64.ofNat (wdN f9))) (by rw [h4]; rfl) ?_
    refine W.widen (k := cells) (n := slots) (by omega) (by omega) ?_
    exact h277 ls H locs hH hS (lv_sub hl [0, 1, 2, 3, 4, 5, 6, 7, 8, 9, 10, 11, 12, 13, 14, 15] rfl)
set_option maxHeartbeats 4000000 in
set_option maxRecDepth 100000 in
/-- a hand is taken on -/
theorem law_hand (l : Launch) (hfl : l.stackTraces = false) {p : Program} {e : Env} {s : State} {m : MethodId} {below : List Frame} {meth : Method} {c : Code} {b : Nat} {D : va_G} {cA : Nat → ClassId} {ga : Nat → Nat → Nat} {Q : State → Prop} (S : CallFix p m c code 19 s #[.ref b] Wc RL) (hK : va_K D vwCl (tysL cA) s) (hX : Sx ga (fun q => s.heap.size ≤ q) s s.heap) {k x9 hw y9 cn z9 cells slots : Nat} {H : Heap} {locs : List Loc} {ls : Array Slot} {az : Nat → Nat} {tk tm : Nat} {tg sc : Nat → Nat} {ar : Nat → Nat → Nat} {w : Nat → Nat → Nat → Nat} {ez o : Nat → Nat → Nat} {φ : hpM} (hk : k < 130) (hc : cells ≤ 500000) (hs : slots ≤ 5000000) (hz9 : z9 < 2 ^ 27) (hw34 : hw < 34)
    (hY : YW cA ga az tk tm tg sc ar w ez o φ) (hI : LI k sc ar w ez o) (hT : TY tk tg) (h5 : o 0 5 = tk) (hH : hp D (fun q => s.heap.size ≤ q) φ H) (hS : va_S (fun q => s.heap.size ≤ q) s.heap H locs) (hcn : 0 < sc 3 → cn < sc 3) (hl : lv_has ls 19 [(13, .int (nI z9)), (12, .int (nI cn)), (11, .int (nI y9)), (10, .int (nI hw)), (9, .int (nI x9)), (8, .int (nI k)), (7, .int (nI 1)), (6, .ref (az 13)), (5, .ref (az 12)), (4, .ref (az 11)), (3, .ref (az 10)), (2, .ref (az 9)), (1, .ref (az 0)), (0, .ref b)])
    (kk : ∀ (H1 : Heap) (locs1 : List Loc) (ls1 : Array Slot), WLD cA ga D (fun q => s.heap.size ≤ q) az (k + 1) H1 → va_S (fun q => s.heap.size ≤ q) s.heap H1 locs1 → lv_has ls1 19 [(11, .int (nI y9)), (9, .int (nI x9)), (8, .int (nI k)), (7, .int (nI 1)), (6, .ref (az 13)), (5, .ref (az 12)), (4, .ref (az 11)), (3, .ref (az 10)), (2, .ref (az 9)), (1, .ref (az 0)), (0, .ref b)] → W p l e room_1 s m #[.ref b] below meth c H1 locs1 (cells + 130) (slots + 800) Q (F0 m 1489 ls1 [])) (h : 3 ≤ hw ∧ hw < 9) (h0 : hw < 7 → sc 2 = 0) :
    W p l e room_1 s m #[.ref b] below meth c H locs cells slots Q (F0 m 201 ls []) := by
  have hA : ∀ q, s.heap.size ≤ q → (fun q => s.heap.size ≤ q) q := fun _ h => h
  have hl1 := hI.l1
  have hm := hI.lm
  have h200 : k ≤ 200 := by omega
  have hk7 := hT.1
  refine lv_iload (pc := 201) S.1 S.2.1 dL_law_201 (lv_at hl 3 rfl) ?_
  refine lv_iconst (pc := 203) (v := nI 3) S.1 S.2.1 dL_law_203 (by decide) ?_
  refine hv_icmp_ge (pc := 204) (tgt := 389) (a := hw) (b := 3) S.1 S.2.1 (by omega) (by omega) dL_law_204 (by decide) (fun c_1 => ?_) (fun c9 => absurd c9 (by omega))
  refine lv_iload (pc := 389) S.1 S.2.1 dL_law_389 (lv_at hl 3 rfl) ?_
  refine lv_bipush (pc := 391) (v := nI 7) S.1 S.2.1 dL_law_391 (by decide) ?_
  have h546 : ∀ (ls : Array Slot) (H : Heap) (locs : List Loc), hp D (fun q => s.heap.size ≤ q) φ H → va_S (fun q => s.heap.size ≤ q) s.heap H locs → lv_has ls 19 [(13, .int (nI z9)), (12, .int (nI cn)), (11, .int (nI y9)), (10, .int (nI hw)), (9, .int (nI x9)), (8, .int (nI k)), (7, .int (nI 1)), (6, .ref (az 13)), (5, .ref (az 12)), (4, .ref (az 11)), (3, .ref (az 10)), (2, .ref (az 9)), (1, .ref (az 0)), (0, .ref b)] → W p l e room_1 s m #[.ref b] below meth c H locs (cells) (slots) Q (F0 m 546 ls []) := by
    intro ls H locs hH hS hl
    refine lv_iload (pc := 546) S.1 S.2.1 dL_law_546 (lv_at hl 3 rfl) ?_
    refine lv_bipush (pc := 548) (v := nI 9) S.1 S.2.1 dL_law_548 (by decide) ?_
    refine hv_icmp_ge (pc := 550) (tgt := 610) (a := hw) (b := 9) S.1 S.2.1 (by omega) (by omega) dL_law_550 (by decide) (fun c9 => absurd c9 (by omega)) (fun c_2 => ?_)
    refine lv_aload_n (pc := 553) S.1 S.2.1 dL_law_553 rfl (lv_at hl 12 rfl) ?_
    refine lv_iconst (pc := 554) (v := nI 3) S.1 S.2.1 dL_law_554 (by decide) ?_
    refine lv_iconst (pc := 555) (v := nI 0) S.1 S.2.1 dL_law_555 (by decide) ?_
    refine lv_iconst (pc := 556) (v := nI 0) S.1 S.2.1 dL_law_556 (by decide) ?_
    refine lv_iconst (pc := 557) (v := nI 0) S.1 S.2.1 dL_law_557 (by decide) ?_
    by_cases h6 : 6 ≤ sc 5
    · skip
      refine hv_call (pc := 558) (vx_runSW (As := [.ref (az 0), .int (nI 3), .int (nI 0), .int (nI 0), .int (nI 0)]) (rest := []) S (ax_hand_2 l hfl D cA ga φ H.size az k tk tm tg sc ar w ez o o (nI 0) (nI 0) (nI 0) hY hI hT h200 (handX_2 h6)) (vx_cwSW 5 S.2.2.2.2 (gSW tw_261 tw_262 tw_0 tw_263) rfl rfl rfl (by decide +kernel) ⟨Nat.le_of_ble_eq_true rfl, Nat.le_of_ble_eq_true rfl⟩) (pre0_S hH hK hX hS hA) rfl rfl hl.1 rfl (lv_room (Nat.le_of_ble_eq_true rfl)) dL_law_558 ⟨Nat.le_trans (show _ ≤ 600000 by omega) (Nat.le_of_ble_eq_true rfl), Nat.le_trans (show _ ≤ 7000000 by omega) (Nat.le_of_ble_eq_true rfl)⟩) hS (af_le hH hS hA) (fun v_3 φ_4 H locs hw_v_3 hH hS => ?_)
      obtain ⟨rfl, hqv_3⟩ := hw_v_3
      rw [hqv_3] at hH
      refine lv_istore (pc := 561) (lv' := [(14, .int ((-16830000 : Int32))), (13, .int (nI z9)), (12, .int (nI cn)), (11, .int (nI y9)), (10, .int (nI hw)), (9, .int (nI x9)), (8, .int (nI k)), (7, .int (nI 1)), (6, .ref (az 13)), (5, .ref (az 12)), (4, .ref (az 11)), (3, .ref (az 10)), (2, .ref (az 9)), (1, .ref (az 0)), (0, .ref b)]) S.1 S.2.1 dL_law_561 hl (by decide) rfl (fun ls hl => ?_)
      refine lv_iload (pc := 563) S.1 S.2.1 dL_law_563 (lv_at hl 0 rfl) ?_
      refine lv_aload_n (pc := 565) S.1 S.2.1 dL_law_565 rfl (lv_at hl 12 rfl) ?_
      refine lv_iconst (pc := 566) (v := nI 3) S.1 S.2.1 dL_law_566 (by decide) ?_
      refine hv_iald (pc := 567) S hK hH 1 (hY.a0) rfl (vp_in_nI (show 3 < 6 by omega) (by omega)) dL_law_567 ?_
      refine hv_ti (y := nI ((o 0) 3)) (hv_ld (by omega)) ?_
      refine hv_ti (y := nI (sc 5)) (congrArg nI hm.2.2.2.1) ?_
      refine lv_bipush (pc := 568) (v := nI 6) S.1 S.2.1 dL_law_568 (by decide) ?_
      refine hv_icmp_ne (pc := 570) (tgt := 578) (a := sc 5) (b := 6) S.1 S.2.1 (by omega) (by omega) dL_law_570 (by decide) (fun c9 => absurd c9 (by omega)) (fun c_5 => ?_)
      refine lv_ldc (pc := 573) (v := (-16830000 : Int32)) S.1 S.2.1 S.2.2.2.1 (S.2.2.2.2 _ tw_887) dL_law_573 ?_
      refine lv_goto (pc := 575) (tgt := 581) S.1 S.2.1 dL_law_575 (by decide) ?_
      refine lv_icmp_ne (pc := 581) (tgt := 588) S.1 S.2.1 dL_law_581 (by decide) (fun c9 => absurd c9 (fun h9 => h9 rfl)) (fun c_6 => ?_)
      refine lv_iconst (pc := 584) (v := nI 1) S.1 S.2.1 dL_law_584 (by decide) ?_
      refine lv_goto (pc := 585) (tgt := 589) S.1 S.2.1 dL_law_585 (by decide) ?_
      refine lv_istore (pc := 589) (lv' := [(7, .int (nI 1)), (14, .int ((-16830000 : Int32))), (13, .int (nI z9)), (12, .int (nI cn)), (11, .int (nI y9)), (10, .int (nI hw)), (9, .int (nI x9)), (8, .int (nI k)), (6, .ref (az 13)), (5, .ref (az 12)), (4, .ref (az 11)), (3, .ref (az 10)), (2, .ref (az 9)), (1, .ref (az 0)), (0, .ref b)]) S.1 S.2.1 dL_law_589 hl (by decide) rfl (fun ls hl => ?_)
      refine lv_aload_n (pc := 591) S.1 S.2.1 dL_law_591 rfl (lv_at hl 12 rfl) ?_
      refine lv_iconst (pc := 592) (v := nI 3) S.1 S.2.1 dL_law_592 (by decide) ?_
      refine lv_dup2_11 (pc := 593) S.1 S.2.1 dL_law_593 rfl rfl ?_
      refine hv_iald (pc := 594) S hK hH 1 (hY.a0) rfl (vp_in_nI (show 3 < 6 by omega) (by omega)) dL_law_594 ?_
      refine hv_ti (y := nI ((o 0) 3)) (hv_ld (by omega)) ?_
      refine hv_ti (y := nI (sc 5)) (congrArg nI hm.2.2.2.1) ?_
      refine lv_iload (pc := 595) S.1 S.2.1 dL_law_595 (lv_at hl 1 rfl) ?_
      refine lv_if_ge (pc := 597) (tgt := 604) S.1 S.2.1 dL_law_597 (by decide) (fun c9 => absurd c9 (by decide)) (fun c_7 => ?_)
      refine lv_iconst (pc := 600) (v := nI 0) S.1 S.2.1 dL_law_600 (by decide) ?_
      refine lv_goto (pc := 601) (tgt := 605) S.1 S.2.1 dL_law_601 (by decide) ?_
      refine lv_iadd (pc := 605) S.1 S.2.1 dL_law_605 ?_
      refine hv_ti (y := nI ((sc 5) + 0)) (nI_add _ _) ?_
      refine hv_iast (pc := 606) S hK hH hS 1 (hY.a0) rfl (vp_in_nI (show 3 < 6 by omega) (by omega)) dL_law_606 (fun H locs hH hS => ?_)
      rw [hv_upd (by omega)] at hH
      replace hH := nup (e := .inl (cA 1, 6, .inl (fun j => nI ((va_up (o 0) 3 (sc 5 + 0)) j)))) hH
      obtain ⟨φ_9, hφ_9, fa_φ_9, fr_φ_9, hH⟩ := hH
      have hY_8 := hY.s0 3 (sc 5 + 0)
      rw [← hφ_9] at hY_8
      rw [up_id (k := 0) (j := 3) (v := sc 5 + 0) hm.2.2.2.1] at hY_8
      refine lv_goto (pc := 607) (tgt := 1489) S.1 S.2.1 dL_law_607 (by decide) ?_
      refine W.widen (k := cells + 130) (n := slots + 800) (by omega) (by omega) ?_
      exact kk _ _ _ ⟨tk, tm, tg, sc, ar, w, ez, o, _, hY_8, hI.up, hT, h5, hH⟩ hS (lv_sub hl [4, 6, 7, 0, 8, 9, 10, 11, 12, 13, 14] rfl)
    · skip
      refine hv_call (pc := 558) (vx_runSW (As := [.ref (az 0), .int (nI 3), .int (nI 0), .int (nI 0), .int (nI 0)]) (rest := []) S (as_hand l hfl D cA ga φ H.size az k tk tm tg sc ar w ez o o hY hI hT h200 (by omega)) (vx_cwSW 5 S.2.2.2.2 (gSW tw_261 tw_262 tw_0 tw_263) rfl rfl rfl (by decide +kernel) ⟨Nat.le_of_ble_eq_true rfl, Nat.le_of_ble_eq_true rfl⟩) (pre0_S hH hK hX hS hA) rfl rfl hl.1 rfl (lv_room (Nat.le_of_ble_eq_true rfl)) dL_law_558 ⟨Nat.le_trans (show _ ≤ 600000 by omega) (Nat.le_of_ble_eq_true rfl), Nat.le_trans (show _ ≤ 7000000 by omega) (Nat.le_of_ble_eq_true rfl)⟩) hS (af_le hH hS hA) (fun v_10 φ_11 H locs hw_v_10 hH hS => ?_)
      obtain ⟨rfl, hY2⟩ := hw_v_10
      refine lv_istore (pc := 561) (lv' := [(14, .int (nI (sc 5))), (13, .int (nI z9)), (12, .int (nI cn)), (11, .int (nI y9)), (10, .int (nI hw)), (9, .int (nI x9)), (8, .int (nI k)), (7, .int (nI 1)), (6, .ref (az 13)), (5, .ref (az 12)), (4, .ref (az 11)), (3, .ref (az 10)), (2, .ref (az 9)), (1, .ref (az 0)), (0, .ref b)]) S.1 S.2.1 dL_law_561 hl (by decide) rfl (fun ls hl => ?_)
      refine lv_iload (pc := 563) S.1 S.2.1 dL_law_563 (lv_at hl 0 rfl) ?_
      refine lv_aload_n (pc := 565) S.1 S.2.1 dL_law_565 rfl (lv_at hl 12 rfl) ?_
      refine lv_iconst (pc := 566) (v := nI 3) S.1 S.2.1 dL_law_566 (by decide) ?_
      refine hv_iald (pc := 567) S hK hH 1 (hY2.a0) rfl (vp_in_nI (show 3 < 6 by omega) (by omega)) dL_law_567 ?_
      refine hv_ti (y := nI ((o 0) 3)) (hv_ld (by omega)) ?_
      refine hv_ti (y := nI (sc 5)) (congrArg nI hm.2.2.2.1) ?_
      refine lv_bipush (pc := 568) (v := nI 6) S.1 S.2.1 dL_law_568 (by decide) ?_
      refine hv_icmp_ne (pc := 570) (tgt := 578) (a := sc 5) (b := 6) S.1 S.2.1 (by omega) (by omega) dL_law_570 (by decide) (fun c_12 => ?_) (fun c9 => absurd c9 (by omega))
      refine lv_aload_n (pc := 578) S.1 S.2.1 dL_law_578 rfl (lv_at hl 12 rfl) ?_
      refine lv_iconst (pc := 579) (v := nI 3) S.1 S.2.1 dL_law_579 (by decide) ?_
      refine hv_iald (pc := 580) S hK hH 1 (hY2.a0) rfl (vp_in_nI (show 3 < 6 by omega) (by omega)) dL_law_580 ?_
      refine hv_ti (y := nI ((o 0) 3)) (hv_ld (by omega)) ?_
      refine hv_ti (y := nI (sc 5)) (congrArg nI hm.2.2.2.1) ?_
      refine hv_icmp_ne (pc := 581) (tgt := 588) (a := sc 5) (b := sc 5) S.1 S.2.1 (by omega) (by omega) dL_law_581 (by decide) (fun c9 => absurd c9 (by omega)) (fun c_13 => ?_)
      refine lv_iconst (pc := 584) (v := nI 1) S.1 S.2.1 dL_law_584 (by decide) ?_
      refine lv_goto (pc := 585) (tgt := 589) S.1 S.2.1 dL_law_585 (by decide) ?_
      refine lv_istore (pc := 589) (lv' := [(7, .int (nI 1)), (14, .int (nI (sc 5))), (13, .int (nI z9)), (12, .int (nI cn)), (11, .int (nI y9)), (10, .int (nI hw)), (9, .int (nI x9)), (8, .int (nI k)), (6, .ref (az 13)), (5, .ref (az 12)), (4, .ref (az 11)), (3, .ref (az 10)), (2, .ref (az 9)), (1, .ref (az 0)), (0, .ref b)]) S.1 S.2.1 dL_law_589 hl (by decide) rfl (fun ls hl => ?_)
      refine lv_aload_n (pc := 591) S.1 S.2.1 dL_law_591 rfl (lv_at hl 12 rfl) ?_
      refine lv_iconst (pc := 592) (v := nI 3) S.1 S.2.1 dL_law_592 (by decide) ?_
      refine lv_dup2_11 (pc := 593) S.1 S.2.1 dL_law_593 rfl rfl ?_
      refine hv_iald (pc := 594) S hK hH 1 (hY2.a0) rfl (vp_in_nI (show 3 < 6 by omega) (by omega)) dL_law_594 ?_
      refine hv_ti (y := nI ((o 0) 3)) (hv_ld (by omega)) ?_
      refine hv_ti (y := nI (sc 5)) (congrArg nI hm.2.2.2.1) ?_
      refine lv_iload (pc := 595) S.1 S.2.1 dL_law_595 (lv_at hl 1 rfl) ?_
      refine hv_if_ge (pc := 597) (tgt := 604) (a := sc 5) S.1 S.2.1 (by omega) dL_law_597 (by decide) (fun c_14 => ?_) (fun c9 => absurd c9 id)
      refine lv_iconst (pc := 604) (v := nI 1) S.1 S.2.1 dL_law_604 (by decide) ?_
      refine lv_iadd (pc := 605) S.1 S.2.1 dL_law_605 ?_
      refine hv_ti (y := nI ((sc 5) + 1)) (nI_add _ _) ?_
      refine hv_iast (pc := 606) S hK hH hS 1 (hY2.a0) rfl (vp_in_nI (show 3 < 6 by omega) (by omega)) dL_law_606 (fun H locs hH hS => ?_)
      rw [hv_upd (by omega)] at hH
      replace hH := nup (e := .inl (cA 1, 6, .inl (fun j => nI ((va_up (o 0) 3 (sc 5 + 1)) j)))) hH
      obtain ⟨φ_16, hφ_16, fa_φ_16, fr_φ_16, hH⟩ := hH
      have hY_15 := hY2.s0 3 (sc 5 + 1)
      rw [← hφ_16] at hY_15
      refine lv_goto (pc := 607) (tgt := 1489) S.1 S.2.1 dL_law_607 (by decide) ?_
      refine W.widen (k := cells + 130) (n := slots + 800) (by omega) (by omega) ?_
      exact kk _ _ _ ⟨tk, tm, tg, va_up sc 5 (sc 5 + 1), ar, w, ez, va_up o 0 (va_up (o 0) 3 (sc 5 + 1)), _, hY_15, hI.hand (by omega), hT, h5, hH⟩ hS (lv_sub hl [4, 6, 7, 0, 8, 9, 10, 11, 12, 13, 14] rfl)
  by_cases h7 : 7 ≤ hw
  · skip
    refine hv_icmp_ge (pc := 393) (tgt := 546) (a := hw) (b := 7) S.1 S.2.1 (by omega) (by omega) dL_law_393 (by decide) (fun c_17 => ?_) (fun c9 => absurd c9 (by omega))
    refine W.widen (k := cells) (n := slots) (by omega) (by omega) ?_
    exact h546 ls H locs hH hS (lv_sub hl [0, 1, 2, 3, 4, 5, 6, 7, 8, 9, 10, 11, 12, 13] rfl)
  · skip
    refine hv_icmp_ge (pc := 393) (tgt := 546) (a := hw) (b := 7) S.1 S.2.1 (by omega) (by omega) dL_law_393 (by decide) (fun c9 => absurd c9 (by omega)) (fun c_18 => ?_)
    refine lv_aload_n (pc := 396) S.1 S.2.1 dL_law_396 rfl (lv_at hl 11 rfl) ?_
    refine lv_iconst (pc := 397) (v := nI 0) S.1 S.2.1 dL_law_397 (by decide) ?_
    refine hv_iald (pc := 398) S hK hH 1 (hY.a0) rfl (vp_in_nI (show 0 < 6 by omega) (by omega)) dL_law_398 ?_
    refine hv_ti (y := nI ((o 0) 0)) (hv_ld (by omega)) ?_
    refine hv_ti (y := nI (sc 2)) (congrArg nI hm.1) ?_
    refine hv_if_le (pc := 399) (tgt := 546) (a := sc 2) S.1 S.2.1 (by omega) dL_law_399 (by decide) (fun c_19 => ?_) (fun c9 => absurd c9 (by omega))
    refine W.widen (k := cells) (n := slots) (by omega) (by omega) ?_
    exact h546 ls H locs hH hS (lv_sub hl [0, 1, 2, 3, 4, 5, 6, 7, 8, 9, 10, 11, 12, 13] rfl)
set_option maxHeartbeats 4000000 in
set_option maxRecDepth 100000 in
/-- a block is made -/
theorem law_block (l : Launch) (hfl : l.stackTraces = false) {p : Program} {e : Env} {s : State} {m : MethodId} {below : List Frame} {meth : Method} {c : Code} {b : Nat} {D : va_G} {cA : Nat → ClassId} {ga : Nat → Nat → Nat} {Q : State → Prop} (S : CallFix p m c code 19 s #[.ref b] Wc RL) (hK : va_K D vwCl (tysL cA) s) (hX : Sx ga (fun q => s.heap.size ≤ q) s s.heap) {k x9 hw y9 cn z9 cells slots : Nat} {H : Heap} {locs : List Loc} {ls : Array Slot} {az : Nat → Nat} {tk tm : Nat} {tg sc : Nat → Nat} {ar : Nat → Nat → Nat} {w : Nat → Nat → Nat → Nat} {ez o : Nat → Nat → Nat} {φ : hpM} (hk : k < 130) (hc : cells ≤ 500000) (hs : slots ≤ 5000000) (hz9 : z9 < 2 ^ 27) (hw34 : hw < 34)
    (hY : YW cA ga az tk tm tg sc ar w ez o φ) (hI : LI k sc ar w ez o) (hT : TY tk tg) (h5 : o 0 5 = tk) (hH : hp D (fun q => s.heap.size ≤ q) φ H) (hS : va_S (fun q => s.heap.size ≤ q) s.heap H locs) (hcn : 0 < sc 3 → cn < sc 3) (hl : lv_has ls 19 [(13, .int (nI z9)), (12, .int (nI cn)), (11, .int (nI y9)), (10, .int (nI hw)), (9, .int (nI x9)), (8, .int (nI k)), (7, .int (nI 1)), (6, .ref (az 13)), (5, .ref (az 12)), (4, .ref (az 11)), (3, .ref (az 10)), (2, .ref (az 9)), (1, .ref (az 0)), (0, .ref b)])
    (kk : ∀ (H1 : Heap) (locs1 : List Loc) (ls1 : Array Slot), WLD cA ga D (fun q => s.heap.size ≤ q) az (k + 1) H1 → va_S (fun q => s.heap.size ≤ q) s.heap H1 locs1 → lv_has ls1 19 [(11, .int (nI y9)), (9, .int (nI x9)), (8, .int (nI k)), (7, .int (nI 1)), (6, .ref (az 13)), (5, .ref (az 12)), (4, .ref (az 11)), (3, .ref (az 10)), (2, .ref (az 9)), (1, .ref (az 0)), (0, .ref b)] → W p l e room_1 s m #[.ref b] below meth c H1 locs1 (cells + 130) (slots + 800) Q (F0 m 1489 ls1 [])) (h : 9 ≤ hw ∧ hw < 11) :
    W p l e room_1 s m #[.ref b] below meth c H locs cells slots Q (F0 m 201 ls []) := by
  have hA : ∀ q, s.heap.size ≤ q → (fun q => s.heap.size ≤ q) q := fun _ h => h
  have hl1 := hI.l1
  have hm := hI.lm
  have h200 : k ≤ 200 := by omega
  have hk7 := hT.1
  refine lv_iload (pc := 201) S.1 S.2.1 dL_law_201 (lv_at hl 3 rfl) ?_
  refine lv_iconst (pc := 203) (v := nI 3) S.1 S.2.1 dL_law_203 (by decide) ?_
  refine hv_icmp_ge (pc := 204) (tgt := 389) (a := hw) (b := 3) S.1 S.2.1 (by omega) (by omega) dL_law_204 (by decide) (fun c_1 => ?_) (fun c9 => absurd c9 (by omega))
  refine lv_iload (pc := 389) S.1 S.2.1 dL_law_389 (lv_at hl 3 rfl) ?_
  refine lv_bipush (pc := 391) (v := nI 7) S.1 S.2.1 dL_law_391 (by decide) ?_
  refine hv_icmp_ge (pc := 393) (tgt := 546) (a := hw) (b := 7) S.1 S.2.1 (by omega) (by omega) dL_law_393 (by decide) (fun c_2 => ?_) (fun c9 => absurd c9 (by omega))
  refine lv_iload (pc := 546) S.1 S.2.1 dL_law_546 (lv_at hl 3 rfl) ?_
  refine lv_bipush (pc := 548) (v := nI 9) S.1 S.2.1 dL_law_548 (by decide) ?_
  refine hv_icmp_ge (pc := 550) (tgt := 610) (a := hw) (b := 9) S.1 S.2.1 (by omega) (by omega) dL_law_550 (by decide) (fun c_3 => ?_) (fun c9 => absurd c9 (by omega))
  refine lv_iload (pc := 610) S.1 S.2.1 dL_law_610 (lv_at hl 3 rfl) ?_
  refine lv_bipush (pc := 612) (v := nI 11) S.1 S.2.1 dL_law_612 (by decide) ?_
  refine hv_icmp_ge (pc := 614) (tgt := 726) (a := hw) (b := 11) S.1 S.2.1 (by omega) (by omega) dL_law_614 (by decide) (fun c9 => absurd c9 (by omega)) (fun c_4 => ?_)
  refine lv_aload_n (pc := 617) S.1 S.2.1 dL_law_617 rfl (lv_at hl 12 rfl) ?_
  refine lv_iconst (pc := 618) (v := nI 5) S.1 S.2.1 dL_law_618 (by decide) ?_
  refine lv_sipush (pc := 619) (v := nI 300) S.1 S.2.1 dL_law_619 (by decide) ?_
  refine lv_iload (pc := 622) S.1 S.2.1 dL_law_622 (lv_at hl 0 rfl) ?_
  refine lv_sipush (pc := 624) (v := nI 401) S.1 S.2.1 dL_law_624 (by decide) ?_
  refine lv_irem (pc := 627) S.1 S.2.1 dL_law_627 (by decide) ?_
  refine hv_ti (y := nI (z9 % 401)) (pk_rem (by omega) (by omega) (by omega)) ?_
  refine lv_iadd (pc := 628) S.1 S.2.1 dL_law_628 ?_
  refine hv_ti (y := nI (300 + (z9 % 401))) (nI_add _ _) ?_
  obtain ⟨B9, hB9⟩ : ∃ B9 : Nat, B9 = 300 + (z9 % 401) := ⟨_, rfl⟩
  refine hv_ti (y := nI B9) (by rw [hB9]) ?_
  have hbB9 : 300 ≤ B9 ∧ B9 ≤ 700 := by omega
  refine lv_iconst (pc := 629) (v := nI 1) S.1 S.2.1 dL_law_629 (by decide) ?_
  refine lv_iload (pc := 630) S.1 S.2.1 dL_law_630 (lv_at hl 0 rfl) ?_
  refine lv_sipush (pc := 632) (v := nI 401) S.1 S.2.1 dL_law_632 (by decide) ?_
  refine lv_idiv (pc := 635) S.1 S.2.1 dL_law_635 (by decide) ?_
  refine hv_ti (y := nI (z9 / 401)) (pk_div (by omega) (by omega) (by omega)) ?_
  refine lv_bipush (pc := 636) (v := nI 6) S.1 S.2.1 dL_law_636 (by decide) ?_
  refine lv_irem (pc := 638) S.1 S.2.1 dL_law_638 (by decide) ?_
  refine hv_ti (y := nI ((z9 / 401) % 6)) (pk_rem (by omega) (by omega) (by omega)) ?_
  refine lv_iadd (pc := 639) S.1 S.2.1 dL_law_639 ?_
  refine hv_ti (y := nI (1 + ((z9 / 401) % 6))) (nI_add _ _) ?_
  obtain ⟨D9, hD9⟩ : ∃ D9 : Nat, D9 = 1 + ((z9 / 401) % 6) := ⟨_, rfl⟩
  refine hv_ti (y := nI D9) (by rw [hD9]) ?_
  have hbD9 : 1 ≤ D9 ∧ D9 ≤ 6 := by omega
  refine lv_iconst (pc := 640) (v := nI 0) S.1 S.2.1 dL_law_640 (by decide) ?_
  by_cases h8 : 8 ≤ sc 4
  · skip
    refine hv_call (pc := 641) (vx_runSW (As := [.ref (az 0), .int (nI 5), .int (nI B9), .int (nI D9), .int (nI 0)]) (rest := []) S (ax_block_2 l hfl D cA ga φ H.size az k tk tm tg sc ar w ez o o (nI B9) (nI D9) (nI 0) hY hI hT h200 (blockX_2g h8 hbB9.1 hbB9.2 hbD9.1 hbD9.2)) (vx_cwSW 5 S.2.2.2.2 (gSW tw_261 tw_262 tw_0 tw_263) rfl rfl rfl (by decide +kernel) ⟨Nat.le_of_ble_eq_true rfl, Nat.le_of_ble_eq_true rfl⟩) (pre0_S hH hK hX hS hA) rfl rfl hl.1 rfl (lv_room (Nat.le_of_ble_eq_true rfl)) dL_law_641 ⟨Nat.le_trans (show _ ≤ 600000 by omega) (Nat.le_of_ble_eq_true rfl), Nat.le_trans (show _ ≤ 7000000 by omega) (Nat.le_of_ble_eq_true rfl)⟩) hS (af_le hH hS hA) (fun v_5 φ_6 H locs hw_v_5 hH hS => ?_)
    obtain ⟨rfl, hqv_5⟩ := hw_v_5
    rw [hqv_5] at hH
    refine lv_istore (pc := 644) (lv' := [(14, .int ((-16830000 : Int32))), (13, .int (nI z9)), (12, .int (nI cn)), (11, .int (nI y9)), (10, .int (nI hw)), (9, .int (nI x9)), (8, .int (nI k)), (7, .int (nI 1)), (6, .ref (az 13)), (5, .ref (az 12)), (4, .ref (az 11)), (3, .ref (az 10)), (2, .ref (az 9)), (1, .ref (az 0)), (0, .ref b)]) S.1 S.2.1 dL_law_644 hl (by decide) rfl (fun ls hl => ?_)
    refine lv_iload (pc := 646) S.1 S.2.1 dL_law_646 (lv_at hl 0 rfl) ?_
    refine lv_aload_n (pc := 648) S.1 S.2.1 dL_law_648 rfl (lv_at hl 12 rfl) ?_
    refine lv_iconst (pc := 649) (v := nI 2) S.1 S.2.1 dL_law_649 (by decide) ?_
    refine hv_iald (pc := 650) S hK hH 1 (hY.a0) rfl (vp_in_nI (show 2 < 6 by omega) (by omega)) dL_law_650 ?_
    refine hv_ti (y := nI ((o 0) 2)) (hv_ld (by omega)) ?_
    refine hv_ti (y := nI (sc 4)) (congrArg nI hm.2.2.1) ?_
    refine lv_bipush (pc := 651) (v := nI 8) S.1 S.2.1 dL_law_651 (by decide) ?_
    refine hv_icmp_ne (pc := 653) (tgt := 661) (a := sc 4) (b := 8) S.1 S.2.1 (by omega) (by omega) dL_law_653 (by decide) (fun c9 => absurd c9 (by omega)) (fun c_7 => ?_)
    refine lv_ldc (pc := 656) (v := (-16830000 : Int32)) S.1 S.2.1 S.2.2.2.1 (S.2.2.2.2 _ tw_887) dL_law_656 ?_
    refine lv_goto (pc := 658) (tgt := 664) S.1 S.2.1 dL_law_658 (by decide) ?_
    refine lv_icmp_ne (pc := 664) (tgt := 671) S.1 S.2.1 dL_law_664 (by decide) (fun c9 => absurd c9 (fun h9 => h9 rfl)) (fun c_8 => ?_)
    refine lv_iconst (pc := 667) (v := nI 1) S.1 S.2.1 dL_law_667 (by decide) ?_
    refine lv_goto (pc := 668) (tgt := 672) S.1 S.2.1 dL_law_668 (by decide) ?_
    refine lv_istore (pc := 672) (lv' := [(7, .int (nI 1)), (14, .int ((-16830000 : Int32))), (13, .int (nI z9)), (12, .int (nI cn)), (11, .int (nI y9)), (10, .int (nI hw)), (9, .int (nI x9)), (8, .int (nI k)), (6, .ref (az 13)), (5, .ref (az 12)), (4, .ref (az 11)), (3, .ref (az 10)), (2, .ref (az 9)), (1, .ref (az 0)), (0, .ref b)]) S.1 S.2.1 dL_law_672 hl (by decide) rfl (fun ls hl => ?_)
    refine lv_iload (pc := 674) S.1 S.2.1 dL_law_674 (lv_at hl 1 rfl) ?_
    refine lv_if_lt (pc := 676) (tgt := 723) S.1 S.2.1 dL_law_676 (by decide) (fun c_9 => ?_) (fun c9 => absurd c9 (fun h9 => h9 (by decide)))
    refine lv_goto (pc := 723) (tgt := 1489) S.1 S.2.1 dL_law_723 (by decide) ?_
    refine W.widen (k := cells + 130) (n := slots + 800) (by omega) (by omega) ?_
    exact kk _ _ _ ⟨tk, tm, tg, sc, ar, w, ez, o, _, hY, hI.up, hT, h5, hH⟩ hS (lv_sub hl [4, 6, 7, 0, 8, 9, 10, 11, 12, 13, 14] rfl)
  · skip
    refine hv_call (pc := 641) (vx_runSW (As := [.ref (az 0), .int (nI 5), .int (nI B9), .int (nI D9), .int (nI 0)]) (rest := []) S (as_block l hfl D cA ga φ H.size az k tk tm tg sc ar w ez o o B9 D9 hY hI hT h200 (by omega) hbB9.1 hbB9.2 hbD9.1 hbD9.2) (vx_cwSW 5 S.2.2.2.2 (gSW tw_261 tw_262 tw_0 tw_263) rfl rfl rfl (by decide +kernel) ⟨Nat.le_of_ble_eq_true rfl, Nat.le_of_ble_eq_true rfl⟩) (pre0_S hH hK hX hS hA) rfl rfl hl.1 rfl (lv_room (Nat.le_of_ble_eq_true rfl)) dL_law_641 ⟨Nat.le_trans (show _ ≤ 600000 by omega) (Nat.le_of_ble_eq_true rfl), Nat.le_trans (show _ ≤ 7000000 by omega) (Nat.le_of_ble_eq_true rfl)⟩) hS (af_le hH hS hA) (fun v_10 φ_11 H locs hw_v_10 hH hS => ?_)
    obtain ⟨rfl, hY2⟩ := hw_v_10
    refine lv_istore (pc := 644) (lv' := [(14, .int (nI (sc 4))), (13, .int (nI z9)), (12, .int (nI cn)), (11, .int (nI y9)), (10, .int (nI hw)), (9, .int (nI x9)), (8, .int (nI k)), (7, .int (nI 1)), (6, .ref (az 13)), (5, .ref (az 12)), (4, .ref (az 11)), (3, .ref (az 10)), (2, .ref (az 9)), (1, .ref (az 0)), (0, .ref b)]) S.1 S.2.1 dL_law_644 hl (by decide) rfl (fun ls hl => ?_)
    refine lv_iload (pc := 646) S.1 S.2.1 dL_law_646 (lv_at hl 0 rfl) ?_
    refine lv_aload_n (pc := 648) S.1 S.2.1 dL_law_648 rfl (lv_at hl 12 rfl) ?_
    refine lv_iconst (pc := 649) (v := nI 2) S.1 S.2.1 dL_law_649 (by decide) ?_
    refine hv_iald (pc := 650) S hK hH 1 (hY2.a0) rfl (vp_in_nI (show 2 < 6 by omega) (by omega)) dL_law_650 ?_
    refine hv_ti (y := nI ((o 0) 2)) (hv_ld (by omega)) ?_
    refine hv_ti (y := nI (sc 4)) (congrArg nI hm.2.2.1) ?_
    refine lv_bipush (pc := 651) (v := nI 8) S.1 S.2.1 dL_law_651 (by decide) ?_
    refine hv_icmp_ne (pc := 653) (tgt := 661) (a := sc 4) (b := 8) S.1 S.2.1 (by omega) (by omega) dL_law_653 (by decide) (fun c_12 => ?_) (fun c9 => absurd c9 (by omega))
    refine lv_aload_n (pc := 661) S.1 S.2.1 dL_law_661 rfl (lv_at hl 12 rfl) ?_
    refine lv_iconst (pc := 662) (v := nI 2) S.1 S.2.1 dL_law_662 (by decide) ?_
    refine hv_iald (pc := 663) S hK hH 1 (hY2.a0) rfl (vp_in_nI (show 2 < 6 by omega) (by omega)) dL_law_663 ?_
    refine hv_ti (y := nI ((o 0) 2)) (hv_ld (by omega)) ?_
    refine hv_ti (y := nI (sc 4)) (congrArg nI hm.2.2.1) ?_
    refine hv_icmp_ne (pc := 664) (tgt := 671) (a := sc 4) (b := sc 4) S.1 S.2.1 (by omega) (by omega) dL_law_664 (by decide) (fun c9 => absurd c9 (by omega)) (fun c_13 => ?_)
    refine lv_iconst (pc := 667) (v := nI 1) S.1 S.2.1 dL_law_667 (by decide) ?_
    refine lv_goto (pc := 668) (tgt := 672) S.1 S.2.1 dL_law_668 (by decide) ?_
    refine lv_istore (pc := 672) (lv' := [(7, .int (nI 1)), (14, .int (nI (sc 4))), (13, .int (nI z9)), (12, .int (nI cn)), (11, .int (nI y9)), (10, .int (nI hw)), (9, .int (nI x9)), (8, .int (nI k)), (6, .ref (az 13)), (5, .ref (az 12)), (4, .ref (az 11)), (3, .ref (az 10)), (2, .ref (az 9)), (1, .ref (az 0)), (0, .ref b)]) S.1 S.2.1 dL_law_672 hl (by decide) rfl (fun ls hl => ?_)
    refine lv_iload (pc := 674) S.1 S.2.1 dL_law_674 (lv_at hl 1 rfl) ?_
    refine hv_if_lt (pc := 676) (tgt := 723) (a := sc 4) S.1 S.2.1 (by omega) dL_law_676 (by decide) (fun c9 => absurd c9 id) (fun c_14 => ?_)
    refine lv_aload (pc := 679) S.1 S.2.1 dL_law_679 (lv_at hl 10 rfl) ?_
    refine lv_iconst (pc := 681) (v := nI 2) S.1 S.2.1 dL_law_681 (by decide) ?_
    refine lv_iload (pc := 682) S.1 S.2.1 dL_law_682 (lv_at hl 1 rfl) ?_
    refine lv_imul (pc := 684) S.1 S.2.1 dL_law_684 ?_
    refine hv_ti (y := nI (2 * (sc 4))) (pk_mul _ _) ?_
    refine lv_sipush (pc := 685) (v := nI 300) S.1 S.2.1 dL_law_685 (by decide) ?_
    refine lv_iload (pc := 688) S.1 S.2.1 dL_law_688 (lv_at hl 2 rfl) ?_
    refine lv_sipush (pc := 690) (v := nI 401) S.1 S.2.1 dL_law_690 (by decide) ?_
    refine lv_irem (pc := 693) S.1 S.2.1 dL_law_693 (by decide) ?_
    refine hv_ti (y := nI (z9 % 401)) (pk_rem (by omega) (by omega) (by omega)) ?_
    refine lv_iadd (pc := 694) S.1 S.2.1 dL_law_694 ?_
    refine hv_ti (y := nI (300 + (z9 % 401))) (nI_add _ _) ?_
    refine hv_ti (y := nI B9) (by rw [hB9]) ?_
    refine hv_iast (pc := 695) S hK hH hS 1 (hY2.a2) rfl (vp_in_nI (show 2 * sc 4 < 16 by omega) (by omega)) dL_law_695 (fun H locs hH hS => ?_)
    rw [hv_upd (by omega)] at hH
    replace hH := nup (e := .inl (cA 1, 16, .inl (fun j => nI ((va_up (o 2) (2 * sc 4) B9) j)))) hH
    obtain ⟨φ_16, hφ_16, fa_φ_16, fr_φ_16, hH⟩ := hH
    have hY_15 := hY2.s2 (2 * sc 4) B9
    rw [← hφ_16] at hY_15
    refine lv_aload (pc := 696) S.1 S.2.1 dL_law_696 (lv_at hl 10 rfl) ?_
    refine lv_iconst (pc := 698) (v := nI 2) S.1 S.2.1 dL_law_698 (by decide) ?_
    refine lv_iload (pc := 699) S.1 S.2.1 dL_law_699 (lv_at hl 1 rfl) ?_
    refine lv_imul (pc := 701) S.1 S.2.1 dL_law_701 ?_
    refine hv_ti (y := nI (2 * (sc 4))) (pk_mul _ _) ?_
    refine lv_iconst (pc := 702) (v := nI 1) S.1 S.2.1 dL_law_702 (by decide) ?_
    refine lv_iadd (pc := 703) S.1 S.2.1 dL_law_703 ?_
    refine hv_ti (y := nI ((2 * (sc 4)) + 1)) (nI_add _ _) ?_
    refine lv_iconst (pc := 704) (v := nI 1) S.1 S.2.1 dL_law_704 (by decide) ?_
    refine lv_iload (pc := 705) S.1 S.2.1 dL_law_705 (lv_at hl 2 rfl) ?_
    refine lv_sipush (pc := 707) (v := nI 401) S.1 S.2.1 dL_law_707 (by decide) ?_
    refine lv_idiv (pc := 710) S.1 S.2.1 dL_law_710 (by decide) ?_
    refine hv_ti (y := nI (z9 / 401)) (pk_div (by omega) (by omega) (by omega)) ?_
    refine lv_bipush (pc := 711) (v := nI 6) S.1 S.2.1 dL_law_711 (by decide) ?_
    refine lv_irem (pc := 713) S.1 S.2.1 dL_law_713 (by decide) ?_
    refine hv_ti (y := nI ((z9 / 401) % 6)) (pk_rem (by omega) (by omega) (by omega)) ?_
    refine lv_iadd (pc := 714) S.1 S.2.1 dL_law_714 ?_
    refine hv_ti (y := nI (1 + ((z9 / 401) % 6))) (nI_add _ _) ?_
    refine hv_ti (y := nI D9) (by rw [hD9]) ?_
    refine hv_iast (pc := 715) S hK hH hS 1 (hY_15.a2) rfl (vp_in_nI (show 2 * sc 4 + 1 < 16 by omega) (by omega)) dL_law_715 (fun H locs hH hS => ?_)
    rw [hv_upd (by omega)] at hH
    replace hH := nup (e := .inl (cA 1, 16, .inl (fun j => nI ((va_up ((va_up o 2 (va_up (o 2) (2 * sc 4) B9)) 2) (2 * sc 4 + 1) D9) j)))) hH
    obtain ⟨φ_18, hφ_18, fa_φ_18, fr_φ_18, hH⟩ := hH
    have hY_17 := hY_15.s2 (2 * sc 4 + 1) D9
    rw [← hφ_18] at hY_17
    rw [upk] at hY_17
    refine lv_aload_n (pc := 716) S.1 S.2.1 dL_law_716 rfl (lv_at hl 12 rfl) ?_
    refine lv_iconst (pc := 717) (v := nI 2) S.1 S.2.1 dL_law_717 (by decide) ?_
    refine lv_dup2_11 (pc := 718) S.1 S.2.1 dL_law_718 rfl rfl ?_
    refine hv_iald (pc := 719) S hK hH 1 (hY_17.a0) rfl (vp_in_nI (show 2 < 6 by omega) (by omega)) dL_law_719 ?_
    refine hv_ti (y := nI (((va_up o 2 (va_up (va_up (o 2) (2 * sc 4) B9) (2 * sc 4 + 1) D9)) 0) 2)) (hv_ld (by omega)) ?_
    refine hv_ti (y := nI (sc 4)) (congrArg nI hm.2.2.1) ?_
    refine lv_iconst (pc := 720) (v := nI 1) S.1 S.2.1 dL_law_720 (by decide) ?_
    refine lv_iadd (pc := 721) S.1 S.2.1 dL_law_721 ?_
    refine hv_ti (y := nI ((sc 4) + 1)) (nI_add _ _) ?_
    refine hv_iast (pc := 722) S hK hH hS 1 (hY_17.a0) rfl (vp_in_nI (show 2 < 6 by omega) (by omega)) dL_law_722 (fun H locs hH hS => ?_)
    rw [hv_upd (by omega)] at hH
    replace hH := nup (e := .inl (cA 1, 6, .inl (fun j => nI ((va_up ((va_up o 2 (va_up (va_up (o 2) (2 * sc 4) B9) (2 * sc 4 + 1) D9)) 0) 2 (sc 4 + 1)) j)))) hH
    obtain ⟨φ_20, hφ_20, fa_φ_20, fr_φ_20, hH⟩ := hH
    have hY_19 := hY_17.s0 2 (sc 4 + 1)
    rw [← hφ_20] at hY_19
    refine lv_goto (pc := 723) (tgt := 1489) S.1 S.2.1 dL_law_723 (by decide) ?_
    refine W.widen (k := cells + 130) (n := slots + 800) (by omega) (by omega) ?_
    exact kk _ _ _ ⟨tk, tm, tg, va_up sc 4 (sc 4 + 1), _, w, ez, va_up (va_up o 2 (va_up (va_up (o 2) (2 * sc 4) B9) (2 * sc 4 + 1) D9)) 0 (va_up ((va_up o 2 (va_up (va_up (o 2) (2 * sc 4) B9) (2 * sc 4 + 1) D9)) 0) 2 (sc 4 + 1)), _, hY_19, hI.block (by omega) hbB9 hbD9, hT, h5, hH⟩ hS (lv_sub hl [4, 6, 7, 0, 8, 9, 10, 11, 12, 13, 14] rfl)
