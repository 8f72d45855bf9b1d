/-! The law's small methods -/
def itG (g : Nat → Int64 → Int64) : Nat → Int64 → Int64
  | 0, x => x
  | k + 1, x => g k (itG g k x)
def aG1 (w : Nat → Nat → Nat → Nat) (ez : Nat → Nat → Nat) : Nat → Int64 → Int64 := fun k x => Int64.ofNat 31 * x + (nI (abR (w 0 (k / 12) (k / 2 % 6)) (ez 1 (k / 12)) (w 1 (k / 12) (k / 2 % 6)) (k % 2))).toInt64
def aG2 (ar : Nat → Nat → Nat) : Nat → Int64 → Int64 := fun k x => Int64.ofNat 31 * x + (nI (ar 2 k)).toInt64
def aG3 (ar : Nat → Nat → Nat) : Nat → Int64 → Int64 := fun k x => Int64.ofNat 31 * x + (nI (ar 12 k)).toInt64 + Int64.ofNat 7 * (nI (ar 13 k)).toInt64
def aX0 (o : Nat → Nat → Nat) : Int64 := (nI (szF 0 (o 4 8 * 785 / 1000)).toNat).toInt64 + Int64.ofNat 31 * (nI (szF 3 (o 4 8 * 785 / 1000)).toNat).toInt64
/-- what all tells of the yard -/
def allF (sc : Nat → Nat) (ar : Nat → Nat → Nat) (w : Nat → Nat → Nat → Nat) (ez o : Nat → Nat → Nat) : Int64 := itG (aG3 ar) (sc 5) (itG (aG2 ar) (sc 2) (itG (aG1 w ez) (12 * sc 3) (aX0 o)))
theorem itG_0 {g : Nat → Int64 → Int64} {x : Int64} : x = itG g 0 x := by rw [itG]
theorem aG1_s {w : Nat → Nat → Nat → Nat} {ez : Nat → Nat → Nat} {k : Nat} {xl x : Int64} (h : xl = itG (aG1 w ez) k x) : Int64.ofNat 31 * xl + (nI (abR (w 0 (k / 12) (k / 2 % 6)) (ez 1 (k / 12)) (w 1 (k / 12) (k / 2 % 6)) (k % 2))).toInt64 = itG (aG1 w ez) (k + 1) x := by rw [h, itG, aG1]
theorem aG2_s {ar : Nat → Nat → Nat} {k : Nat} {xl x : Int64} (h : xl = itG (aG2 ar) k x) : Int64.ofNat 31 * xl + (nI (ar 2 k)).toInt64 = itG (aG2 ar) (k + 1) x := by rw [h, itG, aG2]
theorem aG3_s {ar : Nat → Nat → Nat} {k : Nat} {xl x : Int64} (h : xl = itG (aG3 ar) k x) : Int64.ofNat 31 * xl + (nI (ar 12 k)).toInt64 + Int64.ofNat 7 * (nI (ar 13 k)).toInt64 = itG (aG3 ar) (k + 1) x := by rw [h, itG, aG3]
/-- the words that the law types: 0 to 3 furs, 4 none, 5 to 8 spirals, 9 a feather, 10 none -/
def wdN (i : Nat) : Nat := [125762588010868, 2003791724, 108187566368114, 1751216741, 6840690, 1718378868, 1668247141, 1685024101, 1651665261, 31370666387792744, 1685414763].getD i 0
def ltr (N k : Nat) : Nat := N / 256 ^ k % 256
/-- the letters of the first j places, from the place 7 down -/
def lsN (N : Nat) : Nat → List Nat
  | 0 => []
  | j + 1 => lsN N j ++ (if ltr N (7 - j) = 0 then [] else [ltr N (7 - j)])
theorem ltr_of : ∀ i, i < 11 → ∀ n, n < 8 → ((Int64.ofNat (wdN i) >>> ((nI (8 * n)).toInt64 &&& 63)) &&& Int64.ofNat 255).toInt32 = nI (ltr (wdN i) n) := by decide +kernel
theorem ltr_ok : ∀ i, i < 11 → ∀ n, n < 8 → ltr (wdN i) n = 0 ∨ (97 ≤ ltr (wdN i) n ∧ ltr (wdN i) n ≤ 122) := by decide +kernel
theorem lsN_le : ∀ i, i < 11 → ∀ j, j < 9 → (lsN (wdN i) j).length ≤ 7 := by decide +kernel
theorem lsN_ok : ∀ i, i < 11 → ∀ j, j < 9 → ∀ c, c ∈ lsN (wdN i) j → c < 128 := by decide +kernel
theorem lsN_0 {N n : Nat} (hn : n < 8) (h : ltr N n = 0) : lsN N (8 - n) = lsN N (8 - (n + 1)) := by
  rw [show 8 - n = 8 - (n + 1) + 1 by omega, lsN, show 7 - (8 - (n + 1)) = n by omega, if_pos h, List.append_nil]
theorem lsN_1 {N n : Nat} (hn : n < 8) (h : ¬ ltr N n = 0) : lsN N (8 - n) = lsN N (8 - (n + 1)) ++ [ltr N n] := by
  rw [show 8 - n = 8 - (n + 1) + 1 by omega, lsN, show 7 - (8 - (n + 1)) = n by omega, if_neg h]
theorem map_snoc (g : Nat → Nat) (k x : Nat) : (List.range (k + 1)).map (va_up g k x) = (List.range k).map g ++ [x] := by
  rw [List.range_succ, List.map_append, List.map_cons, List.map_nil, va_up_self]
  congr 1
  exact List.map_congr_left fun j hj => va_up_ne _ _ (by have := List.mem_range.mp hj; omega)
theorem map_len {g : Nat → Nat} {k : Nat} {l : List Nat} (h : (List.range k).map g = l) : k = l.length := by rw [← h, List.length_map, List.length_range]
theorem TY.ofl {i j k : Nat} {g : Nat → Nat} (hi : i < 11) (hj : j < 9) (h : (List.range k).map g = lsN (wdN i) j) : TY k g := by
  refine ⟨by rw [map_len h]; exact lsN_le i hi j hj, fun a ha => lsN_ok i hi j hj _ ?_⟩
  rw [← h]
  exact List.mem_map.mpr ⟨a, List.mem_range.mpr ha, rfl⟩
def dn (n : Nat) : Int32 := match n with
  | 0 => -1
  | n + 1 => nI n
theorem dn_dec (n : Nat) : nI n + -1 = dn n := by
  cases n with
  | zero => decide
  | succ n =>
    show nI (n + 1) + -1 = nI n
    rw [nI_succ, Int32.add_assoc, show (1 : Int32) + -1 = 0 by decide, Int32.add_zero]
theorem ct1 (o : Option Nat) : ¬ ctR o 1 < -1 := by
  unfold ctR
  split
  · decide
  · show ¬ nI 6 < -1
    decide
theorem up_up (o : Nat → Nat → Nat) (k j a b : Nat) : va_up (va_up o k (va_up (o k) j a)) k (va_up ((va_up o k (va_up (o k) j a)) k) j b) = va_up o k (va_up (o k) j b) := by
  funext x y
  by_cases hx : x = k
  · subst hx
    rw [va_up_self, va_up_self, va_up_self]
    by_cases hy : y = j
    · subst hy; rw [va_up_self, va_up_self]
    · rw [va_up_ne _ _ hy, va_up_ne _ _ hy, va_up_ne _ _ hy]
  · rw [va_up_ne _ _ hx, va_up_ne _ _ hx, va_up_ne _ _ hx]
set_option maxHeartbeats 4000000 in
set_option maxRecDepth 100000 in
/-- dice(s, k) -/
theorem l_dice (l : Launch) (hfl : l.stackTraces = false) (D : va_G) (cA : Nat → ClassId) (ga : Nat → Nat → Nat) (φ : hpM) (sz : Nat) (k : Nat) (hk : k < 2 ^ 30) (hL : ga 8 0 ≤ 260) : hM l yL_dice cL_dice 2 (some .int) { frames := 8, cells := 0, slots := 0, locals := 200 } [.ref (ga 7 0), .int (nI k)] D cA ga φ sz (fun v φ' => (∃ x : Nat, x < 2 ^ 31 ∧ v = some (.int (nI x))) ∧ φ' = φ) 0 0 := by
  refine hM.of (by decide) (Nat.le_of_ble_eq_true rfl) rfl ?_
  intro p e s m args below meth c ls H locs S hr hlocks hnm hsz hHz hH hK hX hS hA hl
  refine lv_iload_n (pc := 0) S.1 S.2.1 dL_dice_0 rfl (lv_at hl 1 rfl) ?_
  refine lv_aload_n (pc := 1) S.1 S.2.1 dL_dice_1 rfl (lv_at hl 0 rfl) ?_
  refine va_tlen (pc := 2) (v := nI (ga 8 0)) S.1 S.2.1 hX.scr hS rfl dL_dice_2 ?_
  refine hv_icmp_ge (pc := 3) (tgt := 12) (a := k) (b := ga 8 0) S.1 S.2.1 (by omega) (by omega) dL_dice_3 (by decide) (fun c_1 => ?_) (fun c_1 => ?_)
  · skip
    refine lv_ldc (pc := 12) (v := nI 2012619785) S.1 S.2.1 S.2.2.2.1 (S.2.2.2.2 _ tw_259) dL_dice_12 ?_
    refine lv_iload_n (pc := 14) S.1 S.2.1 dL_dice_14 rfl (lv_at hl 1 rfl) ?_
    refine lv_sipush (pc := 15) (v := nI 619) S.1 S.2.1 dL_dice_15 (by decide) ?_
    refine lv_iadd (pc := 18) S.1 S.2.1 dL_dice_18 ?_
    refine hv_ti (y := nI (k + 619)) (nI_add _ _) ?_
    refine lv_imul (pc := 19) S.1 S.2.1 dL_dice_19 ?_
    refine hv_ti (y := nI (2012619785 * (k + 619))) (pk_mul _ _) ?_
    refine lv_sipush (pc := 20) (v := nI 961) S.1 S.2.1 dL_dice_20 (by decide) ?_
    refine lv_iload_n (pc := 23) S.1 S.2.1 dL_dice_23 rfl (lv_at hl 1 rfl) ?_
    refine lv_imul (pc := 24) S.1 S.2.1 dL_dice_24 ?_
    refine hv_ti (y := nI (961 * k)) (pk_mul _ _) ?_
    refine lv_iload_n (pc := 25) S.1 S.2.1 dL_dice_25 rfl (lv_at hl 1 rfl) ?_
    refine lv_imul (pc := 26) S.1 S.2.1 dL_dice_26 ?_
    refine hv_ti (y := nI ((961 * k) * k)) (pk_mul _ _) ?_
    refine lv_iadd (pc := 27) S.1 S.2.1 dL_dice_27 ?_
    refine hv_ti (y := nI ((2012619785 * (k + 619)) + ((961 * k) * k))) (nI_add _ _) ?_
    refine lv_sipush (pc := 28) (v := nI 487) S.1 S.2.1 dL_dice_28 (by decide) ?_
    refine lv_iadd (pc := 31) S.1 S.2.1 dL_dice_31 ?_
    refine hv_ti (y := nI (((2012619785 * (k + 619)) + ((961 * k) * k)) + 487)) (nI_add _ _) ?_
    refine lv_ldc (pc := 32) (v := nI 2147483647) S.1 S.2.1 S.2.2.2.1 (S.2.2.2.2 _ tw_260) dL_dice_32 ?_
    refine lv_iand (pc := 34) S.1 S.2.1 dL_dice_34 ?_
    obtain ⟨x9, hx9, hv9⟩ := pk_andE (nI (((2012619785 * (k + 619)) + ((961 * k) * k)) + 487)) (m := nI 2147483647) 31 (by decide)
    refine hv_ti hv9 ?_
    exact hv_ret (pc := 35) (v := nI x9) S hr rfl hlocks hH hS (⟨⟨x9, hx9, rfl⟩, rfl⟩) (Nat.le_of_ble_eq_true rfl) (Nat.le_of_ble_eq_true rfl) dL_dice_35
  · skip
    refine lv_aload_n (pc := 6) S.1 S.2.1 dL_dice_6 rfl (lv_at hl 0 rfl) ?_
    refine lv_iload_n (pc := 7) S.1 S.2.1 dL_dice_7 rfl (lv_at hl 1 rfl) ?_
    refine va_ti (pc := 8) (v := .int (nI (ga 9 k))) S.1 S.2.1 hX.scr hS (vp_in_nI (show k < ga 8 0 by omega) (by omega)) (by rw [nI_clamp (by omega)]) dL_dice_8 ?_
    refine lv_goto (pc := 9) (tgt := 32) S.1 S.2.1 dL_dice_9 (by decide) ?_
    refine lv_ldc (pc := 32) (v := nI 2147483647) S.1 S.2.1 S.2.2.2.1 (S.2.2.2.2 _ tw_260) dL_dice_32 ?_
    refine lv_iand (pc := 34) S.1 S.2.1 dL_dice_34 ?_
    obtain ⟨x9, hx9, hv9⟩ := pk_andE (nI (ga 9 k)) (m := nI 2147483647) 31 (by decide)
    refine hv_ti hv9 ?_
    exact hv_ret (pc := 35) (v := nI x9) S hr rfl hlocks hH hS (⟨⟨x9, hx9, rfl⟩, rfl⟩) (Nat.le_of_ble_eq_true rfl) (Nat.le_of_ble_eq_true rfl) dL_dice_35

set_option maxHeartbeats 4000000 in
set_option maxRecDepth 100000 in
/-- all(o, m) -/
theorem l_all (l : Launch) (hfl : l.stackTraces = false) (D : va_G) (cA : Nat → ClassId) (ga : Nat → Nat → Nat) (φ : hpM) (sz : Nat) (az : Nat → Nat) (tn tk tm : Nat) (tg sc : Nat → Nat) (ar : Nat → Nat → Nat) (w : Nat → Nat → Nat → Nat) (ez o : Nat → Nat → Nat) (hY : YW cA ga az tk tm tg sc ar w ez o φ) (hI : LI tn sc ar w ez o) (hT : TY tk tg) : hM l yL_all cL_all 5 (some .long) { frames := 11, cells := 768, slots := 4608, locals := 380 } [.ref (az 0), .ref (az 9)] D cA ga φ sz (fun v φ' => v = some (.long (allF sc ar w ez o)) ∧ φ' = φ) 768 4608 := by
  refine hM.of (by decide) (Nat.le_of_ble_eq_true rfl) rfl ?_
  intro p e s m args below meth c ls H locs S hr hlocks hnm hsz hHz hH hK hX hS hA hl
  have hl1 := hI.l1
  have hm := hI.lm
  refine lv_aload_n (pc := 0) S.1 S.2.1 dL_all_0 rfl (lv_at hl 0 rfl) ?_
  refine lv_iconst (pc := 1) (v := nI 0) S.1 S.2.1 dL_all_1 (by decide) ?_
  refine hv_call (pc := 2) (va_runV (As := [.int (nI 0)]) (rest := []) S (ys_size l hfl D cA ga φ H.size az tn tk tm tg sc ar w ez o o 0 hY hI hT (by decide)) (cwV 1 S.2.2.2.2 (gV tw_872 tw_873 tw_874 tw_1 tw_875) rfl rfl rfl (by decide +kernel) ⟨Nat.le_of_ble_eq_true rfl, Nat.le_of_ble_eq_true rfl⟩) (pre0_V hH hK hX hS hA (ycv hH hK hY)) rfl rfl hl.1 rfl (lv_room (Nat.le_of_ble_eq_true rfl)) dL_all_2 ⟨Nat.le_trans (show _ ≤ 768 by omega) (Nat.le_of_ble_eq_true rfl), Nat.le_trans (show _ ≤ 4608 by omega) (Nat.le_of_ble_eq_true rfl)⟩) hS (af_le hH hS hA) (fun v_1 φ_2 H locs hw_v_1 hH hS => ?_)
  obtain ⟨rfl, hqv_1⟩ := hw_v_1
  rw [hqv_1] at hH
  refine lv_i2l (pc := 5) (v := (nI ((szF 0 (o 4 8 * 785 / 1000)).toNat)).toInt64) S.1 S.2.1 dL_all_5 rfl ?_
  refine lv_ldc2 (pc := 6) (v := Int64.ofNat 31) S.1 S.2.1 S.2.2.2.1 (S.2.2.2.2 _ tw_894) dL_all_6 ?_
  refine lv_aload_n (pc := 9) S.1 S.2.1 dL_all_9 rfl (lv_at hl 0 rfl) ?_
  refine lv_iconst (pc := 10) (v := nI 3) S.1 S.2.1 dL_all_10 (by decide) ?_
  refine hv_call (pc := 11) (va_runV (As := [.int (nI 3)]) (rest := [.long (Int64.ofNat 31), .long ((nI ((szF 0 (o 4 8 * 785 / 1000)).toNat)).toInt64)]) S (ys_size l hfl D cA ga φ H.size az tn tk tm tg sc ar w ez o o 3 hY hI hT (by decide)) (cwV 1 S.2.2.2.2 (gV tw_872 tw_873 tw_874 tw_1 tw_875) rfl rfl rfl (by decide +kernel) ⟨Nat.le_of_ble_eq_true rfl, Nat.le_of_ble_eq_true rfl⟩) (pre0_V hH hK hX hS hA (ycv hH hK hY)) rfl rfl hl.1 rfl (lv_room (Nat.le_of_ble_eq_true rfl)) dL_all_11 ⟨Nat.le_trans (show _ ≤ 768 by omega) (Nat.le_of_ble_eq_true rfl), Nat.le_trans (show _ ≤ 4608 by omega) (Nat.le_of_ble_eq_true rfl)⟩) hS (af_le hH hS hA) (fun v_3 φ_4 H locs hw_v_3 hH hS => ?_)
  obtain ⟨rfl, hqv_3⟩ := hw_v_3
  rw [hqv_3] at hH
  refine lv_i2l (pc := 14) (v := (nI ((szF 3 (o 4 8 * 785 / 1000)).toNat)).toInt64) S.1 S.2.1 dL_all_14 rfl ?_
  refine lv_lmul (pc := 15) S.1 S.2.1 dL_all_15 ?_
  refine lv_ladd (pc := 16) S.1 S.2.1 dL_all_16 ?_
  refine lv_lstore_n (pc := 17) (lv' := [(2, .long (((nI ((szF 0 (o 4 8 * 785 / 1000)).toNat)).toInt64) + ((Int64.ofNat 31) * ((nI ((szF 3 (o 4 8 * 785 / 1000)).toNat)).toInt64)))), (0, .ref (az 0)), (1, .ref (az 9))]) S.1 S.2.1 dL_all_17 rfl hl (by decide) rfl (fun ls hl => ?_)
  refine lv_iconst (pc := 18) (v := nI 0) S.1 S.2.1 dL_all_18 (by decide) ?_
  refine lv_istore (pc := 19) (lv' := [(4, .int (nI 0)), (2, .long (((nI ((szF 0 (o 4 8 * 785 / 1000)).toNat)).toInt64) + ((Int64.ofNat 31) * ((nI ((szF 3 (o 4 8 * 785 / 1000)).toNat)).toInt64)))), (0, .ref (az 0)), (1, .ref (az 9))]) S.1 S.2.1 dL_all_19 hl (by decide) rfl (fun ls hl => ?_)
  have hg : ∃ (n k : Nat) (xl : Int64), (k + n = 12 * sc 3 ∧ xl = itG (aG1 w ez) k (aX0 o)) ∧ lv_has ls 5 [(4, .int (nI k)), (2, .long (xl)), (1, .ref (az 9)), (0, .ref (az 0))] := ⟨12 * sc 3, 0, _, ⟨by omega, by rw [itG, aX0]⟩, lv_sub hl [0, 1, 3, 2] rfl⟩
  clear hl
  try clear hHz
  obtain ⟨n, k, xl, hi, hl⟩ := hg
  refine W.widen (k := 4 + 5 * k) (n := 24 + 30 * k) (by omega) (by omega) ?_
  induction n generalizing ls H locs k xl with
  | zero =>
    obtain ⟨hkN, hxaG1⟩ := hi
    have hkN : k = 12 * sc 3 := by omega
    refine lv_iload (pc := 21) S.1 S.2.1 dL_all_21 (lv_at hl 0 rfl) ?_
    refine lv_bipush (pc := 23) (v := nI 12) S.1 S.2.1 dL_all_23 (by decide) ?_
    refine lv_aload_n (pc := 25) S.1 S.2.1 dL_all_25 rfl (lv_at hl 2 rfl) ?_
    refine lv_iconst (pc := 26) (v := nI 1) S.1 S.2.1 dL_all_26 (by decide) ?_
    refine hv_iald (pc := 27) S hK hH 1 (hY.a0) rfl (vp_in_nI (show 1 < 6 by omega) (by omega)) dL_all_27 ?_
    refine hv_ti (y := nI ((o 0) 1)) (hv_ld (by omega)) ?_
    refine hv_ti (y := nI (sc 3)) (by rw [hm.2.1]) ?_
    refine lv_imul (pc := 28) S.1 S.2.1 dL_all_28 ?_
    refine hv_ti (y := nI (12 * (sc 3))) (pk_mul _ _) ?_
    refine hv_icmp_ge (pc := 29) (tgt := 66) (a := k) (b := 12 * (sc 3)) S.1 S.2.1 (by omega) (by omega) dL_all_29 (by decide) (fun c_5 => ?_) (fun c_5 => ?_)
    · skip
      rw [hkN] at hxaG1
      refine lv_iconst (pc := 66) (v := nI 0) S.1 S.2.1 dL_all_66 (by decide) ?_
      refine lv_istore (pc := 67) (lv' := [(4, .int (nI 0)), (2, .long (xl)), (1, .ref (az 9)), (0, .ref (az 0))]) S.1 S.2.1 dL_all_67 hl (by decide) rfl (fun ls hl => ?_)
      have hg : ∃ (n k : Nat) (xl : Int64), (k + n = sc 2 ∧ xl = itG (aG2 ar) k (itG (aG1 w ez) (12 * sc 3) (aX0 o))) ∧ lv_has ls 5 [(4, .int (nI k)), (2, .long (xl)), (1, .ref (az 9)), (0, .ref (az 0))] := ⟨sc 2, 0, _, ⟨by omega, by rw [hxaG1]; exact itG_0⟩, lv_sub hl [0, 1, 2, 3] rfl⟩
      clear hl
      try clear hHz
      obtain ⟨n, k, xl, hi, hl⟩ := hg
      refine W.widen (k := 724 + 2 * k) (n := 4344 + 12 * k) (by omega) (by omega) ?_
      induction n generalizing ls H locs k xl with
      | zero =>
        obtain ⟨hkN, hxaG2⟩ := hi
        have hkN : k = sc 2 := by omega
        refine lv_iload (pc := 69) S.1 S.2.1 dL_all_69 (lv_at hl 0 rfl) ?_
        refine lv_aload_n (pc := 71) S.1 S.2.1 dL_all_71 rfl (lv_at hl 2 rfl) ?_
        refine lv_iconst (pc := 72) (v := nI 0) S.1 S.2.1 dL_all_72 (by decide) ?_
        refine hv_iald (pc := 73) S hK hH 1 (hY.a0) rfl (vp_in_nI (show 0 < 6 by omega) (by omega)) dL_all_73 ?_
        refine hv_ti (y := nI ((o 0) 0)) (hv_ld (by omega)) ?_
        refine hv_ti (y := nI (sc 2)) (by rw [hm.1]) ?_
        refine hv_icmp_ge (pc := 74) (tgt := 97) (a := k) (b := sc 2) S.1 S.2.1 (by omega) (by omega) dL_all_74 (by decide) (fun c_6 => ?_) (fun c_6 => ?_)
        · skip
          rw [hkN] at hxaG2
          refine lv_iconst (pc := 97) (v := nI 0) S.1 S.2.1 dL_all_97 (by decide) ?_
          refine lv_istore (pc := 98) (lv' := [(4, .int (nI 0)), (2, .long (xl)), (1, .ref (az 9)), (0, .ref (az 0))]) S.1 S.2.1 dL_all_98 hl (by decide) rfl (fun ls hl => ?_)
          have hg : ∃ (n k : Nat) (xl : Int64), (k + n = sc 5 ∧ xl = itG (aG3 ar) k (itG (aG2 ar) (sc 2) (itG (aG1 w ez) (12 * sc 3) (aX0 o)))) ∧ lv_has ls 5 [(4, .int (nI k)), (2, .long (xl)), (1, .ref (az 9)), (0, .ref (az 0))] := ⟨sc 5, 0, _, ⟨by omega, by rw [hxaG2]; exact itG_0⟩, lv_sub hl [0, 1, 2, 3] rfl⟩
          clear hl
          try clear hHz
          obtain ⟨n, k, xl, hi, hl⟩ := hg
          refine W.widen (k := 744 + 4 * k) (n := 4464 + 24 * k) (by omega) (by omega) ?_
          induction n generalizing ls H locs k xl with
          | zero =>
            obtain ⟨hkN, hxaG3⟩ := hi
            have hkN : k = sc 5 := by omega
            refine lv_iload (pc := 100) S.1 S.2.1 dL_all_100 (lv_at hl 0 rfl) ?_
            refine lv_aload_n (pc := 102) S.1 S.2.1 dL_all_102 rfl (lv_at hl 2 rfl) ?_
            refine lv_iconst (pc := 103) (v := nI 3) S.1 S.2.1 dL_all_103 (by decide) ?_
            refine hv_iald (pc := 104) S hK hH 1 (hY.a0) rfl (vp_in_nI (show 3 < 6 by omega) (by omega)) dL_all_104 ?_
            refine hv_ti (y := nI ((o 0) 3)) (hv_ld (by omega)) ?_
            refine hv_ti (y := nI (sc 5)) (by rw [hm.2.2.2.1]) ?_
            refine hv_icmp_ge (pc := 105) (tgt := 142) (a := k) (b := sc 5) S.1 S.2.1 (by omega) (by omega) dL_all_105 (by decide) (fun c_7 => ?_) (fun c_7 => ?_)
            · skip
              rw [hkN] at hxaG3
              refine lv_lload_n (pc := 142) S.1 S.2.1 dL_all_142 rfl (lv_at hl 1 rfl) ?_
              have hfin : xl = allF sc ar w ez o := by rw [hxaG3]; rfl
              rw [hfin]
              exact hv_lret (pc := 143) S hr hlocks hH hS (⟨rfl, rfl⟩) (by omega) (by omega) dL_all_143
            · skip
              exact absurd c_7 (by omega)
          | succ n ih =>
            obtain ⟨hkN, hxl⟩ := hi
            refine lv_iload (pc := 100) S.1 S.2.1 dL_all_100 (lv_at hl 0 rfl) ?_
            refine lv_aload_n (pc := 102) S.1 S.2.1 dL_all_102 rfl (lv_at hl 2 rfl) ?_
            refine lv_iconst (pc := 103) (v := nI 3) S.1 S.2.1 dL_all_103 (by decide) ?_
            refine hv_iald (pc := 104) S hK hH 1 (hY.a0) rfl (vp_in_nI (show 3 < 6 by omega) (by omega)) dL_all_104 ?_
            refine hv_ti (y := nI ((o 0) 3)) (hv_ld (by omega)) ?_
            refine hv_ti (y := nI (sc 5)) (by rw [hm.2.2.2.1]) ?_
            refine hv_icmp_ge (pc := 105) (tgt := 142) (a := k) (b := sc 5) S.1 S.2.1 (by omega) (by omega) dL_all_105 (by decide) (fun c_8 => ?_) (fun c_8 => ?_)
            · skip
              exact absurd c_8 (by omega)
            · skip
              refine lv_ldc2 (pc := 108) (v := Int64.ofNat 31) S.1 S.2.1 S.2.2.2.1 (S.2.2.2.2 _ tw_894) dL_all_108 ?_
              refine lv_lload_n (pc := 111) S.1 S.2.1 dL_all_111 rfl (lv_at hl 1 rfl) ?_
              refine lv_lmul (pc := 112) S.1 S.2.1 dL_all_112 ?_
              refine lv_aload_n (pc := 113) S.1 S.2.1 dL_all_113 rfl (lv_at hl 3 rfl) ?_
              refine lv_iload (pc := 114) S.1 S.2.1 dL_all_114 (lv_at hl 0 rfl) ?_
              refine lv_iconst (pc := 116) (v := nI 1) S.1 S.2.1 dL_all_116 (by decide) ?_
              refine hv_call (pc := 117) (va_runV (As := [.int (nI k), .int (nI 1)]) (rest := [.long ((Int64.ofNat 31) * (xl))]) S (ys_air l hfl D cA ga φ H.size az tn tk tm tg sc ar w ez o o k 1 hY hI hT (by omega) (by omega)) (cwV 2 S.2.2.2.2 (gV tw_238 tw_239 tw_240 tw_1 tw_241) rfl rfl rfl (by decide +kernel) ⟨Nat.le_of_ble_eq_true rfl, Nat.le_of_ble_eq_true rfl⟩) (pre0_V hH hK hX hS hA (ycv hH hK hY)) rfl rfl hl.1 rfl (lv_room (Nat.le_of_ble_eq_true rfl)) dL_all_117 ⟨Nat.le_trans (show _ ≤ 768 by omega) (Nat.le_of_ble_eq_true rfl), Nat.le_trans (show _ ≤ 4608 by omega) (Nat.le_of_ble_eq_true rfl)⟩) hS (af_le hH hS hA) (fun v_9 φ_10 H locs hw_v_9 hH hS => ?_)
              obtain ⟨rfl, hqv_9⟩ := hw_v_9
              rw [hqv_9] at hH
              refine lv_i2l (pc := 120) (v := (nI (ar 12 k)).toInt64) S.1 S.2.1 dL_all_120 rfl ?_
              refine lv_ladd (pc := 121) S.1 S.2.1 dL_all_121 ?_
              refine lv_ldc2 (pc := 122) (v := Int64.ofNat 7) S.1 S.2.1 S.2.2.2.1 (S.2.2.2.2 _ tw_895) dL_all_122 ?_
              refine lv_aload_n (pc := 125) S.1 S.2.1 dL_all_125 rfl (lv_at hl 3 rfl) ?_
              refine lv_iload (pc := 126) S.1 S.2.1 dL_all_126 (lv_at hl 0 rfl) ?_
              refine lv_iconst (pc := 128) (v := nI 0) S.1 S.2.1 dL_all_128 (by decide) ?_
              refine hv_call (pc := 129) (va_runV (As := [.int (nI k), .int (nI 0)]) (rest := [.long (Int64.ofNat 7), .long (((Int64.ofNat 31) * (xl)) + ((nI (ar 12 k)).toInt64))]) S (ys_air l hfl D cA ga φ H.size az tn tk tm tg sc ar w ez o o k 0 hY hI hT (by omega) (by omega)) (cwV 2 S.2.2.2.2 (gV tw_238 tw_239 tw_240 tw_1 tw_241) rfl rfl rfl (by decide +kernel) ⟨Nat.le_of_ble_eq_true rfl, Nat.le_of_ble_eq_true rfl⟩) (pre0_V hH hK hX hS hA (ycv hH hK hY)) rfl rfl hl.1 rfl (lv_room (Nat.le_of_ble_eq_true rfl)) dL_all_129 ⟨Nat.le_trans (show _ ≤ 768 by omega) (Nat.le_of_ble_eq_true rfl), Nat.le_trans (show _ ≤ 4608 by omega) (Nat.le_of_ble_eq_true rfl)⟩) hS (af_le hH hS hA) (fun v_11 φ_12 H locs hw_v_11 hH hS => ?_)
              obtain ⟨rfl, hqv_11⟩ := hw_v_11
              rw [hqv_11] at hH
              refine lv_i2l (pc := 132) (v := (nI (ar 13 k)).toInt64) S.1 S.2.1 dL_all_132 rfl ?_
              refine lv_lmul (pc := 133) S.1 S.2.1 dL_all_133 ?_
              refine lv_ladd (pc := 134) S.1 S.2.1 dL_all_134 ?_
              refine lv_lstore_n (pc := 135) (lv' := [(2, .long ((((Int64.ofNat 31) * (xl)) + ((nI (ar 12 k)).toInt64)) + ((Int64.ofNat 7) * ((nI (ar 13 k)).toInt64)))), (4, .int (nI k)), (1, .ref (az 9)), (0, .ref (az 0))]) S.1 S.2.1 dL_all_135 rfl hl (by decide) rfl (fun ls hl => ?_)
              refine lv_iinc (pc := 136) (v := nI (k + 1)) (lv' := [(4, .int (nI (k + 1))), (2, .long ((((Int64.ofNat 31) * (xl)) + ((nI (ar 12 k)).toInt64)) + ((Int64.ofNat 7) * ((nI (ar 13 k)).toInt64)))), (1, .ref (az 9)), (0, .ref (az 0))]) S.1 S.2.1 dL_all_136 hl (k := 1) rfl (by first | rfl | exact nI_add _ _) (by decide) rfl (fun ls hl => ?_)
              refine lv_goto (pc := 139) (tgt := 100) S.1 S.2.1 dL_all_139 (by decide) ?_
              refine W.widen (k := 744 + 4 * (k + 1)) (n := 4464 + 24 * (k + 1)) (by omega) (by omega) ?_
              have hi2 : (k + 1) + (n) = sc 5 ∧ ((((Int64.ofNat 31) * (xl)) + ((nI (ar 12 k)).toInt64)) + ((Int64.ofNat 7) * ((nI (ar 13 k)).toInt64))) = itG (aG3 ar) (k + 1) (itG (aG2 ar) (sc 2) (itG (aG1 w ez) (12 * sc 3) (aX0 o))) := ⟨by omega, aG3_s hxl⟩
              have hl2 : lv_has ls 5 [(4, .int (nI (k + 1))), (2, .long (((((Int64.ofNat 31) * (xl)) + ((nI (ar 12 k)).toInt64)) + ((Int64.ofNat 7) * ((nI (ar 13 k)).toInt64))))), (1, .ref (az 9)), (0, .ref (az 0))] := lv_sub hl [0, 1, 2, 3] rfl
              apply ih (k := k + 1) (xl := (((Int64.ofNat 31) * (xl)) + ((nI (ar 12 k)).toInt64)) + ((Int64.ofNat 7) * ((nI (ar 13 k)).toInt64))) <;> assumption
        · skip
          exact absurd c_6 (by omega)
      | succ n ih =>
        obtain ⟨hkN, hxl⟩ := hi
        refine lv_iload (pc := 69) S.1 S.2.1 dL_all_69 (lv_at hl 0 rfl) ?_
        refine lv_aload_n (pc := 71) S.1 S.2.1 dL_all_71 rfl (lv_at hl 2 rfl) ?_
        refine lv_iconst (pc := 72) (v := nI 0) S.1 S.2.1 dL_all_72 (by decide) ?_
        refine hv_iald (pc := 73) S hK hH 1 (hY.a0) rfl (vp_in_nI (show 0 < 6 by omega) (by omega)) dL_all_73 ?_
        refine hv_ti (y := nI ((o 0) 0)) (hv_ld (by omega)) ?_
        refine hv_ti (y := nI (sc 2)) (by rw [hm.1]) ?_
        refine hv_icmp_ge (pc := 74) (tgt := 97) (a := k) (b := sc 2) S.1 S.2.1 (by omega) (by omega) dL_all_74 (by decide) (fun c_13 => ?_) (fun c_13 => ?_)
        · skip
          exact absurd c_13 (by omega)
        · skip
          refine lv_ldc2 (pc := 77) (v := Int64.ofNat 31) S.1 S.2.1 S.2.2.2.1 (S.2.2.2.2 _ tw_894) dL_all_77 ?_
          refine lv_lload_n (pc := 80) S.1 S.2.1 dL_all_80 rfl (lv_at hl 1 rfl) ?_
          refine lv_lmul (pc := 81) S.1 S.2.1 dL_all_81 ?_
          refine lv_aload_n (pc := 82) S.1 S.2.1 dL_all_82 rfl (lv_at hl 3 rfl) ?_
          refine lv_iload (pc := 83) S.1 S.2.1 dL_all_83 (lv_at hl 0 rfl) ?_
          refine hv_call (pc := 85) (va_runV (As := [.int (nI k)]) (rest := [.long ((Int64.ofNat 31) * (xl))]) S (ys_grams l hfl D cA ga φ H.size az tn tk tm tg sc ar w ez o o k hY hI hT (by omega)) (cwV 1 S.2.2.2.2 (gV tw_247 tw_248 tw_249 tw_1 tw_250) rfl rfl rfl (by decide +kernel) ⟨Nat.le_of_ble_eq_true rfl, Nat.le_of_ble_eq_true rfl⟩) (pre0_V hH hK hX hS hA (ycv hH hK hY)) rfl rfl hl.1 rfl (lv_room (Nat.le_of_ble_eq_true rfl)) dL_all_85 ⟨Nat.le_trans (show _ ≤ 768 by omega) (Nat.le_of_ble_eq_true rfl), Nat.le_trans (show _ ≤ 4608 by omega) (Nat.le_of_ble_eq_true rfl)⟩) hS (af_le hH hS hA) (fun v_14 φ_15 H locs hw_v_14 hH hS => ?_)
          obtain ⟨rfl, hqv_14⟩ := hw_v_14
          rw [hqv_14] at hH
          refine lv_i2l (pc := 88) (v := (nI (ar 2 k)).toInt64) S.1 S.2.1 dL_all_88 rfl ?_
          refine lv_ladd (pc := 89) S.1 S.2.1 dL_all_89 ?_
          refine lv_lstore_n (pc := 90) (lv' := [(2, .long (((Int64.ofNat 31) * (xl)) + ((nI (ar 2 k)).toInt64))), (4, .int (nI k)), (1, .ref (az 9)), (0, .ref (az 0))]) S.1 S.2.1 dL_all_90 rfl hl (by decide) rfl (fun ls hl => ?_)
          refine lv_iinc (pc := 91) (v := nI (k + 1)) (lv' := [(4, .int (nI (k + 1))), (2, .long (((Int64.ofNat 31) * (xl)) + ((nI (ar 2 k)).toInt64))), (1, .ref (az 9)), (0, .ref (az 0))]) S.1 S.2.1 dL_all_91 hl (k := 1) rfl (by first | rfl | exact nI_add _ _) (by decide) rfl (fun ls hl => ?_)
          refine lv_goto (pc := 94) (tgt := 69) S.1 S.2.1 dL_all_94 (by decide) ?_
          refine W.widen (k := 724 + 2 * (k + 1)) (n := 4344 + 12 * (k + 1)) (by omega) (by omega) ?_
          have hi2 : (k + 1) + (n) = sc 2 ∧ (((Int64.ofNat 31) * (xl)) + ((nI (ar 2 k)).toInt64)) = itG (aG2 ar) (k + 1) (itG (aG1 w ez) (12 * sc 3) (aX0 o)) := ⟨by omega, aG2_s hxl⟩
          have hl2 : lv_has ls 5 [(4, .int (nI (k + 1))), (2, .long ((((Int64.ofNat 31) * (xl)) + ((nI (ar 2 k)).toInt64)))), (1, .ref (az 9)), (0, .ref (az 0))] := lv_sub hl [0, 1, 2, 3] rfl
          apply ih (k := k + 1) (xl := ((Int64.ofNat 31) * (xl)) + ((nI (ar 2 k)).toInt64)) <;> assumption
    · skip
      exact absurd c_5 (by omega)
  | succ n ih =>
    obtain ⟨hkN, hxl⟩ := hi
    refine lv_iload (pc := 21) S.1 S.2.1 dL_all_21 (lv_at hl 0 rfl) ?_
    refine lv_bipush (pc := 23) (v := nI 12) S.1 S.2.1 dL_all_23 (by decide) ?_
    refine lv_aload_n (pc := 25) S.1 S.2.1 dL_all_25 rfl (lv_at hl 2 rfl) ?_
    refine lv_iconst (pc := 26) (v := nI 1) S.1 S.2.1 dL_all_26 (by decide) ?_
    refine hv_iald (pc := 27) S hK hH 1 (hY.a0) rfl (vp_in_nI (show 1 < 6 by omega) (by omega)) dL_all_27 ?_
    refine hv_ti (y := nI ((o 0) 1)) (hv_ld (by omega)) ?_
    refine hv_ti (y := nI (sc 3)) (by rw [hm.2.1]) ?_
    refine lv_imul (pc := 28) S.1 S.2.1 dL_all_28 ?_
    refine hv_ti (y := nI (12 * (sc 3))) (pk_mul _ _) ?_
    refine hv_icmp_ge (pc := 29) (tgt := 66) (a := k) (b := 12 * (sc 3)) S.1 S.2.1 (by omega) (by omega) dL_all_29 (by decide) (fun c_16 => ?_) (fun c_16 => ?_)
    · skip
      exact absurd c_16 (by omega)
    · skip
      refine lv_ldc2 (pc := 32) (v := Int64.ofNat 31) S.1 S.2.1 S.2.2.2.1 (S.2.2.2.2 _ tw_894) dL_all_32 ?_
      refine lv_lload_n (pc := 35) S.1 S.2.1 dL_all_35 rfl (lv_at hl 1 rfl) ?_
      refine lv_lmul (pc := 36) S.1 S.2.1 dL_all_36 ?_
      refine lv_aload_n (pc := 37) S.1 S.2.1 dL_all_37 rfl (lv_at hl 3 rfl) ?_
      refine lv_iload (pc := 38) S.1 S.2.1 dL_all_38 (lv_at hl 0 rfl) ?_
      refine lv_bipush (pc := 40) (v := nI 12) S.1 S.2.1 dL_all_40 (by decide) ?_
      refine lv_idiv (pc := 42) S.1 S.2.1 dL_all_42 (by decide) ?_
      refine hv_ti (y := nI (k / 12)) (pk_div (by omega) (by omega) (by omega)) ?_
      refine lv_iload (pc := 43) S.1 S.2.1 dL_all_43 (lv_at hl 0 rfl) ?_
      refine lv_iconst (pc := 45) (v := nI 2) S.1 S.2.1 dL_all_45 (by decide) ?_
      refine lv_idiv (pc := 46) S.1 S.2.1 dL_all_46 (by decide) ?_
      refine hv_ti (y := nI (k / 2)) (pk_div (by omega) (by omega) (by omega)) ?_
      refine lv_bipush (pc := 47) (v := nI 6) S.1 S.2.1 dL_all_47 (by decide) ?_
      refine lv_irem (pc := 49) S.1 S.2.1 dL_all_49 (by decide) ?_
      refine hv_ti (y := nI ((k / 2) % 6)) (pk_rem (by omega) (by omega) (by omega)) ?_
      refine lv_iload (pc := 50) S.1 S.2.1 dL_all_50 (lv_at hl 0 rfl) ?_
      refine lv_iconst (pc := 52) (v := nI 2) S.1 S.2.1 dL_all_52 (by decide) ?_
      refine lv_irem (pc := 53) S.1 S.2.1 dL_all_53 (by decide) ?_
      refine hv_ti (y := nI (k % 2)) (pk_rem (by omega) (by omega) (by omega)) ?_
      refine hv_call (pc := 54) (va_runV (As := [.int (nI (k / 12)), .int (nI ((k / 2) % 6)), .int (nI (k % 2))]) (rest := [.long ((Int64.ofNat 31) * (xl))]) S (ys_about l hfl D cA ga φ H.size az tn tk tm tg sc ar w ez o o (k / 12) (k / 2 % 6) (k % 2) hY hI hT (by omega) (by omega) (by omega)) (cwV 3 S.2.2.2.2 (gV tw_122 tw_123 tw_124 tw_1 tw_125) rfl rfl rfl (by decide +kernel) ⟨Nat.le_of_ble_eq_true rfl, Nat.le_of_ble_eq_true rfl⟩) (pre0_V hH hK hX hS hA (ycv hH hK hY)) rfl rfl hl.1 rfl (lv_room (Nat.le_of_ble_eq_true rfl)) dL_all_54 ⟨Nat.le_trans (show _ ≤ 768 by omega) (Nat.le_of_ble_eq_true rfl), Nat.le_trans (show _ ≤ 4608 by omega) (Nat.le_of_ble_eq_true rfl)⟩) hS (af_le hH hS hA) (fun v_17 φ_18 H locs hw_v_17 hH hS => ?_)
      obtain ⟨rfl, hqv_17⟩ := hw_v_17
      rw [hqv_17] at hH
      refine lv_i2l (pc := 57) (v := (nI (abR (w 0 (k / 12) (k / 2 % 6)) (ez 1 (k / 12)) (w 1 (k / 12) (k / 2 % 6)) (k % 2))).toInt64) S.1 S.2.1 dL_all_57 rfl ?_
      refine lv_ladd (pc := 58) S.1 S.2.1 dL_all_58 ?_
      refine lv_lstore_n (pc := 59) (lv' := [(2, .long (((Int64.ofNat 31) * (xl)) + ((nI (abR (w 0 (k / 12) (k / 2 % 6)) (ez 1 (k / 12)) (w 1 (k / 12) (k / 2 % 6)) (k % 2))).toInt64))), (4, .int (nI k)), (1, .ref (az 9)), (0, .ref (az 0))]) S.1 S.2.1 dL_all_59 rfl hl (by decide) rfl (fun ls hl => ?_)
      refine lv_iinc (pc := 60) (v := nI (k + 1)) (lv' := [(4, .int (nI (k + 1))), (2, .long (((Int64.ofNat 31) * (xl)) + ((nI (abR (w 0 (k / 12) (k / 2 % 6)) (ez 1 (k / 12)) (w 1 (k / 12) (k / 2 % 6)) (k % 2))).toInt64))), (1, .ref (az 9)), (0, .ref (az 0))]) S.1 S.2.1 dL_all_60 hl (k := 1) rfl (by first | rfl | exact nI_add _ _) (by decide) rfl (fun ls hl => ?_)
      refine lv_goto (pc := 63) (tgt := 21) S.1 S.2.1 dL_all_63 (by decide) ?_
      refine W.widen (k := 4 + 5 * (k + 1)) (n := 24 + 30 * (k + 1)) (by omega) (by omega) ?_
      have hi2 : (k + 1) + (n) = 12 * sc 3 ∧ (((Int64.ofNat 31) * (xl)) + ((nI (abR (w 0 (k / 12) (k / 2 % 6)) (ez 1 (k / 12)) (w 1 (k / 12) (k / 2 % 6)) (k % 2))).toInt64)) = itG (aG1 w ez) (k + 1) (aX0 o) := ⟨by omega, aG1_s hxl⟩
      have hl2 : lv_has ls 5 [(4, .int (nI (k + 1))), (2, .long ((((Int64.ofNat 31) * (xl)) + ((nI (abR (w 0 (k / 12) (k / 2 % 6)) (ez 1 (k / 12)) (w 1 (k / 12) (k / 2 % 6)) (k % 2))).toInt64)))), (1, .ref (az 9)), (0, .ref (az 0))] := lv_sub hl [0, 1, 2, 3] rfl
      apply ih (k := k + 1) (xl := ((Int64.ofNat 31) * (xl)) + ((nI (abR (w 0 (k / 12) (k / 2 % 6)) (ez 1 (k / 12)) (w 1 (k / 12) (k / 2 % 6)) (k % 2))).toInt64)) <;> assumption

set_option maxHeartbeats 4000000 in
set_option maxRecDepth 100000 in
/-- types(o, m, word) -/
theorem l_types (l : Launch) (hfl : l.stackTraces = false) (D : va_G) (cA : Nat → ClassId) (ga : Nat → Nat → Nat) (φ : hpM) (sz : Nat) (az : Nat → Nat) (tn tk tm : Nat) (tg sc : Nat → Nat) (ar : Nat → Nat → Nat) (w : Nat → Nat → Nat → Nat) (ez o : Nat → Nat → Nat) (wi : Nat) (hY : YW cA ga az tk tm tg sc ar w ez o φ) (hI : LI tn sc ar w ez o) (hT : TY tk tg) (h200 : tn ≤ 200) (hwi : wi < 11) : hM l yL_types cL_types 7 (some .boolean) { frames := 15, cells := 17, slots := 102, locals := 620 } [.ref (az 0), .ref (az 9), .long (Int64.ofNat (wdN wi))] D cA ga φ sz (fun v φ' => v = some (.int (nI 1)) ∧ ∃ (kk km : Nat) (kg : Nat → Nat), YW cA ga az kk km kg sc ar w ez (va_up o 0 (va_up (o 0) 5 kk)) φ' ∧ (List.range kk).map kg = lsN (wdN wi) 8) 17 102 := by
  refine hM.of (by decide) (Nat.le_of_ble_eq_true rfl) rfl ?_
  intro p e s m args below meth c ls H locs S hr hlocks hnm hsz hHz hH hK hX hS hA hl
  have hl1 := hI.l1
  refine lv_aload_n (pc := 0) S.1 S.2.1 dL_types_0 rfl (lv_at hl 0 rfl) ?_
  refine lv_iconst (pc := 1) (v := nI 1) S.1 S.2.1 dL_types_1 (by decide) ?_
  refine hv_call (pc := 2) (va_runV (As := [.int (nI 1)]) (rest := []) S (ys_count l hfl D cA ga φ H.size az tn tk tm tg sc ar w ez o o 1 hY hI hT (by decide) (by decide)) (cwV 1 S.2.2.2.2 (gV tw_816 tw_817 tw_818 tw_1 tw_819) rfl rfl rfl (by decide +kernel) ⟨Nat.le_of_ble_eq_true rfl, Nat.le_of_ble_eq_true rfl⟩) (pre0_V hH hK hX hS hA (ycv hH hK hY)) rfl rfl hl.1 rfl (lv_room (Nat.le_of_ble_eq_true rfl)) dL_types_2 ⟨Nat.le_trans (show _ ≤ 17 by omega) (Nat.le_of_ble_eq_true rfl), Nat.le_trans (show _ ≤ 102 by omega) (Nat.le_of_ble_eq_true rfl)⟩) hS (af_le hH hS hA) (fun v_1 φ_2 H locs hw_v_1 hH hS => ?_)
  obtain ⟨rfl, hY1⟩ := hw_v_1
  refine lv_iconst (pc := 5) (v := (-1 : Int32)) S.1 S.2.1 dL_types_5 (by decide) ?_
  refine lv_icmp_lt (pc := 6) (tgt := 13) S.1 S.2.1 dL_types_6 (by decide) (fun c_3 => ?_) (fun c_3 => ?_)
  · skip
    exact absurd c_3 (ct1 _)
  · skip
    refine lv_iconst (pc := 9) (v := nI 1) S.1 S.2.1 dL_types_9 (by decide) ?_
    refine lv_goto (pc := 10) (tgt := 14) S.1 S.2.1 dL_types_10 (by decide) ?_
    refine lv_istore (pc := 14) (lv' := [(4, .int (nI 1)), (0, .ref (az 0)), (1, .ref (az 9)), (2, .long (Int64.ofNat (wdN wi)))]) S.1 S.2.1 dL_types_14 hl (by decide) rfl (fun ls hl => ?_)
    refine lv_aload_n (pc := 16) S.1 S.2.1 dL_types_16 rfl (lv_at hl 2 rfl) ?_
    refine lv_iconst (pc := 17) (v := nI 5) S.1 S.2.1 dL_types_17 (by decide) ?_
    refine lv_iconst (pc := 18) (v := nI 0) S.1 S.2.1 dL_types_18 (by decide) ?_
    refine hv_iast (pc := 19) S hK hH hS 1 (hY1.a0) rfl (vp_in_nI (show 5 < 6 by omega) (by omega)) dL_types_19 (fun H locs hH hS => ?_)
    rw [hv_upd (by omega)] at hH
    replace hH := nup (e := .inl (cA 1, 6, .inl (fun j => nI ((va_up (o 0) 5 0) j)))) hH
    obtain ⟨φ_4, hφ_4, fa_φ_4, fr_φ_4, hH⟩ := hH
    have hY2 := hY1.s0 5 0
    rw [← hφ_4] at hY2
    refine lv_bipush (pc := 20) (v := nI 7) S.1 S.2.1 dL_types_20 (by decide) ?_
    refine lv_istore (pc := 22) (lv' := [(5, .int (nI 7)), (4, .int (nI 1)), (0, .ref (az 0)), (1, .ref (az 9)), (2, .long (Int64.ofNat (wdN wi)))]) S.1 S.2.1 dL_types_22 hl (by decide) rfl (fun ls hl => ?_)
    have hg : ∃ (n kk km : Nat) (kg : Nat → Nat) (φk : hpM), (n ≤ 8 ∧ YW cA ga az kk km kg sc ar w ez (va_up o 0 (va_up (o 0) 5 kk)) φk ∧ (List.range kk).map kg = lsN (wdN wi) (8 - n) ∧ hp D (Af φ sz) φk H) ∧ lv_has ls 7 [(5, .int (dn n)), (4, .int (nI 1)), (2, .long (Int64.ofNat (wdN wi))), (1, .ref (az 9)), (0, .ref (az 0))] := ⟨8, 0, _, _, _, ⟨by omega, hY2, rfl, hH⟩, lv_sub hl [0, 1, 4, 3, 2] rfl⟩
    clear hl hH
    try clear hHz
    obtain ⟨n, kk, km, kg, φk, ⟨hn, hYk, hLk, hH⟩, hl⟩ := hg
    refine W.widen (k := 1 + 2 * (8 - n)) (n := 6 + 12 * (8 - n)) (by omega) (by omega) ?_
    induction n generalizing ls H locs kk km kg φk with
    | zero =>
      refine lv_iload (pc := 24) S.1 S.2.1 dL_types_24 (lv_at hl 0 rfl) ?_
      refine lv_if_lt (pc := 26) (tgt := 97) S.1 S.2.1 dL_types_26 (by decide) (fun c_5 => ?_) (fun c_5 => ?_)
      · skip
        refine lv_iload (pc := 97) S.1 S.2.1 dL_types_97 (lv_at hl 1 rfl) ?_
        exact hv_ret (pc := 99) (v := nI 1) S hr rfl hlocks hH hS (⟨rfl, kk, km, kg, hYk, hLk⟩) (by omega) (by omega) dL_types_99
      · skip
        exact absurd c_5 (fun h => h (by decide))
    | succ n ih =>
      have hTk := TY.ofl hwi (by omega) hLk
      have hk7 := hTk.1
      have hl8 := ltr_ok wi hwi n (by omega)
      refine lv_iload (pc := 24) S.1 S.2.1 dL_types_24 (lv_at hl 0 rfl) ?_
      refine hv_ti (y := nI n) (rfl) ?_
      refine hv_if_lt (pc := 26) (tgt := 97) (a := n) S.1 S.2.1 (by omega) dL_types_26 (by decide) (fun c_6 => ?_) (fun c_6 => ?_)
      · skip
        exact absurd c_6 id
      · skip
        refine lv_iload (pc := 29) S.1 S.2.1 dL_types_29 (lv_at hl 1 rfl) ?_
        refine hv_if_eq (pc := 31) (tgt := 97) (a := 1) S.1 S.2.1 (by omega) dL_types_31 (by decide) (fun c_7 => ?_) (fun c_7 => ?_)
        · skip
          exact absurd c_7 (by omega)
        · skip
          refine lv_lload_n (pc := 34) S.1 S.2.1 dL_types_34 rfl (lv_at hl 2 rfl) ?_
          refine lv_bipush (pc := 35) (v := nI 8) S.1 S.2.1 dL_types_35 (by decide) ?_
          refine lv_iload (pc := 37) S.1 S.2.1 dL_types_37 (lv_at hl 0 rfl) ?_
          refine hv_ti (y := nI n) (rfl) ?_
          refine lv_imul (pc := 39) S.1 S.2.1 dL_types_39 ?_
          refine hv_ti (y := nI (8 * n)) (pk_mul _ _) ?_
          refine lv_lshr (pc := 40) (v := Int64.ofNat (wdN wi) >>> ((nI (8 * n)).toInt64 &&& 63)) S.1 S.2.1 dL_types_40 rfl ?_
          refine lv_ldc2 (pc := 41) (v := Int64.ofNat 255) S.1 S.2.1 S.2.2.2.1 (S.2.2.2.2 _ tw_903) dL_types_41 ?_
          refine lv_land (pc := 44) S.1 S.2.1 dL_types_44 ?_
          refine lv_l2i (pc := 45) (v := nI (ltr (wdN wi) n)) S.1 S.2.1 dL_types_45 (ltr_of wi hwi n (by omega)) ?_
          refine lv_istore (pc := 46) (lv' := [(6, .int (nI (ltr (wdN wi) n))), (5, .int (dn (n + 1))), (4, .int (nI 1)), (2, .long (Int64.ofNat (wdN wi))), (1, .ref (az 9)), (0, .ref (az 0))]) S.1 S.2.1 dL_types_46 hl (by decide) rfl (fun ls hl => ?_)
          refine lv_aload_n (pc := 48) S.1 S.2.1 dL_types_48 rfl (lv_at hl 4 rfl) ?_
          refine lv_iconst (pc := 49) (v := nI 5) S.1 S.2.1 dL_types_49 (by decide) ?_
          refine lv_dup2_11 (pc := 50) S.1 S.2.1 dL_types_50 rfl rfl ?_
          refine hv_iald (pc := 51) S hK hH 1 (hYk.a0) rfl (vp_in_nI (show 5 < 6 by omega) (by omega)) dL_types_51 ?_
          refine hv_ti (y := nI (((va_up o 0 (va_up (o 0) 5 kk)) 0) 5)) (hv_ld (by omega)) ?_
          refine hv_ti (y := nI kk) (rfl) ?_
          refine lv_iload (pc := 52) S.1 S.2.1 dL_types_52 (lv_at hl 0 rfl) ?_
          by_cases hz : ltr (wdN wi) n = 0
          · skip
            refine hv_if_le (pc := 54) (tgt := 61) (a := ltr (wdN wi) n) S.1 S.2.1 (by omega) dL_types_54 (by decide) (fun c_8 => ?_) (fun c_8 => ?_)
            · skip
              refine lv_iconst (pc := 61) (v := nI 0) S.1 S.2.1 dL_types_61 (by decide) ?_
              refine lv_iadd (pc := 62) S.1 S.2.1 dL_types_62 ?_
              refine hv_ti (y := nI (kk + 0)) (nI_add _ _) ?_
              refine hv_iast (pc := 63) S hK hH hS 1 (hYk.a0) rfl (vp_in_nI (show 5 < 6 by omega) (by omega)) dL_types_63 (fun H locs hH hS => ?_)
              rw [hv_upd (by omega)] at hH
              replace hH := nup (e := .inl (cA 1, 6, .inl (fun j => nI ((va_up ((va_up o 0 (va_up (o 0) 5 kk)) 0) 5 (kk + 0)) j)))) hH
              obtain ⟨φ_9, hφ_9, fa_φ_9, fr_φ_9, hH⟩ := hH
              have hY3 := hYk.s0 5 (kk + 0)
              rw [← hφ_9] at hY3
              rw [up_up] at hY3
              refine lv_iload (pc := 64) S.1 S.2.1 dL_types_64 (lv_at hl 0 rfl) ?_
              refine hv_if_eq (pc := 66) (tgt := 84) (a := ltr (wdN wi) n) S.1 S.2.1 (by omega) dL_types_66 (by decide) (fun c_10 => ?_) (fun c_10 => ?_)
              · skip
                refine lv_iconst (pc := 84) (v := nI 1) S.1 S.2.1 dL_types_84 (by decide) ?_
                refine lv_goto (pc := 85) (tgt := 89) S.1 S.2.1 dL_types_85 (by decide) ?_
                refine lv_istore (pc := 89) (lv' := [(4, .int (nI 1)), (6, .int (nI (ltr (wdN wi) n))), (5, .int (dn (n + 1))), (2, .long (Int64.ofNat (wdN wi))), (1, .ref (az 9)), (0, .ref (az 0))]) S.1 S.2.1 dL_types_89 hl (by decide) rfl (fun ls hl => ?_)
                refine lv_iinc (pc := 91) (v := dn n) (lv' := [(5, .int (dn n)), (4, .int (nI 1)), (6, .int (nI (ltr (wdN wi) n))), (2, .long (Int64.ofNat (wdN wi))), (1, .ref (az 9)), (0, .ref (az 0))]) S.1 S.2.1 dL_types_91 hl (k := 2) rfl (dn_dec n) (by decide) rfl (fun ls hl => ?_)
                refine lv_goto (pc := 94) (tgt := 24) S.1 S.2.1 dL_types_94 (by decide) ?_
                refine W.widen (k := 1 + 2 * (8 - n)) (n := 6 + 12 * (8 - n)) (by omega) (by omega) ?_
                have hn2 : n ≤ 8 := by omega
                have hY5 : YW cA ga az kk km kg sc ar w ez (va_up o 0 (va_up (o 0) 5 kk)) φ_9 := hY3
                have hL5 : (List.range kk).map kg = lsN (wdN wi) (8 - n) := (by rw [lsN_0 (by omega) hz]; exact hLk)
                have hl5 : lv_has ls 7 [(5, .int (dn n)), (4, .int (nI 1)), (2, .long (Int64.ofNat (wdN wi))), (1, .ref (az 9)), (0, .ref (az 0))] := lv_sub hl [0, 1, 3, 4, 5] rfl
                apply ih (kk := kk) (km := km) (kg := kg) (φk := φ_9) <;> assumption
              · skip
                exact absurd c_10 (by omega)
            · skip
              exact absurd c_8 (by omega)
          · skip
            refine hv_if_le (pc := 54) (tgt := 61) (a := ltr (wdN wi) n) S.1 S.2.1 (by omega) dL_types_54 (by decide) (fun c_11 => ?_) (fun c_11 => ?_)
            · skip
              exact absurd c_11 (by omega)
            · skip
              refine lv_iconst (pc := 57) (v := nI 1) S.1 S.2.1 dL_types_57 (by decide) ?_
              refine lv_goto (pc := 58) (tgt := 62) S.1 S.2.1 dL_types_58 (by decide) ?_
              refine lv_iadd (pc := 62) S.1 S.2.1 dL_types_62 ?_
              refine hv_ti (y := nI (kk + 1)) (nI_add _ _) ?_
              refine hv_iast (pc := 63) S hK hH hS 1 (hYk.a0) rfl (vp_in_nI (show 5 < 6 by omega) (by omega)) dL_types_63 (fun H locs hH hS => ?_)
              rw [hv_upd (by omega)] at hH
              replace hH := nup (e := .inl (cA 1, 6, .inl (fun j => nI ((va_up ((va_up o 0 (va_up (o 0) 5 kk)) 0) 5 (kk + 1)) j)))) hH
              obtain ⟨φ_12, hφ_12, fa_φ_12, fr_φ_12, hH⟩ := hH
              have hY3 := hYk.s0 5 (kk + 1)
              rw [← hφ_12] at hY3
              rw [up_up] at hY3
              refine lv_iload (pc := 64) S.1 S.2.1 dL_types_64 (lv_at hl 0 rfl) ?_
              refine hv_if_eq (pc := 66) (tgt := 84) (a := ltr (wdN wi) n) S.1 S.2.1 (by omega) dL_types_66 (by decide) (fun c_13 => ?_) (fun c_13 => ?_)
              · skip
                exact absurd c_13 (by omega)
              · skip
                refine lv_aload_n (pc := 69) S.1 S.2.1 dL_types_69 rfl (lv_at hl 5 rfl) ?_
                refine lv_iconst (pc := 70) (v := nI 0) S.1 S.2.1 dL_types_70 (by decide) ?_
                refine lv_iload (pc := 71) S.1 S.2.1 dL_types_71 (lv_at hl 0 rfl) ?_
                refine lv_iconst (pc := 73) (v := nI 0) S.1 S.2.1 dL_types_73 (by decide) ?_
                refine lv_iconst (pc := 74) (v := nI 0) S.1 S.2.1 dL_types_74 (by decide) ?_
                have hk1 : (lsN (wdN wi) (8 - n)).length ≤ 7 := lsN_le wi hwi _ (by omega)
                rw [lsN_1 (by omega) hz, List.length_append, List.length_singleton, ← map_len hLk] at hk1
                refine hv_call (pc := 75) (vx_runSW (As := [.ref (az 0), .int (nI 0), .int (nI (ltr (wdN wi) n)), .int (nI 0), .int (nI 0)]) (rest := []) S (as_letter l hfl D cA ga φ_12 H.size az tn kk km kg sc ar w ez (va_up o 0 (va_up (o 0) 5 (kk + 1))) (va_up o 0 (va_up (o 0) 5 (kk + 1))) (ltr (wdN wi) n) hY3 (hI.m5 _) hTk h200 (by omega) (by omega) (by omega)) (vx_cwSW 5 S.2.2.2.2 (gSW tw_261 tw_262 tw_0 tw_263) rfl rfl rfl (by decide +kernel) ⟨Nat.le_of_ble_eq_true rfl, Nat.le_of_ble_eq_true rfl⟩) (pre0_S hH hK hX hS hA) rfl rfl hl.1 rfl (lv_room (Nat.le_of_ble_eq_true rfl)) dL_types_75 ⟨Nat.le_trans (show _ ≤ 17 by omega) (Nat.le_of_ble_eq_true rfl), Nat.le_trans (show _ ≤ 102 by omega) (Nat.le_of_ble_eq_true rfl)⟩) hS (af_le hH hS hA) (fun v_14 φ_15 H locs hw_v_14 hH hS => ?_)
                obtain ⟨rfl, hY4⟩ := hw_v_14
                refine lv_aload_n (pc := 78) S.1 S.2.1 dL_types_78 rfl (lv_at hl 4 rfl) ?_
                refine lv_iconst (pc := 79) (v := nI 5) S.1 S.2.1 dL_types_79 (by decide) ?_
                refine hv_iald (pc := 80) S hK hH 1 (hY4.a0) rfl (vp_in_nI (show 5 < 6 by omega) (by omega)) dL_types_80 ?_
                refine hv_ti (y := nI (((va_up o 0 (va_up (o 0) 5 (kk + 1))) 0) 5)) (hv_ld (by omega)) ?_
                refine hv_ti (y := nI (kk + 1)) (rfl) ?_
                refine hv_icmp_ne (pc := 81) (tgt := 88) (a := kk + 1) (b := kk + 1) S.1 S.2.1 (by omega) (by omega) dL_types_81 (by decide) (fun c_16 => ?_) (fun c_16 => ?_)
                · skip
                  exact absurd c_16 (by omega)
                · skip
                  refine lv_iconst (pc := 84) (v := nI 1) S.1 S.2.1 dL_types_84 (by decide) ?_
                  refine lv_goto (pc := 85) (tgt := 89) S.1 S.2.1 dL_types_85 (by decide) ?_
                  refine lv_istore (pc := 89) (lv' := [(4, .int (nI 1)), (6, .int (nI (ltr (wdN wi) n))), (5, .int (dn (n + 1))), (2, .long (Int64.ofNat (wdN wi))), (1, .ref (az 9)), (0, .ref (az 0))]) S.1 S.2.1 dL_types_89 hl (by decide) rfl (fun ls hl => ?_)
                  refine lv_iinc (pc := 91) (v := dn n) (lv' := [(5, .int (dn n)), (4, .int (nI 1)), (6, .int (nI (ltr (wdN wi) n))), (2, .long (Int64.ofNat (wdN wi))), (1, .ref (az 9)), (0, .ref (az 0))]) S.1 S.2.1 dL_types_91 hl (k := 2) rfl (dn_dec n) (by decide) rfl (fun ls hl => ?_)
                  refine lv_goto (pc := 94) (tgt := 24) S.1 S.2.1 dL_types_94 (by decide) ?_
                  refine W.widen (k := 1 + 2 * (8 - n)) (n := 6 + 12 * (8 - n)) (by omega) (by omega) ?_
                  have hn2 : n ≤ 8 := by omega
                  have hY5 : YW cA ga az (kk + 1) km (va_up kg kk (ltr (wdN wi) n)) sc ar w ez (va_up o 0 (va_up (o 0) 5 (kk + 1))) φ_15 := hY4
                  have hL5 : (List.range (kk + 1)).map (va_up kg kk (ltr (wdN wi) n)) = lsN (wdN wi) (8 - n) := (by rw [map_snoc, lsN_1 (by omega) hz, hLk])
                  have hl5 : lv_has ls 7 [(5, .int (dn n)), (4, .int (nI 1)), (2, .long (Int64.ofNat (wdN wi))), (1, .ref (az 9)), (0, .ref (az 0))] := lv_sub hl [0, 1, 3, 4, 5] rfl
                  apply ih (kk := (kk + 1)) (km := km) (kg := (va_up kg kk (ltr (wdN wi) n))) (φk := φ_15) <;> assumption

