theorem jb_i2b : ∀ x, x < 128 → (nI x).toInt8.toInt32 = nI x := by decide +kernel
theorem jb_and : ∀ x, x < 128 → nI x &&& nI 255 = nI x := by decide +kernel
theorem jb_i2c : ∀ x, x < 128 → ((nI x).toUInt32 % 65536).toInt32 = nI x := by decide +kernel
theorem jb_narB : ∀ x, x < 128 → vp_nar .byte (nI x) = nI x := by decide +kernel
theorem jb_narC : ∀ x, x < 128 → narrow .char (.int (nI x)) = .int (nI x) := by decide +kernel
theorem jb_narZ : ∀ x, x < 2 → narrow .boolean (.int (nI x)) = .int (nI x) := by decide +kernel
theorem jb_shr : ∀ x, x < 128 → nI x >>> (nI 0 &&& 31) = nI x := by decide +kernel
theorem wd_len : ∀ i, i < 11 → (wdT i).length < 8 := by decide +kernel
theorem wd_lt : ∀ i, i < 11 → ∀ j, j < 8 → (wdT i).getD j 0 < 128 := by decide +kernel
theorem sub_le0 {a b : Nat} (h : a ≤ b) (hb : b < 2 ^ 30) : nI a - nI b ≤ 0 := by
  rw [Int32.le_iff_toInt_le, pk_sub_toInt (by omega) hb, show (0 : Int32).toInt = 0 from by decide]
  omega
theorem hv_at {D : va_G} {tys : List (ClassId × FieldType)} {s : State} (hK : va_K D vwCl tys s) {ci : Nat} {q : vw_C} (hc : vwCl[ci]? = some q) : ∃ cC : ClassId, ClassAt s q.1 cC := by
  obtain ⟨-, hfc, kC, hkC, hkind⟩ := hK.1 ci q hc
  exact ⟨_, hfc, kC, hkC, hkind⟩
theorem hv_tld {w : List Nat} {j : Nat} (hj : j < 2 ^ 31) : (fun j => Value.int (nI (w.getD j 0))) (nI j).toNatClampNeg = .int (nI (w.getD j 0)) := by rw [nI_clamp hj]
set_option maxHeartbeats 4000000 in
set_option maxRecDepth 100000 in
/-- Preconditions.checkIndex(index, length, formatter) -/
theorem c_checkIndexN (l : Launch) (D : va_G) (cA : Nat → ClassId) (ga : Nat → Nat → Nat) (φ : hpM) (sz : Nat) (i le : Nat) (hi : i < le) (hl : le < 2 ^ 31) : hM l yJ3_checkIndex_8e157 cJ3_checkIndex_8e157 3 (some .int) { frames := 8, cells := 0, slots := 0, locals := 200 } [.int (nI i), .int (nI le), .null] D cA ga φ sz (fun v φ' => v = some (.int (nI i)) ∧ φ' = φ) 0 0 := by
  refine hM.of (by decide) (Nat.le_of_ble_eq_true rfl) rfl ?_
  intro p e s m args below meth c ls H locs S hr hlocks hnm hsz hHz hH hK hX hS hA hl
  refine lv_iload_n (pc := 0) S.1 S.2.1 dJ3_checkIndex_8e157_0 rfl (lv_at hl 0 rfl) ?_
  refine hv_if_lt (pc := 1) (tgt := 9) (a := i) S.1 S.2.1 (by omega) dJ3_checkIndex_8e157_1 (by decide) (fun c_1 => ?_) (fun c_1 => ?_)
  · skip
    exact c_1.elim
  · skip
    refine lv_iload_n (pc := 4) S.1 S.2.1 dJ3_checkIndex_8e157_4 rfl (lv_at hl 0 rfl) ?_
    refine lv_iload_n (pc := 5) S.1 S.2.1 dJ3_checkIndex_8e157_5 rfl (lv_at hl 1 rfl) ?_
    refine hv_icmp_lt (pc := 6) (tgt := 16) (a := i) (b := le) S.1 S.2.1 (by omega) (by omega) dJ3_checkIndex_8e157_6 (by decide) (fun c_2 => ?_) (fun c_2 => ?_)
    · skip
      refine lv_iload_n (pc := 16) S.1 S.2.1 dJ3_checkIndex_8e157_16 rfl (lv_at hl 0 rfl) ?_
      exact hv_ret (pc := 17) (v := nI i) S hr rfl hlocks hH hS (⟨rfl, rfl⟩) (Nat.le_of_ble_eq_true rfl) (Nat.le_of_ble_eq_true rfl) dJ3_checkIndex_8e157_17
    · skip
      exact absurd hi (by omega)

set_option maxHeartbeats 4000000 in
set_option maxRecDepth 100000 in
/-- Preconditions.checkIndex(index, length, formatter) -/
theorem c_checkIndexR (l : Launch) (D : va_G) (cA : Nat → ClassId) (ga : Nat → Nat → Nat) (φ : hpM) (sz : Nat) (i le : Nat) (t : Nat) (hi : i < le) (hl : le < 2 ^ 31) : hM l yJ3_checkIndex_8e157 cJ3_checkIndex_8e157 3 (some .int) { frames := 8, cells := 0, slots := 0, locals := 200 } [.int (nI i), .int (nI le), .ref t] D cA ga φ sz (fun v φ' => v = some (.int (nI i)) ∧ φ' = φ) 0 0 := by
  refine hM.of (by decide) (Nat.le_of_ble_eq_true rfl) rfl ?_
  intro p e s m args below meth c ls H locs S hr hlocks hnm hsz hHz hH hK hX hS hA hl
  refine lv_iload_n (pc := 0) S.1 S.2.1 dJ3_checkIndex_8e157_0 rfl (lv_at hl 0 rfl) ?_
  refine hv_if_lt (pc := 1) (tgt := 9) (a := i) S.1 S.2.1 (by omega) dJ3_checkIndex_8e157_1 (by decide) (fun c_1 => ?_) (fun c_1 => ?_)
  · skip
    exact c_1.elim
  · skip
    refine lv_iload_n (pc := 4) S.1 S.2.1 dJ3_checkIndex_8e157_4 rfl (lv_at hl 0 rfl) ?_
    refine lv_iload_n (pc := 5) S.1 S.2.1 dJ3_checkIndex_8e157_5 rfl (lv_at hl 1 rfl) ?_
    refine hv_icmp_lt (pc := 6) (tgt := 16) (a := i) (b := le) S.1 S.2.1 (by omega) (by omega) dJ3_checkIndex_8e157_6 (by decide) (fun c_2 => ?_) (fun c_2 => ?_)
    · skip
      refine lv_iload_n (pc := 16) S.1 S.2.1 dJ3_checkIndex_8e157_16 rfl (lv_at hl 0 rfl) ?_
      exact hv_ret (pc := 17) (v := nI i) S hr rfl hlocks hH hS (⟨rfl, rfl⟩) (Nat.le_of_ble_eq_true rfl) (Nat.le_of_ble_eq_true rfl) dJ3_checkIndex_8e157_17
    · skip
      exact absurd hi (by omega)

set_option maxHeartbeats 4000000 in
set_option maxRecDepth 100000 in
/-- String.checkIndex(index, length) -/
theorem c_StrCheckIndex (l : Launch) (D : va_G) (cA : Nat → ClassId) (ga : Nat → Nat → Nat) (φ : hpM) (sz : Nat) (i le : Nat) (hi : i < le) (hle : le < 2 ^ 31) : hM l yJ0_checkIndex_df160 cJ0_checkIndex_df160 2 none { frames := 9, cells := 0, slots := 0, locals := 260 } [.int (nI i), .int (nI le)] D cA ga φ sz (fun v φ' => v = none ∧ φ' = φ) 0 0 := by
  refine hM.of (by decide) (Nat.le_of_ble_eq_true rfl) rfl ?_
  intro p e s m args below meth c ls H locs S hr hlocks hnm hsz hHz hH hK hX hS hA hl
  refine lv_iload_n (pc := 0) S.1 S.2.1 dJ0_checkIndex_df160_0 rfl (lv_at hl 0 rfl) ?_
  refine lv_iload_n (pc := 1) S.1 S.2.1 dJ0_checkIndex_df160_1 rfl (lv_at hl 1 rfl) ?_
  rcases hX.sioobe with hz | ⟨t, hz⟩
  · skip
    refine va_gets (pc := 2) (ref := "jdk/internal/util/Preconditions") (index := 1053) S.1 S.2.1 hz hS S.2.2.2.1 (S.2.2.2.2 _ tw_366) (fun _ h9 => h9) dJ0_checkIndex_df160_2 ?_
    refine hv_call (pc := 5) (va_runS (As := [.int (nI i), .int (nI le), .null]) (rest := []) S (c_checkIndexN l D cA ga φ H.size i le hi hle) (va_cwS 3 S.2.2.2.2 (gS tw_389 tw_390 tw_18 tw_391) rfl rfl rfl (by decide +kernel) ⟨Nat.le_of_ble_eq_true rfl, Nat.le_of_ble_eq_true rfl⟩) (pre0_S hH hK hX hS hA) rfl rfl hl.1 rfl (lv_room (Nat.le_of_ble_eq_true rfl)) dJ0_checkIndex_df160_5 ⟨Nat.le_of_ble_eq_true rfl, Nat.le_of_ble_eq_true rfl⟩) hS (af_le hH hS hA) (fun v_1 φ_2 H locs hw_v_1 hH hS => ?_)
    obtain ⟨rfl, hqv_1⟩ := hw_v_1
    rw [hqv_1] at hH
    refine lv_pop (pc := 8) S.1 S.2.1 dJ0_checkIndex_df160_8 rfl ?_
    exact hv_vret (pc := 9) S hr hlocks hH hS (⟨rfl, rfl⟩) (Nat.le_of_ble_eq_true rfl) (Nat.le_of_ble_eq_true rfl) dJ0_checkIndex_df160_9
  · skip
    refine va_gets (pc := 2) (ref := "jdk/internal/util/Preconditions") (index := 1053) S.1 S.2.1 hz hS S.2.2.2.1 (S.2.2.2.2 _ tw_366) (fun _ h9 => h9) dJ0_checkIndex_df160_2 ?_
    refine hv_call (pc := 5) (va_runS (As := [.int (nI i), .int (nI le), .ref t]) (rest := []) S (c_checkIndexR l D cA ga φ H.size i le t hi hle) (va_cwS 3 S.2.2.2.2 (gS tw_389 tw_390 tw_18 tw_391) rfl rfl rfl (by decide +kernel) ⟨Nat.le_of_ble_eq_true rfl, Nat.le_of_ble_eq_true rfl⟩) (pre0_S hH hK hX hS hA) rfl rfl hl.1 rfl (lv_room (Nat.le_of_ble_eq_true rfl)) dJ0_checkIndex_df160_5 ⟨Nat.le_of_ble_eq_true rfl, Nat.le_of_ble_eq_true rfl⟩) hS (af_le hH hS hA) (fun v_3 φ_4 H locs hw_v_3 hH hS => ?_)
    obtain ⟨rfl, hqv_3⟩ := hw_v_3
    rw [hqv_3] at hH
    refine lv_pop (pc := 8) S.1 S.2.1 dJ0_checkIndex_df160_8 rfl ?_
    exact hv_vret (pc := 9) S hr hlocks hH hS (⟨rfl, rfl⟩) (Nat.le_of_ble_eq_true rfl) (Nat.le_of_ble_eq_true rfl) dJ0_checkIndex_df160_9

set_option maxHeartbeats 4000000 in
set_option maxRecDepth 100000 in
/-- String.coder() -/
theorem c_StrCoder (l : Launch) (D : va_G) (cA : Nat → ClassId) (ga : Nat → Nat → Nat) (φ : hpM) (sz : Nat) (i : Nat) (hi : i < 11) : hM l yJ0_coder_7d493 cJ0_coder_7d493 1 (some .byte) { frames := 8, cells := 0, slots := 0, locals := 200 } [.ref (ga 3 i)] D cA ga φ sz (fun v φ' => v = some (.int (nI 0)) ∧ φ' = φ) 0 0 := by
  refine hM.of (by decide) (Nat.le_of_ble_eq_true rfl) rfl ?_
  intro p e s m args below meth c ls H locs S hr hlocks hnm hsz hHz hH hK hX hS hA hl
  refine va_gets (pc := 0) (ref := "java/lang/String") (index := 38) S.1 S.2.1 hX.compact hS S.2.2.2.1 (S.2.2.2.2 _ tw_414) (fun _ h9 => h9) dJ0_coder_7d493_0 ?_
  refine hv_ti (y := nI 1) (rfl) ?_
  refine hv_if_eq (pc := 3) (tgt := 13) (a := 1) S.1 S.2.1 (by omega) dJ0_coder_7d493_3 (by decide) (fun c_1 => ?_) (fun c_1 => ?_)
  · skip
    exact absurd c_1 (by decide)
  · skip
    refine lv_aload_n (pc := 6) S.1 S.2.1 dJ0_coder_7d493_6 rfl (lv_at hl 0 rfl) ?_
    refine vk_getf (pc := 7) (ref := "java/lang/String") (index := 15) S.1 S.2.1 (hX.words i hi).2.1 hS S.2.2.2.1 (S.2.2.2.2 _ tw_574) (fun _ h9 => h9) dJ0_coder_7d493_7 ?_
    refine hv_ti (y := nI 0) (rfl) ?_
    refine lv_goto (pc := 10) (tgt := 14) S.1 S.2.1 dJ0_coder_7d493_10 (by decide) ?_
    exact hv_ret (pc := 14) (v := nI 0) S hr rfl hlocks hH hS (⟨rfl, rfl⟩) (Nat.le_of_ble_eq_true rfl) (Nat.le_of_ble_eq_true rfl) dJ0_coder_7d493_14

set_option maxHeartbeats 4000000 in
set_option maxRecDepth 100000 in
/-- String.isLatin1() -/
theorem c_StrIsLatin1 (l : Launch) (D : va_G) (cA : Nat → ClassId) (ga : Nat → Nat → Nat) (φ : hpM) (sz : Nat) (i : Nat) (hi : i < 11) : hM l yJ0_isLatin1_aae02 cJ0_isLatin1_aae02 1 (some .boolean) { frames := 8, cells := 0, slots := 0, locals := 200 } [.ref (ga 3 i)] D cA ga φ sz (fun v φ' => v = some (.int (nI 1)) ∧ φ' = φ) 0 0 := by
  refine hM.of (by decide) (Nat.le_of_ble_eq_true rfl) rfl ?_
  intro p e s m args below meth c ls H locs S hr hlocks hnm hsz hHz hH hK hX hS hA hl
  refine va_gets (pc := 0) (ref := "java/lang/String") (index := 38) S.1 S.2.1 hX.compact hS S.2.2.2.1 (S.2.2.2.2 _ tw_414) (fun _ h9 => h9) dJ0_isLatin1_aae02_0 ?_
  refine hv_ti (y := nI 1) (rfl) ?_
  refine hv_if_eq (pc := 3) (tgt := 17) (a := 1) S.1 S.2.1 (by omega) dJ0_isLatin1_aae02_3 (by decide) (fun c_1 => ?_) (fun c_1 => ?_)
  · skip
    exact absurd c_1 (by decide)
  · skip
    refine lv_aload_n (pc := 6) S.1 S.2.1 dJ0_isLatin1_aae02_6 rfl (lv_at hl 0 rfl) ?_
    refine vk_getf (pc := 7) (ref := "java/lang/String") (index := 15) S.1 S.2.1 (hX.words i hi).2.1 hS S.2.2.2.1 (S.2.2.2.2 _ tw_574) (fun _ h9 => h9) dJ0_isLatin1_aae02_7 ?_
    refine hv_ti (y := nI 0) (rfl) ?_
    refine hv_if_ne (pc := 10) (tgt := 17) (a := 0) S.1 S.2.1 (by omega) dJ0_isLatin1_aae02_10 (by decide) (fun c_2 => ?_) (fun c_2 => ?_)
    · skip
      exact absurd rfl c_2
    · skip
      refine lv_iconst (pc := 13) (v := nI 1) S.1 S.2.1 dJ0_isLatin1_aae02_13 (by decide) ?_
      refine lv_goto (pc := 14) (tgt := 18) S.1 S.2.1 dJ0_isLatin1_aae02_14 (by decide) ?_
      exact hv_ret (pc := 18) (v := nI 1) S hr rfl hlocks hH hS (⟨rfl, rfl⟩) (Nat.le_of_ble_eq_true rfl) (Nat.le_of_ble_eq_true rfl) dJ0_isLatin1_aae02_18

set_option maxHeartbeats 4000000 in
set_option maxRecDepth 100000 in
/-- String.length() -/
theorem c_StrLength (l : Launch) (D : va_G) (cA : Nat → ClassId) (ga : Nat → Nat → Nat) (φ : hpM) (sz : Nat) (i : Nat) (hi : i < 11) : hM l yJ0_length_8abf5 cJ0_length_8abf5 1 (some .int) { frames := 9, cells := 0, slots := 0, locals := 260 } [.ref (ga 3 i)] D cA ga φ sz (fun v φ' => v = some (.int (nI (wdT i).length)) ∧ φ' = φ) 0 0 := by
  refine hM.of (by decide) (Nat.le_of_ble_eq_true rfl) rfl ?_
  intro p e s m args below meth c ls H locs S hr hlocks hnm hsz hHz hH hK hX hS hA hl
  have hw8 := wd_len i hi
  refine lv_aload_n (pc := 0) S.1 S.2.1 dJ0_length_8abf5_0 rfl (lv_at hl 0 rfl) ?_
  refine vk_getf (pc := 1) (ref := "java/lang/String") (index := 9) S.1 S.2.1 (hX.words i hi).2.2.1 hS S.2.2.2.1 (S.2.2.2.2 _ tw_573) (fun _ h9 => h9) dJ0_length_8abf5_1 ?_
  refine va_tlen (pc := 4) (v := nI (wdT i).length) S.1 S.2.1 (hX.words i hi).2.2.2 hS rfl dJ0_length_8abf5_4 ?_
  refine lv_aload_n (pc := 5) S.1 S.2.1 dJ0_length_8abf5_5 rfl (lv_at hl 0 rfl) ?_
  refine hv_call (pc := 6) (va_runV (As := []) (rest := [.int (nI ((wdT i).length))]) S (c_StrCoder l D cA ga φ H.size i hi) (cwV 0 S.2.2.2.2 (gV tw_410 tw_411 tw_412 tw_4 tw_413) rfl rfl rfl (by decide +kernel) ⟨Nat.le_of_ble_eq_true rfl, Nat.le_of_ble_eq_true rfl⟩) (pre0_V hH hK hX hS hA (o_recv (hX.words i hi).1 hS)) rfl rfl hl.1 rfl (lv_room (Nat.le_of_ble_eq_true rfl)) dJ0_length_8abf5_6 ⟨Nat.le_of_ble_eq_true rfl, Nat.le_of_ble_eq_true rfl⟩) hS (af_le hH hS hA) (fun v_1 φ_2 H locs hw_v_1 hH hS => ?_)
  obtain ⟨rfl, hqv_1⟩ := hw_v_1
  rw [hqv_1] at hH
  refine lv_ishr (pc := 9) S.1 S.2.1 dJ0_length_8abf5_9 ?_
  refine hv_ti (y := nI ((wdT i).length)) (jb_shr _ (by omega)) ?_
  exact hv_ret (pc := 10) (v := nI ((wdT i).length)) S hr rfl hlocks hH hS (⟨rfl, rfl⟩) (Nat.le_of_ble_eq_true rfl) (Nat.le_of_ble_eq_true rfl) dJ0_length_8abf5_10

set_option maxHeartbeats 4000000 in
set_option maxRecDepth 100000 in
/-- StringLatin1.charAt(value, index) -/
theorem c_L1CharAt (l : Launch) (D : va_G) (cA : Nat → ClassId) (ga : Nat → Nat → Nat) (φ : hpM) (sz : Nat) (i j : Nat) (hi : i < 11) (hj : j < (wdT i).length) : hM l yJ1_charAt_3b067 cJ1_charAt_3b067 2 (some .char) { frames := 10, cells := 0, slots := 0, locals := 320 } [.ref (ga 4 i), .int (nI j)] D cA ga φ sz (fun v φ' => v = some (.int (nI ((wdT i).getD j 0))) ∧ φ' = φ) 0 0 := by
  refine hM.of (by decide) (Nat.le_of_ble_eq_true rfl) rfl ?_
  intro p e s m args below meth c ls H locs S hr hlocks hnm hsz hHz hH hK hX hS hA hl
  have hw8 := wd_len i hi
  have hc := wd_lt i hi j (by omega)
  refine lv_iload_n (pc := 0) S.1 S.2.1 dJ1_charAt_3b067_0 rfl (lv_at hl 1 rfl) ?_
  refine lv_aload_n (pc := 1) S.1 S.2.1 dJ1_charAt_3b067_1 rfl (lv_at hl 0 rfl) ?_
  refine va_tlen (pc := 2) (v := nI (wdT i).length) S.1 S.2.1 (hX.words i hi).2.2.2 hS rfl dJ1_charAt_3b067_2 ?_
  refine hv_call (pc := 3) (va_runS (As := [.int (nI j), .int (nI ((wdT i).length))]) (rest := []) S (c_StrCheckIndex l D cA ga φ H.size j (wdT i).length hj (by omega)) (va_cwS 2 S.2.2.2.2 (gS tw_438 tw_387 tw_4 tw_388) rfl rfl rfl (by decide +kernel) ⟨Nat.le_of_ble_eq_true rfl, Nat.le_of_ble_eq_true rfl⟩) (pre0_S hH hK hX hS hA) rfl rfl hl.1 rfl (lv_room (Nat.le_of_ble_eq_true rfl)) dJ1_charAt_3b067_3 ⟨Nat.le_of_ble_eq_true rfl, Nat.le_of_ble_eq_true rfl⟩) hS (af_le hH hS hA) (fun v_1 φ_2 H locs hw_v_1 hH hS => ?_)
  obtain ⟨rfl, hqv_1⟩ := hw_v_1
  rw [hqv_1] at hH
  refine lv_aload_n (pc := 6) S.1 S.2.1 dJ1_charAt_3b067_6 rfl (lv_at hl 0 rfl) ?_
  refine lv_iload_n (pc := 7) S.1 S.2.1 dJ1_charAt_3b067_7 rfl (lv_at hl 1 rfl) ?_
  refine va_tb (pc := 8) (v := .int (nI ((wdT i).getD j 0))) S.1 S.2.1 (hX.words i hi).2.2.2 hS (vp_in_nI hj (by omega)) (hv_tld (by omega)) dJ1_charAt_3b067_8 ?_
  refine lv_sipush (pc := 9) (v := nI 255) S.1 S.2.1 dJ1_charAt_3b067_9 (by decide) ?_
  refine lv_iand (pc := 12) S.1 S.2.1 dJ1_charAt_3b067_12 ?_
  refine hv_ti (y := nI ((wdT i).getD j 0)) (jb_and _ hc) ?_
  refine lv_i2c (pc := 13) (v := nI ((wdT i).getD j 0)) S.1 S.2.1 dJ1_charAt_3b067_13 (jb_i2c _ hc) ?_
  exact hv_ret (pc := 14) (v := nI ((wdT i).getD j 0)) S hr (jb_narC _ hc) hlocks hH hS (⟨rfl, rfl⟩) (Nat.le_of_ble_eq_true rfl) (Nat.le_of_ble_eq_true rfl) dJ1_charAt_3b067_14

set_option maxHeartbeats 4000000 in
set_option maxRecDepth 100000 in
/-- String.charAt(index) -/
theorem c_StrCharAt (l : Launch) (D : va_G) (cA : Nat → ClassId) (ga : Nat → Nat → Nat) (φ : hpM) (sz : Nat) (i j : Nat) (hi : i < 11) (hj : j < (wdT i).length) : hM l yJ0_charAt_5068e cJ0_charAt_5068e 2 (some .char) { frames := 11, cells := 0, slots := 0, locals := 380 } [.ref (ga 3 i), .int (nI j)] D cA ga φ sz (fun v φ' => v = some (.int (nI ((wdT i).getD j 0))) ∧ φ' = φ) 0 0 := by
  refine hM.of (by decide) (Nat.le_of_ble_eq_true rfl) rfl ?_
  intro p e s m args below meth c ls H locs S hr hlocks hnm hsz hHz hH hK hX hS hA hl
  have hw8 := wd_len i hi
  have hc := wd_lt i hi j (by omega)
  refine lv_aload_n (pc := 0) S.1 S.2.1 dJ0_charAt_5068e_0 rfl (lv_at hl 0 rfl) ?_
  refine hv_call (pc := 1) (va_runV (As := []) (rest := []) S (c_StrIsLatin1 l D cA ga φ H.size i hi) (cwV 0 S.2.2.2.2 (gV tw_431 tw_432 tw_433 tw_4 tw_434) rfl rfl rfl (by decide +kernel) ⟨Nat.le_of_ble_eq_true rfl, Nat.le_of_ble_eq_true rfl⟩) (pre0_V hH hK hX hS hA (o_recv (hX.words i hi).1 hS)) rfl rfl hl.1 rfl (lv_room (Nat.le_of_ble_eq_true rfl)) dJ0_charAt_5068e_1 ⟨Nat.le_of_ble_eq_true rfl, Nat.le_of_ble_eq_true rfl⟩) hS (af_le hH hS hA) (fun v_1 φ_2 H locs hw_v_1 hH hS => ?_)
  obtain ⟨rfl, hqv_1⟩ := hw_v_1
  rw [hqv_1] at hH
  refine hv_if_eq (pc := 4) (tgt := 16) (a := 1) S.1 S.2.1 (by omega) dJ0_charAt_5068e_4 (by decide) (fun c_3 => ?_) (fun c_3 => ?_)
  · skip
    exact absurd c_3 (by decide)
  · skip
    refine lv_aload_n (pc := 7) S.1 S.2.1 dJ0_charAt_5068e_7 rfl (lv_at hl 0 rfl) ?_
    refine vk_getf (pc := 8) (ref := "java/lang/String") (index := 9) S.1 S.2.1 (hX.words i hi).2.2.1 hS S.2.2.2.1 (S.2.2.2.2 _ tw_573) (fun _ h9 => h9) dJ0_charAt_5068e_8 ?_
    refine lv_iload_n (pc := 11) S.1 S.2.1 dJ0_charAt_5068e_11 rfl (lv_at hl 1 rfl) ?_
    refine hv_call (pc := 12) (va_runS (As := [.ref (ga 4 i), .int (nI j)]) (rest := []) S (c_L1CharAt l D cA ga φ H.size i j hi hj) (va_cwS 2 S.2.2.2.2 (gS tw_435 tw_436 tw_17 tw_437) rfl rfl rfl (by decide +kernel) ⟨Nat.le_of_ble_eq_true rfl, Nat.le_of_ble_eq_true rfl⟩) (pre0_S hH hK hX hS hA) rfl rfl hl.1 rfl (lv_room (Nat.le_of_ble_eq_true rfl)) dJ0_charAt_5068e_12 ⟨Nat.le_of_ble_eq_true rfl, Nat.le_of_ble_eq_true rfl⟩) hS (af_le hH hS hA) (fun v_4 φ_5 H locs hw_v_4 hH hS => ?_)
    obtain ⟨rfl, hqv_4⟩ := hw_v_4
    rw [hqv_4] at hH
    exact hv_ret (pc := 15) (v := nI ((wdT i).getD j 0)) S hr (jb_narC _ hc) hlocks hH hS (⟨rfl, rfl⟩) (Nat.le_of_ble_eq_true rfl) (Nat.le_of_ble_eq_true rfl) dJ0_charAt_5068e_15

set_option maxHeartbeats 4000000 in
set_option maxRecDepth 100000 in
/-- StringLatin1.canEncode(char) -/
theorem c_canEncode (l : Launch) (D : va_G) (cA : Nat → ClassId) (ga : Nat → Nat → Nat) (φ : hpM) (sz : Nat) (x : Nat) (hx : x < 128) : hM l yJ1_canEncode_fc78d cJ1_canEncode_fc78d 1 (some .boolean) { frames := 8, cells := 0, slots := 0, locals := 200 } [.int (nI x)] D cA ga φ sz (fun v φ' => v = some (.int (nI 1)) ∧ φ' = φ) 0 0 := by
  refine hM.of (by decide) (Nat.le_of_ble_eq_true rfl) rfl ?_
  intro p e s m args below meth c ls H locs S hr hlocks hnm hsz hHz hH hK hX hS hA hl
  refine lv_iload_n (pc := 0) S.1 S.2.1 dJ1_canEncode_fc78d_0 rfl (lv_at hl 0 rfl) ?_
  refine lv_sipush (pc := 1) (v := nI 255) S.1 S.2.1 dJ1_canEncode_fc78d_1 (by decide) ?_
  refine hv_icmp_gt (pc := 4) (tgt := 11) (a := x) (b := 255) S.1 S.2.1 (by omega) (by omega) dJ1_canEncode_fc78d_4 (by decide) (fun c_1 => ?_) (fun c_1 => ?_)
  · skip
    exact absurd c_1 (by omega)
  · skip
    refine lv_iconst (pc := 7) (v := nI 1) S.1 S.2.1 dJ1_canEncode_fc78d_7 (by decide) ?_
    refine lv_goto (pc := 8) (tgt := 12) S.1 S.2.1 dJ1_canEncode_fc78d_8 (by decide) ?_
    exact hv_ret (pc := 12) (v := nI 1) S hr rfl hlocks hH hS (⟨rfl, rfl⟩) (Nat.le_of_ble_eq_true rfl) (Nat.le_of_ble_eq_true rfl) dJ1_canEncode_fc78d_12

set_option maxHeartbeats 4000000 in
set_option maxRecDepth 100000 in
/-- AbstractStringBuilder.isLatin1() -/
theorem c_SBIsLatin1 (l : Launch) (D : va_G) (cA : Nat → ClassId) (ga : Nat → Nat → Nat) (φ : hpM) (sz : Nat) (h0 q ml k : Nat) (g : Nat → Nat) (f0 : φ h0 = some (.inr (1, [.ref q, .int (nI 0), .int (nI ml), .int (nI k)]))) : hM l yJ5_isLatin1_aae02 cJ5_isLatin1_aae02 1 (some .boolean) { frames := 8, cells := 0, slots := 0, locals := 200 } [.ref h0] D cA ga φ sz (fun v φ' => v = some (.int (nI 1)) ∧ φ' = φ) 0 0 := by
  refine hM.of (by decide) (Nat.le_of_ble_eq_true rfl) rfl ?_
  intro p e s m args below meth c ls H locs S hr hlocks hnm hsz hHz hH hK hX hS hA hl
  refine va_gets (pc := 0) (ref := "java/lang/String") (index := 18) S.1 S.2.1 hX.compact hS S.2.2.2.1 (S.2.2.2.2 _ tw_45) (fun _ h9 => h9) dJ5_isLatin1_aae02_0 ?_
  refine hv_ti (y := nI 1) (rfl) ?_
  refine hv_if_eq (pc := 3) (tgt := 17) (a := 1) S.1 S.2.1 (by omega) dJ5_isLatin1_aae02_3 (by decide) (fun c_1 => ?_) (fun c_1 => ?_)
  · skip
    exact absurd c_1 (by decide)
  · skip
    refine lv_aload_n (pc := 6) S.1 S.2.1 dJ5_isLatin1_aae02_6 rfl (lv_at hl 0 rfl) ?_
    refine hv_get (pc := 7) (C := RJ4) (T := TJ4) (N := 4) (ref := RJ5) S uwJ4 hK hH f0 rfl 1 (by decide) tw_55 (fun _ h9 => h9) rfl dJ5_isLatin1_aae02_7 ?_
    refine hv_if_ne (pc := 10) (tgt := 17) (a := 0) S.1 S.2.1 (by omega) dJ5_isLatin1_aae02_10 (by decide) (fun c_2 => ?_) (fun c_2 => ?_)
    · skip
      exact absurd rfl c_2
    · skip
      refine lv_iconst (pc := 13) (v := nI 1) S.1 S.2.1 dJ5_isLatin1_aae02_13 (by decide) ?_
      refine lv_goto (pc := 14) (tgt := 18) S.1 S.2.1 dJ5_isLatin1_aae02_14 (by decide) ?_
      exact hv_ret (pc := 18) (v := nI 1) S hr rfl hlocks hH hS (⟨rfl, rfl⟩) (Nat.le_of_ble_eq_true rfl) (Nat.le_of_ble_eq_true rfl) dJ5_isLatin1_aae02_18

set_option maxHeartbeats 4000000 in
set_option maxRecDepth 100000 in
/-- AbstractStringBuilder.ensureCapacityInternal(least): enough -/
theorem c_SBEnsure (l : Launch) (D : va_G) (cA : Nat → ClassId) (ga : Nat → Nat → Nat) (φ : hpM) (sz : Nat) (h0 q ml k : Nat) (g : Nat → Nat) (le : Nat) (f0 : φ h0 = some (.inr (1, [.ref q, .int (nI 0), .int (nI ml), .int (nI k)]))) (f1 : φ q = some (.inl (cA 0, 16, .inl (fun j => nI (g j))))) (hle : le ≤ 16) : hM l yJ5_ensureCapacityInternal_d00df cJ5_ensureCapacityInternal_d00df 3 none { frames := 8, cells := 0, slots := 0, locals := 200 } [.ref h0, .int (nI le)] D cA ga φ sz (fun v φ' => v = none ∧ φ' = φ) 0 0 := by
  refine hM.of (by decide) (Nat.le_of_ble_eq_true rfl) rfl ?_
  intro p e s m args below meth c ls H locs S hr hlocks hnm hsz hHz hH hK hX hS hA hl
  refine lv_aload_n (pc := 0) S.1 S.2.1 dJ5_ensureCapacityInternal_d00df_0 rfl (lv_at hl 0 rfl) ?_
  refine hv_get (pc := 1) (C := RJ4) (T := TJ4) (N := 4) (ref := RJ5) S uwJ4 hK hH f0 rfl 0 (by decide) tw_54 (fun _ h9 => h9) rfl dJ5_ensureCapacityInternal_d00df_1 ?_
  refine hv_alen (pc := 4) (v := nI 16) S hK hH 0 f1 rfl rfl dJ5_ensureCapacityInternal_d00df_4 ?_
  refine lv_aload_n (pc := 5) S.1 S.2.1 dJ5_ensureCapacityInternal_d00df_5 rfl (lv_at hl 0 rfl) ?_
  refine hv_get (pc := 6) (C := RJ4) (T := TJ4) (N := 4) (ref := RJ5) S uwJ4 hK hH f0 rfl 1 (by decide) tw_55 (fun _ h9 => h9) rfl dJ5_ensureCapacityInternal_d00df_6 ?_
  refine lv_ishr (pc := 9) S.1 S.2.1 dJ5_ensureCapacityInternal_d00df_9 ?_
  refine hv_ti (y := nI 16) (by decide) ?_
  refine lv_istore_n (pc := 10) (lv' := [(2, .int (nI 16)), (0, .ref h0), (1, .int (nI le))]) S.1 S.2.1 dJ5_ensureCapacityInternal_d00df_10 rfl hl (by decide) rfl (fun ls hl => ?_)
  refine lv_iload_n (pc := 11) S.1 S.2.1 dJ5_ensureCapacityInternal_d00df_11 rfl (lv_at hl 2 rfl) ?_
  refine lv_iload_n (pc := 12) S.1 S.2.1 dJ5_ensureCapacityInternal_d00df_12 rfl (lv_at hl 0 rfl) ?_
  refine lv_isub (pc := 13) S.1 S.2.1 dJ5_ensureCapacityInternal_d00df_13 ?_
  refine lv_if_le (pc := 14) (tgt := 38) S.1 S.2.1 dJ5_ensureCapacityInternal_d00df_14 (by decide) (fun c_1 => ?_) (fun c_1 => ?_)
  · skip
    exact hv_vret (pc := 38) S hr hlocks hH hS (⟨rfl, rfl⟩) (Nat.le_of_ble_eq_true rfl) (Nat.le_of_ble_eq_true rfl) dJ5_ensureCapacityInternal_d00df_38
  · skip
    exact absurd (sub_le0 hle (by omega)) c_1

set_option maxHeartbeats 4000000 in
set_option maxRecDepth 100000 in
/-- AbstractStringBuilder.length() -/
theorem c_ASBLength (l : Launch) (D : va_G) (cA : Nat → ClassId) (ga : Nat → Nat → Nat) (φ : hpM) (sz : Nat) (h0 q ml k : Nat) (g : Nat → Nat) (f0 : φ h0 = some (.inr (1, [.ref q, .int (nI 0), .int (nI ml), .int (nI k)]))) : hM l yJ5_length_8abf5 cJ5_length_8abf5 1 (some .int) { frames := 8, cells := 0, slots := 0, locals := 200 } [.ref h0] D cA ga φ sz (fun v φ' => v = some (.int (nI k)) ∧ φ' = φ) 0 0 := by
  refine hM.of (by decide) (Nat.le_of_ble_eq_true rfl) rfl ?_
  intro p e s m args below meth c ls H locs S hr hlocks hnm hsz hHz hH hK hX hS hA hl
  refine lv_aload_n (pc := 0) S.1 S.2.1 dJ5_length_8abf5_0 rfl (lv_at hl 0 rfl) ?_
  refine hv_get (pc := 1) (C := RJ4) (T := TJ4) (N := 4) (ref := RJ5) S uwJ4 hK hH f0 rfl 3 (by decide) tw_58 (fun _ h9 => h9) rfl dJ5_length_8abf5_1 ?_
  exact hv_ret (pc := 4) (v := nI k) S hr rfl hlocks hH hS (⟨rfl, rfl⟩) (Nat.le_of_ble_eq_true rfl) (Nat.le_of_ble_eq_true rfl) dJ5_length_8abf5_4

set_option maxHeartbeats 4000000 in
set_option maxRecDepth 100000 in
/-- StringBuilder.length() -/
theorem c_SBLength (l : Launch) (D : va_G) (cA : Nat → ClassId) (ga : Nat → Nat → Nat) (φ : hpM) (sz : Nat) (h0 q ml k : Nat) (g : Nat → Nat) (f0 : φ h0 = some (.inr (1, [.ref q, .int (nI 0), .int (nI ml), .int (nI k)]))) : hM l yJ4_length_8abf5 cJ4_length_8abf5 1 (some .int) { frames := 9, cells := 0, slots := 0, locals := 260 } [.ref h0] D cA ga φ sz (fun v φ' => v = some (.int (nI k)) ∧ φ' = φ) 0 0 := by
  refine hM.of (by decide) (Nat.le_of_ble_eq_true rfl) rfl ?_
  intro p e s m args below meth c ls H locs S hr hlocks hnm hsz hHz hH hK hX hS hA hl
  refine lv_aload_n (pc := 0) S.1 S.2.1 dJ4_length_8abf5_0 rfl (lv_at hl 0 rfl) ?_
  refine hv_call (pc := 1) (va_runSU (As := []) (rest := []) (hv_at hK (ci := 1) rfl).choose_spec S (c_ASBLength l D cA ga φ H.size h0 q ml k g f0) (va_cwSU 0 S.2.2.2.2 (gU tw_275 tw_920 tw_67 tw_276 tw_2 tw_277) rfl rfl rfl (by decide +kernel) ⟨Nat.le_of_ble_eq_true rfl, Nat.le_of_ble_eq_true rfl⟩) (pre0_V hH hK hX hS hA (hH.recv hK f0 rfl)) rfl rfl hl.1 rfl (lv_room (Nat.le_of_ble_eq_true rfl)) dJ4_length_8abf5_1 ⟨Nat.le_of_ble_eq_true rfl, Nat.le_of_ble_eq_true rfl⟩) hS (af_le hH hS hA) (fun v_1 φ_2 H locs hw_v_1 hH hS => ?_)
  obtain ⟨rfl, hqv_1⟩ := hw_v_1
  rw [hqv_1] at hH
  exact hv_ret (pc := 4) (v := nI k) S hr rfl hlocks hH hS (⟨rfl, rfl⟩) (Nat.le_of_ble_eq_true rfl) (Nat.le_of_ble_eq_true rfl) dJ4_length_8abf5_4

set_option maxHeartbeats 4000000 in
set_option maxRecDepth 100000 in
/-- AbstractStringBuilder(16) -/
theorem c_ASBInit (l : Launch) (D : va_G) (cA : Nat → ClassId) (ga : Nat → Nat → Nat) (φ : hpM) (sz : Nat) (h0 : Nat) (f0 : φ h0 = some (.inr (1, [.null, .int (nI 0), .int (nI 0), .int (nI 0)]))) : hM l yJ5_init_d00df cJ5_init_d00df 2 none { frames := 8, cells := 1, slots := 16, locals := 200 } [.ref h0, .int (nI 16)] D cA ga φ sz (fun v φ' => v = none ∧ ∃ q, φ q = none ∧ φ' = ups (ups φ q (.inl (cA 0, 16, .inl (fun j => nI (zr j))))) h0 (.inr (1, [.ref q, .int (nI 0), .int (nI 0), .int (nI 0)]))) 1 16 := by
  refine hM.of (by decide) (Nat.le_of_ble_eq_true rfl) rfl ?_
  intro p e s m args below meth c ls H locs S hr hlocks hnm hsz hHz hH hK hX hS hA hl
  refine lv_aload_n (pc := 0) S.1 S.2.1 dJ5_init_d00df_0 rfl (lv_at hl 0 rfl) ?_
  refine W.objInit S.1 S.2.1 S.2.2.2.1 (S.2.2.2.2 _ tw_44) (S.2.2.2.2 _ tw_34) (S.2.2.2.2 _ tw_35) rfl (by rw [S.2.2.1]; exact hl.1) rfl dJ5_init_d00df_1 (Nat.le_of_ble_eq_true rfl) (Nat.le_of_ble_eq_true rfl) ?_
  refine W.eq (g2 := F0 m 4 ls []) rfl ?_
  refine va_gets (pc := 4) (ref := "java/lang/String") (index := 18) S.1 S.2.1 hX.compact hS S.2.2.2.1 (S.2.2.2.2 _ tw_45) (fun _ h9 => h9) dJ5_init_d00df_4 ?_
  refine hv_ti (y := nI 1) (rfl) ?_
  refine hv_if_eq (pc := 7) (tgt := 25) (a := 1) S.1 S.2.1 (by omega) dJ5_init_d00df_7 (by decide) (fun c_1 => ?_) (fun c_1 => ?_)
  · skip
    exact absurd c_1 (by decide)
  · skip
    refine lv_aload_n (pc := 10) S.1 S.2.1 dJ5_init_d00df_10 rfl (lv_at hl 0 rfl) ?_
    refine lv_iload_n (pc := 11) S.1 S.2.1 dJ5_init_d00df_11 rfl (lv_at hl 1 rfl) ?_
    refine hv_newa (pc := 12) (atype := .byte) (a0 := (16, .inl (fun j => nI (zr j)))) (N' := 16) S tw_68 (ty := .byte) rfl hK 0 rfl hH hS hA (fun _ => rfl) (by decide) (by decide) (Nat.le_of_ble_eq_true rfl) (Nat.le_of_ble_eq_true rfl) (Nat.le_of_ble_eq_true rfl) dJ5_init_d00df_12 (fun q_2 H hq_q_2 hH hS => ?_)
    replace hH := nup (e := .inl (cA 0, 16, .inl (fun j => nI (zr j)))) hH
    obtain ⟨φ_3, hφ_3, fa_φ_3, fr_φ_3, hH⟩ := hH
    have f_4 := fr_φ_3 _ _ (hp_nf f0 hq_q_2) f0
    refine hv_put (pc := 14) (ty := .array (.byte)) (C := RJ4) (T := TJ4) (N := 4) (ref := RJ5) S uwJ4 tyJ4 tyJ4_ok nmJ4 hK hH hS f_4 rfl 0 (by decide) tw_54 (fun _ h9 => h9) rfl (by decide +kernel) rfl rfl (Nat.le_of_ble_eq_true rfl) dJ5_init_d00df_14 (fun H locs hH hS => ?_)
    replace hH := nup (e := .inr (1, [.ref q_2, .int (nI 0), .int (nI 0), .int (nI 0)])) hH
    obtain ⟨φ_5, hφ_5, fa_φ_5, fr_φ_5, hH⟩ := hH
    have f_6 := fr_φ_5 _ _ (hp_ne fa_φ_3 f_4 (by intro h; first | (cases h; done) | (simp at h; done))) fa_φ_3
    refine lv_aload_n (pc := 17) S.1 S.2.1 dJ5_init_d00df_17 rfl (lv_at hl 0 rfl) ?_
    refine lv_iconst (pc := 18) (v := nI 0) S.1 S.2.1 dJ5_init_d00df_18 (by decide) ?_
    refine hv_put (pc := 19) (ty := .byte) (C := RJ4) (T := TJ4) (N := 4) (ref := RJ5) S uwJ4 tyJ4 tyJ4_ok nmJ4 hK hH hS fa_φ_5 rfl 1 (by decide) tw_55 (fun _ h9 => h9) rfl (by decide +kernel) rfl rfl (Nat.le_of_ble_eq_true rfl) dJ5_init_d00df_19 (fun H locs hH hS => ?_)
    replace hH := nup (e := .inr (1, [.ref q_2, .int (nI 0), .int (nI 0), .int (nI 0)])) hH
    obtain ⟨φ_7, hφ_7, fa_φ_7, fr_φ_7, hH⟩ := hH
    have f_8 := fr_φ_7 _ _ (hp_ne f_6 fa_φ_5 (by intro h; first | (cases h; done) | (simp at h; done))) f_6
    refine lv_goto (pc := 22) (tgt := 38) S.1 S.2.1 dJ5_init_d00df_22 (by decide) ?_
    exact hv_vret (pc := 38) S hr hlocks hH hS (⟨rfl, q_2, hq_q_2, by rw [hφ_7, hφ_5, hφ_3, ups_ups]⟩) (Nat.le_of_ble_eq_true rfl) (Nat.le_of_ble_eq_true rfl) dJ5_init_d00df_38

set_option maxHeartbeats 4000000 in
set_option maxRecDepth 100000 in
/-- StringBuilder() -/
theorem c_SBInit (l : Launch) (D : va_G) (cA : Nat → ClassId) (ga : Nat → Nat → Nat) (φ : hpM) (sz : Nat) (h0 : Nat) (f0 : φ h0 = some (.inr (1, [.null, .int (nI 0), .int (nI 0), .int (nI 0)]))) : hM l yJ4_init_da8c8 cJ4_init_da8c8 1 none { frames := 9, cells := 1, slots := 16, locals := 260 } [.ref h0] D cA ga φ sz (fun v φ' => v = none ∧ ∃ q, φ q = none ∧ φ' = ups (ups φ q (.inl (cA 0, 16, .inl (fun j => nI (zr j))))) h0 (.inr (1, [.ref q, .int (nI 0), .int (nI 0), .int (nI 0)]))) 1 16 := by
  refine hM.of (by decide) (Nat.le_of_ble_eq_true rfl) rfl ?_
  intro p e s m args below meth c ls H locs S hr hlocks hnm hsz hHz hH hK hX hS hA hl
  refine lv_aload_n (pc := 0) S.1 S.2.1 dJ4_init_da8c8_0 rfl (lv_at hl 0 rfl) ?_
  refine lv_bipush (pc := 1) (v := nI 16) S.1 S.2.1 dJ4_init_da8c8_1 (by decide) ?_
  refine hv_call (pc := 3) (va_runI (As := [.int (nI 16)]) (rest := []) S (c_ASBInit l D cA ga φ H.size h0 f0) (cwI 1 S.2.2.2.2 (gw tw_43) rfl rfl rfl (S.2.2.2.2 _ tw_2) (S.2.2.2.2 _ tw_41) (S.2.2.2.2 _ tw_42) rfl (by decide +kernel) ⟨Nat.le_of_ble_eq_true rfl, Nat.le_of_ble_eq_true rfl⟩) (pre0_S hH hK hX hS hA) rfl rfl hl.1 rfl (lv_room (Nat.le_of_ble_eq_true rfl)) dJ4_init_da8c8_3 ⟨Nat.le_of_ble_eq_true rfl, Nat.le_of_ble_eq_true rfl⟩) hS (af_le hH hS hA) (fun v_1 φ_2 H locs hw_v_1 hH hS => ?_)
  obtain ⟨rfl, q_9, hq9, hp9⟩ := hw_v_1
  rw [hp9] at hH
  exact hv_vret (pc := 6) S hr hlocks hH hS (⟨rfl, q_9, hq9, rfl⟩) (Nat.le_of_ble_eq_true rfl) (Nat.le_of_ble_eq_true rfl) dJ4_init_da8c8_6

set_option maxHeartbeats 4000000 in
set_option maxRecDepth 100000 in
/-- AbstractStringBuilder.append(char) -/
theorem c_ASBAppend (l : Launch) (D : va_G) (cA : Nat → ClassId) (ga : Nat → Nat → Nat) (φ : hpM) (sz : Nat) (h0 q ml k : Nat) (g : Nat → Nat) (x : Nat) (f0 : φ h0 = some (.inr (1, [.ref q, .int (nI 0), .int (nI ml), .int (nI k)]))) (f1 : φ q = some (.inl (cA 0, 16, .inl (fun j => nI (g j))))) (hk : k < 16) (hx : x < 128) : hM l yJ5_append_3fe6f cJ5_append_3fe6f 2 (some (.object "java/lang/AbstractStringBuilder")) { frames := 9, cells := 0, slots := 0, locals := 260 } [.ref h0, .int (nI x)] D cA ga φ sz (fun v φ' => v = some (.ref h0) ∧ φ' = ups (ups φ h0 (.inr (1, [.ref q, .int (nI 0), .int (nI ml), .int (nI (k + 1))]))) q (.inl (cA 0, 16, .inl (fun j => nI ((va_up g k x) j))))) 0 0 := by
  refine hM.of (by decide) (Nat.le_of_ble_eq_true rfl) rfl ?_
  intro p e s m args below meth c ls H locs S hr hlocks hnm hsz hHz hH hK hX hS hA hl
  refine lv_aload_n (pc := 0) S.1 S.2.1 dJ5_append_3fe6f_0 rfl (lv_at hl 0 rfl) ?_
  refine lv_aload_n (pc := 1) S.1 S.2.1 dJ5_append_3fe6f_1 rfl (lv_at hl 0 rfl) ?_
  refine hv_get (pc := 2) (C := RJ4) (T := TJ4) (N := 4) (ref := RJ5) S uwJ4 hK hH f0 rfl 3 (by decide) tw_58 (fun _ h9 => h9) rfl dJ5_append_3fe6f_2 ?_
  refine lv_iconst (pc := 5) (v := nI 1) S.1 S.2.1 dJ5_append_3fe6f_5 (by decide) ?_
  refine lv_iadd (pc := 6) S.1 S.2.1 dJ5_append_3fe6f_6 ?_
  refine hv_ti (y := nI (k + 1)) (nI_add _ _) ?_
  refine hv_call (pc := 7) (va_runU (As := [.int (nI (k + 1))]) (rest := []) S (c_SBEnsure l D cA ga φ H.size h0 q ml k g (k + 1) f0 f1 (by omega)) (va_cwU (C := "java/lang/StringBuilder") (owner := "java/lang/AbstractStringBuilder") 1 S.2.2.2.2 (gO tw_304 tw_922 tw_SB tw_306 tw_2 tw_307) rfl rfl rfl rfl (by decide +kernel) ⟨Nat.le_of_ble_eq_true rfl, Nat.le_of_ble_eq_true rfl⟩) (pre0_V hH hK hX hS hA (hH.recv hK f0 rfl)) rfl rfl hl.1 rfl (lv_room (Nat.le_of_ble_eq_true rfl)) dJ5_append_3fe6f_7 ⟨Nat.le_of_ble_eq_true rfl, Nat.le_of_ble_eq_true rfl⟩) hS (af_le hH hS hA) (fun v_1 φ_2 H locs hw_v_1 hH hS => ?_)
  obtain ⟨rfl, hqv_1⟩ := hw_v_1
  rw [hqv_1] at hH
  refine lv_aload_n (pc := 10) S.1 S.2.1 dJ5_append_3fe6f_10 rfl (lv_at hl 0 rfl) ?_
  refine hv_call (pc := 11) (va_runU (As := []) (rest := []) S (c_SBIsLatin1 l D cA ga φ H.size h0 q ml k g f0) (va_cwU (C := "java/lang/StringBuilder") (owner := "java/lang/AbstractStringBuilder") 0 S.2.2.2.2 (gO tw_339 tw_341 tw_342 tw_340 tw_2 tw_343) rfl rfl rfl rfl (by decide +kernel) ⟨Nat.le_of_ble_eq_true rfl, Nat.le_of_ble_eq_true rfl⟩) (pre0_V hH hK hX hS hA (hH.recv hK f0 rfl)) rfl rfl hl.1 rfl (lv_room (Nat.le_of_ble_eq_true rfl)) dJ5_append_3fe6f_11 ⟨Nat.le_of_ble_eq_true rfl, Nat.le_of_ble_eq_true rfl⟩) hS (af_le hH hS hA) (fun v_3 φ_4 H locs hw_v_3 hH hS => ?_)
  obtain ⟨rfl, hqv_3⟩ := hw_v_3
  rw [hqv_3] at hH
  refine hv_if_eq (pc := 14) (tgt := 45) (a := 1) S.1 S.2.1 (by omega) dJ5_append_3fe6f_14 (by decide) (fun c_5 => ?_) (fun c_5 => ?_)
  · skip
    exact absurd c_5 (by decide)
  · skip
    refine lv_iload_n (pc := 17) S.1 S.2.1 dJ5_append_3fe6f_17 rfl (lv_at hl 1 rfl) ?_
    refine hv_call (pc := 18) (va_runS (As := [.int (nI x)]) (rest := []) S (c_canEncode l D cA ga φ H.size x hx) (va_cwS 1 S.2.2.2.2 (gS tw_344 tw_345 tw_17 tw_346) rfl rfl rfl (by decide +kernel) ⟨Nat.le_of_ble_eq_true rfl, Nat.le_of_ble_eq_true rfl⟩) (pre0_S hH hK hX hS hA) rfl rfl hl.1 rfl (lv_room (Nat.le_of_ble_eq_true rfl)) dJ5_append_3fe6f_18 ⟨Nat.le_of_ble_eq_true rfl, Nat.le_of_ble_eq_true rfl⟩) hS (af_le hH hS hA) (fun v_6 φ_7 H locs hw_v_6 hH hS => ?_)
    obtain ⟨rfl, hqv_6⟩ := hw_v_6
    rw [hqv_6] at hH
    refine hv_if_eq (pc := 21) (tgt := 45) (a := 1) S.1 S.2.1 (by omega) dJ5_append_3fe6f_21 (by decide) (fun c_8 => ?_) (fun c_8 => ?_)
    · skip
      exact absurd c_8 (by decide)
    · skip
      refine lv_aload_n (pc := 24) S.1 S.2.1 dJ5_append_3fe6f_24 rfl (lv_at hl 0 rfl) ?_
      refine hv_get (pc := 25) (C := RJ4) (T := TJ4) (N := 4) (ref := RJ5) S uwJ4 hK hH f0 rfl 0 (by decide) tw_54 (fun _ h9 => h9) rfl dJ5_append_3fe6f_25 ?_
      refine lv_aload_n (pc := 28) S.1 S.2.1 dJ5_append_3fe6f_28 rfl (lv_at hl 0 rfl) ?_
      refine lv_dup (pc := 29) S.1 S.2.1 dJ5_append_3fe6f_29 rfl ?_
      refine hv_get (pc := 30) (C := RJ4) (T := TJ4) (N := 4) (ref := RJ5) S uwJ4 hK hH f0 rfl 3 (by decide) tw_58 (fun _ h9 => h9) rfl dJ5_append_3fe6f_30 ?_
      refine lv_dup_x1 (pc := 33) S.1 S.2.1 dJ5_append_3fe6f_33 rfl rfl ?_
      refine lv_iconst (pc := 34) (v := nI 1) S.1 S.2.1 dJ5_append_3fe6f_34 (by decide) ?_
      refine lv_iadd (pc := 35) S.1 S.2.1 dJ5_append_3fe6f_35 ?_
      refine hv_ti (y := nI (k + 1)) (nI_add _ _) ?_
      refine hv_put (pc := 36) (ty := .int) (C := RJ4) (T := TJ4) (N := 4) (ref := RJ5) S uwJ4 tyJ4 tyJ4_ok nmJ4 hK hH hS f0 rfl 3 (by decide) tw_58 (fun _ h9 => h9) rfl (by decide +kernel) rfl rfl (Nat.le_of_ble_eq_true rfl) dJ5_append_3fe6f_36 (fun H locs hH hS => ?_)
      replace hH := nup (e := .inr (1, [.ref q, .int (nI 0), .int (nI ml), .int (nI (k + 1))])) hH
      obtain ⟨φ_9, hφ_9, fa_φ_9, fr_φ_9, hH⟩ := hH
      have f_10 := fr_φ_9 _ _ (hp_ne f1 f0 (by intro h; first | (cases h; done) | (simp at h; done))) f1
      refine lv_iload_n (pc := 39) S.1 S.2.1 dJ5_append_3fe6f_39 rfl (lv_at hl 1 rfl) ?_
      refine lv_i2b (pc := 40) (v := nI x) S.1 S.2.1 dJ5_append_3fe6f_40 (jb_i2b _ hx) ?_
      refine hv_bast (pc := 41) S hK hH hS 0 f_10 rfl (vp_in_nI (by omega) (by omega)) dJ5_append_3fe6f_41 (fun H locs hH hS => ?_)
      rw [jb_narB _ hx, hv_upd (by omega)] at hH
      replace hH := nup (e := .inl (cA 0, 16, .inl (fun j => nI ((va_up g k x) j)))) hH
      obtain ⟨φ_11, hφ_11, fa_φ_11, fr_φ_11, hH⟩ := hH
      have f_12 := fr_φ_11 _ _ (hp_ne fa_φ_9 f_10 (by intro h; first | (cases h; done) | (simp at h; done))) fa_φ_9
      refine lv_goto (pc := 42) (tgt := 75) S.1 S.2.1 dJ5_append_3fe6f_42 (by decide) ?_
      refine lv_aload_n (pc := 75) S.1 S.2.1 dJ5_append_3fe6f_75 rfl (lv_at hl 0 rfl) ?_
      exact hv_aret (pc := 76) S hr (Or.inl ⟨_, rfl⟩) (Or.inr ⟨_, rfl⟩) hlocks hH hS (⟨rfl, by rw [hφ_11, hφ_9]⟩) (Nat.le_of_ble_eq_true rfl) (Nat.le_of_ble_eq_true rfl) dJ5_append_3fe6f_76

set_option maxHeartbeats 4000000 in
set_option maxRecDepth 100000 in
/-- StringBuilder.append(char) -/
theorem c_SBAppend (l : Launch) (D : va_G) (cA : Nat → ClassId) (ga : Nat → Nat → Nat) (φ : hpM) (sz : Nat) (h0 q ml k : Nat) (g : Nat → Nat) (x : Nat) (f0 : φ h0 = some (.inr (1, [.ref q, .int (nI 0), .int (nI ml), .int (nI k)]))) (f1 : φ q = some (.inl (cA 0, 16, .inl (fun j => nI (g j))))) (hk : k < 16) (hx : x < 128) : hM l yJ4_append_cf468 cJ4_append_cf468 2 (some (.object "java/lang/StringBuilder")) { frames := 10, cells := 0, slots := 0, locals := 320 } [.ref h0, .int (nI x)] D cA ga φ sz (fun v φ' => v = some (.ref h0) ∧ φ' = ups (ups φ h0 (.inr (1, [.ref q, .int (nI 0), .int (nI ml), .int (nI (k + 1))]))) q (.inl (cA 0, 16, .inl (fun j => nI ((va_up g k x) j))))) 0 0 := by
  refine hM.of (by decide) (Nat.le_of_ble_eq_true rfl) rfl ?_
  intro p e s m args below meth c ls H locs S hr hlocks hnm hsz hHz hH hK hX hS hA hl
  refine lv_aload_n (pc := 0) S.1 S.2.1 dJ4_append_cf468_0 rfl (lv_at hl 0 rfl) ?_
  refine lv_iload_n (pc := 1) S.1 S.2.1 dJ4_append_cf468_1 rfl (lv_at hl 1 rfl) ?_
  refine hv_call (pc := 2) (va_runSU (As := [.int (nI x)]) (rest := []) (hv_at hK (ci := 1) rfl).choose_spec S (c_ASBAppend l D cA ga φ H.size h0 q ml k g x f0 f1 hk hx) (va_cwSU 1 S.2.2.2.2 (gU tw_301 tw_921 tw_67 tw_302 tw_2 tw_303) rfl rfl rfl (by decide +kernel) ⟨Nat.le_of_ble_eq_true rfl, Nat.le_of_ble_eq_true rfl⟩) (pre0_V hH hK hX hS hA (hH.recv hK f0 rfl)) rfl rfl hl.1 rfl (lv_room (Nat.le_of_ble_eq_true rfl)) dJ4_append_cf468_2 ⟨Nat.le_of_ble_eq_true rfl, Nat.le_of_ble_eq_true rfl⟩) hS (af_le hH hS hA) (fun v_1 φ_2 H locs hw_v_1 hH hS => ?_)
  obtain ⟨rfl, hp9⟩ := hw_v_1
  rw [hp9] at hH
  refine lv_pop (pc := 5) S.1 S.2.1 dJ4_append_cf468_5 rfl ?_
  refine lv_aload_n (pc := 6) S.1 S.2.1 dJ4_append_cf468_6 rfl (lv_at hl 0 rfl) ?_
  exact hv_aret (pc := 7) S hr (Or.inl ⟨_, rfl⟩) (Or.inr ⟨_, rfl⟩) hlocks hH hS (⟨rfl, rfl⟩) (Nat.le_of_ble_eq_true rfl) (Nat.le_of_ble_eq_true rfl) dJ4_append_cf468_7

set_option maxHeartbeats 4000000 in
set_option maxRecDepth 100000 in
/-- AbstractStringBuilder.setLength(0) -/
theorem c_ASBSetLength (l : Launch) (D : va_G) (cA : Nat → ClassId) (ga : Nat → Nat → Nat) (φ : hpM) (sz : Nat) (h0 q ml k : Nat) (g : Nat → Nat) (f0 : φ h0 = some (.inr (1, [.ref q, .int (nI 0), .int (nI ml), .int (nI k)]))) (f1 : φ q = some (.inl (cA 0, 16, .inl (fun j => nI (g j))))) (hk : k ≤ 16) : hM l yJ5_setLength_d00df cJ5_setLength_d00df 2 none { frames := 9, cells := 0, slots := 0, locals := 260 } [.ref h0, .int (nI 0)] D cA ga φ sz (fun v φ' => v = none ∧ φ' = ups φ h0 (.inr (1, [.ref q, .int (nI 0), .int (nI (if k = 0 then ml else 1)), .int (nI 0)]))) 0 0 := by
  refine hM.of (by decide) (Nat.le_of_ble_eq_true rfl) rfl ?_
  intro p e s m args below meth c ls H locs S hr hlocks hnm hsz hHz hH hK hX hS hA hl
  refine lv_iload_n (pc := 0) S.1 S.2.1 dJ5_setLength_d00df_0 rfl (lv_at hl 1 rfl) ?_
  refine hv_if_ge (pc := 1) (tgt := 13) (a := 0) S.1 S.2.1 (by omega) dJ5_setLength_d00df_1 (by decide) (fun c_1 => ?_) (fun c_1 => ?_)
  · skip
    refine lv_aload_n (pc := 13) S.1 S.2.1 dJ5_setLength_d00df_13 rfl (lv_at hl 0 rfl) ?_
    refine lv_iload_n (pc := 14) S.1 S.2.1 dJ5_setLength_d00df_14 rfl (lv_at hl 1 rfl) ?_
    refine hv_call (pc := 15) (va_runU (As := [.int (nI 0)]) (rest := []) S (c_SBEnsure l D cA ga φ H.size h0 q ml k g 0 f0 f1 (by omega)) (va_cwU (C := "java/lang/StringBuilder") (owner := "java/lang/AbstractStringBuilder") 1 S.2.2.2.2 (gO tw_304 tw_922 tw_SB tw_306 tw_2 tw_307) rfl rfl rfl rfl (by decide +kernel) ⟨Nat.le_of_ble_eq_true rfl, Nat.le_of_ble_eq_true rfl⟩) (pre0_V hH hK hX hS hA (hH.recv hK f0 rfl)) rfl rfl hl.1 rfl (lv_room (Nat.le_of_ble_eq_true rfl)) dJ5_setLength_d00df_15 ⟨Nat.le_of_ble_eq_true rfl, Nat.le_of_ble_eq_true rfl⟩) hS (af_le hH hS hA) (fun v_2 φ_3 H locs hw_v_2 hH hS => ?_)
    obtain ⟨rfl, hqv_2⟩ := hw_v_2
    rw [hqv_2] at hH
    refine lv_aload_n (pc := 18) S.1 S.2.1 dJ5_setLength_d00df_18 rfl (lv_at hl 0 rfl) ?_
    refine hv_get (pc := 19) (C := RJ4) (T := TJ4) (N := 4) (ref := RJ5) S uwJ4 hK hH f0 rfl 3 (by decide) tw_58 (fun _ h9 => h9) rfl dJ5_setLength_d00df_19 ?_
    refine lv_iload_n (pc := 22) S.1 S.2.1 dJ5_setLength_d00df_22 rfl (lv_at hl 1 rfl) ?_
    refine hv_icmp_ge (pc := 23) (tgt := 63) (a := k) (b := 0) S.1 S.2.1 (by omega) (by omega) dJ5_setLength_d00df_23 (by decide) (fun c_4 => ?_) (fun c_4 => ?_)
    · skip
      refine lv_aload_n (pc := 63) S.1 S.2.1 dJ5_setLength_d00df_63 rfl (lv_at hl 0 rfl) ?_
      refine hv_get (pc := 64) (C := RJ4) (T := TJ4) (N := 4) (ref := RJ5) S uwJ4 hK hH f0 rfl 3 (by decide) tw_58 (fun _ h9 => h9) rfl dJ5_setLength_d00df_64 ?_
      refine lv_iload_n (pc := 67) S.1 S.2.1 dJ5_setLength_d00df_67 rfl (lv_at hl 1 rfl) ?_
      refine hv_icmp_le (pc := 68) (tgt := 76) (a := k) (b := 0) S.1 S.2.1 (by omega) (by omega) dJ5_setLength_d00df_68 (by decide) (fun c_5 => ?_) (fun c_5 => ?_)
      · skip
        refine lv_aload_n (pc := 76) S.1 S.2.1 dJ5_setLength_d00df_76 rfl (lv_at hl 0 rfl) ?_
        refine lv_iload_n (pc := 77) S.1 S.2.1 dJ5_setLength_d00df_77 rfl (lv_at hl 1 rfl) ?_
        refine hv_put (pc := 78) (ty := .int) (C := RJ4) (T := TJ4) (N := 4) (ref := RJ5) S uwJ4 tyJ4 tyJ4_ok nmJ4 hK hH hS f0 rfl 3 (by decide) tw_58 (fun _ h9 => h9) rfl (by decide +kernel) rfl rfl (Nat.le_of_ble_eq_true rfl) dJ5_setLength_d00df_78 (fun H locs hH hS => ?_)
        replace hH := nup (e := .inr (1, [.ref q, .int (nI 0), .int (nI ml), .int (nI 0)])) hH
        obtain ⟨φ_6, hφ_6, fa_φ_6, fr_φ_6, hH⟩ := hH
        have f_7 := fr_φ_6 _ _ (hp_ne f1 f0 (by intro h; first | (cases h; done) | (simp at h; done))) f1
        exact hv_vret (pc := 81) S hr hlocks hH hS (⟨rfl, by rw [hφ_6, if_pos (by omega)]⟩) (Nat.le_of_ble_eq_true rfl) (Nat.le_of_ble_eq_true rfl) dJ5_setLength_d00df_81
      · skip
        refine lv_aload_n (pc := 71) S.1 S.2.1 dJ5_setLength_d00df_71 rfl (lv_at hl 0 rfl) ?_
        refine lv_iconst (pc := 72) (v := nI 1) S.1 S.2.1 dJ5_setLength_d00df_72 (by decide) ?_
        refine hv_put (pc := 73) (ty := .boolean) (C := RJ4) (T := TJ4) (N := 4) (ref := RJ5) S uwJ4 tyJ4 tyJ4_ok nmJ4 hK hH hS f0 rfl 2 (by decide) tw_56 (fun _ h9 => h9) rfl (by decide +kernel) rfl rfl (Nat.le_of_ble_eq_true rfl) dJ5_setLength_d00df_73 (fun H locs hH hS => ?_)
        replace hH := nup (e := .inr (1, [.ref q, .int (nI 0), .int (nI 1), .int (nI k)])) hH
        obtain ⟨φ_8, hφ_8, fa_φ_8, fr_φ_8, hH⟩ := hH
        have f_9 := fr_φ_8 _ _ (hp_ne f1 f0 (by intro h; first | (cases h; done) | (simp at h; done))) f1
        refine lv_aload_n (pc := 76) S.1 S.2.1 dJ5_setLength_d00df_76 rfl (lv_at hl 0 rfl) ?_
        refine lv_iload_n (pc := 77) S.1 S.2.1 dJ5_setLength_d00df_77 rfl (lv_at hl 1 rfl) ?_
        refine hv_put (pc := 78) (ty := .int) (C := RJ4) (T := TJ4) (N := 4) (ref := RJ5) S uwJ4 tyJ4 tyJ4_ok nmJ4 hK hH hS fa_φ_8 rfl 3 (by decide) tw_58 (fun _ h9 => h9) rfl (by decide +kernel) rfl rfl (Nat.le_of_ble_eq_true rfl) dJ5_setLength_d00df_78 (fun H locs hH hS => ?_)
        replace hH := nup (e := .inr (1, [.ref q, .int (nI 0), .int (nI 1), .int (nI 0)])) hH
        obtain ⟨φ_10, hφ_10, fa_φ_10, fr_φ_10, hH⟩ := hH
        have f_11 := fr_φ_10 _ _ (hp_ne f_9 fa_φ_8 (by intro h; first | (cases h; done) | (simp at h; done))) f_9
        exact hv_vret (pc := 81) S hr hlocks hH hS (⟨rfl, by rw [hφ_10, hφ_8, ups_ups, if_neg (by omega)]⟩) (Nat.le_of_ble_eq_true rfl) (Nat.le_of_ble_eq_true rfl) dJ5_setLength_d00df_81
    · skip
      exact absurd c_4 (by omega)
  · skip
    exact c_1.elim

set_option maxHeartbeats 4000000 in
set_option maxRecDepth 100000 in
/-- StringBuilder.setLength(0) -/
theorem c_SBSetLength (l : Launch) (D : va_G) (cA : Nat → ClassId) (ga : Nat → Nat → Nat) (φ : hpM) (sz : Nat) (h0 q ml k : Nat) (g : Nat → Nat) (f0 : φ h0 = some (.inr (1, [.ref q, .int (nI 0), .int (nI ml), .int (nI k)]))) (f1 : φ q = some (.inl (cA 0, 16, .inl (fun j => nI (g j))))) (hk : k ≤ 16) : hM l yJ4_setLength_d00df cJ4_setLength_d00df 2 none { frames := 10, cells := 0, slots := 0, locals := 320 } [.ref h0, .int (nI 0)] D cA ga φ sz (fun v φ' => v = none ∧ φ' = ups φ h0 (.inr (1, [.ref q, .int (nI 0), .int (nI (if k = 0 then ml else 1)), .int (nI 0)]))) 0 0 := by
  refine hM.of (by decide) (Nat.le_of_ble_eq_true rfl) rfl ?_
  intro p e s m args below meth c ls H locs S hr hlocks hnm hsz hHz hH hK hX hS hA hl
  refine lv_aload_n (pc := 0) S.1 S.2.1 dJ4_setLength_d00df_0 rfl (lv_at hl 0 rfl) ?_
  refine lv_iload_n (pc := 1) S.1 S.2.1 dJ4_setLength_d00df_1 rfl (lv_at hl 1 rfl) ?_
  refine hv_call (pc := 2) (va_runSU (As := [.int (nI 0)]) (rest := []) (hv_at hK (ci := 1) rfl).choose_spec S (c_ASBSetLength l D cA ga φ H.size h0 q ml k g f0 f1 hk) (va_cwSU 1 S.2.2.2.2 (gU tw_451 tw_926 tw_67 tw_452 tw_2 tw_453) rfl rfl rfl (by decide +kernel) ⟨Nat.le_of_ble_eq_true rfl, Nat.le_of_ble_eq_true rfl⟩) (pre0_V hH hK hX hS hA (hH.recv hK f0 rfl)) rfl rfl hl.1 rfl (lv_room (Nat.le_of_ble_eq_true rfl)) dJ4_setLength_d00df_2 ⟨Nat.le_of_ble_eq_true rfl, Nat.le_of_ble_eq_true rfl⟩) hS (af_le hH hS hA) (fun v_1 φ_2 H locs hw_v_1 hH hS => ?_)
  obtain ⟨rfl, hp9⟩ := hw_v_1
  rw [hp9] at hH
  exact hv_vret (pc := 5) S hr hlocks hH hS (⟨rfl, rfl⟩) (Nat.le_of_ble_eq_true rfl) (Nat.le_of_ble_eq_true rfl) dJ4_setLength_d00df_5

set_option maxHeartbeats 4000000 in
set_option maxRecDepth 100000 in
/-- AbstractStringBuilder.charAt(index) -/
theorem c_ASBCharAt (l : Launch) (D : va_G) (cA : Nat → ClassId) (ga : Nat → Nat → Nat) (φ : hpM) (sz : Nat) (h0 q ml k : Nat) (g : Nat → Nat) (j : Nat) (f0 : φ h0 = some (.inr (1, [.ref q, .int (nI 0), .int (nI ml), .int (nI k)]))) (f1 : φ q = some (.inl (cA 0, 16, .inl (fun j => nI (g j))))) (hk : k ≤ 16) (hj : j < k) (hc : g j < 128) : hM l yJ5_charAt_5068e cJ5_charAt_5068e 5 (some .char) { frames := 10, cells := 0, slots := 0, locals := 320 } [.ref h0, .int (nI j)] D cA ga φ sz (fun v φ' => v = some (.int (nI (g j))) ∧ φ' = φ) 0 0 := by
  refine hM.of (by decide) (Nat.le_of_ble_eq_true rfl) rfl ?_
  intro p e s m args below meth c ls H locs S hr hlocks hnm hsz hHz hH hK hX hS hA hl
  refine lv_aload_n (pc := 0) S.1 S.2.1 dJ5_charAt_5068e_0 rfl (lv_at hl 0 rfl) ?_
  refine hv_get (pc := 1) (C := RJ4) (T := TJ4) (N := 4) (ref := RJ5) S uwJ4 hK hH f0 rfl 1 (by decide) tw_55 (fun _ h9 => h9) rfl dJ5_charAt_5068e_1 ?_
  refine lv_istore_n (pc := 4) (lv' := [(2, .int (nI 0)), (0, .ref h0), (1, .int (nI j))]) S.1 S.2.1 dJ5_charAt_5068e_4 rfl hl (by decide) rfl (fun ls hl => ?_)
  refine lv_aload_n (pc := 5) S.1 S.2.1 dJ5_charAt_5068e_5 rfl (lv_at hl 1 rfl) ?_
  refine hv_get (pc := 6) (C := RJ4) (T := TJ4) (N := 4) (ref := RJ5) S uwJ4 hK hH f0 rfl 0 (by decide) tw_54 (fun _ h9 => h9) rfl dJ5_charAt_5068e_6 ?_
  refine lv_astore_n (pc := 9) (lv' := [(3, .ref q), (2, .int (nI 0)), (0, .ref h0), (1, .int (nI j))]) S.1 S.2.1 dJ5_charAt_5068e_9 rfl hl (by decide) rfl (fun ls hl => ?_)
  refine lv_aload_n (pc := 10) S.1 S.2.1 dJ5_charAt_5068e_10 rfl (lv_at hl 2 rfl) ?_
  refine hv_get (pc := 11) (C := RJ4) (T := TJ4) (N := 4) (ref := RJ5) S uwJ4 hK hH f0 rfl 3 (by decide) tw_58 (fun _ h9 => h9) rfl dJ5_charAt_5068e_11 ?_
  refine lv_aload_n (pc := 14) S.1 S.2.1 dJ5_charAt_5068e_14 rfl (lv_at hl 0 rfl) ?_
  refine hv_alen (pc := 15) (v := nI 16) S hK hH 0 f1 rfl rfl dJ5_charAt_5068e_15 ?_
  refine lv_iload_n (pc := 16) S.1 S.2.1 dJ5_charAt_5068e_16 rfl (lv_at hl 1 rfl) ?_
  refine lv_ishr (pc := 17) S.1 S.2.1 dJ5_charAt_5068e_17 ?_
  refine hv_ti (y := nI 16) (by decide) ?_
  refine va_mmin (pc := 18) S.1 S.2.1 (by rw [S.2.2.1]; exact hl.1.symm) S.2.2.2.1 (S.2.2.2.2 _ tw_422) (S.2.2.2.2 _ tw_334) (S.2.2.2.2 _ tw_14) (S.2.2.2.2 _ tw_335) (Nat.le_of_ble_eq_true rfl) (Nat.le_of_ble_eq_true rfl) (Nat.le_of_ble_eq_true rfl) (Nat.le_of_ble_eq_true rfl) dJ5_charAt_5068e_18 ?_
  refine hv_ti (y := nI (min k 16)) (hv_min (by omega) (by omega)) ?_
  refine lv_istore (pc := 21) (lv' := [(4, .int (nI (min k 16))), (3, .ref q), (2, .int (nI 0)), (0, .ref h0), (1, .int (nI j))]) S.1 S.2.1 dJ5_charAt_5068e_21 hl (by decide) rfl (fun ls hl => ?_)
  refine lv_iload_n (pc := 23) S.1 S.2.1 dJ5_charAt_5068e_23 rfl (lv_at hl 4 rfl) ?_
  refine lv_iload (pc := 24) S.1 S.2.1 dJ5_charAt_5068e_24 (lv_at hl 0 rfl) ?_
  refine hv_call (pc := 26) (va_runS (As := [.int (nI j), .int (nI (min k 16))]) (rest := []) S (c_StrCheckIndex l D cA ga φ H.size j (min k 16) (by omega) (by omega)) (va_cwS 2 S.2.2.2.2 (gS tw_423 tw_387 tw_4 tw_388) rfl rfl rfl (by decide +kernel) ⟨Nat.le_of_ble_eq_true rfl, Nat.le_of_ble_eq_true rfl⟩) (pre0_S hH hK hX hS hA) rfl rfl hl.1 rfl (lv_room (Nat.le_of_ble_eq_true rfl)) dJ5_charAt_5068e_26 ⟨Nat.le_of_ble_eq_true rfl, Nat.le_of_ble_eq_true rfl⟩) hS (af_le hH hS hA) (fun v_1 φ_2 H locs hw_v_1 hH hS => ?_)
  obtain ⟨rfl, hqv_1⟩ := hw_v_1
  rw [hqv_1] at hH
  refine lv_iload_n (pc := 29) S.1 S.2.1 dJ5_charAt_5068e_29 rfl (lv_at hl 2 rfl) ?_
  refine hv_if_ne (pc := 30) (tgt := 42) (a := 0) S.1 S.2.1 (by omega) dJ5_charAt_5068e_30 (by decide) (fun c_3 => ?_) (fun c_3 => ?_)
  · skip
    exact absurd rfl c_3
  · skip
    refine lv_aload_n (pc := 33) S.1 S.2.1 dJ5_charAt_5068e_33 rfl (lv_at hl 1 rfl) ?_
    refine lv_iload_n (pc := 34) S.1 S.2.1 dJ5_charAt_5068e_34 rfl (lv_at hl 4 rfl) ?_
    refine hv_bald (pc := 35) S hK hH 0 f1 rfl (vp_in_nI (by omega) (by omega)) dJ5_charAt_5068e_35 ?_
    refine hv_ti (y := nI (g j)) (hv_ld (by omega)) ?_
    refine lv_sipush (pc := 36) (v := nI 255) S.1 S.2.1 dJ5_charAt_5068e_36 (by decide) ?_
    refine lv_iand (pc := 39) S.1 S.2.1 dJ5_charAt_5068e_39 ?_
    refine hv_ti (y := nI (g j)) (jb_and _ hc) ?_
    refine lv_i2c (pc := 40) (v := nI (g j)) S.1 S.2.1 dJ5_charAt_5068e_40 (jb_i2c _ hc) ?_
    exact hv_ret (pc := 41) (v := nI (g j)) S hr (jb_narC _ hc) hlocks hH hS (⟨rfl, rfl⟩) (Nat.le_of_ble_eq_true rfl) (Nat.le_of_ble_eq_true rfl) dJ5_charAt_5068e_41

set_option maxHeartbeats 4000000 in
set_option maxRecDepth 100000 in
/-- StringBuilder.charAt(index) -/
theorem c_SBCharAt (l : Launch) (D : va_G) (cA : Nat → ClassId) (ga : Nat → Nat → Nat) (φ : hpM) (sz : Nat) (h0 q ml k : Nat) (g : Nat → Nat) (j : Nat) (f0 : φ h0 = some (.inr (1, [.ref q, .int (nI 0), .int (nI ml), .int (nI k)]))) (f1 : φ q = some (.inl (cA 0, 16, .inl (fun j => nI (g j))))) (hk : k ≤ 16) (hj : j < k) (hc : g j < 128) : hM l yJ4_charAt_5068e cJ4_charAt_5068e 2 (some .char) { frames := 11, cells := 0, slots := 0, locals := 380 } [.ref h0, .int (nI j)] D cA ga φ sz (fun v φ' => v = some (.int (nI (g j))) ∧ φ' = φ) 0 0 := by
  refine hM.of (by decide) (Nat.le_of_ble_eq_true rfl) rfl ?_
  intro p e s m args below meth c ls H locs S hr hlocks hnm hsz hHz hH hK hX hS hA hl
  refine lv_aload_n (pc := 0) S.1 S.2.1 dJ4_charAt_5068e_0 rfl (lv_at hl 0 rfl) ?_
  refine lv_iload_n (pc := 1) S.1 S.2.1 dJ4_charAt_5068e_1 rfl (lv_at hl 1 rfl) ?_
  refine hv_call (pc := 2) (va_runSU (As := [.int (nI j)]) (rest := []) (hv_at hK (ci := 1) rfl).choose_spec S (c_ASBCharAt l D cA ga φ H.size h0 q ml k g j f0 f1 hk hj hc) (va_cwSU 1 S.2.2.2.2 (gU tw_419 tw_925 tw_67 tw_420 tw_2 tw_421) rfl rfl rfl (by decide +kernel) ⟨Nat.le_of_ble_eq_true rfl, Nat.le_of_ble_eq_true rfl⟩) (pre0_V hH hK hX hS hA (hH.recv hK f0 rfl)) rfl rfl hl.1 rfl (lv_room (Nat.le_of_ble_eq_true rfl)) dJ4_charAt_5068e_2 ⟨Nat.le_of_ble_eq_true rfl, Nat.le_of_ble_eq_true rfl⟩) hS (af_le hH hS hA) (fun v_1 φ_2 H locs hw_v_1 hH hS => ?_)
  obtain ⟨rfl, hqv_1⟩ := hw_v_1
  rw [hqv_1] at hH
  exact hv_ret (pc := 5) (v := nI (g j)) S hr (jb_narC _ hc) hlocks hH hS (⟨rfl, rfl⟩) (Nat.le_of_ble_eq_true rfl) (Nat.le_of_ble_eq_true rfl) dJ4_charAt_5068e_5
