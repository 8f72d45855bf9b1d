theorem jI_inj {a b : Nat} (h : nI a = nI b) (ha : a < 2 ^ 31) (hb : b < 2 ^ 31) : a = b := by
  have h2 := congrArg Int32.toNatClampNeg h
  rwa [nI_clamp ha, nI_clamp hb] at h2
theorem tab_of {ws : List Cond} (h : ws.all (fun w => (decide (w ∈ lw_tbl) && goodWord w) || decide (w ∈ tabW)) = true) : ∀ w ∈ ws, w ∈ Wc ∨ w ∈ tabW := fun w hw => by
  have h1 := List.all_eq_true.mp h w hw
  simp only [Bool.or_eq_true, Bool.and_eq_true, decide_eq_true_eq] at h1
  exact h1.elim (fun q => Or.inl (List.mem_filter.mpr ⟨List.mem_cons_of_mem _ q.1, q.2⟩)) Or.inr
theorem atIAE : ∀ w ∈ vx_atS RX8 235 "java/lang/IllegalArgumentException" XN, w ∈ Wc ∨ w ∈ tabW := tab_of (by decide +kernel)
theorem atISE : ∀ w ∈ vx_atS RX8 100 "java/lang/IllegalStateException" XN, w ∈ Wc ∨ w ∈ tabW := tab_of (by decide +kernel)
theorem atIOOBE : ∀ w ∈ vx_atS RX8 242 "java/lang/IndexOutOfBoundsException" XN, w ∈ Wc ∨ w ∈ tabW := tab_of (by decide +kernel)
/-- an int in a range -/
abbrev inR (x : Int32) (lo hi : Nat) : Prop := nI lo ≤ x ∧ x ≤ nI hi
theorem inR.nat {x : Int32} {lo hi : Nat} (h : inR x lo hi) (h1 : lo < 2 ^ 31) (h2 : hi < 2 ^ 31) : ∃ a : Nat, x = nI a ∧ lo ≤ a ∧ a ≤ hi := by
  obtain ⟨h3, h4⟩ := h
  have hn : ¬ x < 0 := fun z => by
    rw [Int32.lt_iff_toInt_lt, show (0 : Int32).toInt = 0 from by decide] at z
    rw [Int32.le_iff_toInt_le, nI_toInt h1] at h3
    omega
  obtain ⟨a, ha, rfl⟩ := nI_of hn
  exact ⟨a, rfl, (nI_leI h1 ha).mp h3, (nI_leI ha h2).mp h4⟩
/-- an index -/
abbrev inN (x : Int32) (b : Nat) : Prop := ¬ x < 0 ∧ x < nI b
theorem inN.nat {x : Int32} {b : Nat} (h : inN x b) (hb : b < 2 ^ 31) : ∃ a : Nat, x = nI a ∧ a < b := by
  obtain ⟨a, ha, rfl⟩ := nI_of h.1
  exact ⟨a, rfl, (nI_ltI ha hb).mp h.2⟩
theorem inN_nI {a b : Nat} (ha : a < 2 ^ 31) (hb : b < 2 ^ 31) : inN (nI a) b ↔ a < b := ⟨fun h => (nI_ltI ha hb).mp h.2, fun h => ⟨nI_pos ha, nI_lt h hb⟩⟩
theorem inR_nI {a lo hi : Nat} (ha : a < 2 ^ 31) (h1 : lo < 2 ^ 31) (h2 : hi < 2 ^ 31) : inR (nI a) lo hi ↔ lo ≤ a ∧ a ≤ hi := by
  unfold inR
  rw [nI_leI h1 ha, nI_leI ha h2]
theorem i32_nlt {x y : Int32} (h : ¬ x < y) : y ≤ x := by
  rw [Int32.lt_iff_toInt_lt] at h
  rw [Int32.le_iff_toInt_le]
  omega
theorem i32_nle {x y : Int32} (h : ¬ x ≤ y) : y < x := by
  rw [Int32.le_iff_toInt_le] at h
  rw [Int32.lt_iff_toInt_lt]
  omega
theorem i32_lt_nle {x y : Int32} (h : x < y) : ¬ y ≤ x := by
  rw [Int32.lt_iff_toInt_lt] at h
  rw [Int32.le_iff_toInt_le]
  omega
set_option maxHeartbeats 4000000 in
set_option maxRecDepth 100000 in
/-- refuseOutside(value, least, most) -/
theorem c_refuseOutside (l : Launch) (hfl : l.stackTraces = false) (D : va_G) (cA : Nat → ClassId) (ga : Nat → Nat → Nat) (φ : hpM) (sz : Nat) (x : Int32) (lo hi : Nat) : hMX l yX8_refuseOutside cX8_refuseOutside 3 none { frames := 8, cells := 1, slots := 6, locals := 200 } [.int (x), .int (nI lo), .int (nI hi)] D cA ga φ sz (fun v φ' => v = none ∧ φ' = φ ∧ inR x lo hi) (fun E φ' => E = "java/lang/IllegalArgumentException" ∧ φ' = φ ∧ ¬ inR x lo hi) 1 6 := by
  refine hMX.of (by decide) (Nat.le_of_ble_eq_true rfl) rfl ?_
  intro p e s m args below meth c ls H locs S hr hlocks hne hsz hHz hH hK hX hS hA hl
  refine lv_iload_n (pc := 0) S.1 S.2.1 dX8_refuseOutside_0 rfl (lv_at hl 0 rfl) ?_
  refine lv_iload_n (pc := 1) S.1 S.2.1 dX8_refuseOutside_1 rfl (lv_at hl 1 rfl) ?_
  refine lv_icmp_lt (pc := 2) (tgt := 10) S.1 S.2.1 dX8_refuseOutside_2 (by decide) (fun c_1 => ?_) (fun c_1 => ?_)
  · skip
    exact hv_throw (pc := 10) (cls := "java/lang/IllegalArgumentException") (text := "an argument is out of its range") (ik := 231) (is := 233) (ic := 235) S hfl (by decide +kernel) tw_206 tw_11 hX.tx233 atIAE hX hne hlocks hH hS (⟨rfl, rfl, fun h => i32_lt_nle c_1 h.1⟩) hl.1 dX8_refuseOutside_10 dX8_refuseOutside_13 dX8_refuseOutside_14 dX8_refuseOutside_16 dX8_refuseOutside_19 (Nat.le_of_ble_eq_true rfl) (Nat.le_of_ble_eq_true rfl) (Nat.le_of_ble_eq_true rfl) (Nat.le_of_ble_eq_true rfl) (Nat.le_of_ble_eq_true rfl) (Nat.le_of_ble_eq_true rfl)
  · skip
    refine lv_iload_n (pc := 5) S.1 S.2.1 dX8_refuseOutside_5 rfl (lv_at hl 0 rfl) ?_
    refine lv_iload_n (pc := 6) S.1 S.2.1 dX8_refuseOutside_6 rfl (lv_at hl 2 rfl) ?_
    refine lv_icmp_le (pc := 7) (tgt := 20) S.1 S.2.1 dX8_refuseOutside_7 (by decide) (fun c_2 => ?_) (fun c_2 => ?_)
    · skip
      exact vx_ret (hv_vret (pc := 20) S hr hlocks hH hS (⟨rfl, rfl, i32_nlt c_1, c_2⟩) (Nat.le_of_ble_eq_true rfl) (Nat.le_of_ble_eq_true rfl) dX8_refuseOutside_20)
    · skip
      exact hv_throw (pc := 10) (cls := "java/lang/IllegalArgumentException") (text := "an argument is out of its range") (ik := 231) (is := 233) (ic := 235) S hfl (by decide +kernel) tw_206 tw_11 hX.tx233 atIAE hX hne hlocks hH hS (⟨rfl, rfl, fun h => c_2 h.2⟩) hl.1 dX8_refuseOutside_10 dX8_refuseOutside_13 dX8_refuseOutside_14 dX8_refuseOutside_16 dX8_refuseOutside_19 (Nat.le_of_ble_eq_true rfl) (Nat.le_of_ble_eq_true rfl) (Nat.le_of_ble_eq_true rfl) (Nat.le_of_ble_eq_true rfl) (Nat.le_of_ble_eq_true rfl) (Nat.le_of_ble_eq_true rfl)

set_option maxHeartbeats 4000000 in
set_option maxRecDepth 100000 in
/-- refuseFull(number, most) -/
theorem c_refuseFull (l : Launch) (hfl : l.stackTraces = false) (D : va_G) (cA : Nat → ClassId) (ga : Nat → Nat → Nat) (φ : hpM) (sz : Nat) (a b : Nat) (ha : a < 2 ^ 31) (hb : b < 2 ^ 31) : hMX l yX8_refuseFull cX8_refuseFull 2 none { frames := 8, cells := 1, slots := 6, locals := 200 } [.int (nI a), .int (nI b)] D cA ga φ sz (fun v φ' => v = none ∧ φ' = φ ∧ a < b) (fun E φ' => E = "java/lang/IllegalStateException" ∧ φ' = φ ∧ ¬ a < b) 1 6 := by
  refine hMX.of (by decide) (Nat.le_of_ble_eq_true rfl) rfl ?_
  intro p e s m args below meth c ls H locs S hr hlocks hne hsz hHz hH hK hX hS hA hl
  refine lv_iload_n (pc := 0) S.1 S.2.1 dX8_refuseFull_0 rfl (lv_at hl 0 rfl) ?_
  refine lv_iload_n (pc := 1) S.1 S.2.1 dX8_refuseFull_1 rfl (lv_at hl 1 rfl) ?_
  refine hv_icmp_lt (pc := 2) (tgt := 15) (a := a) (b := b) S.1 S.2.1 (by omega) (by omega) dX8_refuseFull_2 (by decide) (fun c_1 => ?_) (fun c_1 => ?_)
  · skip
    exact vx_ret (hv_vret (pc := 15) S hr hlocks hH hS (⟨rfl, rfl, c_1⟩) (Nat.le_of_ble_eq_true rfl) (Nat.le_of_ble_eq_true rfl) dX8_refuseFull_15)
  · skip
    exact hv_throw (pc := 5) (cls := "java/lang/IllegalStateException") (text := "there are as many as there may be") (ik := 96) (is := 236) (ic := 100) S hfl (by decide +kernel) tw_281 tw_12 hX.tx236 atISE hX hne hlocks hH hS (⟨rfl, rfl, by omega⟩) hl.1 dX8_refuseFull_5 dX8_refuseFull_8 dX8_refuseFull_9 dX8_refuseFull_11 dX8_refuseFull_14 (Nat.le_of_ble_eq_true rfl) (Nat.le_of_ble_eq_true rfl) (Nat.le_of_ble_eq_true rfl) (Nat.le_of_ble_eq_true rfl) (Nat.le_of_ble_eq_true rfl) (Nat.le_of_ble_eq_true rfl)

set_option maxHeartbeats 4000000 in
set_option maxRecDepth 100000 in
/-- refuseNoSuch(number, howMany) -/
theorem c_refuseNoSuch (l : Launch) (hfl : l.stackTraces = false) (D : va_G) (cA : Nat → ClassId) (ga : Nat → Nat → Nat) (φ : hpM) (sz : Nat) (x : Int32) (b : Nat) : hMX l yX8_refuseNoSuch cX8_refuseNoSuch 2 none { frames := 8, cells := 1, slots := 6, locals := 200 } [.int (x), .int (nI b)] D cA ga φ sz (fun v φ' => v = none ∧ φ' = φ ∧ inN x b) (fun E φ' => E = "java/lang/IndexOutOfBoundsException" ∧ φ' = φ ∧ ¬ inN x b) 1 6 := by
  refine hMX.of (by decide) (Nat.le_of_ble_eq_true rfl) rfl ?_
  intro p e s m args below meth c ls H locs S hr hlocks hne hsz hHz hH hK hX hS hA hl
  refine lv_iload_n (pc := 0) S.1 S.2.1 dX8_refuseNoSuch_0 rfl (lv_at hl 0 rfl) ?_
  refine lv_if_lt (pc := 1) (tgt := 9) S.1 S.2.1 dX8_refuseNoSuch_1 (by decide) (fun c_1 => ?_) (fun c_1 => ?_)
  · skip
    exact hv_throw (pc := 9) (cls := "java/lang/IndexOutOfBoundsException") (text := "there is no such number") (ik := 238) (is := 240) (ic := 242) S hfl (by decide +kernel) tw_133 tw_10 hX.tx240 atIOOBE hX hne hlocks hH hS (⟨rfl, rfl, fun h => h.1 c_1⟩) hl.1 dX8_refuseNoSuch_9 dX8_refuseNoSuch_12 dX8_refuseNoSuch_13 dX8_refuseNoSuch_15 dX8_refuseNoSuch_18 (Nat.le_of_ble_eq_true rfl) (Nat.le_of_ble_eq_true rfl) (Nat.le_of_ble_eq_true rfl) (Nat.le_of_ble_eq_true rfl) (Nat.le_of_ble_eq_true rfl) (Nat.le_of_ble_eq_true rfl)
  · skip
    refine lv_iload_n (pc := 4) S.1 S.2.1 dX8_refuseNoSuch_4 rfl (lv_at hl 0 rfl) ?_
    refine lv_iload_n (pc := 5) S.1 S.2.1 dX8_refuseNoSuch_5 rfl (lv_at hl 1 rfl) ?_
    refine lv_icmp_lt (pc := 6) (tgt := 19) S.1 S.2.1 dX8_refuseNoSuch_6 (by decide) (fun c_2 => ?_) (fun c_2 => ?_)
    · skip
      exact vx_ret (hv_vret (pc := 19) S hr hlocks hH hS (⟨rfl, rfl, c_1, c_2⟩) (Nat.le_of_ble_eq_true rfl) (Nat.le_of_ble_eq_true rfl) dX8_refuseNoSuch_19)
    · skip
      exact hv_throw (pc := 9) (cls := "java/lang/IndexOutOfBoundsException") (text := "there is no such number") (ik := 238) (is := 240) (ic := 242) S hfl (by decide +kernel) tw_133 tw_10 hX.tx240 atIOOBE hX hne hlocks hH hS (⟨rfl, rfl, fun h => c_2 h.2⟩) hl.1 dX8_refuseNoSuch_9 dX8_refuseNoSuch_12 dX8_refuseNoSuch_13 dX8_refuseNoSuch_15 dX8_refuseNoSuch_18 (Nat.le_of_ble_eq_true rfl) (Nat.le_of_ble_eq_true rfl) (Nat.le_of_ble_eq_true rfl) (Nat.le_of_ble_eq_true rfl) (Nat.le_of_ble_eq_true rfl) (Nat.le_of_ble_eq_true rfl)

set_option maxHeartbeats 4000000 in
set_option maxRecDepth 100000 in
/-- lotAt(number) -/
theorem c_lotAt (l : Launch) (hfl : l.stackTraces = false) (D : va_G) (cA : Nat → ClassId) (ga : Nat → Nat → Nat) (φ : hpM) (sz : Nat) (y sb la ca ha ba hd nl nc nh nb dy : Nat) (x : Int32) (f : Nat → Option Nat) (f0 : φ y = some (.inr (12, [.ref sb, .ref la, .ref ca, .ref ha, .ref ba, .ref hd, .int (nI nl), .int (nI nc), .int (nI nh), .int (nI nb), .int (nI dy)]))) (f1 : φ la = some (.inl (cA 7, 10, .inr (.inr (.inr (.inr (f))))))) : hMX l yX8_lotAt cX8_lotAt 3 (some (.object "HatbandYard$Lot")) { frames := 9, cells := 2, slots := 12, locals := 260 } [.ref y, .int (x)] D cA ga φ sz (fun v φ' => (∃ i a : Nat, x = nI i ∧ i < 10 ∧ f i = some a ∧ v = some (.ref a)) ∧ φ' = φ) (fun E φ' => E = "java/lang/IndexOutOfBoundsException" ∧ φ' = φ ∧ ∀ i a : Nat, x = nI i → i < 10 → f i ≠ some a) 2 12 := by
  refine hMX.of (by decide) (Nat.le_of_ble_eq_true rfl) rfl ?_
  intro p e s m args below meth c ls H locs S hr hlocks hne hsz hHz hH hK hX hS hA hl
  refine lv_iload_n (pc := 0) S.1 S.2.1 dX8_lotAt_0 rfl (lv_at hl 1 rfl) ?_
  refine lv_aload_n (pc := 1) S.1 S.2.1 dX8_lotAt_1 rfl (lv_at hl 0 rfl) ?_
  refine hv_get (pc := 2) (C := RX8) (T := TX8) (N := 11) (ref := RX8) S uwX8 hK hH f0 rfl 1 (by decide) tw_89 (fun _ h9 => h9) rfl dX8_lotAt_2 ?_
  refine hv_alen (pc := 5) (v := nI 10) S hK hH 7 f1 rfl rfl dX8_lotAt_5 ?_
  refine hv_callX (pc := 6) (vx_runS (As := [.int (x), .int (nI 10)]) (rest := []) S (c_refuseNoSuch l hfl D cA ga φ H.size x 10) (va_cwS 2 S.2.2.2.2 (gS tw_130 tw_131 tw_1 tw_132) rfl rfl rfl (by decide +kernel) ⟨Nat.le_of_ble_eq_true rfl, Nat.le_of_ble_eq_true rfl⟩) (pre0_S hH hK hX hS hA) rfl rfl hl.1 rfl (lv_room (Nat.le_of_ble_eq_true rfl)) dX8_lotAt_6 ⟨Nat.le_of_ble_eq_true rfl, Nat.le_of_ble_eq_true rfl⟩) hS (af_le hH hS hA) (fun E ce q9 φ_2x H locs hx hH hS hce hcv hcl => ?_) (fun v_1 φ_2 H locs hw_v_1 hH hS => ?_)
  · skip
    exact hv_out hne hlocks hce hcv hcl hH hS (⟨hx.1, hx.2.1, fun i a h1 h2 _ => hx.2.2 (by rw [h1]; exact (inN_nI (by omega) (by omega)).mpr h2)⟩) (Nat.le_of_ble_eq_true rfl) (Nat.le_of_ble_eq_true rfl)
  · skip
    obtain ⟨rfl, hp9, hin9⟩ := hw_v_1
    rw [hp9] at hH
    obtain ⟨i, rfl, hi⟩ := hin9.nat (by omega)
    refine lv_aload_n (pc := 9) S.1 S.2.1 dX8_lotAt_9 rfl (lv_at hl 0 rfl) ?_
    refine hv_get (pc := 10) (C := RX8) (T := TX8) (N := 11) (ref := RX8) S uwX8 hK hH f0 rfl 1 (by decide) tw_89 (fun _ h9 => h9) rfl dX8_lotAt_10 ?_
    refine lv_iload_n (pc := 13) S.1 S.2.1 dX8_lotAt_13 rfl (lv_at hl 1 rfl) ?_
    refine hv_aald (pc := 14) S hK hH 7 f1 rfl (vp_in_nI hi (by omega)) dX8_lotAt_14 ?_
    refine hv_tv (y := va_rf (f i)) (by rw [nI_clamp (by omega)]) ?_
    rcases hf : f i with _ | a
    · skip
      refine hv_tv (y := .null) rfl ?_
      refine lv_astore_nN (pc := 15) (lv' := [(2, .null), (0, .ref y), (1, .int (nI i))]) S.1 S.2.1 dX8_lotAt_15 rfl hl (by decide) rfl (fun ls hl => ?_)
      refine lv_aload_nN (pc := 16) S.1 S.2.1 dX8_lotAt_16 rfl (lv_at hl 0 rfl) ?_
      refine lv_ifnonnullN (pc := 17) S.1 S.2.1 dX8_lotAt_17 ?_
      exact hv_throw (pc := 20) (cls := "java/lang/IndexOutOfBoundsException") (text := "there is no such lot") (ik := 238) (is := 243) (ic := 242) S hfl (by decide +kernel) tw_133 tw_10 hX.tx243 atIOOBE hX hne hlocks hH hS (⟨rfl, rfl, fun j a h1 h2 h3 => by have e := jI_inj h1 (by omega) (by omega); rw [← e, hf] at h3; cases h3⟩) hl.1 dX8_lotAt_20 dX8_lotAt_23 dX8_lotAt_24 dX8_lotAt_26 dX8_lotAt_29 (Nat.le_of_ble_eq_true rfl) (Nat.le_of_ble_eq_true rfl) (Nat.le_of_ble_eq_true rfl) (Nat.le_of_ble_eq_true rfl) (Nat.le_of_ble_eq_true rfl) (Nat.le_of_ble_eq_true rfl)
    · skip
      refine hv_tv (y := .ref a) rfl ?_
      refine lv_astore_n (pc := 15) (lv' := [(2, .ref a), (0, .ref y), (1, .int (nI i))]) S.1 S.2.1 dX8_lotAt_15 rfl hl (by decide) rfl (fun ls hl => ?_)
      refine lv_aload_n (pc := 16) S.1 S.2.1 dX8_lotAt_16 rfl (lv_at hl 0 rfl) ?_
      refine lv_ifnonnull (pc := 17) (tgt := 30) S.1 S.2.1 dX8_lotAt_17 (by decide) ?_
      refine lv_aload_n (pc := 30) S.1 S.2.1 dX8_lotAt_30 rfl (lv_at hl 0 rfl) ?_
      exact vx_ret (hv_aret (pc := 31) S hr (Or.inl ⟨_, rfl⟩) (Or.inr ⟨_, rfl⟩) hlocks hH hS (⟨⟨i, a, rfl, hi, hf, rfl⟩, rfl⟩) (Nat.le_of_ble_eq_true rfl) (Nat.le_of_ble_eq_true rfl) dX8_lotAt_31)

set_option maxHeartbeats 4000000 in
set_option maxRecDepth 100000 in
/-- coneAt(number) -/
theorem c_coneAt (l : Launch) (hfl : l.stackTraces = false) (D : va_G) (cA : Nat → ClassId) (ga : Nat → Nat → Nat) (φ : hpM) (sz : Nat) (y sb la ca ha ba hd nl nc nh nb dy : Nat) (x : Int32) (f : Nat → Option Nat) (f0 : φ y = some (.inr (12, [.ref sb, .ref la, .ref ca, .ref ha, .ref ba, .ref hd, .int (nI nl), .int (nI nc), .int (nI nh), .int (nI nb), .int (nI dy)]))) (f1 : φ ca = some (.inl (cA 5, 12, .inr (.inr (.inr (.inr (f))))))) : hMX l yX8_coneAt cX8_coneAt 3 (some (.object "HatbandYard$Cone")) { frames := 9, cells := 2, slots := 12, locals := 260 } [.ref y, .int (x)] D cA ga φ sz (fun v φ' => (∃ i a : Nat, x = nI i ∧ i < 12 ∧ f i = some a ∧ v = some (.ref a)) ∧ φ' = φ) (fun E φ' => E = "java/lang/IndexOutOfBoundsException" ∧ φ' = φ ∧ ∀ i a : Nat, x = nI i → i < 12 → f i ≠ some a) 2 12 := by
  refine hMX.of (by decide) (Nat.le_of_ble_eq_true rfl) rfl ?_
  intro p e s m args below meth c ls H locs S hr hlocks hne hsz hHz hH hK hX hS hA hl
  refine lv_iload_n (pc := 0) S.1 S.2.1 dX8_coneAt_0 rfl (lv_at hl 1 rfl) ?_
  refine lv_aload_n (pc := 1) S.1 S.2.1 dX8_coneAt_1 rfl (lv_at hl 0 rfl) ?_
  refine hv_get (pc := 2) (C := RX8) (T := TX8) (N := 11) (ref := RX8) S uwX8 hK hH f0 rfl 2 (by decide) tw_90 (fun _ h9 => h9) rfl dX8_coneAt_2 ?_
  refine hv_alen (pc := 5) (v := nI 12) S hK hH 5 f1 rfl rfl dX8_coneAt_5 ?_
  refine hv_callX (pc := 6) (vx_runS (As := [.int (x), .int (nI 12)]) (rest := []) S (c_refuseNoSuch l hfl D cA ga φ H.size x 12) (va_cwS 2 S.2.2.2.2 (gS tw_130 tw_131 tw_1 tw_132) rfl rfl rfl (by decide +kernel) ⟨Nat.le_of_ble_eq_true rfl, Nat.le_of_ble_eq_true rfl⟩) (pre0_S hH hK hX hS hA) rfl rfl hl.1 rfl (lv_room (Nat.le_of_ble_eq_true rfl)) dX8_coneAt_6 ⟨Nat.le_of_ble_eq_true rfl, Nat.le_of_ble_eq_true rfl⟩) hS (af_le hH hS hA) (fun E ce q9 φ_2x H locs hx hH hS hce hcv hcl => ?_) (fun v_1 φ_2 H locs hw_v_1 hH hS => ?_)
  · skip
    exact hv_out hne hlocks hce hcv hcl hH hS (⟨hx.1, hx.2.1, fun i a h1 h2 _ => hx.2.2 (by rw [h1]; exact (inN_nI (by omega) (by omega)).mpr h2)⟩) (Nat.le_of_ble_eq_true rfl) (Nat.le_of_ble_eq_true rfl)
  · skip
    obtain ⟨rfl, hp9, hin9⟩ := hw_v_1
    rw [hp9] at hH
    obtain ⟨i, rfl, hi⟩ := hin9.nat (by omega)
    refine lv_aload_n (pc := 9) S.1 S.2.1 dX8_coneAt_9 rfl (lv_at hl 0 rfl) ?_
    refine hv_get (pc := 10) (C := RX8) (T := TX8) (N := 11) (ref := RX8) S uwX8 hK hH f0 rfl 2 (by decide) tw_90 (fun _ h9 => h9) rfl dX8_coneAt_10 ?_
    refine lv_iload_n (pc := 13) S.1 S.2.1 dX8_coneAt_13 rfl (lv_at hl 1 rfl) ?_
    refine hv_aald (pc := 14) S hK hH 5 f1 rfl (vp_in_nI hi (by omega)) dX8_coneAt_14 ?_
    refine hv_tv (y := va_rf (f i)) (by rw [nI_clamp (by omega)]) ?_
    rcases hf : f i with _ | a
    · skip
      refine hv_tv (y := .null) rfl ?_
      refine lv_astore_nN (pc := 15) (lv' := [(2, .null), (0, .ref y), (1, .int (nI i))]) S.1 S.2.1 dX8_coneAt_15 rfl hl (by decide) rfl (fun ls hl => ?_)
      refine lv_aload_nN (pc := 16) S.1 S.2.1 dX8_coneAt_16 rfl (lv_at hl 0 rfl) ?_
      refine lv_ifnonnullN (pc := 17) S.1 S.2.1 dX8_coneAt_17 ?_
      exact hv_throw (pc := 20) (cls := "java/lang/IndexOutOfBoundsException") (text := "there is no such cone") (ik := 238) (is := 245) (ic := 242) S hfl (by decide +kernel) tw_133 tw_10 hX.tx245 atIOOBE hX hne hlocks hH hS (⟨rfl, rfl, fun j a h1 h2 h3 => by have e := jI_inj h1 (by omega) (by omega); rw [← e, hf] at h3; cases h3⟩) hl.1 dX8_coneAt_20 dX8_coneAt_23 dX8_coneAt_24 dX8_coneAt_26 dX8_coneAt_29 (Nat.le_of_ble_eq_true rfl) (Nat.le_of_ble_eq_true rfl) (Nat.le_of_ble_eq_true rfl) (Nat.le_of_ble_eq_true rfl) (Nat.le_of_ble_eq_true rfl) (Nat.le_of_ble_eq_true rfl)
    · skip
      refine hv_tv (y := .ref a) rfl ?_
      refine lv_astore_n (pc := 15) (lv' := [(2, .ref a), (0, .ref y), (1, .int (nI i))]) S.1 S.2.1 dX8_coneAt_15 rfl hl (by decide) rfl (fun ls hl => ?_)
      refine lv_aload_n (pc := 16) S.1 S.2.1 dX8_coneAt_16 rfl (lv_at hl 0 rfl) ?_
      refine lv_ifnonnull (pc := 17) (tgt := 30) S.1 S.2.1 dX8_coneAt_17 (by decide) ?_
      refine lv_aload_n (pc := 30) S.1 S.2.1 dX8_coneAt_30 rfl (lv_at hl 0 rfl) ?_
      exact vx_ret (hv_aret (pc := 31) S hr (Or.inl ⟨_, rfl⟩) (Or.inr ⟨_, rfl⟩) hlocks hH hS (⟨⟨i, a, rfl, hi, hf, rfl⟩, rfl⟩) (Nat.le_of_ble_eq_true rfl) (Nat.le_of_ble_eq_true rfl) dX8_coneAt_31)

set_option maxHeartbeats 4000000 in
set_option maxRecDepth 100000 in
/-- handAt(number) -/
theorem c_handAt (l : Launch) (hfl : l.stackTraces = false) (D : va_G) (cA : Nat → ClassId) (ga : Nat → Nat → Nat) (φ : hpM) (sz : Nat) (y sb la ca ha ba hd nl nc nh nb dy : Nat) (x : Int32) (f : Nat → Option Nat) (f0 : φ y = some (.inr (12, [.ref sb, .ref la, .ref ca, .ref ha, .ref ba, .ref hd, .int (nI nl), .int (nI nc), .int (nI nh), .int (nI nb), .int (nI dy)]))) (f1 : φ ha = some (.inl (cA 6, 6, .inr (.inr (.inr (.inr (f))))))) : hMX l yX8_handAt cX8_handAt 3 (some (.object "HatbandYard$Hand")) { frames := 9, cells := 2, slots := 12, locals := 260 } [.ref y, .int (x)] D cA ga φ sz (fun v φ' => (∃ i a : Nat, x = nI i ∧ i < 6 ∧ f i = some a ∧ v = some (.ref a)) ∧ φ' = φ) (fun E φ' => E = "java/lang/IndexOutOfBoundsException" ∧ φ' = φ ∧ ∀ i a : Nat, x = nI i → i < 6 → f i ≠ some a) 2 12 := by
  refine hMX.of (by decide) (Nat.le_of_ble_eq_true rfl) rfl ?_
  intro p e s m args below meth c ls H locs S hr hlocks hne hsz hHz hH hK hX hS hA hl
  refine lv_iload_n (pc := 0) S.1 S.2.1 dX8_handAt_0 rfl (lv_at hl 1 rfl) ?_
  refine lv_aload_n (pc := 1) S.1 S.2.1 dX8_handAt_1 rfl (lv_at hl 0 rfl) ?_
  refine hv_get (pc := 2) (C := RX8) (T := TX8) (N := 11) (ref := RX8) S uwX8 hK hH f0 rfl 3 (by decide) tw_91 (fun _ h9 => h9) rfl dX8_handAt_2 ?_
  refine hv_alen (pc := 5) (v := nI 6) S hK hH 6 f1 rfl rfl dX8_handAt_5 ?_
  refine hv_callX (pc := 6) (vx_runS (As := [.int (x), .int (nI 6)]) (rest := []) S (c_refuseNoSuch l hfl D cA ga φ H.size x 6) (va_cwS 2 S.2.2.2.2 (gS tw_130 tw_131 tw_1 tw_132) rfl rfl rfl (by decide +kernel) ⟨Nat.le_of_ble_eq_true rfl, Nat.le_of_ble_eq_true rfl⟩) (pre0_S hH hK hX hS hA) rfl rfl hl.1 rfl (lv_room (Nat.le_of_ble_eq_true rfl)) dX8_handAt_6 ⟨Nat.le_of_ble_eq_true rfl, Nat.le_of_ble_eq_true rfl⟩) hS (af_le hH hS hA) (fun E ce q9 φ_2x H locs hx hH hS hce hcv hcl => ?_) (fun v_1 φ_2 H locs hw_v_1 hH hS => ?_)
  · skip
    exact hv_out hne hlocks hce hcv hcl hH hS (⟨hx.1, hx.2.1, fun i a h1 h2 _ => hx.2.2 (by rw [h1]; exact (inN_nI (by omega) (by omega)).mpr h2)⟩) (Nat.le_of_ble_eq_true rfl) (Nat.le_of_ble_eq_true rfl)
  · skip
    obtain ⟨rfl, hp9, hin9⟩ := hw_v_1
    rw [hp9] at hH
    obtain ⟨i, rfl, hi⟩ := hin9.nat (by omega)
    refine lv_aload_n (pc := 9) S.1 S.2.1 dX8_handAt_9 rfl (lv_at hl 0 rfl) ?_
    refine hv_get (pc := 10) (C := RX8) (T := TX8) (N := 11) (ref := RX8) S uwX8 hK hH f0 rfl 3 (by decide) tw_91 (fun _ h9 => h9) rfl dX8_handAt_10 ?_
    refine lv_iload_n (pc := 13) S.1 S.2.1 dX8_handAt_13 rfl (lv_at hl 1 rfl) ?_
    refine hv_aald (pc := 14) S hK hH 6 f1 rfl (vp_in_nI hi (by omega)) dX8_handAt_14 ?_
    refine hv_tv (y := va_rf (f i)) (by rw [nI_clamp (by omega)]) ?_
    rcases hf : f i with _ | a
    · skip
      refine hv_tv (y := .null) rfl ?_
      refine lv_astore_nN (pc := 15) (lv' := [(2, .null), (0, .ref y), (1, .int (nI i))]) S.1 S.2.1 dX8_handAt_15 rfl hl (by decide) rfl (fun ls hl => ?_)
      refine lv_aload_nN (pc := 16) S.1 S.2.1 dX8_handAt_16 rfl (lv_at hl 0 rfl) ?_
      refine lv_ifnonnullN (pc := 17) S.1 S.2.1 dX8_handAt_17 ?_
      exact hv_throw (pc := 20) (cls := "java/lang/IndexOutOfBoundsException") (text := "there is no such hand") (ik := 238) (is := 247) (ic := 242) S hfl (by decide +kernel) tw_133 tw_10 hX.tx247 atIOOBE hX hne hlocks hH hS (⟨rfl, rfl, fun j a h1 h2 h3 => by have e := jI_inj h1 (by omega) (by omega); rw [← e, hf] at h3; cases h3⟩) hl.1 dX8_handAt_20 dX8_handAt_23 dX8_handAt_24 dX8_handAt_26 dX8_handAt_29 (Nat.le_of_ble_eq_true rfl) (Nat.le_of_ble_eq_true rfl) (Nat.le_of_ble_eq_true rfl) (Nat.le_of_ble_eq_true rfl) (Nat.le_of_ble_eq_true rfl) (Nat.le_of_ble_eq_true rfl)
    · skip
      refine hv_tv (y := .ref a) rfl ?_
      refine lv_astore_n (pc := 15) (lv' := [(2, .ref a), (0, .ref y), (1, .int (nI i))]) S.1 S.2.1 dX8_handAt_15 rfl hl (by decide) rfl (fun ls hl => ?_)
      refine lv_aload_n (pc := 16) S.1 S.2.1 dX8_handAt_16 rfl (lv_at hl 0 rfl) ?_
      refine lv_ifnonnull (pc := 17) (tgt := 30) S.1 S.2.1 dX8_handAt_17 (by decide) ?_
      refine lv_aload_n (pc := 30) S.1 S.2.1 dX8_handAt_30 rfl (lv_at hl 0 rfl) ?_
      exact vx_ret (hv_aret (pc := 31) S hr (Or.inl ⟨_, rfl⟩) (Or.inr ⟨_, rfl⟩) hlocks hH hS (⟨⟨i, a, rfl, hi, hf, rfl⟩, rfl⟩) (Nat.le_of_ble_eq_true rfl) (Nat.le_of_ble_eq_true rfl) dX8_handAt_31)

set_option maxHeartbeats 4000000 in
set_option maxRecDepth 100000 in
/-- blockAt(number) -/
theorem c_blockAt (l : Launch) (hfl : l.stackTraces = false) (D : va_G) (cA : Nat → ClassId) (ga : Nat → Nat → Nat) (φ : hpM) (sz : Nat) (y sb la ca ha ba hd nl nc nh nb dy : Nat) (x : Int32) (f : Nat → Option Nat) (f0 : φ y = some (.inr (12, [.ref sb, .ref la, .ref ca, .ref ha, .ref ba, .ref hd, .int (nI nl), .int (nI nc), .int (nI nh), .int (nI nb), .int (nI dy)]))) (f1 : φ ba = some (.inl (cA 4, 8, .inr (.inr (.inr (.inr (f))))))) : hMX l yX8_blockAt cX8_blockAt 3 (some (.object "HatbandYard$Block")) { frames := 9, cells := 2, slots := 12, locals := 260 } [.ref y, .int (x)] D cA ga φ sz (fun v φ' => (∃ i a : Nat, x = nI i ∧ i < 8 ∧ f i = some a ∧ v = some (.ref a)) ∧ φ' = φ) (fun E φ' => E = "java/lang/IndexOutOfBoundsException" ∧ φ' = φ ∧ ∀ i a : Nat, x = nI i → i < 8 → f i ≠ some a) 2 12 := by
  refine hMX.of (by decide) (Nat.le_of_ble_eq_true rfl) rfl ?_
  intro p e s m args below meth c ls H locs S hr hlocks hne hsz hHz hH hK hX hS hA hl
  refine lv_iload_n (pc := 0) S.1 S.2.1 dX8_blockAt_0 rfl (lv_at hl 1 rfl) ?_
  refine lv_aload_n (pc := 1) S.1 S.2.1 dX8_blockAt_1 rfl (lv_at hl 0 rfl) ?_
  refine hv_get (pc := 2) (C := RX8) (T := TX8) (N := 11) (ref := RX8) S uwX8 hK hH f0 rfl 4 (by decide) tw_92 (fun _ h9 => h9) rfl dX8_blockAt_2 ?_
  refine hv_alen (pc := 5) (v := nI 8) S hK hH 4 f1 rfl rfl dX8_blockAt_5 ?_
  refine hv_callX (pc := 6) (vx_runS (As := [.int (x), .int (nI 8)]) (rest := []) S (c_refuseNoSuch l hfl D cA ga φ H.size x 8) (va_cwS 2 S.2.2.2.2 (gS tw_130 tw_131 tw_1 tw_132) rfl rfl rfl (by decide +kernel) ⟨Nat.le_of_ble_eq_true rfl, Nat.le_of_ble_eq_true rfl⟩) (pre0_S hH hK hX hS hA) rfl rfl hl.1 rfl (lv_room (Nat.le_of_ble_eq_true rfl)) dX8_blockAt_6 ⟨Nat.le_of_ble_eq_true rfl, Nat.le_of_ble_eq_true rfl⟩) hS (af_le hH hS hA) (fun E ce q9 φ_2x H locs hx hH hS hce hcv hcl => ?_) (fun v_1 φ_2 H locs hw_v_1 hH hS => ?_)
  · skip
    exact hv_out hne hlocks hce hcv hcl hH hS (⟨hx.1, hx.2.1, fun i a h1 h2 _ => hx.2.2 (by rw [h1]; exact (inN_nI (by omega) (by omega)).mpr h2)⟩) (Nat.le_of_ble_eq_true rfl) (Nat.le_of_ble_eq_true rfl)
  · skip
    obtain ⟨rfl, hp9, hin9⟩ := hw_v_1
    rw [hp9] at hH
    obtain ⟨i, rfl, hi⟩ := hin9.nat (by omega)
    refine lv_aload_n (pc := 9) S.1 S.2.1 dX8_blockAt_9 rfl (lv_at hl 0 rfl) ?_
    refine hv_get (pc := 10) (C := RX8) (T := TX8) (N := 11) (ref := RX8) S uwX8 hK hH f0 rfl 4 (by decide) tw_92 (fun _ h9 => h9) rfl dX8_blockAt_10 ?_
    refine lv_iload_n (pc := 13) S.1 S.2.1 dX8_blockAt_13 rfl (lv_at hl 1 rfl) ?_
    refine hv_aald (pc := 14) S hK hH 4 f1 rfl (vp_in_nI hi (by omega)) dX8_blockAt_14 ?_
    refine hv_tv (y := va_rf (f i)) (by rw [nI_clamp (by omega)]) ?_
    rcases hf : f i with _ | a
    · skip
      refine hv_tv (y := .null) rfl ?_
      refine lv_astore_nN (pc := 15) (lv' := [(2, .null), (0, .ref y), (1, .int (nI i))]) S.1 S.2.1 dX8_blockAt_15 rfl hl (by decide) rfl (fun ls hl => ?_)
      refine lv_aload_nN (pc := 16) S.1 S.2.1 dX8_blockAt_16 rfl (lv_at hl 0 rfl) ?_
      refine lv_ifnonnullN (pc := 17) S.1 S.2.1 dX8_blockAt_17 ?_
      exact hv_throw (pc := 20) (cls := "java/lang/IndexOutOfBoundsException") (text := "there is no such block") (ik := 238) (is := 249) (ic := 242) S hfl (by decide +kernel) tw_133 tw_10 hX.tx249 atIOOBE hX hne hlocks hH hS (⟨rfl, rfl, fun j a h1 h2 h3 => by have e := jI_inj h1 (by omega) (by omega); rw [← e, hf] at h3; cases h3⟩) hl.1 dX8_blockAt_20 dX8_blockAt_23 dX8_blockAt_24 dX8_blockAt_26 dX8_blockAt_29 (Nat.le_of_ble_eq_true rfl) (Nat.le_of_ble_eq_true rfl) (Nat.le_of_ble_eq_true rfl) (Nat.le_of_ble_eq_true rfl) (Nat.le_of_ble_eq_true rfl) (Nat.le_of_ble_eq_true rfl)
    · skip
      refine hv_tv (y := .ref a) rfl ?_
      refine lv_astore_n (pc := 15) (lv' := [(2, .ref a), (0, .ref y), (1, .int (nI i))]) S.1 S.2.1 dX8_blockAt_15 rfl hl (by decide) rfl (fun ls hl => ?_)
      refine lv_aload_n (pc := 16) S.1 S.2.1 dX8_blockAt_16 rfl (lv_at hl 0 rfl) ?_
      refine lv_ifnonnull (pc := 17) (tgt := 30) S.1 S.2.1 dX8_blockAt_17 (by decide) ?_
      refine lv_aload_n (pc := 30) S.1 S.2.1 dX8_blockAt_30 rfl (lv_at hl 0 rfl) ?_
      exact vx_ret (hv_aret (pc := 31) S hr (Or.inl ⟨_, rfl⟩) (Or.inr ⟨_, rfl⟩) hlocks hH hS (⟨⟨i, a, rfl, hi, hf, rfl⟩, rfl⟩) (Nat.le_of_ble_eq_true rfl) (Nat.le_of_ble_eq_true rfl) dX8_blockAt_31)

/-- is the text i what is typed? -/
def isT (g : Nat → Nat) (k i : Nat) : Nat := if (List.range k).map g = wdT i then 1 else 0
theorem isT_of {g : Nat → Nat} {k i : Nat} (hk : k = (wdT i).length) (h : ∀ j, j < k → g j = (wdT i).getD j 0) : isT g k i = 1 := by
  unfold isT
  rw [if_pos]
  refine List.ext_getElem (by simp [hk]) fun j h1 h2 => ?_
  simp only [List.getElem_map, List.getElem_range]
  rw [h j (by simpa using h1), List.getD_eq_getElem?_getD, List.getElem?_eq_getElem h2]
  rfl
theorem isT_len {g : Nat → Nat} {k i : Nat} (hk : k ≠ (wdT i).length) : isT g k i = 0 := by
  unfold isT
  rw [if_neg]
  intro h
  apply hk
  rw [← h]; simp
theorem isT_at {g : Nat → Nat} {k i j : Nat} (hj : j < k) (h : g j ≠ (wdT i).getD j 0) : isT g k i = 0 := by
  unfold isT
  rw [if_neg]
  intro e
  apply h
  rw [← e, List.getD_eq_getElem?_getD, List.getElem?_eq_getElem (by simpa using hj)]
  simp
theorem isT_le (g : Nat → Nat) (k i : Nat) : isT g k i < 2 := by
  unfold isT
  split <;> omega
def fiF (off : Nat) (g : Nat → Nat) (k : Nat) : Nat → Nat → Option Nat
  | 0, _ => none
  | n + 1, j => if isT g k (off + j) = 1 then some j else fiF off g k n (j + 1)
set_option maxHeartbeats 4000000 in
set_option maxRecDepth 100000 in
/-- isTyped(word) -/
theorem c_isTyped (l : Launch) (D : va_G) (cA : Nat → ClassId) (ga : Nat → Nat → Nat) (φ : hpM) (sz : Nat) (y sb la ca ha ba hd nl nc nh nb dy : Nat) (bq ml k : Nat) (g : Nat → Nat) (i : Nat) (f0 : φ y = some (.inr (12, [.ref sb, .ref la, .ref ca, .ref ha, .ref ba, .ref hd, .int (nI nl), .int (nI nc), .int (nI nh), .int (nI nb), .int (nI dy)]))) (f1 : φ sb = some (.inr (1, [.ref bq, .int (nI 0), .int (nI ml), .int (nI k)]))) (f2 : φ bq = some (.inl (cA 0, 16, .inl (fun j => nI (g j))))) (hk : k ≤ 7) (hg : ∀ j, j < k → g j < 128) (h11 : i < 11) : hM l yX8_isTyped cX8_isTyped 3 (some .boolean) { frames := 12, cells := 0, slots := 0, locals := 440 } [.ref y, .ref (ga 3 i)] D cA ga φ sz (fun v φ' => v = some (.int (nI (isT g k i))) ∧ φ' = φ) 0 0 := by
  refine hM.of (by decide) (Nat.le_of_ble_eq_true rfl) rfl ?_
  intro p e s m args below meth c ls H locs S hr hlocks hnm hsz hHz hH hK hX hS hA hl
  have hw8 := wd_len i h11
  refine lv_aload_n (pc := 0) S.1 S.2.1 dX8_isTyped_0 rfl (lv_at hl 0 rfl) ?_
  refine hv_get (pc := 1) (C := RX8) (T := TX8) (N := 11) (ref := RX8) S uwX8 hK hH f0 rfl 0 (by decide) tw_88 (fun _ h9 => h9) rfl dX8_isTyped_1 ?_
  refine hv_call (pc := 4) (va_runV (As := []) (rest := []) S (c_SBLength l D cA ga φ H.size sb bq ml k g f1) (cwV 0 S.2.2.2.2 (gV tw_271 tw_272 tw_273 tw_3 tw_274) rfl rfl rfl (by decide +kernel) ⟨Nat.le_of_ble_eq_true rfl, Nat.le_of_ble_eq_true rfl⟩) (pre0_V hH hK hX hS hA (hH.recv hK f1 rfl)) rfl rfl hl.1 rfl (lv_room (Nat.le_of_ble_eq_true rfl)) dX8_isTyped_4 ⟨Nat.le_of_ble_eq_true rfl, Nat.le_of_ble_eq_true rfl⟩) hS (af_le hH hS hA) (fun v_1 φ_2 H locs hw_v_1 hH hS => ?_)
  obtain ⟨rfl, hqv_1⟩ := hw_v_1
  rw [hqv_1] at hH
  refine lv_aload_n (pc := 7) S.1 S.2.1 dX8_isTyped_7 rfl (lv_at hl 1 rfl) ?_
  refine hv_call (pc := 8) (va_runV (As := []) (rest := [.int (nI k)]) S (c_StrLength l D cA ga φ H.size i h11) (cwV 0 S.2.2.2.2 (gV tw_406 tw_407 tw_408 tw_4 tw_409) rfl rfl rfl (by decide +kernel) ⟨Nat.le_of_ble_eq_true rfl, Nat.le_of_ble_eq_true rfl⟩) (pre0_V hH hK hX hS hA (o_recv (hX.words i h11).1 hS)) rfl rfl hl.1 rfl (lv_room (Nat.le_of_ble_eq_true rfl)) dX8_isTyped_8 ⟨Nat.le_of_ble_eq_true rfl, Nat.le_of_ble_eq_true rfl⟩) hS (af_le hH hS hA) (fun v_3 φ_4 H locs hw_v_3 hH hS => ?_)
  obtain ⟨rfl, hqv_3⟩ := hw_v_3
  rw [hqv_3] at hH
  refine hv_icmp_eq (pc := 11) (tgt := 16) (a := k) (b := (wdT i).length) S.1 S.2.1 (by omega) (by omega) dX8_isTyped_11 (by decide) (fun c_5 => ?_) (fun c_5 => ?_)
  · skip
    refine lv_iconst (pc := 16) (v := nI 0) S.1 S.2.1 dX8_isTyped_16 (by decide) ?_
    refine lv_istore_n (pc := 17) (lv' := [(2, .int (nI 0)), (0, .ref y), (1, .ref (ga 3 i))]) S.1 S.2.1 dX8_isTyped_17 rfl hl (by decide) rfl (fun ls hl => ?_)
    have hg : ∃ (n j : Nat), (j + n = k ∧ ∀ j2, j2 < j → g j2 = (wdT i).getD j2 0) ∧ lv_has ls 3 [(0, .ref y), (1, .ref (ga 3 i)), (2, .int (nI j))] := ⟨k, 0, ⟨by omega, fun _ h => absurd h (Nat.not_lt_zero _)⟩, lv_sub hl [1, 2, 0] rfl⟩
    clear hl
    try clear hHz
    obtain ⟨n, j, hi, hl⟩ := hg
    induction n generalizing ls H locs j with
    | zero =>
      obtain ⟨hj9, hall⟩ := hi
      obtain rfl : j = k := by omega
      refine lv_iload_n (pc := 18) S.1 S.2.1 dX8_isTyped_18 rfl (lv_at hl 2 rfl) ?_
      refine lv_aload_n (pc := 19) S.1 S.2.1 dX8_isTyped_19 rfl (lv_at hl 1 rfl) ?_
      refine hv_call (pc := 20) (va_runV (As := []) (rest := [.int (nI j)]) S (c_StrLength l D cA ga φ H.size i h11) (cwV 0 S.2.2.2.2 (gV tw_406 tw_407 tw_408 tw_4 tw_409) rfl rfl rfl (by decide +kernel) ⟨Nat.le_of_ble_eq_true rfl, Nat.le_of_ble_eq_true rfl⟩) (pre0_V hH hK hX hS hA (o_recv (hX.words i h11).1 hS)) rfl rfl hl.1 rfl (lv_room (Nat.le_of_ble_eq_true rfl)) dX8_isTyped_20 ⟨Nat.le_of_ble_eq_true rfl, Nat.le_of_ble_eq_true rfl⟩) hS (af_le hH hS hA) (fun v_6 φ_7 H locs hw_v_6 hH hS => ?_)
      obtain ⟨rfl, hqv_6⟩ := hw_v_6
      rw [hqv_6] at hH
      refine hv_icmp_ge (pc := 23) (tgt := 50) (a := j) (b := (wdT i).length) S.1 S.2.1 (by omega) (by omega) dX8_isTyped_23 (by decide) (fun c_8 => ?_) (fun c_8 => ?_)
      · skip
        refine lv_iconst (pc := 50) (v := nI 1) S.1 S.2.1 dX8_isTyped_50 (by decide) ?_
        exact hv_ret (pc := 51) (v := nI 1) S hr rfl hlocks hH hS (⟨by rw [isT_of c_5 hall], rfl⟩) (Nat.le_of_ble_eq_true rfl) (Nat.le_of_ble_eq_true rfl) dX8_isTyped_51
      · skip
        exact absurd c_8 (by omega)
    | succ n ih =>
      obtain ⟨hj9, hall⟩ := hi
      refine lv_iload_n (pc := 18) S.1 S.2.1 dX8_isTyped_18 rfl (lv_at hl 2 rfl) ?_
      refine lv_aload_n (pc := 19) S.1 S.2.1 dX8_isTyped_19 rfl (lv_at hl 1 rfl) ?_
      refine hv_call (pc := 20) (va_runV (As := []) (rest := [.int (nI j)]) S (c_StrLength l D cA ga φ H.size i h11) (cwV 0 S.2.2.2.2 (gV tw_406 tw_407 tw_408 tw_4 tw_409) rfl rfl rfl (by decide +kernel) ⟨Nat.le_of_ble_eq_true rfl, Nat.le_of_ble_eq_true rfl⟩) (pre0_V hH hK hX hS hA (o_recv (hX.words i h11).1 hS)) rfl rfl hl.1 rfl (lv_room (Nat.le_of_ble_eq_true rfl)) dX8_isTyped_20 ⟨Nat.le_of_ble_eq_true rfl, Nat.le_of_ble_eq_true rfl⟩) hS (af_le hH hS hA) (fun v_9 φ_10 H locs hw_v_9 hH hS => ?_)
      obtain ⟨rfl, hqv_9⟩ := hw_v_9
      rw [hqv_9] at hH
      refine hv_icmp_ge (pc := 23) (tgt := 50) (a := j) (b := (wdT i).length) S.1 S.2.1 (by omega) (by omega) dX8_isTyped_23 (by decide) (fun c_11 => ?_) (fun c_11 => ?_)
      · skip
        exact absurd c_11 (by omega)
      · skip
        have hc1 := hg j (by omega)
        have hc2 := wd_lt i h11 j (by omega)
        refine lv_aload_n (pc := 26) S.1 S.2.1 dX8_isTyped_26 rfl (lv_at hl 0 rfl) ?_
        refine hv_get (pc := 27) (C := RX8) (T := TX8) (N := 11) (ref := RX8) S uwX8 hK hH f0 rfl 0 (by decide) tw_88 (fun _ h9 => h9) rfl dX8_isTyped_27 ?_
        refine lv_iload_n (pc := 30) S.1 S.2.1 dX8_isTyped_30 rfl (lv_at hl 2 rfl) ?_
        refine hv_call (pc := 31) (va_runV (As := [.int (nI j)]) (rest := []) S (c_SBCharAt l D cA ga φ H.size sb bq ml k g j f1 f2 (by omega) (by omega) hc1) (cwV 1 S.2.2.2.2 (gV tw_415 tw_416 tw_417 tw_3 tw_418) rfl rfl rfl (by decide +kernel) ⟨Nat.le_of_ble_eq_true rfl, Nat.le_of_ble_eq_true rfl⟩) (pre0_V hH hK hX hS hA (hH.recv hK f1 rfl)) rfl rfl hl.1 rfl (lv_room (Nat.le_of_ble_eq_true rfl)) dX8_isTyped_31 ⟨Nat.le_of_ble_eq_true rfl, Nat.le_of_ble_eq_true rfl⟩) hS (af_le hH hS hA) (fun v_12 φ_13 H locs hw_v_12 hH hS => ?_)
        obtain ⟨rfl, hqv_12⟩ := hw_v_12
        rw [hqv_12] at hH
        refine lv_aload_n (pc := 34) S.1 S.2.1 dX8_isTyped_34 rfl (lv_at hl 1 rfl) ?_
        refine lv_iload_n (pc := 35) S.1 S.2.1 dX8_isTyped_35 rfl (lv_at hl 2 rfl) ?_
        refine hv_call (pc := 36) (va_runV (As := [.int (nI j)]) (rest := [.int (nI (g j))]) S (c_StrCharAt l D cA ga φ H.size i j h11 (by omega)) (cwV 1 S.2.2.2.2 (gV tw_427 tw_428 tw_429 tw_4 tw_430) rfl rfl rfl (by decide +kernel) ⟨Nat.le_of_ble_eq_true rfl, Nat.le_of_ble_eq_true rfl⟩) (pre0_V hH hK hX hS hA (o_recv (hX.words i h11).1 hS)) rfl rfl hl.1 rfl (lv_room (Nat.le_of_ble_eq_true rfl)) dX8_isTyped_36 ⟨Nat.le_of_ble_eq_true rfl, Nat.le_of_ble_eq_true rfl⟩) hS (af_le hH hS hA) (fun v_14 φ_15 H locs hw_v_14 hH hS => ?_)
        obtain ⟨rfl, hqv_14⟩ := hw_v_14
        rw [hqv_14] at hH
        refine hv_icmp_eq (pc := 39) (tgt := 44) (a := g j) (b := (wdT i).getD j 0) S.1 S.2.1 (by omega) (by omega) dX8_isTyped_39 (by decide) (fun c_16 => ?_) (fun c_16 => ?_)
        · skip
          refine lv_iinc (pc := 44) (v := nI (j + 1)) (lv' := [(2, .int (nI (j + 1))), (0, .ref y), (1, .ref (ga 3 i))]) S.1 S.2.1 dX8_isTyped_44 hl (k := 2) rfl (by first | rfl | exact nI_add _ _) (by decide) rfl (fun ls hl => ?_)
          refine lv_goto (pc := 47) (tgt := 18) S.1 S.2.1 dX8_isTyped_47 (by decide) ?_
          have hi2 : (j + 1) + n = k ∧ ∀ j2, j2 < (j + 1) → g j2 = (wdT i).getD j2 0 := ⟨by omega, fun j2 h2 => by rcases Nat.lt_succ_iff_lt_or_eq.mp h2 with h | h; exact hall j2 h; rw [h]; exact c_16⟩
          have hl2 : lv_has ls 3 [(0, .ref y), (1, .ref (ga 3 i)), (2, .int (nI (j + 1)))] := lv_sub hl [1, 2, 0] rfl
          apply ih (j := j + 1) <;> assumption
        · skip
          refine lv_iconst (pc := 42) (v := nI 0) S.1 S.2.1 dX8_isTyped_42 (by decide) ?_
          exact hv_ret (pc := 43) (v := nI 0) S hr rfl hlocks hH hS (⟨by rw [isT_at (j := j) (by omega) c_16], rfl⟩) (Nat.le_of_ble_eq_true rfl) (Nat.le_of_ble_eq_true rfl) dX8_isTyped_43
  · skip
    refine lv_iconst (pc := 14) (v := nI 0) S.1 S.2.1 dX8_isTyped_14 (by decide) ?_
    exact hv_ret (pc := 15) (v := nI 0) S hr rfl hlocks hH hS (⟨by rw [isT_len c_5], rfl⟩) (Nat.le_of_ble_eq_true rfl) (Nat.le_of_ble_eq_true rfl) dX8_isTyped_15

set_option maxHeartbeats 4000000 in
set_option maxRecDepth 100000 in
/-- typedFur() -/
theorem c_typedFur (l : Launch) (D : va_G) (cA : Nat → ClassId) (ga : Nat → Nat → Nat) (φ : hpM) (sz : Nat) (y sb la ca ha ba hd nl nc nh nb dy : Nat) (bq ml k : Nat) (g : Nat → Nat) (f0 : φ y = some (.inr (12, [.ref sb, .ref la, .ref ca, .ref ha, .ref ba, .ref hd, .int (nI nl), .int (nI nc), .int (nI nh), .int (nI nb), .int (nI dy)]))) (f1 : φ sb = some (.inr (1, [.ref bq, .int (nI 0), .int (nI ml), .int (nI k)]))) (f2 : φ bq = some (.inl (cA 0, 16, .inl (fun j => nI (g j))))) (hk : k ≤ 7) (hg : ∀ j, j < k → g j < 128) : hM l yX8_typedFur cX8_typedFur 5 (some (.object "HatbandYard$Fur")) { frames := 13, cells := 0, slots := 0, locals := 500 } [.ref y] D cA ga φ sz (fun v φ' => v = some (va_rf ((fiF 0 g k 4 0).map (ga 0))) ∧ φ' = φ) 0 0 := by
  refine hM.of (by decide) (Nat.le_of_ble_eq_true rfl) rfl ?_
  intro p e s m args below meth c ls H locs S hr hlocks hnm hsz hHz hH hK hX hS hA hl
  refine va_gets (pc := 0) (ref := RX8) (index := 251) S.1 S.2.1 hX.z_FURS hS S.2.2.2.1 (S.2.2.2.2 _ tw_400) (fun _ h9 => h9) dX8_typedFur_0 ?_
  refine lv_astore_n (pc := 3) (lv' := [(1, .ref (ga 5 0)), (0, .ref y)]) S.1 S.2.1 dX8_typedFur_3 rfl hl (by decide) rfl (fun ls hl => ?_)
  refine lv_aload_n (pc := 4) S.1 S.2.1 dX8_typedFur_4 rfl (lv_at hl 0 rfl) ?_
  refine va_tlen (pc := 5) (v := nI 4) S.1 S.2.1 hX.t_FURS hS rfl dX8_typedFur_5 ?_
  refine lv_istore_n (pc := 6) (lv' := [(2, .int (nI 4)), (1, .ref (ga 5 0)), (0, .ref y)]) S.1 S.2.1 dX8_typedFur_6 rfl hl (by decide) rfl (fun ls hl => ?_)
  refine lv_iconst (pc := 7) (v := nI 0) S.1 S.2.1 dX8_typedFur_7 (by decide) ?_
  refine lv_istore_n (pc := 8) (lv' := [(3, .int (nI 0)), (2, .int (nI 4)), (1, .ref (ga 5 0)), (0, .ref y)]) S.1 S.2.1 dX8_typedFur_8 rfl hl (by decide) rfl (fun ls hl => ?_)
  have hg : ∃ (n j : Nat), (j + n = 4 ∧ fiF 0 g k 4 0 = fiF 0 g k n j) ∧ lv_has ls 5 [(0, .ref y), (1, .ref (ga 5 0)), (2, .int (nI 4)), (3, .int (nI j))] := ⟨4, 0, ⟨rfl, rfl⟩, lv_sub hl [3, 2, 1, 0] rfl⟩
  clear hl
  try clear hHz
  obtain ⟨n, j, hi, hl⟩ := hg
  induction n generalizing ls H locs j with
  | zero =>
    obtain ⟨hj9, hrc⟩ := hi
    refine lv_iload_n (pc := 9) S.1 S.2.1 dX8_typedFur_9 rfl (lv_at hl 3 rfl) ?_
    refine lv_iload_n (pc := 10) S.1 S.2.1 dX8_typedFur_10 rfl (lv_at hl 2 rfl) ?_
    refine hv_icmp_ge (pc := 11) (tgt := 40) (a := j) (b := 4) S.1 S.2.1 (by omega) (by omega) dX8_typedFur_11 (by decide) (fun c_1 => ?_) (fun c_1 => ?_)
    · skip
      refine lv_null (pc := 40) S.1 S.2.1 dX8_typedFur_40 ?_
      refine hv_tv (y := va_rf ((fiF 0 g k 4 0).map (ga 0))) (by rw [hrc]; rfl) ?_
      exact hv_aret (pc := 41) S hr (Or.inl ⟨_, rfl⟩) (by rw [hrc]; exact Or.inl rfl) hlocks hH hS (⟨rfl, rfl⟩) (Nat.le_of_ble_eq_true rfl) (Nat.le_of_ble_eq_true rfl) dX8_typedFur_41
    · skip
      exact absurd c_1 (by omega)
  | succ n ih =>
    obtain ⟨hj9, hrc⟩ := hi
    refine lv_iload_n (pc := 9) S.1 S.2.1 dX8_typedFur_9 rfl (lv_at hl 3 rfl) ?_
    refine lv_iload_n (pc := 10) S.1 S.2.1 dX8_typedFur_10 rfl (lv_at hl 2 rfl) ?_
    refine hv_icmp_ge (pc := 11) (tgt := 40) (a := j) (b := 4) S.1 S.2.1 (by omega) (by omega) dX8_typedFur_11 (by decide) (fun c_2 => ?_) (fun c_2 => ?_)
    · skip
      exact absurd c_2 (by omega)
    · skip
      refine lv_aload_n (pc := 14) S.1 S.2.1 dX8_typedFur_14 rfl (lv_at hl 1 rfl) ?_
      refine lv_iload_n (pc := 15) S.1 S.2.1 dX8_typedFur_15 rfl (lv_at hl 3 rfl) ?_
      refine vb_tq (pc := 16) (v := .ref (ga 0 j)) S.1 S.2.1 hX.t_FURS hS (vp_in_nI (show j < 4 by omega) (by omega)) (by rw [nI_clamp (by omega)]) dX8_typedFur_16 ?_
      refine lv_astore (pc := 17) (lv' := [(4, .ref (ga 0 j)), (0, .ref y), (1, .ref (ga 5 0)), (2, .int (nI 4)), (3, .int (nI j))]) S.1 S.2.1 dX8_typedFur_17 hl (by decide) rfl (fun ls hl => ?_)
      refine lv_aload_n (pc := 19) S.1 S.2.1 dX8_typedFur_19 rfl (lv_at hl 1 rfl) ?_
      refine lv_aload (pc := 20) S.1 S.2.1 dX8_typedFur_20 (lv_at hl 0 rfl) ?_
      refine hv_getXN (pc := 22) (i := j) (ref := RX3) (index := 255) (host := "HatbandYard") S hX.fur_word (by omega) hS (hX.nest _ (by decide +kernel)) (fun _ h9 => h9) dX8_typedFur_22 ?_
      refine hv_call (pc := 25) (va_runV (As := [.ref (ga 3 j)]) (rest := []) S (c_isTyped l D cA ga φ H.size y sb la ca ha ba hd nl nc nh nb dy bq ml k g (j) f0 f1 f2 hk hg (by omega)) (cwV 1 S.2.2.2.2 (gV tw_402 tw_404 sw_8 tw_1 tw_405) rfl rfl rfl (by decide +kernel) ⟨Nat.le_of_ble_eq_true rfl, Nat.le_of_ble_eq_true rfl⟩) (pre0_V hH hK hX hS hA (hH.recv hK f0 rfl)) rfl rfl hl.1 rfl (lv_room (Nat.le_of_ble_eq_true rfl)) dX8_typedFur_25 ⟨Nat.le_of_ble_eq_true rfl, Nat.le_of_ble_eq_true rfl⟩) hS (af_le hH hS hA) (fun v_3 φ_4 H locs hw_v_3 hH hS => ?_)
      obtain ⟨rfl, hqv_3⟩ := hw_v_3
      rw [hqv_3] at hH
      have hle := isT_le g k (j)
      refine hv_if_eq (pc := 28) (tgt := 34) (a := isT g k (j)) S.1 S.2.1 (by omega) dX8_typedFur_28 (by decide) (fun c_5 => ?_) (fun c_5 => ?_)
      · skip
        refine lv_iinc (pc := 34) (v := nI (j + 1)) (lv' := [(3, .int (nI (j + 1))), (4, .ref (ga 0 j)), (0, .ref y), (1, .ref (ga 5 0)), (2, .int (nI 4))]) S.1 S.2.1 dX8_typedFur_34 hl (k := 4) rfl (by first | rfl | exact nI_add _ _) (by decide) rfl (fun ls hl => ?_)
        refine lv_goto (pc := 37) (tgt := 9) S.1 S.2.1 dX8_typedFur_37 (by decide) ?_
        have hi2 : (j + 1) + n = 4 ∧ fiF 0 g k 4 0 = fiF 0 g k n (j + 1) := ⟨by omega, by rw [hrc, fiF, Nat.zero_add, if_neg (by omega)]⟩
        have hl2 : lv_has ls 5 [(0, .ref y), (1, .ref (ga 5 0)), (2, .int (nI 4)), (3, .int (nI (j + 1)))] := lv_sub hl [2, 3, 4, 0] rfl
        apply ih (j := j + 1) <;> assumption
      · skip
        refine lv_aload (pc := 31) S.1 S.2.1 dX8_typedFur_31 (lv_at hl 0 rfl) ?_
        refine hv_tv (y := va_rf ((fiF 0 g k 4 0).map (ga 0))) (by rw [hrc, fiF, Nat.zero_add, if_pos (by omega)]; rfl) ?_
        exact hv_aret (pc := 33) S hr (Or.inl ⟨_, rfl⟩) (by rw [hrc, fiF, Nat.zero_add, if_pos (by omega)]; exact Or.inr ⟨_, rfl⟩) hlocks hH hS (⟨rfl, rfl⟩) (Nat.le_of_ble_eq_true rfl) (Nat.le_of_ble_eq_true rfl) dX8_typedFur_33

set_option maxHeartbeats 4000000 in
set_option maxRecDepth 100000 in
/-- typedFeather() -/
theorem c_typedFeather (l : Launch) (D : va_G) (cA : Nat → ClassId) (ga : Nat → Nat → Nat) (φ : hpM) (sz : Nat) (y sb la ca ha ba hd nl nc nh nb dy : Nat) (bq ml k : Nat) (g : Nat → Nat) (f0 : φ y = some (.inr (12, [.ref sb, .ref la, .ref ca, .ref ha, .ref ba, .ref hd, .int (nI nl), .int (nI nc), .int (nI nh), .int (nI nb), .int (nI dy)]))) (f1 : φ sb = some (.inr (1, [.ref bq, .int (nI 0), .int (nI ml), .int (nI k)]))) (f2 : φ bq = some (.inl (cA 0, 16, .inl (fun j => nI (g j))))) (hk : k ≤ 7) (hg : ∀ j, j < k → g j < 128) : hM l yX8_typedFeather cX8_typedFeather 5 (some (.object "HatbandYard$Feather")) { frames := 13, cells := 0, slots := 0, locals := 500 } [.ref y] D cA ga φ sz (fun v φ' => v = some (va_rf ((fiF 4 g k 3 0).map (ga 1))) ∧ φ' = φ) 0 0 := by
  refine hM.of (by decide) (Nat.le_of_ble_eq_true rfl) rfl ?_
  intro p e s m args below meth c ls H locs S hr hlocks hnm hsz hHz hH hK hX hS hA hl
  refine va_gets (pc := 0) (ref := RX8) (index := 263) S.1 S.2.1 hX.z_FEATHERS hS S.2.2.2.1 (S.2.2.2.2 _ tw_784) (fun _ h9 => h9) dX8_typedFeather_0 ?_
  refine lv_astore_n (pc := 3) (lv' := [(1, .ref (ga 5 1)), (0, .ref y)]) S.1 S.2.1 dX8_typedFeather_3 rfl hl (by decide) rfl (fun ls hl => ?_)
  refine lv_aload_n (pc := 4) S.1 S.2.1 dX8_typedFeather_4 rfl (lv_at hl 0 rfl) ?_
  refine va_tlen (pc := 5) (v := nI 3) S.1 S.2.1 hX.t_FEATHERS hS rfl dX8_typedFeather_5 ?_
  refine lv_istore_n (pc := 6) (lv' := [(2, .int (nI 3)), (1, .ref (ga 5 1)), (0, .ref y)]) S.1 S.2.1 dX8_typedFeather_6 rfl hl (by decide) rfl (fun ls hl => ?_)
  refine lv_iconst (pc := 7) (v := nI 0) S.1 S.2.1 dX8_typedFeather_7 (by decide) ?_
  refine lv_istore_n (pc := 8) (lv' := [(3, .int (nI 0)), (2, .int (nI 3)), (1, .ref (ga 5 1)), (0, .ref y)]) S.1 S.2.1 dX8_typedFeather_8 rfl hl (by decide) rfl (fun ls hl => ?_)
  have hg : ∃ (n j : Nat), (j + n = 3 ∧ fiF 4 g k 3 0 = fiF 4 g k n j) ∧ lv_has ls 5 [(0, .ref y), (1, .ref (ga 5 1)), (2, .int (nI 3)), (3, .int (nI j))] := ⟨3, 0, ⟨rfl, rfl⟩, lv_sub hl [3, 2, 1, 0] rfl⟩
  clear hl
  try clear hHz
  obtain ⟨n, j, hi, hl⟩ := hg
  induction n generalizing ls H locs j with
  | zero =>
    obtain ⟨hj9, hrc⟩ := hi
    refine lv_iload_n (pc := 9) S.1 S.2.1 dX8_typedFeather_9 rfl (lv_at hl 3 rfl) ?_
    refine lv_iload_n (pc := 10) S.1 S.2.1 dX8_typedFeather_10 rfl (lv_at hl 2 rfl) ?_
    refine hv_icmp_ge (pc := 11) (tgt := 40) (a := j) (b := 3) S.1 S.2.1 (by omega) (by omega) dX8_typedFeather_11 (by decide) (fun c_1 => ?_) (fun c_1 => ?_)
    · skip
      refine lv_null (pc := 40) S.1 S.2.1 dX8_typedFeather_40 ?_
      refine hv_tv (y := va_rf ((fiF 4 g k 3 0).map (ga 1))) (by rw [hrc]; rfl) ?_
      exact hv_aret (pc := 41) S hr (Or.inl ⟨_, rfl⟩) (by rw [hrc]; exact Or.inl rfl) hlocks hH hS (⟨rfl, rfl⟩) (Nat.le_of_ble_eq_true rfl) (Nat.le_of_ble_eq_true rfl) dX8_typedFeather_41
    · skip
      exact absurd c_1 (by omega)
  | succ n ih =>
    obtain ⟨hj9, hrc⟩ := hi
    refine lv_iload_n (pc := 9) S.1 S.2.1 dX8_typedFeather_9 rfl (lv_at hl 3 rfl) ?_
    refine lv_iload_n (pc := 10) S.1 S.2.1 dX8_typedFeather_10 rfl (lv_at hl 2 rfl) ?_
    refine hv_icmp_ge (pc := 11) (tgt := 40) (a := j) (b := 3) S.1 S.2.1 (by omega) (by omega) dX8_typedFeather_11 (by decide) (fun c_2 => ?_) (fun c_2 => ?_)
    · skip
      exact absurd c_2 (by omega)
    · skip
      refine lv_aload_n (pc := 14) S.1 S.2.1 dX8_typedFeather_14 rfl (lv_at hl 1 rfl) ?_
      refine lv_iload_n (pc := 15) S.1 S.2.1 dX8_typedFeather_15 rfl (lv_at hl 3 rfl) ?_
      refine vb_tq (pc := 16) (v := .ref (ga 1 j)) S.1 S.2.1 hX.t_FEATHERS hS (vp_in_nI (show j < 3 by omega) (by omega)) (by rw [nI_clamp (by omega)]) dX8_typedFeather_16 ?_
      refine lv_astore (pc := 17) (lv' := [(4, .ref (ga 1 j)), (0, .ref y), (1, .ref (ga 5 1)), (2, .int (nI 3)), (3, .int (nI j))]) S.1 S.2.1 dX8_typedFeather_17 hl (by decide) rfl (fun ls hl => ?_)
      refine lv_aload_n (pc := 19) S.1 S.2.1 dX8_typedFeather_19 rfl (lv_at hl 1 rfl) ?_
      refine lv_aload (pc := 20) S.1 S.2.1 dX8_typedFeather_20 (lv_at hl 0 rfl) ?_
      refine hv_getXN (pc := 22) (i := j) (ref := RX2) (index := 267) (host := "HatbandYard") S hX.fea_word (by omega) hS (hX.nest _ (by decide +kernel)) (fun _ h9 => h9) dX8_typedFeather_22 ?_
      refine hv_call (pc := 25) (va_runV (As := [.ref (ga 3 (4 + j))]) (rest := []) S (c_isTyped l D cA ga φ H.size y sb la ca ha ba hd nl nc nh nb dy bq ml k g (4 + j) f0 f1 f2 hk hg (by omega)) (cwV 1 S.2.2.2.2 (gV tw_402 tw_404 sw_8 tw_1 tw_405) rfl rfl rfl (by decide +kernel) ⟨Nat.le_of_ble_eq_true rfl, Nat.le_of_ble_eq_true rfl⟩) (pre0_V hH hK hX hS hA (hH.recv hK f0 rfl)) rfl rfl hl.1 rfl (lv_room (Nat.le_of_ble_eq_true rfl)) dX8_typedFeather_25 ⟨Nat.le_of_ble_eq_true rfl, Nat.le_of_ble_eq_true rfl⟩) hS (af_le hH hS hA) (fun v_3 φ_4 H locs hw_v_3 hH hS => ?_)
      obtain ⟨rfl, hqv_3⟩ := hw_v_3
      rw [hqv_3] at hH
      have hle := isT_le g k (4 + j)
      refine hv_if_eq (pc := 28) (tgt := 34) (a := isT g k (4 + j)) S.1 S.2.1 (by omega) dX8_typedFeather_28 (by decide) (fun c_5 => ?_) (fun c_5 => ?_)
      · skip
        refine lv_iinc (pc := 34) (v := nI (j + 1)) (lv' := [(3, .int (nI (j + 1))), (4, .ref (ga 1 j)), (0, .ref y), (1, .ref (ga 5 1)), (2, .int (nI 3))]) S.1 S.2.1 dX8_typedFeather_34 hl (k := 4) rfl (by first | rfl | exact nI_add _ _) (by decide) rfl (fun ls hl => ?_)
        refine lv_goto (pc := 37) (tgt := 9) S.1 S.2.1 dX8_typedFeather_37 (by decide) ?_
        have hi2 : (j + 1) + n = 3 ∧ fiF 4 g k 3 0 = fiF 4 g k n (j + 1) := ⟨by omega, by rw [hrc, fiF, if_neg (by omega)]⟩
        have hl2 : lv_has ls 5 [(0, .ref y), (1, .ref (ga 5 1)), (2, .int (nI 3)), (3, .int (nI (j + 1)))] := lv_sub hl [2, 3, 4, 0] rfl
        apply ih (j := j + 1) <;> assumption
      · skip
        refine lv_aload (pc := 31) S.1 S.2.1 dX8_typedFeather_31 (lv_at hl 0 rfl) ?_
        refine hv_tv (y := va_rf ((fiF 4 g k 3 0).map (ga 1))) (by rw [hrc, fiF, if_pos (by omega)]; rfl) ?_
        exact hv_aret (pc := 33) S hr (Or.inl ⟨_, rfl⟩) (by rw [hrc, fiF, if_pos (by omega)]; exact Or.inr ⟨_, rfl⟩) hlocks hH hS (⟨rfl, rfl⟩) (Nat.le_of_ble_eq_true rfl) (Nat.le_of_ble_eq_true rfl) dX8_typedFeather_33

set_option maxHeartbeats 4000000 in
set_option maxRecDepth 100000 in
/-- typedSpiral() -/
theorem c_typedSpiral (l : Launch) (D : va_G) (cA : Nat → ClassId) (ga : Nat → Nat → Nat) (φ : hpM) (sz : Nat) (y sb la ca ha ba hd nl nc nh nb dy : Nat) (bq ml k : Nat) (g : Nat → Nat) (f0 : φ y = some (.inr (12, [.ref sb, .ref la, .ref ca, .ref ha, .ref ba, .ref hd, .int (nI nl), .int (nI nc), .int (nI nh), .int (nI nb), .int (nI dy)]))) (f1 : φ sb = some (.inr (1, [.ref bq, .int (nI 0), .int (nI ml), .int (nI k)]))) (f2 : φ bq = some (.inl (cA 0, 16, .inl (fun j => nI (g j))))) (hk : k ≤ 7) (hg : ∀ j, j < k → g j < 128) : hM l yX8_typedSpiral cX8_typedSpiral 5 (some (.object "HatbandYard$Spiral")) { frames := 13, cells := 0, slots := 0, locals := 500 } [.ref y] D cA ga φ sz (fun v φ' => v = some (va_rf ((fiF 7 g k 4 0).map (ga 2))) ∧ φ' = φ) 0 0 := by
  refine hM.of (by decide) (Nat.le_of_ble_eq_true rfl) rfl ?_
  intro p e s m args below meth c ls H locs S hr hlocks hnm hsz hHz hH hK hX hS hA hl
  refine va_gets (pc := 0) (ref := RX8) (index := 268) S.1 S.2.1 hX.z_SPIRALS hS S.2.2.2.1 (S.2.2.2.2 _ tw_824) (fun _ h9 => h9) dX8_typedSpiral_0 ?_
  refine lv_astore_n (pc := 3) (lv' := [(1, .ref (ga 5 2)), (0, .ref y)]) S.1 S.2.1 dX8_typedSpiral_3 rfl hl (by decide) rfl (fun ls hl => ?_)
  refine lv_aload_n (pc := 4) S.1 S.2.1 dX8_typedSpiral_4 rfl (lv_at hl 0 rfl) ?_
  refine va_tlen (pc := 5) (v := nI 4) S.1 S.2.1 hX.t_SPIRALS hS rfl dX8_typedSpiral_5 ?_
  refine lv_istore_n (pc := 6) (lv' := [(2, .int (nI 4)), (1, .ref (ga 5 2)), (0, .ref y)]) S.1 S.2.1 dX8_typedSpiral_6 rfl hl (by decide) rfl (fun ls hl => ?_)
  refine lv_iconst (pc := 7) (v := nI 0) S.1 S.2.1 dX8_typedSpiral_7 (by decide) ?_
  refine lv_istore_n (pc := 8) (lv' := [(3, .int (nI 0)), (2, .int (nI 4)), (1, .ref (ga 5 2)), (0, .ref y)]) S.1 S.2.1 dX8_typedSpiral_8 rfl hl (by decide) rfl (fun ls hl => ?_)
  have hg : ∃ (n j : Nat), (j + n = 4 ∧ fiF 7 g k 4 0 = fiF 7 g k n j) ∧ lv_has ls 5 [(0, .ref y), (1, .ref (ga 5 2)), (2, .int (nI 4)), (3, .int (nI j))] := ⟨4, 0, ⟨rfl, rfl⟩, lv_sub hl [3, 2, 1, 0] rfl⟩
  clear hl
  try clear hHz
  obtain ⟨n, j, hi, hl⟩ := hg
  induction n generalizing ls H locs j with
  | zero =>
    obtain ⟨hj9, hrc⟩ := hi
    refine lv_iload_n (pc := 9) S.1 S.2.1 dX8_typedSpiral_9 rfl (lv_at hl 3 rfl) ?_
    refine lv_iload_n (pc := 10) S.1 S.2.1 dX8_typedSpiral_10 rfl (lv_at hl 2 rfl) ?_
    refine hv_icmp_ge (pc := 11) (tgt := 40) (a := j) (b := 4) S.1 S.2.1 (by omega) (by omega) dX8_typedSpiral_11 (by decide) (fun c_1 => ?_) (fun c_1 => ?_)
    · skip
      refine lv_null (pc := 40) S.1 S.2.1 dX8_typedSpiral_40 ?_
      refine hv_tv (y := va_rf ((fiF 7 g k 4 0).map (ga 2))) (by rw [hrc]; rfl) ?_
      exact hv_aret (pc := 41) S hr (Or.inl ⟨_, rfl⟩) (by rw [hrc]; exact Or.inl rfl) hlocks hH hS (⟨rfl, rfl⟩) (Nat.le_of_ble_eq_true rfl) (Nat.le_of_ble_eq_true rfl) dX8_typedSpiral_41
    · skip
      exact absurd c_1 (by omega)
  | succ n ih =>
    obtain ⟨hj9, hrc⟩ := hi
    refine lv_iload_n (pc := 9) S.1 S.2.1 dX8_typedSpiral_9 rfl (lv_at hl 3 rfl) ?_
    refine lv_iload_n (pc := 10) S.1 S.2.1 dX8_typedSpiral_10 rfl (lv_at hl 2 rfl) ?_
    refine hv_icmp_ge (pc := 11) (tgt := 40) (a := j) (b := 4) S.1 S.2.1 (by omega) (by omega) dX8_typedSpiral_11 (by decide) (fun c_2 => ?_) (fun c_2 => ?_)
    · skip
      exact absurd c_2 (by omega)
    · skip
      refine lv_aload_n (pc := 14) S.1 S.2.1 dX8_typedSpiral_14 rfl (lv_at hl 1 rfl) ?_
      refine lv_iload_n (pc := 15) S.1 S.2.1 dX8_typedSpiral_15 rfl (lv_at hl 3 rfl) ?_
      refine vb_tq (pc := 16) (v := .ref (ga 2 j)) S.1 S.2.1 hX.t_SPIRALS hS (vp_in_nI (show j < 4 by omega) (by omega)) (by rw [nI_clamp (by omega)]) dX8_typedSpiral_16 ?_
      refine lv_astore (pc := 17) (lv' := [(4, .ref (ga 2 j)), (0, .ref y), (1, .ref (ga 5 2)), (2, .int (nI 4)), (3, .int (nI j))]) S.1 S.2.1 dX8_typedSpiral_17 hl (by decide) rfl (fun ls hl => ?_)
      refine lv_aload_n (pc := 19) S.1 S.2.1 dX8_typedSpiral_19 rfl (lv_at hl 1 rfl) ?_
      refine lv_aload (pc := 20) S.1 S.2.1 dX8_typedSpiral_20 (lv_at hl 0 rfl) ?_
      refine hv_getXN (pc := 22) (i := j) (ref := RX7) (index := 272) (host := "HatbandYard") S hX.spi_word (by omega) hS (hX.nest _ (by decide +kernel)) (fun _ h9 => h9) dX8_typedSpiral_22 ?_
      refine hv_call (pc := 25) (va_runV (As := [.ref (ga 3 (7 + j))]) (rest := []) S (c_isTyped l D cA ga φ H.size y sb la ca ha ba hd nl nc nh nb dy bq ml k g (7 + j) f0 f1 f2 hk hg (by omega)) (cwV 1 S.2.2.2.2 (gV tw_402 tw_404 sw_8 tw_1 tw_405) rfl rfl rfl (by decide +kernel) ⟨Nat.le_of_ble_eq_true rfl, Nat.le_of_ble_eq_true rfl⟩) (pre0_V hH hK hX hS hA (hH.recv hK f0 rfl)) rfl rfl hl.1 rfl (lv_room (Nat.le_of_ble_eq_true rfl)) dX8_typedSpiral_25 ⟨Nat.le_of_ble_eq_true rfl, Nat.le_of_ble_eq_true rfl⟩) hS (af_le hH hS hA) (fun v_3 φ_4 H locs hw_v_3 hH hS => ?_)
      obtain ⟨rfl, hqv_3⟩ := hw_v_3
      rw [hqv_3] at hH
      have hle := isT_le g k (7 + j)
      refine hv_if_eq (pc := 28) (tgt := 34) (a := isT g k (7 + j)) S.1 S.2.1 (by omega) dX8_typedSpiral_28 (by decide) (fun c_5 => ?_) (fun c_5 => ?_)
      · skip
        refine lv_iinc (pc := 34) (v := nI (j + 1)) (lv' := [(3, .int (nI (j + 1))), (4, .ref (ga 2 j)), (0, .ref y), (1, .ref (ga 5 2)), (2, .int (nI 4))]) S.1 S.2.1 dX8_typedSpiral_34 hl (k := 4) rfl (by first | rfl | exact nI_add _ _) (by decide) rfl (fun ls hl => ?_)
        refine lv_goto (pc := 37) (tgt := 9) S.1 S.2.1 dX8_typedSpiral_37 (by decide) ?_
        have hi2 : (j + 1) + n = 4 ∧ fiF 7 g k 4 0 = fiF 7 g k n (j + 1) := ⟨by omega, by rw [hrc, fiF, if_neg (by omega)]⟩
        have hl2 : lv_has ls 5 [(0, .ref y), (1, .ref (ga 5 2)), (2, .int (nI 4)), (3, .int (nI (j + 1)))] := lv_sub hl [2, 3, 4, 0] rfl
        apply ih (j := j + 1) <;> assumption
      · skip
        refine lv_aload (pc := 31) S.1 S.2.1 dX8_typedSpiral_31 (lv_at hl 0 rfl) ?_
        refine hv_tv (y := va_rf ((fiF 7 g k 4 0).map (ga 2))) (by rw [hrc, fiF, if_pos (by omega)]; rfl) ?_
        exact hv_aret (pc := 33) S hr (Or.inl ⟨_, rfl⟩) (by rw [hrc, fiF, if_pos (by omega)]; exact Or.inr ⟨_, rfl⟩) hlocks hH hS (⟨rfl, rfl⟩) (Nat.le_of_ble_eq_true rfl) (Nat.le_of_ble_eq_true rfl) dX8_typedSpiral_33

set_option maxHeartbeats 4000000 in
set_option maxRecDepth 100000 in
/-- clearTyped() -/
theorem c_clearTyped (l : Launch) (D : va_G) (cA : Nat → ClassId) (ga : Nat → Nat → Nat) (φ : hpM) (sz : Nat) (y sb la ca ha ba hd nl nc nh nb dy : Nat) (bq ml k : Nat) (g : Nat → Nat) (f0 : φ y = some (.inr (12, [.ref sb, .ref la, .ref ca, .ref ha, .ref ba, .ref hd, .int (nI nl), .int (nI nc), .int (nI nh), .int (nI nb), .int (nI dy)]))) (f1 : φ sb = some (.inr (1, [.ref bq, .int (nI 0), .int (nI ml), .int (nI k)]))) (f2 : φ bq = some (.inl (cA 0, 16, .inl (fun j => nI (g j))))) (hk : k ≤ 7) : hM l yX8_clearTyped cX8_clearTyped 1 none { frames := 11, cells := 0, slots := 0, locals := 380 } [.ref y] D cA ga φ sz (fun v φ' => v = none ∧ φ' = ups φ sb (.inr (1, [.ref bq, .int (nI 0), .int (nI (if k = 0 then ml else 1)), .int (nI 0)]))) 0 0 := by
  refine hM.of (by decide) (Nat.le_of_ble_eq_true rfl) rfl ?_
  intro p e s m args below meth c ls H locs S hr hlocks hnm hsz hHz hH hK hX hS hA hl
  refine lv_aload_n (pc := 0) S.1 S.2.1 dX8_clearTyped_0 rfl (lv_at hl 0 rfl) ?_
  refine hv_get (pc := 1) (C := RX8) (T := TX8) (N := 11) (ref := RX8) S uwX8 hK hH f0 rfl 0 (by decide) tw_88 (fun _ h9 => h9) rfl dX8_clearTyped_1 ?_
  refine lv_iconst (pc := 4) (v := nI 0) S.1 S.2.1 dX8_clearTyped_4 (by decide) ?_
  refine hv_call (pc := 5) (va_runV (As := [.int (nI 0)]) (rest := []) S (c_SBSetLength l D cA ga φ H.size sb bq ml k g f1 f2 (by omega)) (cwV 1 S.2.2.2.2 (gV tw_447 tw_448 tw_449 tw_3 tw_450) rfl rfl rfl (by decide +kernel) ⟨Nat.le_of_ble_eq_true rfl, Nat.le_of_ble_eq_true rfl⟩) (pre0_V hH hK hX hS hA (hH.recv hK f1 rfl)) rfl rfl hl.1 rfl (lv_room (Nat.le_of_ble_eq_true rfl)) dX8_clearTyped_5 ⟨Nat.le_of_ble_eq_true rfl, Nat.le_of_ble_eq_true rfl⟩) hS (af_le hH hS hA) (fun v_1 φ_2 H locs hw_v_1 hH hS => ?_)
  obtain ⟨rfl, hp9⟩ := hw_v_1
  rw [hp9] at hH
  exact hv_vret (pc := 8) S hr hlocks hH hS (⟨rfl, rfl⟩) (Nat.le_of_ble_eq_true rfl) (Nat.le_of_ble_eq_true rfl) dX8_clearTyped_8

set_option maxHeartbeats 4000000 in
set_option maxRecDepth 100000 in
/-- year() -/
theorem c_year (l : Launch) (D : va_G) (cA : Nat → ClassId) (ga : Nat → Nat → Nat) (φ : hpM) (sz : Nat) (y sb la ca ha ba hd nl nc nh nb dy : Nat) (f0 : φ y = some (.inr (12, [.ref sb, .ref la, .ref ca, .ref ha, .ref ba, .ref hd, .int (nI nl), .int (nI nc), .int (nI nh), .int (nI nb), .int (nI dy)]))) (hdy : dy < 2 ^ 30) : hM l yX8_year cX8_year 1 (some .int) { frames := 8, cells := 0, slots := 0, locals := 200 } [.ref y] D cA ga φ sz (fun v φ' => v = some (.int (nI (dy / 10))) ∧ φ' = φ) 0 0 := by
  refine hM.of (by decide) (Nat.le_of_ble_eq_true rfl) rfl ?_
  intro p e s m args below meth c ls H locs S hr hlocks hnm hsz hHz hH hK hX hS hA hl
  refine lv_aload_n (pc := 0) S.1 S.2.1 dX8_year_0 rfl (lv_at hl 0 rfl) ?_
  refine hv_get (pc := 1) (C := RX8) (T := TX8) (N := 11) (ref := RX8) S uwX8 hK hH f0 rfl 10 (by decide) tw_98 (fun _ h9 => h9) rfl dX8_year_1 ?_
  refine lv_bipush (pc := 4) (v := nI 10) S.1 S.2.1 dX8_year_4 (by decide) ?_
  refine lv_idiv (pc := 6) S.1 S.2.1 dX8_year_6 (by decide) ?_
  refine hv_ti (y := nI (dy / 10)) (pk_div (by omega) (by omega) (by omega)) ?_
  exact hv_ret (pc := 7) (v := nI (dy / 10)) S hr rfl hlocks hH hS (⟨rfl, rfl⟩) (Nat.le_of_ble_eq_true rfl) (Nat.le_of_ble_eq_true rfl) dX8_year_7
