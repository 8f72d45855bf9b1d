def exE : Nat → String
  | 1 => "java/lang/IllegalArgumentException"
  | 2 => "java/lang/IllegalStateException"
  | _ => "java/lang/IndexOutOfBoundsException"
def reF (n : Nat) (a : Nat → Nat) : Nat → Option Nat := fun j => if j < n then some (a j) else none
theorem reF_at {n i : Nat} {a : Nat → Nat} (h : i < n) : reF n a i = some (a i) := by simp [reF, h]
theorem reF_some {n i b : Nat} {a : Nat → Nat} (h : reF n a i = some b) : i < n ∧ a i = b := by
  unfold reF at h
  split at h
  · next h2 => exact ⟨h2, Option.some.inj h⟩
  · cases h
theorem reF_up {n q : Nat} {a : Nat → Nat} : va_up (reF n a) n (some q) = reF (n + 1) (va_up a n q) := by
  funext j
  by_cases h : j = n
  · subst h; simp [va_up, reF]
  · by_cases h2 : j < n
    · simp [va_up, reF, h, h2, show j < n + 1 by omega]
    · simp [va_up, reF, h, h2, show ¬ j < n + 1 by omega]
def nx (x : Int32) : Nat := x.toNatClampNeg
theorem nx_nI {a : Nat} (h : a < 2 ^ 31) : nx (nI a) = a := nI_clamp h
def letterX (k : Nat) (x : Int32) : Nat := if inR x 97 122 then (if k < 7 then 0 else 2) else 1
def lotX (nl : Nat) (x : Int32) : Nat := if inR x 1 5000 then (if nl < 10 then 0 else 2) else 1
def coneX (nl nc : Nat) (lg : Nat → Nat) (x y t : Int32) : Nat := if inN x nl then (if inR y 10 500 then (if inR t 0 5 then (if nc < 12 then (if nx y ≤ lg (nx x) then 0 else 2) else 2) else 1) else 1) else 3
def handX (nh : Nat) : Nat := if nh < 6 then 0 else 2
def cycleX (nc nh : Nat) (cf cy ad : Nat → Nat) (dr : Nat → Nat) (x z : Int32) : Nat := if inN x nc then (if inN z nh then (if ad (nx z) + fAir (cf (nx x)) ≤ 30 then (if dr (nx x) = 0 then (if cy (nx x) < 12 then 0 else 2) else 2) else 2) else 3) else 3
def blockX (nb : Nat) (x z : Int32) : Nat := if inR x 300 700 then (if inR z 1 6 then (if nb < 8 then 0 else 2) else 1) else 1
set_option maxHeartbeats 4000000 in
set_option maxRecDepth 100000 in
/-- letter(letter) -/
theorem c_letter (l : Launch) (hfl : l.stackTraces = false) (D : va_G) (cA : Nat → ClassId) (ga : Nat → Nat → Nat) (φ : hpM) (sz : Nat) (y sb la ca ha ba hd nl nc nh nb dy : Nat) (bq ml k : Nat) (g : Nat → Nat) (x : Int32) (f0 : φ y = some (.inr (12, [.ref sb, .ref la, .ref ca, .ref ha, .ref ba, .ref hd, .int (nI nl), .int (nI nc), .int (nI nh), .int (nI nb), .int (nI dy)]))) (f1 : φ sb = some (.inr (1, [.ref bq, .int (nI 0), .int (nI ml), .int (nI k)]))) (f2 : φ bq = some (.inl (cA 0, 16, .inl (fun j => nI (g j))))) (hk : k ≤ 7) : hMX l yX8_letter cX8_letter 2 (some .int) { frames := 11, cells := 2, slots := 12, locals := 380 } [.ref y, .int (x)] D cA ga φ sz (fun v φ' => letterX k x = 0 ∧ (∃ x1 : Nat, x = nI x1 ∧ 97 ≤ x1 ∧ x1 ≤ 122 ∧ v = some (.int (nI (k + 1))) ∧ φ' = ups (ups φ sb (.inr (1, [.ref bq, .int (nI 0), .int (nI ml), .int (nI (k + 1))]))) bq (.inl (cA 0, 16, .inl (fun j => nI ((va_up g k x1) j)))))) (fun E φ' => φ' = φ ∧ E = exE (letterX k x) ∧ letterX k x ≠ 0) 2 12 := by
  refine hMX.of (by decide) (Nat.le_of_ble_eq_true rfl) rfl ?_
  intro p e s m args below meth c ls H locs S hr hlocks hne hsz hHz hH hK hX hS hA hl
  refine lv_iload_n (pc := 0) S.1 S.2.1 dX8_letter_0 rfl (lv_at hl 1 rfl) ?_
  refine lv_bipush (pc := 1) (v := nI 97) S.1 S.2.1 dX8_letter_1 (by decide) ?_
  refine lv_bipush (pc := 3) (v := nI 122) S.1 S.2.1 dX8_letter_3 (by decide) ?_
  refine hv_callX (pc := 5) (vx_runS (As := [.int (x), .int (nI 97), .int (nI 122)]) (rest := []) S (c_refuseOutside l hfl D cA ga φ H.size x 97 122) (va_cwS 3 S.2.2.2.2 (gS tw_133 tw_134 tw_1 tw_135) rfl rfl rfl (by decide +kernel) ⟨Nat.le_of_ble_eq_true rfl, Nat.le_of_ble_eq_true rfl⟩) (pre0_S hH hK hX hS hA) rfl rfl hl.1 rfl (lv_room (Nat.le_of_ble_eq_true rfl)) dX8_letter_5 ⟨Nat.le_of_ble_eq_true rfl, Nat.le_of_ble_eq_true rfl⟩) hS (af_le hH hS hA) (fun E ce q9 φ_2x H locs hx hH hS hce hcv hcl => ?_) (fun v_1 φ_2 H locs hw_v_1 hH hS => ?_)
  · skip
    have e9 : letterX k x = 1 := by rw [letterX, if_neg hx.2.2]
    exact hv_out hne hlocks hce hcv hcl hH hS ⟨hx.2.1, by rw [e9]; exact hx.1, by rw [e9]; decide⟩ (Nat.le_of_ble_eq_true rfl) (Nat.le_of_ble_eq_true rfl)
  · skip
    obtain ⟨rfl, hp9, hin_x⟩ := hw_v_1
    rw [hp9] at hH
    obtain ⟨x1, rfl, hxlo, hxhi⟩ := hin_x.nat (by omega) (by omega)
    refine lv_aload_n (pc := 8) S.1 S.2.1 dX8_letter_8 rfl (lv_at hl 0 rfl) ?_
    refine hv_get (pc := 9) (C := RX8) (T := TX8) (N := 11) (ref := RX8) S uwX8 hK hH f0 rfl 0 (by decide) tw_90 (fun _ h9 => h9) rfl dX8_letter_9 ?_
    refine hv_call (pc := 12) (va_runV (As := []) (rest := []) S (c_SBLength l D cA ga φ H.size sb bq ml k g f1) (cwV 0 S.2.2.2.2 (gV tw_205 tw_206 tw_207 tw_3 tw_208) rfl rfl rfl (by decide +kernel) ⟨Nat.le_of_ble_eq_true rfl, Nat.le_of_ble_eq_true rfl⟩) (pre0_V hH hK hX hS hA (hH.recv hK f1 rfl)) rfl rfl hl.1 rfl (lv_room (Nat.le_of_ble_eq_true rfl)) dX8_letter_12 ⟨Nat.le_of_ble_eq_true rfl, Nat.le_of_ble_eq_true rfl⟩) hS (af_le hH hS hA) (fun v_3 φ_4 H locs hw_v_3 hH hS => ?_)
    obtain ⟨rfl, hqv_3⟩ := hw_v_3
    rw [hqv_3] at hH
    refine lv_bipush (pc := 15) (v := nI 7) S.1 S.2.1 dX8_letter_15 (by decide) ?_
    refine hv_callX (pc := 17) (vx_runS (As := [.int (nI k), .int (nI 7)]) (rest := []) S (c_refuseFull l hfl D cA ga φ H.size k 7 (by omega) (by omega)) (va_cwS 2 S.2.2.2.2 (gS tw_212 tw_213 tw_1 tw_214) rfl rfl rfl (by decide +kernel) ⟨Nat.le_of_ble_eq_true rfl, Nat.le_of_ble_eq_true rfl⟩) (pre0_S hH hK hX hS hA) rfl rfl hl.1 rfl (lv_room (Nat.le_of_ble_eq_true rfl)) dX8_letter_17 ⟨Nat.le_of_ble_eq_true rfl, Nat.le_of_ble_eq_true rfl⟩) hS (af_le hH hS hA) (fun E ce q9 φ_6x H locs hx hH hS hce hcv hcl => ?_) (fun v_5 φ_6 H locs hw_v_5 hH hS => ?_)
    · skip
      have e9 : letterX k (nI x1) = 2 := by rw [letterX, if_pos hin_x, if_neg hx.2.2]
      exact hv_out hne hlocks hce hcv hcl hH hS ⟨hx.2.1, by rw [e9]; exact hx.1, by rw [e9]; decide⟩ (Nat.le_of_ble_eq_true rfl) (Nat.le_of_ble_eq_true rfl)
    · skip
      obtain ⟨rfl, hp9, hfl9⟩ := hw_v_5
      rw [hp9] at hH
      have e0 : letterX k (nI x1) = 0 := by rw [letterX, if_pos hin_x, if_pos hfl9]
      refine lv_aload_n (pc := 20) S.1 S.2.1 dX8_letter_20 rfl (lv_at hl 0 rfl) ?_
      refine hv_get (pc := 21) (C := RX8) (T := TX8) (N := 11) (ref := RX8) S uwX8 hK hH f0 rfl 0 (by decide) tw_90 (fun _ h9 => h9) rfl dX8_letter_21 ?_
      refine lv_iload_n (pc := 24) S.1 S.2.1 dX8_letter_24 rfl (lv_at hl 1 rfl) ?_
      refine hv_call (pc := 25) (va_runV (As := [.int (nI x1)]) (rest := []) S (c_SBAppend l D cA ga φ H.size sb bq ml k g x1 f1 f2 (by omega) (by omega)) (cwV 1 S.2.2.2.2 (gV tw_231 tw_232 tw_233 tw_3 tw_234) rfl rfl rfl (by decide +kernel) ⟨Nat.le_of_ble_eq_true rfl, Nat.le_of_ble_eq_true rfl⟩) (pre0_V hH hK hX hS hA (hH.recv hK f1 rfl)) rfl rfl hl.1 rfl (lv_room (Nat.le_of_ble_eq_true rfl)) dX8_letter_25 ⟨Nat.le_of_ble_eq_true rfl, Nat.le_of_ble_eq_true rfl⟩) hS (af_le hH hS hA) (fun v_7 φ_8 H locs hw_v_7 hH hS => ?_)
      obtain ⟨rfl, hp9⟩ := hw_v_7
      rw [hp9] at hH
      obtain ⟨φ_9, hφ_9⟩ : ∃ z : hpM, z = ups φ sb (.inr (1, [.ref bq, .int (nI 0), .int (nI ml), .int (nI (k + 1))])) := ⟨_, rfl⟩
      rw [← hφ_9] at hH
      have f_10 : φ_9 y = some (.inr (12, [.ref sb, .ref la, .ref ca, .ref ha, .ref ba, .ref hd, .int (nI nl), .int (nI nc), .int (nI nh), .int (nI nb), .int (nI dy)])) := by rw [hφ_9]; exact ups_n (hp_ne f0 f1 (by intro h; first | (cases h; done) | (simp at h; done))) f0
      have f_11 : φ_9 bq = some (.inl (cA 0, 16, .inl (fun j => nI (g j)))) := by rw [hφ_9]; exact ups_n (hp_ne f2 f1 (by intro h; first | (cases h; done) | (simp at h; done))) f2
      have f_12 : φ_9 sb = some (.inr (1, [.ref bq, .int (nI 0), .int (nI ml), .int (nI (k + 1))])) := by rw [hφ_9]; exact ups_s _ _ _
      replace hH := nup (e := .inl (cA 0, 16, .inl (fun j => nI ((va_up g k x1) j)))) hH
      obtain ⟨φ_13, hφ_13, fa_φ_13, fr_φ_13, hH⟩ := hH
      have f_14 := fr_φ_13 _ _ (hp_ne f_10 f_11 (by intro h; first | (cases h; done) | (simp at h; done))) f_10
      have f_15 := fr_φ_13 _ _ (hp_ne f_12 f_11 (by intro h; first | (cases h; done) | (simp at h; done))) f_12
      refine lv_pop (pc := 28) S.1 S.2.1 dX8_letter_28 rfl ?_
      refine lv_aload_n (pc := 29) S.1 S.2.1 dX8_letter_29 rfl (lv_at hl 0 rfl) ?_
      refine hv_get (pc := 30) (C := RX8) (T := TX8) (N := 11) (ref := RX8) S uwX8 hK hH f_14 rfl 0 (by decide) tw_90 (fun _ h9 => h9) rfl dX8_letter_30 ?_
      refine hv_call (pc := 33) (va_runV (As := []) (rest := []) S (c_SBLength l D cA ga φ_13 H.size sb bq ml (k + 1) (va_up g k x1) f_15) (cwV 0 S.2.2.2.2 (gV tw_205 tw_206 tw_207 tw_3 tw_208) rfl rfl rfl (by decide +kernel) ⟨Nat.le_of_ble_eq_true rfl, Nat.le_of_ble_eq_true rfl⟩) (pre0_V hH hK hX hS hA (hH.recv hK f_15 rfl)) rfl rfl hl.1 rfl (lv_room (Nat.le_of_ble_eq_true rfl)) dX8_letter_33 ⟨Nat.le_of_ble_eq_true rfl, Nat.le_of_ble_eq_true rfl⟩) hS (af_le hH hS hA) (fun v_16 φ_17 H locs hw_v_16 hH hS => ?_)
      obtain ⟨rfl, hqv_16⟩ := hw_v_16
      rw [hqv_16] at hH
      exact vx_ret (hv_ret (pc := 36) (v := nI (k + 1)) S hr rfl hlocks hH hS (⟨e0, x1, rfl, hxlo, hxhi, rfl, by rw [hφ_13, hφ_9]⟩) (Nat.le_of_ble_eq_true rfl) (Nat.le_of_ble_eq_true rfl) dX8_letter_36)

set_option maxHeartbeats 4000000 in
set_option maxRecDepth 100000 in
/-- lot(grams) -/
theorem c_lot (l : Launch) (hfl : l.stackTraces = false) (D : va_G) (cA : Nat → ClassId) (ga : Nat → Nat → Nat) (φ : hpM) (sz : Nat) (y sb la ca ha ba hd nl nc nh nb dy : Nat) (bq ml k : Nat) (g : Nat → Nat) (al : Nat → Nat) (x : Int32) (f0 : φ y = some (.inr (12, [.ref sb, .ref la, .ref ca, .ref ha, .ref ba, .ref hd, .int (nI nl), .int (nI nc), .int (nI nh), .int (nI nb), .int (nI dy)]))) (f1 : φ sb = some (.inr (1, [.ref bq, .int (nI 0), .int (nI ml), .int (nI k)]))) (f2 : φ bq = some (.inl (cA 0, 16, .inl (fun j => nI (g j))))) (f3 : φ la = some (.inl (cA 7, 10, .inr (.inr (.inr (.inr (reF nl al))))))) (hk : k ≤ 7) (hg : ∀ j, j < k → g j < 128) (hnl : nl ≤ 10) : hMX l yX8_lot cX8_lot 3 (some .int) { frames := 14, cells := 3, slots := 14, locals := 560 } [.ref y, .int (x)] D cA ga φ sz (fun v φ' => lotX nl x = 0 ∧ (∃ x1 : Nat, x = nI x1 ∧ 1 ≤ x1 ∧ x1 ≤ 5000 ∧ ((fiF 0 g k 4 0 = none ∧ v = some (.int (-1)) ∧ φ' = ups φ sb (.inr (1, [.ref bq, .int (nI 0), .int (nI (if k = 0 then ml else 1)), .int (nI 0)]))) ∨ (∃ fu q : Nat, fiF 0 g k 4 0 = some fu ∧ (ups φ sb (.inr (1, [.ref bq, .int (nI 0), .int (nI (if k = 0 then ml else 1)), .int (nI 0)]))) q = none ∧ v = some (.int (nI nl)) ∧ φ' = ups (ups (ups (ups (ups φ sb (.inr (1, [.ref bq, .int (nI 0), .int (nI (if k = 0 then ml else 1)), .int (nI 0)]))) q (.inr (10, [.null, .int (nI 0)]))) q (.inr (10, [.ref (ga 0 fu), .int (nI x1)]))) la (.inl (cA 7, 10, .inr (.inr (.inr (.inr (va_up (reF nl al) nl (some q)))))))) y (.inr (12, [.ref sb, .ref la, .ref ca, .ref ha, .ref ba, .ref hd, .int (nI (nl + 1)), .int (nI nc), .int (nI nh), .int (nI nb), .int (nI dy)])))))) (fun E φ' => φ' = φ ∧ E = exE (lotX nl x) ∧ lotX nl x ≠ 0) 3 14 := by
  refine hMX.of (by decide) (Nat.le_of_ble_eq_true rfl) rfl ?_
  intro p e s m args below meth c ls H locs S hr hlocks hne hsz hHz hH hK hX hS hA hl
  refine lv_iload_n (pc := 0) S.1 S.2.1 dX8_lot_0 rfl (lv_at hl 1 rfl) ?_
  refine lv_iconst (pc := 1) (v := nI 1) S.1 S.2.1 dX8_lot_1 (by decide) ?_
  refine lv_sipush (pc := 2) (v := nI 5000) S.1 S.2.1 dX8_lot_2 (by decide) ?_
  refine hv_callX (pc := 5) (vx_runS (As := [.int (x), .int (nI 1), .int (nI 5000)]) (rest := []) S (c_refuseOutside l hfl D cA ga φ H.size x 1 5000) (va_cwS 3 S.2.2.2.2 (gS tw_133 tw_134 tw_1 tw_135) rfl rfl rfl (by decide +kernel) ⟨Nat.le_of_ble_eq_true rfl, Nat.le_of_ble_eq_true rfl⟩) (pre0_S hH hK hX hS hA) rfl rfl hl.1 rfl (lv_room (Nat.le_of_ble_eq_true rfl)) dX8_lot_5 ⟨Nat.le_of_ble_eq_true rfl, Nat.le_of_ble_eq_true rfl⟩) hS (af_le hH hS hA) (fun E ce q9 φ_2x H locs hx hH hS hce hcv hcl => ?_) (fun v_1 φ_2 H locs hw_v_1 hH hS => ?_)
  · skip
    have e9 : lotX nl x = 1 := by rw [lotX, if_neg hx.2.2]
    exact hv_out hne hlocks hce hcv hcl hH hS ⟨hx.2.1, by rw [e9]; exact hx.1, by rw [e9]; decide⟩ (Nat.le_of_ble_eq_true rfl) (Nat.le_of_ble_eq_true rfl)
  · skip
    obtain ⟨rfl, hp9, hin_x⟩ := hw_v_1
    rw [hp9] at hH
    obtain ⟨x1, rfl, hxlo, hxhi⟩ := hin_x.nat (by omega) (by omega)
    refine lv_aload_n (pc := 8) S.1 S.2.1 dX8_lot_8 rfl (lv_at hl 0 rfl) ?_
    refine hv_get (pc := 9) (C := RX8) (T := TX8) (N := 11) (ref := RX8) S uwX8 hK hH f0 rfl 6 (by decide) tw_96 (fun _ h9 => h9) rfl dX8_lot_9 ?_
    refine lv_aload_n (pc := 12) S.1 S.2.1 dX8_lot_12 rfl (lv_at hl 0 rfl) ?_
    refine hv_get (pc := 13) (C := RX8) (T := TX8) (N := 11) (ref := RX8) S uwX8 hK hH f0 rfl 1 (by decide) tw_91 (fun _ h9 => h9) rfl dX8_lot_13 ?_
    refine hv_alen (pc := 16) (v := nI 10) S hK hH 7 f3 rfl rfl dX8_lot_16 ?_
    refine hv_callX (pc := 17) (vx_runS (As := [.int (nI nl), .int (nI 10)]) (rest := []) S (c_refuseFull l hfl D cA ga φ H.size nl 10 (by omega) (by omega)) (va_cwS 2 S.2.2.2.2 (gS tw_212 tw_213 tw_1 tw_214) rfl rfl rfl (by decide +kernel) ⟨Nat.le_of_ble_eq_true rfl, Nat.le_of_ble_eq_true rfl⟩) (pre0_S hH hK hX hS hA) rfl rfl hl.1 rfl (lv_room (Nat.le_of_ble_eq_true rfl)) dX8_lot_17 ⟨Nat.le_of_ble_eq_true rfl, Nat.le_of_ble_eq_true rfl⟩) hS (af_le hH hS hA) (fun E ce q9 φ_4x H locs hx hH hS hce hcv hcl => ?_) (fun v_3 φ_4 H locs hw_v_3 hH hS => ?_)
    · skip
      have e9 : lotX nl (nI x1) = 2 := by rw [lotX, if_pos hin_x, if_neg hx.2.2]
      exact hv_out hne hlocks hce hcv hcl hH hS ⟨hx.2.1, by rw [e9]; exact hx.1, by rw [e9]; decide⟩ (Nat.le_of_ble_eq_true rfl) (Nat.le_of_ble_eq_true rfl)
    · skip
      obtain ⟨rfl, hp9, hfl9⟩ := hw_v_3
      rw [hp9] at hH
      have e0 : lotX nl (nI x1) = 0 := by rw [lotX, if_pos hin_x, if_pos hfl9]
      refine lv_aload_n (pc := 20) S.1 S.2.1 dX8_lot_20 rfl (lv_at hl 0 rfl) ?_
      refine hv_call (pc := 21) (va_runV (As := []) (rest := []) S (c_typedFur l D cA ga φ H.size y sb la ca ha ba hd nl nc nh nb dy bq ml k g f0 f1 f2 hk hg) (cwV 0 S.2.2.2.2 (gV tw_333 tw_335 sw_1 tw_1 tw_336) rfl rfl rfl (by decide +kernel) ⟨Nat.le_of_ble_eq_true rfl, Nat.le_of_ble_eq_true rfl⟩) (pre0_V hH hK hX hS hA (hH.recv hK f0 rfl)) rfl rfl hl.1 rfl (lv_room (Nat.le_of_ble_eq_true rfl)) dX8_lot_21 ⟨Nat.le_of_ble_eq_true rfl, Nat.le_of_ble_eq_true rfl⟩) hS (af_le hH hS hA) (fun v_5 φ_6 H locs hw_v_5 hH hS => ?_)
      obtain ⟨rfl, hp9⟩ := hw_v_5
      rw [hp9] at hH
      rcases hfu : fiF 0 g k 4 0 with _ | fu
      · skip
        refine hv_tv (y := .null) rfl ?_
        refine lv_astore_nN (pc := 24) (lv' := [(2, .null), (0, .ref y), (1, .int (nI x1))]) S.1 S.2.1 dX8_lot_24 rfl hl (by decide) rfl (fun ls hl => ?_)
        refine lv_aload_n (pc := 25) S.1 S.2.1 dX8_lot_25 rfl (lv_at hl 1 rfl) ?_
        refine hv_call (pc := 26) (va_runV (As := []) (rest := []) S (c_clearTyped l D cA ga φ H.size y sb la ca ha ba hd nl nc nh nb dy bq ml k g f0 f1 f2 hk) (cwV 0 S.2.2.2.2 (gV tw_380 tw_382 sw_3 tw_1 tw_383) rfl rfl rfl (by decide +kernel) ⟨Nat.le_of_ble_eq_true rfl, Nat.le_of_ble_eq_true rfl⟩) (pre0_V hH hK hX hS hA (hH.recv hK f0 rfl)) rfl rfl hl.1 rfl (lv_room (Nat.le_of_ble_eq_true rfl)) dX8_lot_26 ⟨Nat.le_of_ble_eq_true rfl, Nat.le_of_ble_eq_true rfl⟩) hS (af_le hH hS hA) (fun v_7 φ_8 H locs hw_v_7 hH hS => ?_)
        obtain ⟨rfl, hp9⟩ := hw_v_7
        rw [hp9] at hH
        replace hH := nup (e := .inr (1, [.ref bq, .int (nI 0), .int (nI (if k = 0 then ml else 1)), .int (nI 0)])) hH
        obtain ⟨φ_9, hφ_9, fa_φ_9, fr_φ_9, hH⟩ := hH
        have f_10 := fr_φ_9 _ _ (hp_ne f0 f1 (by intro h; first | (cases h; done) | (simp at h; done))) f0
        have f_11 := fr_φ_9 _ _ (hp_ne f2 f1 (by intro h; first | (cases h; done) | (simp at h; done))) f2
        have f_12 := fr_φ_9 _ _ (hp_ne f3 f1 (by intro h; first | (cases h; done) | (simp at h; done))) f3
        refine lv_aload_nN (pc := 29) S.1 S.2.1 dX8_lot_29 rfl (lv_at hl 0 rfl) ?_
        refine lv_ifnonnullN (pc := 30) S.1 S.2.1 dX8_lot_30 ?_
        refine lv_iconst (pc := 33) (v := -1) S.1 S.2.1 dX8_lot_33 (by decide) ?_
        exact vx_ret (hv_ret (pc := 34) (v := (-1 : Int32)) S hr rfl hlocks hH hS (⟨e0, x1, rfl, hxlo, hxhi, Or.inl ⟨rfl, rfl, by rw [hφ_9]⟩⟩) (Nat.le_of_ble_eq_true rfl) (Nat.le_of_ble_eq_true rfl) dX8_lot_34)
      · skip
        refine hv_tv (y := .ref (ga 0 fu)) rfl ?_
        refine lv_astore_n (pc := 24) (lv' := [(2, .ref (ga 0 fu)), (0, .ref y), (1, .int (nI x1))]) S.1 S.2.1 dX8_lot_24 rfl hl (by decide) rfl (fun ls hl => ?_)
        refine lv_aload_n (pc := 25) S.1 S.2.1 dX8_lot_25 rfl (lv_at hl 1 rfl) ?_
        refine hv_call (pc := 26) (va_runV (As := []) (rest := []) S (c_clearTyped l D cA ga φ H.size y sb la ca ha ba hd nl nc nh nb dy bq ml k g f0 f1 f2 hk) (cwV 0 S.2.2.2.2 (gV tw_380 tw_382 sw_3 tw_1 tw_383) rfl rfl rfl (by decide +kernel) ⟨Nat.le_of_ble_eq_true rfl, Nat.le_of_ble_eq_true rfl⟩) (pre0_V hH hK hX hS hA (hH.recv hK f0 rfl)) rfl rfl hl.1 rfl (lv_room (Nat.le_of_ble_eq_true rfl)) dX8_lot_26 ⟨Nat.le_of_ble_eq_true rfl, Nat.le_of_ble_eq_true rfl⟩) hS (af_le hH hS hA) (fun v_13 φ_14 H locs hw_v_13 hH hS => ?_)
        obtain ⟨rfl, hp9⟩ := hw_v_13
        rw [hp9] at hH
        replace hH := nup (e := .inr (1, [.ref bq, .int (nI 0), .int (nI (if k = 0 then ml else 1)), .int (nI 0)])) hH
        obtain ⟨φ_15, hφ_15, fa_φ_15, fr_φ_15, hH⟩ := hH
        have f_16 := fr_φ_15 _ _ (hp_ne f0 f1 (by intro h; first | (cases h; done) | (simp at h; done))) f0
        have f_17 := fr_φ_15 _ _ (hp_ne f2 f1 (by intro h; first | (cases h; done) | (simp at h; done))) f2
        have f_18 := fr_φ_15 _ _ (hp_ne f3 f1 (by intro h; first | (cases h; done) | (simp at h; done))) f3
        refine lv_aload_n (pc := 29) S.1 S.2.1 dX8_lot_29 rfl (lv_at hl 0 rfl) ?_
        refine lv_ifnonnull (pc := 30) (tgt := 35) S.1 S.2.1 dX8_lot_30 (by decide) ?_
        refine lv_aload_n (pc := 35) S.1 S.2.1 dX8_lot_35 rfl (lv_at hl 1 rfl) ?_
        refine hv_get (pc := 36) (C := RX8) (T := TX8) (N := 11) (ref := RX8) S uwX8 hK hH f_16 rfl 1 (by decide) tw_91 (fun _ h9 => h9) rfl dX8_lot_36 ?_
        refine lv_aload_n (pc := 39) S.1 S.2.1 dX8_lot_39 rfl (lv_at hl 1 rfl) ?_
        refine hv_get (pc := 40) (C := RX8) (T := TX8) (N := 11) (ref := RX8) S uwX8 hK hH f_16 rfl 6 (by decide) tw_96 (fun _ h9 => h9) rfl dX8_lot_40 ?_
        refine hv_new (pc := 43) (ci := 10) (fs := [.null, .int (nI 0)]) (C := RX6) (T := TX6) (N := 2) S uwX6 tyX6 tyX6_ok tw_71 tw_571 tw_23 hK hH hS hA rfl (fun j hj => by rcases (show j = 0 ∨ j = 1 by omega) with rfl | rfl <;> rfl) (Nat.le_of_ble_eq_true rfl) (Nat.le_of_ble_eq_true rfl) dX8_lot_43 (fun q_19 H hq_q_19 hH hS => ?_)
        replace hH := nup (e := .inr (10, [.null, .int (nI 0)])) hH
        obtain ⟨φ_20, hφ_20, fa_φ_20, fr_φ_20, hH⟩ := hH
        have f_21 := fr_φ_20 _ _ (hp_nf f_16 hq_q_19) f_16
        have f_22 := fr_φ_20 _ _ (hp_nf f_17 hq_q_19) f_17
        have f_23 := fr_φ_20 _ _ (hp_nf f_18 hq_q_19) f_18
        have f_24 := fr_φ_20 _ _ (hp_nf fa_φ_15 hq_q_19) fa_φ_15
        refine lv_dup (pc := 46) S.1 S.2.1 dX8_lot_46 rfl ?_
        refine lv_aload_n (pc := 47) S.1 S.2.1 dX8_lot_47 rfl (lv_at hl 0 rfl) ?_
        refine lv_iload_n (pc := 48) S.1 S.2.1 dX8_lot_48 rfl (lv_at hl 2 rfl) ?_
        refine hv_call (pc := 49) (va_runIN (As := [.ref (ga 0 fu), .int (nI x1)]) (rest := [.ref q_19, .int (nI nl), .ref la]) S (c_X6_init l D cA ga φ_20 H.size q_19 fu x1 fa_φ_20) ⟨va_cnB (host := "HatbandYard") 2 S.2.2.2.2 (gw tw_574) rfl rfl rfl (hX.nest _ (by decide +kernel)) (S.2.2.2.2 _ tw_23) (by decide +kernel) ⟨Nat.le_of_ble_eq_true rfl, Nat.le_of_ble_eq_true rfl⟩, rfl, S.2.2.2.2 _ tw_573⟩ (pre0_S hH hK hX hS hA) rfl rfl hl.1 rfl (lv_room (Nat.le_of_ble_eq_true rfl)) dX8_lot_49 ⟨Nat.le_of_ble_eq_true rfl, Nat.le_of_ble_eq_true rfl⟩) hS (af_le hH hS hA) (fun v_25 φ_26 H locs hw_v_25 hH hS => ?_)
        obtain ⟨rfl, hp9⟩ := hw_v_25
        rw [hp9] at hH
        replace hH := nup (e := .inr (10, [.ref (ga 0 fu), .int (nI x1)])) hH
        obtain ⟨φ_27, hφ_27, fa_φ_27, fr_φ_27, hH⟩ := hH
        have f_28 := fr_φ_27 _ _ (hp_ne f_21 fa_φ_20 (by intro h; first | (cases h; done) | (simp at h; done))) f_21
        have f_29 := fr_φ_27 _ _ (hp_ne f_22 fa_φ_20 (by intro h; first | (cases h; done) | (simp at h; done))) f_22
        have f_30 := fr_φ_27 _ _ (hp_ne f_23 fa_φ_20 (by intro h; first | (cases h; done) | (simp at h; done))) f_23
        have f_31 := fr_φ_27 _ _ (hp_ne f_24 fa_φ_20 (by intro h; first | (cases h; done) | (simp at h; done))) f_24
        refine hv_aast (pc := 52) (r := (RX6, TX6, 2)) S hK hH hS 7 10 f_30 rfl fa_φ_27 rfl (vp_in_nI (by omega) (by omega)) dX8_lot_52 (fun H locs hH hS => ?_)
        rw [nI_clamp (by omega)] at hH
        replace hH := nup (e := .inl (cA 7, 10, .inr (.inr (.inr (.inr (va_up (reF nl al) nl (some q_19))))))) hH
        obtain ⟨φ_32, hφ_32, fa_φ_32, fr_φ_32, hH⟩ := hH
        have f_33 := fr_φ_32 _ _ (hp_ne f_28 f_30 (by intro h; first | (cases h; done) | (simp at h; done))) f_28
        have f_34 := fr_φ_32 _ _ (hp_ne f_29 f_30 (by intro h; first | (cases h; done) | (simp at h; done))) f_29
        have f_35 := fr_φ_32 _ _ (hp_ne f_31 f_30 (by intro h; first | (cases h; done) | (simp at h; done))) f_31
        have f_36 := fr_φ_32 _ _ (hp_ne fa_φ_27 f_30 (by intro h; first | (cases h; done) | (simp at h; done))) fa_φ_27
        refine lv_aload_n (pc := 53) S.1 S.2.1 dX8_lot_53 rfl (lv_at hl 1 rfl) ?_
        refine lv_dup (pc := 54) S.1 S.2.1 dX8_lot_54 rfl ?_
        refine hv_get (pc := 55) (C := RX8) (T := TX8) (N := 11) (ref := RX8) S uwX8 hK hH f_33 rfl 6 (by decide) tw_96 (fun _ h9 => h9) rfl dX8_lot_55 ?_
        refine lv_iconst (pc := 58) (v := nI 1) S.1 S.2.1 dX8_lot_58 (by decide) ?_
        refine lv_iadd (pc := 59) S.1 S.2.1 dX8_lot_59 ?_
        refine hv_ti (y := nI (nl + 1)) (nI_add _ _) ?_
        refine hv_put (pc := 60) (ty := .int) (C := RX8) (T := TX8) (N := 11) (ref := RX8) S uwX8 tyX8 tyX8_ok nmX8 hK hH hS f_33 rfl 6 (by decide) tw_96 (fun _ h9 => h9) rfl (by decide +kernel) rfl rfl (Nat.le_of_ble_eq_true rfl) dX8_lot_60 (fun H locs hH hS => ?_)
        replace hH := nup (e := .inr (12, [.ref sb, .ref la, .ref ca, .ref ha, .ref ba, .ref hd, .int (nI (nl + 1)), .int (nI nc), .int (nI nh), .int (nI nb), .int (nI dy)])) hH
        obtain ⟨φ_37, hφ_37, fa_φ_37, fr_φ_37, hH⟩ := hH
        have f_38 := fr_φ_37 _ _ (hp_ne f_34 f_33 (by intro h; first | (cases h; done) | (simp at h; done))) f_34
        have f_39 := fr_φ_37 _ _ (hp_ne f_35 f_33 (by intro h; first | (cases h; done) | (simp at h; done))) f_35
        have f_40 := fr_φ_37 _ _ (hp_ne f_36 f_33 (by intro h; first | (cases h; done) | (simp at h; done))) f_36
        have f_41 := fr_φ_37 _ _ (hp_ne fa_φ_32 f_33 (by intro h; first | (cases h; done) | (simp at h; done))) fa_φ_32
        refine lv_aload_n (pc := 63) S.1 S.2.1 dX8_lot_63 rfl (lv_at hl 1 rfl) ?_
        refine hv_get (pc := 64) (C := RX8) (T := TX8) (N := 11) (ref := RX8) S uwX8 hK hH fa_φ_37 rfl 6 (by decide) tw_96 (fun _ h9 => h9) rfl dX8_lot_64 ?_
        refine lv_iconst (pc := 67) (v := nI 1) S.1 S.2.1 dX8_lot_67 (by decide) ?_
        refine lv_isub (pc := 68) S.1 S.2.1 dX8_lot_68 ?_
        refine hv_ti (y := nI ((nl + 1) - 1)) (pk_sub (by omega)) ?_
        exact vx_ret (hv_ret (pc := 69) (v := nI ((nl + 1) - 1)) S hr rfl hlocks hH hS (⟨e0, x1, rfl, hxlo, hxhi, Or.inr ⟨fu, q_19, rfl, by rw [← hφ_15]; exact hq_q_19, by rw [Nat.add_sub_cancel], by rw [hφ_37, hφ_32, hφ_27, hφ_20, hφ_15]⟩⟩) (Nat.le_of_ble_eq_true rfl) (Nat.le_of_ble_eq_true rfl) dX8_lot_69)
