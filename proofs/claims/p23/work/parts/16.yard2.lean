def exE : Nat → String
  | 1 => "java/lang/IllegalArgumentException"
  | 2 => "java/lang/IllegalStateException"
  | _ => "java/lang/IndexOutOfBoundsException"
def reF (n : Nat) (a : Nat → Nat) : Nat → Option Nat := fun j => if j < n then some (a j) else none
theorem reF_at {n i : Nat} {a : Nat → Nat} (h : i < n) : reF n a i = some (a i) := by simp [reF, h]
theorem reF_some {n i b : Nat} {a : Nat → Nat} (h : reF n a i = some b) : i < n ∧ a i = b := by
  unfold reF at h
  split at h
  · next h2 => exact ⟨h2, Option.some.inj h⟩
  · cases h
theorem reF_up {n q : Nat} {a : Nat → Nat} : va_up (reF n a) n (some q) = reF (n + 1) (va_up a n q) := by
  funext j
  by_cases h : j = n
  · subst h; simp [va_up, reF]
  · by_cases h2 : j < n
    · simp [va_up, reF, h, h2, show j < n + 1 by omega]
    · simp [va_up, reF, h, h2, show ¬ j < n + 1 by omega]
def lbV (ab : Nat → Nat) (d : Nat) : Value := if d = 0 then .null else .ref (ab (d - 1))
def nx (x : Int32) : Nat := x.toNatClampNeg
theorem nx_nI {a : Nat} (h : a < 2 ^ 31) : nx (nI a) = a := nI_clamp h
def letterX (k : Nat) (x : Int32) : Nat := if inR x 97 122 then (if k < 7 then 0 else 2) else 1
def lotX (nl : Nat) (x : Int32) : Nat := if inR x 1 5000 then (if nl < 10 then 0 else 2) else 1
def coneX (nl nc : Nat) (lg : Nat → Nat) (x y t : Int32) : Nat := if inN x nl then (if inR y 10 500 then (if inR t 0 5 then (if nc < 12 then (if nx y ≤ lg (nx x) then 0 else 2) else 2) else 1) else 1) else 3
def handX (nh : Nat) : Nat := if nh < 6 then 0 else 2
def cycleX (nc nh : Nat) (cf cy ad : Nat → Nat) (dr : Nat → Nat) (x z : Int32) : Nat := if inN x nc then (if inN z nh then (if ad (nx z) + fAir (cf (nx x)) ≤ 30 then (if dr (nx x) = 0 then (if cy (nx x) < 12 then 0 else 2) else 2) else 2) else 3) else 3
def blockX (nb : Nat) (x z : Int32) : Nat := if inR x 300 700 then (if inR z 1 6 then (if nb < 8 then 0 else 2) else 1) else 1
set_option maxHeartbeats 4000000 in
set_option maxRecDepth 100000 in
/-- letter(letter) -/
theorem c_letter (l : Launch) (hfl : l.stackTraces = false) (D : va_G) (cA : Nat → ClassId) (ga : Nat → Nat → Nat) (φ : hpM) (sz : Nat) (y sb la ca ha ba hd nl nc nh nb dy : Nat) (bq ml k : Nat) (g : Nat → Nat) (x : Int32) (f0 : φ y = some (.inr (12, [.ref sb, .ref la, .ref ca, .ref ha, .ref ba, .ref hd, .int (nI nl), .int (nI nc), .int (nI nh), .int (nI nb), .int (nI dy)]))) (f1 : φ sb = some (.inr (1, [.ref bq, .int (nI 0), .int (nI ml), .int (nI k)]))) (f2 : φ bq = some (.inl (cA 0, 16, .inl (fun j => nI (g j))))) (hk : k ≤ 7) : hMX l yX8_letter cX8_letter 2 (some .int) { frames := 11, cells := 2, slots := 12, locals := 380 } [.ref y, .int (x)] D cA ga φ sz (fun v φ' => letterX k x = 0 ∧ (∃ x1 : Nat, x = nI x1 ∧ 97 ≤ x1 ∧ x1 ≤ 122 ∧ v = some (.int (nI (k + 1))) ∧ φ' = ups (ups φ sb (.inr (1, [.ref bq, .int (nI 0), .int (nI ml), .int (nI (k + 1))]))) bq (.inl (cA 0, 16, .inl (fun j => nI ((va_up g k x1) j)))))) (fun E φ' => φ' = φ ∧ E = exE (letterX k x) ∧ letterX k x ≠ 0) 2 12 := by
  refine hMX.of (by decide) (Nat.le_of_ble_eq_true rfl) rfl ?_
  intro p e s m args below meth c ls H locs S hr hlocks hne hsz hHz hH hK hX hS hA hl
  refine lv_iload_n (pc := 0) S.1 S.2.1 dX8_letter_0 rfl (lv_at hl 1 rfl) ?_
  refine lv_bipush (pc := 1) (v := nI 97) S.1 S.2.1 dX8_letter_1 (by decide) ?_
  refine lv_bipush (pc := 3) (v := nI 122) S.1 S.2.1 dX8_letter_3 (by decide) ?_
  refine hv_callX (pc := 5) (vx_runS (As := [.int (x), .int (nI 97), .int (nI 122)]) (rest := []) S (c_refuseOutside l hfl D cA ga φ H.size x 97 122) (va_cwS 3 S.2.2.2.2 (gS tw_203 tw_204 tw_1 tw_205) rfl rfl rfl (by decide +kernel) ⟨Nat.le_of_ble_eq_true rfl, Nat.le_of_ble_eq_true rfl⟩) (pre0_S hH hK hX hS hA) rfl rfl hl.1 rfl (lv_room (Nat.le_of_ble_eq_true rfl)) dX8_letter_5 ⟨Nat.le_of_ble_eq_true rfl, Nat.le_of_ble_eq_true rfl⟩) hS (af_le hH hS hA) (fun E ce q9 φ_2x H locs hx hH hS hce hcv hcl => ?_) (fun v_1 φ_2 H locs hw_v_1 hH hS => ?_)
  · skip
    have e9 : letterX k x = 1 := by rw [letterX, if_neg hx.2.2]
    exact hv_out hne hlocks hce hcv hcl hH hS ⟨hx.2.1, by rw [e9]; exact hx.1, by rw [e9]; decide⟩ (Nat.le_of_ble_eq_true rfl) (Nat.le_of_ble_eq_true rfl)
  · skip
    obtain ⟨rfl, hp9, hin_x⟩ := hw_v_1
    rw [hp9] at hH
    obtain ⟨x1, rfl, hxlo, hxhi⟩ := hin_x.nat (by omega) (by omega)
    refine lv_aload_n (pc := 8) S.1 S.2.1 dX8_letter_8 rfl (lv_at hl 0 rfl) ?_
    refine hv_get (pc := 9) (C := RX8) (T := TX8) (N := 11) (ref := RX8) S uwX8 hK hH f0 rfl 0 (by decide) tw_88 (fun _ h9 => h9) rfl dX8_letter_9 ?_
    refine hv_call (pc := 12) (va_runV (As := []) (rest := []) S (c_SBLength l D cA ga φ H.size sb bq ml k g f1) (cwV 0 S.2.2.2.2 (gV tw_271 tw_272 tw_273 tw_3 tw_274) rfl rfl rfl (by decide +kernel) ⟨Nat.le_of_ble_eq_true rfl, Nat.le_of_ble_eq_true rfl⟩) (pre0_V hH hK hX hS hA (hH.recv hK f1 rfl)) rfl rfl hl.1 rfl (lv_room (Nat.le_of_ble_eq_true rfl)) dX8_letter_12 ⟨Nat.le_of_ble_eq_true rfl, Nat.le_of_ble_eq_true rfl⟩) hS (af_le hH hS hA) (fun v_3 φ_4 H locs hw_v_3 hH hS => ?_)
    obtain ⟨rfl, hqv_3⟩ := hw_v_3
    rw [hqv_3] at hH
    refine lv_bipush (pc := 15) (v := nI 7) S.1 S.2.1 dX8_letter_15 (by decide) ?_
    refine hv_callX (pc := 17) (vx_runS (As := [.int (nI k), .int (nI 7)]) (rest := []) S (c_refuseFull l hfl D cA ga φ H.size k 7 (by omega) (by omega)) (va_cwS 2 S.2.2.2.2 (gS tw_278 tw_279 tw_1 tw_280) rfl rfl rfl (by decide +kernel) ⟨Nat.le_of_ble_eq_true rfl, Nat.le_of_ble_eq_true rfl⟩) (pre0_S hH hK hX hS hA) rfl rfl hl.1 rfl (lv_room (Nat.le_of_ble_eq_true rfl)) dX8_letter_17 ⟨Nat.le_of_ble_eq_true rfl, Nat.le_of_ble_eq_true rfl⟩) hS (af_le hH hS hA) (fun E ce q9 φ_6x H locs hx hH hS hce hcv hcl => ?_) (fun v_5 φ_6 H locs hw_v_5 hH hS => ?_)
    · skip
      have e9 : letterX k (nI x1) = 2 := by rw [letterX, if_pos hin_x, if_neg hx.2.2]
      exact hv_out hne hlocks hce hcv hcl hH hS ⟨hx.2.1, by rw [e9]; exact hx.1, by rw [e9]; decide⟩ (Nat.le_of_ble_eq_true rfl) (Nat.le_of_ble_eq_true rfl)
    · skip
      obtain ⟨rfl, hp9, hfl9⟩ := hw_v_5
      rw [hp9] at hH
      have e0 : letterX k (nI x1) = 0 := by rw [letterX, if_pos hin_x, if_pos hfl9]
      refine lv_aload_n (pc := 20) S.1 S.2.1 dX8_letter_20 rfl (lv_at hl 0 rfl) ?_
      refine hv_get (pc := 21) (C := RX8) (T := TX8) (N := 11) (ref := RX8) S uwX8 hK hH f0 rfl 0 (by decide) tw_88 (fun _ h9 => h9) rfl dX8_letter_21 ?_
      refine lv_iload_n (pc := 24) S.1 S.2.1 dX8_letter_24 rfl (lv_at hl 1 rfl) ?_
      refine hv_call (pc := 25) (va_runV (As := [.int (nI x1)]) (rest := []) S (c_SBAppend l D cA ga φ H.size sb bq ml k g x1 f1 f2 (by omega) (by omega)) (cwV 1 S.2.2.2.2 (gV tw_297 tw_298 tw_299 tw_3 tw_300) rfl rfl rfl (by decide +kernel) ⟨Nat.le_of_ble_eq_true rfl, Nat.le_of_ble_eq_true rfl⟩) (pre0_V hH hK hX hS hA (hH.recv hK f1 rfl)) rfl rfl hl.1 rfl (lv_room (Nat.le_of_ble_eq_true rfl)) dX8_letter_25 ⟨Nat.le_of_ble_eq_true rfl, Nat.le_of_ble_eq_true rfl⟩) hS (af_le hH hS hA) (fun v_7 φ_8 H locs hw_v_7 hH hS => ?_)
      obtain ⟨rfl, hp9⟩ := hw_v_7
      rw [hp9] at hH
      obtain ⟨φ_9, hφ_9⟩ : ∃ z : hpM, z = ups φ sb (.inr (1, [.ref bq, .int (nI 0), .int (nI ml), .int (nI (k + 1))])) := ⟨_, rfl⟩
      rw [← hφ_9] at hH
      have f_10 : φ_9 y = some (.inr (12, [.ref sb, .ref la, .ref ca, .ref ha, .ref ba, .ref hd, .int (nI nl), .int (nI nc), .int (nI nh), .int (nI nb), .int (nI dy)])) := by rw [hφ_9]; exact ups_n (hp_ne f0 f1 (by intro h; first | (cases h; done) | (simp at h; done))) f0
      have f_11 : φ_9 bq = some (.inl (cA 0, 16, .inl (fun j => nI (g j)))) := by rw [hφ_9]; exact ups_n (hp_ne f2 f1 (by intro h; first | (cases h; done) | (simp at h; done))) f2
      have f_12 : φ_9 sb = some (.inr (1, [.ref bq, .int (nI 0), .int (nI ml), .int (nI (k + 1))])) := by rw [hφ_9]; exact ups_s _ _ _
      replace hH := nup (e := .inl (cA 0, 16, .inl (fun j => nI ((va_up g k x1) j)))) hH
      obtain ⟨φ_13, hφ_13, fa_φ_13, fr_φ_13, hH⟩ := hH
      have f_14 := fr_φ_13 _ _ (hp_ne f_10 f_11 (by intro h; first | (cases h; done) | (simp at h; done))) f_10
      have f_15 := fr_φ_13 _ _ (hp_ne f_12 f_11 (by intro h; first | (cases h; done) | (simp at h; done))) f_12
      refine lv_pop (pc := 28) S.1 S.2.1 dX8_letter_28 rfl ?_
      refine lv_aload_n (pc := 29) S.1 S.2.1 dX8_letter_29 rfl (lv_at hl 0 rfl) ?_
      refine hv_get (pc := 30) (C := RX8) (T := TX8) (N := 11) (ref := RX8) S uwX8 hK hH f_14 rfl 0 (by decide) tw_88 (fun _ h9 => h9) rfl dX8_letter_30 ?_
      refine hv_call (pc := 33) (va_runV (As := []) (rest := []) S (c_SBLength l D cA ga φ_13 H.size sb bq ml (k + 1) (va_up g k x1) f_15) (cwV 0 S.2.2.2.2 (gV tw_271 tw_272 tw_273 tw_3 tw_274) rfl rfl rfl (by decide +kernel) ⟨Nat.le_of_ble_eq_true rfl, Nat.le_of_ble_eq_true rfl⟩) (pre0_V hH hK hX hS hA (hH.recv hK f_15 rfl)) rfl rfl hl.1 rfl (lv_room (Nat.le_of_ble_eq_true rfl)) dX8_letter_33 ⟨Nat.le_of_ble_eq_true rfl, Nat.le_of_ble_eq_true rfl⟩) hS (af_le hH hS hA) (fun v_16 φ_17 H locs hw_v_16 hH hS => ?_)
      obtain ⟨rfl, hqv_16⟩ := hw_v_16
      rw [hqv_16] at hH
      exact vx_ret (hv_ret (pc := 36) (v := nI (k + 1)) S hr rfl hlocks hH hS (⟨e0, x1, rfl, hxlo, hxhi, rfl, by rw [hφ_13, hφ_9]⟩) (Nat.le_of_ble_eq_true rfl) (Nat.le_of_ble_eq_true rfl) dX8_letter_36)

set_option maxHeartbeats 4000000 in
set_option maxRecDepth 100000 in
/-- lot(grams) -/
theorem c_lot (l : Launch) (hfl : l.stackTraces = false) (D : va_G) (cA : Nat → ClassId) (ga : Nat → Nat → Nat) (φ : hpM) (sz : Nat) (y sb la ca ha ba hd nl nc nh nb dy : Nat) (bq ml k : Nat) (g : Nat → Nat) (al : Nat → Nat) (x : Int32) (f0 : φ y = some (.inr (12, [.ref sb, .ref la, .ref ca, .ref ha, .ref ba, .ref hd, .int (nI nl), .int (nI nc), .int (nI nh), .int (nI nb), .int (nI dy)]))) (f1 : φ sb = some (.inr (1, [.ref bq, .int (nI 0), .int (nI ml), .int (nI k)]))) (f2 : φ bq = some (.inl (cA 0, 16, .inl (fun j => nI (g j))))) (f3 : φ la = some (.inl (cA 7, 10, .inr (.inr (.inr (.inr (reF nl al))))))) (hk : k ≤ 7) (hg : ∀ j, j < k → g j < 128) (hnl : nl ≤ 10) : hMX l yX8_lot cX8_lot 3 (some .int) { frames := 14, cells := 3, slots := 14, locals := 560 } [.ref y, .int (x)] D cA ga φ sz (fun v φ' => lotX nl x = 0 ∧ (∃ x1 : Nat, x = nI x1 ∧ 1 ≤ x1 ∧ x1 ≤ 5000 ∧ ((fiF 0 g k 4 0 = none ∧ v = some (.int (-1)) ∧ φ' = ups φ sb (.inr (1, [.ref bq, .int (nI 0), .int (nI (if k = 0 then ml else 1)), .int (nI 0)]))) ∨ (∃ fu q : Nat, fiF 0 g k 4 0 = some fu ∧ (ups φ sb (.inr (1, [.ref bq, .int (nI 0), .int (nI (if k = 0 then ml else 1)), .int (nI 0)]))) q = none ∧ v = some (.int (nI nl)) ∧ φ' = ups (ups (ups (ups (ups φ sb (.inr (1, [.ref bq, .int (nI 0), .int (nI (if k = 0 then ml else 1)), .int (nI 0)]))) q (.inr (10, [.null, .int (nI 0)]))) q (.inr (10, [.ref (ga 0 fu), .int (nI x1)]))) la (.inl (cA 7, 10, .inr (.inr (.inr (.inr (va_up (reF nl al) nl (some q)))))))) y (.inr (12, [.ref sb, .ref la, .ref ca, .ref ha, .ref ba, .ref hd, .int (nI (nl + 1)), .int (nI nc), .int (nI nh), .int (nI nb), .int (nI dy)])))))) (fun E φ' => φ' = φ ∧ E = exE (lotX nl x) ∧ lotX nl x ≠ 0) 3 14 := by
  refine hMX.of (by decide) (Nat.le_of_ble_eq_true rfl) rfl ?_
  intro p e s m args below meth c ls H locs S hr hlocks hne hsz hHz hH hK hX hS hA hl
  refine lv_iload_n (pc := 0) S.1 S.2.1 dX8_lot_0 rfl (lv_at hl 1 rfl) ?_
  refine lv_iconst (pc := 1) (v := nI 1) S.1 S.2.1 dX8_lot_1 (by decide) ?_
  refine lv_sipush (pc := 2) (v := nI 5000) S.1 S.2.1 dX8_lot_2 (by decide) ?_
  refine hv_callX (pc := 5) (vx_runS (As := [.int (x), .int (nI 1), .int (nI 5000)]) (rest := []) S (c_refuseOutside l hfl D cA ga φ H.size x 1 5000) (va_cwS 3 S.2.2.2.2 (gS tw_203 tw_204 tw_1 tw_205) rfl rfl rfl (by decide +kernel) ⟨Nat.le_of_ble_eq_true rfl, Nat.le_of_ble_eq_true rfl⟩) (pre0_S hH hK hX hS hA) rfl rfl hl.1 rfl (lv_room (Nat.le_of_ble_eq_true rfl)) dX8_lot_5 ⟨Nat.le_of_ble_eq_true rfl, Nat.le_of_ble_eq_true rfl⟩) hS (af_le hH hS hA) (fun E ce q9 φ_2x H locs hx hH hS hce hcv hcl => ?_) (fun v_1 φ_2 H locs hw_v_1 hH hS => ?_)
  · skip
    have e9 : lotX nl x = 1 := by rw [lotX, if_neg hx.2.2]
    exact hv_out hne hlocks hce hcv hcl hH hS ⟨hx.2.1, by rw [e9]; exact hx.1, by rw [e9]; decide⟩ (Nat.le_of_ble_eq_true rfl) (Nat.le_of_ble_eq_true rfl)
  · skip
    obtain ⟨rfl, hp9, hin_x⟩ := hw_v_1
    rw [hp9] at hH
    obtain ⟨x1, rfl, hxlo, hxhi⟩ := hin_x.nat (by omega) (by omega)
    refine lv_aload_n (pc := 8) S.1 S.2.1 dX8_lot_8 rfl (lv_at hl 0 rfl) ?_
    refine hv_get (pc := 9) (C := RX8) (T := TX8) (N := 11) (ref := RX8) S uwX8 hK hH f0 rfl 6 (by decide) tw_94 (fun _ h9 => h9) rfl dX8_lot_9 ?_
    refine lv_aload_n (pc := 12) S.1 S.2.1 dX8_lot_12 rfl (lv_at hl 0 rfl) ?_
    refine hv_get (pc := 13) (C := RX8) (T := TX8) (N := 11) (ref := RX8) S uwX8 hK hH f0 rfl 1 (by decide) tw_89 (fun _ h9 => h9) rfl dX8_lot_13 ?_
    refine hv_alen (pc := 16) (v := nI 10) S hK hH 7 f3 rfl rfl dX8_lot_16 ?_
    refine hv_callX (pc := 17) (vx_runS (As := [.int (nI nl), .int (nI 10)]) (rest := []) S (c_refuseFull l hfl D cA ga φ H.size nl 10 (by omega) (by omega)) (va_cwS 2 S.2.2.2.2 (gS tw_278 tw_279 tw_1 tw_280) rfl rfl rfl (by decide +kernel) ⟨Nat.le_of_ble_eq_true rfl, Nat.le_of_ble_eq_true rfl⟩) (pre0_S hH hK hX hS hA) rfl rfl hl.1 rfl (lv_room (Nat.le_of_ble_eq_true rfl)) dX8_lot_17 ⟨Nat.le_of_ble_eq_true rfl, Nat.le_of_ble_eq_true rfl⟩) hS (af_le hH hS hA) (fun E ce q9 φ_4x H locs hx hH hS hce hcv hcl => ?_) (fun v_3 φ_4 H locs hw_v_3 hH hS => ?_)
    · skip
      have e9 : lotX nl (nI x1) = 2 := by rw [lotX, if_pos hin_x, if_neg hx.2.2]
      exact hv_out hne hlocks hce hcv hcl hH hS ⟨hx.2.1, by rw [e9]; exact hx.1, by rw [e9]; decide⟩ (Nat.le_of_ble_eq_true rfl) (Nat.le_of_ble_eq_true rfl)
    · skip
      obtain ⟨rfl, hp9, hfl9⟩ := hw_v_3
      rw [hp9] at hH
      have e0 : lotX nl (nI x1) = 0 := by rw [lotX, if_pos hin_x, if_pos hfl9]
      refine lv_aload_n (pc := 20) S.1 S.2.1 dX8_lot_20 rfl (lv_at hl 0 rfl) ?_
      refine hv_call (pc := 21) (va_runV (As := []) (rest := []) S (c_typedFur l D cA ga φ H.size y sb la ca ha ba hd nl nc nh nb dy bq ml k g f0 f1 f2 hk hg) (cwV 0 S.2.2.2.2 (gV tw_396 tw_398 sw_7 tw_1 tw_399) rfl rfl rfl (by decide +kernel) ⟨Nat.le_of_ble_eq_true rfl, Nat.le_of_ble_eq_true rfl⟩) (pre0_V hH hK hX hS hA (hH.recv hK f0 rfl)) rfl rfl hl.1 rfl (lv_room (Nat.le_of_ble_eq_true rfl)) dX8_lot_21 ⟨Nat.le_of_ble_eq_true rfl, Nat.le_of_ble_eq_true rfl⟩) hS (af_le hH hS hA) (fun v_5 φ_6 H locs hw_v_5 hH hS => ?_)
      obtain ⟨rfl, hp9⟩ := hw_v_5
      rw [hp9] at hH
      rcases hfu : fiF 0 g k 4 0 with _ | fu
      · skip
        refine hv_tv (y := .null) rfl ?_
        refine lv_astore_nN (pc := 24) (lv' := [(2, .null), (0, .ref y), (1, .int (nI x1))]) S.1 S.2.1 dX8_lot_24 rfl hl (by decide) rfl (fun ls hl => ?_)
        refine lv_aload_n (pc := 25) S.1 S.2.1 dX8_lot_25 rfl (lv_at hl 1 rfl) ?_
        refine hv_call (pc := 26) (va_runV (As := []) (rest := []) S (c_clearTyped l D cA ga φ H.size y sb la ca ha ba hd nl nc nh nb dy bq ml k g f0 f1 f2 hk) (cwV 0 S.2.2.2.2 (gV tw_443 tw_445 sw_9 tw_1 tw_446) rfl rfl rfl (by decide +kernel) ⟨Nat.le_of_ble_eq_true rfl, Nat.le_of_ble_eq_true rfl⟩) (pre0_V hH hK hX hS hA (hH.recv hK f0 rfl)) rfl rfl hl.1 rfl (lv_room (Nat.le_of_ble_eq_true rfl)) dX8_lot_26 ⟨Nat.le_of_ble_eq_true rfl, Nat.le_of_ble_eq_true rfl⟩) hS (af_le hH hS hA) (fun v_7 φ_8 H locs hw_v_7 hH hS => ?_)
        obtain ⟨rfl, hp9⟩ := hw_v_7
        rw [hp9] at hH
        replace hH := nup (e := .inr (1, [.ref bq, .int (nI 0), .int (nI (if k = 0 then ml else 1)), .int (nI 0)])) hH
        obtain ⟨φ_9, hφ_9, fa_φ_9, fr_φ_9, hH⟩ := hH
        have f_10 := fr_φ_9 _ _ (hp_ne f0 f1 (by intro h; first | (cases h; done) | (simp at h; done))) f0
        have f_11 := fr_φ_9 _ _ (hp_ne f2 f1 (by intro h; first | (cases h; done) | (simp at h; done))) f2
        have f_12 := fr_φ_9 _ _ (hp_ne f3 f1 (by intro h; first | (cases h; done) | (simp at h; done))) f3
        refine lv_aload_nN (pc := 29) S.1 S.2.1 dX8_lot_29 rfl (lv_at hl 0 rfl) ?_
        refine lv_ifnonnullN (pc := 30) S.1 S.2.1 dX8_lot_30 ?_
        refine lv_iconst (pc := 33) (v := -1) S.1 S.2.1 dX8_lot_33 (by decide) ?_
        exact vx_ret (hv_ret (pc := 34) (v := (-1 : Int32)) S hr rfl hlocks hH hS (⟨e0, x1, rfl, hxlo, hxhi, Or.inl ⟨rfl, rfl, by rw [hφ_9]⟩⟩) (Nat.le_of_ble_eq_true rfl) (Nat.le_of_ble_eq_true rfl) dX8_lot_34)
      · skip
        refine hv_tv (y := .ref (ga 0 fu)) rfl ?_
        refine lv_astore_n (pc := 24) (lv' := [(2, .ref (ga 0 fu)), (0, .ref y), (1, .int (nI x1))]) S.1 S.2.1 dX8_lot_24 rfl hl (by decide) rfl (fun ls hl => ?_)
        refine lv_aload_n (pc := 25) S.1 S.2.1 dX8_lot_25 rfl (lv_at hl 1 rfl) ?_
        refine hv_call (pc := 26) (va_runV (As := []) (rest := []) S (c_clearTyped l D cA ga φ H.size y sb la ca ha ba hd nl nc nh nb dy bq ml k g f0 f1 f2 hk) (cwV 0 S.2.2.2.2 (gV tw_443 tw_445 sw_9 tw_1 tw_446) rfl rfl rfl (by decide +kernel) ⟨Nat.le_of_ble_eq_true rfl, Nat.le_of_ble_eq_true rfl⟩) (pre0_V hH hK hX hS hA (hH.recv hK f0 rfl)) rfl rfl hl.1 rfl (lv_room (Nat.le_of_ble_eq_true rfl)) dX8_lot_26 ⟨Nat.le_of_ble_eq_true rfl, Nat.le_of_ble_eq_true rfl⟩) hS (af_le hH hS hA) (fun v_13 φ_14 H locs hw_v_13 hH hS => ?_)
        obtain ⟨rfl, hp9⟩ := hw_v_13
        rw [hp9] at hH
        replace hH := nup (e := .inr (1, [.ref bq, .int (nI 0), .int (nI (if k = 0 then ml else 1)), .int (nI 0)])) hH
        obtain ⟨φ_15, hφ_15, fa_φ_15, fr_φ_15, hH⟩ := hH
        have f_16 := fr_φ_15 _ _ (hp_ne f0 f1 (by intro h; first | (cases h; done) | (simp at h; done))) f0
        have f_17 := fr_φ_15 _ _ (hp_ne f2 f1 (by intro h; first | (cases h; done) | (simp at h; done))) f2
        have f_18 := fr_φ_15 _ _ (hp_ne f3 f1 (by intro h; first | (cases h; done) | (simp at h; done))) f3
        refine lv_aload_n (pc := 29) S.1 S.2.1 dX8_lot_29 rfl (lv_at hl 0 rfl) ?_
        refine lv_ifnonnull (pc := 30) (tgt := 35) S.1 S.2.1 dX8_lot_30 (by decide) ?_
        refine lv_aload_n (pc := 35) S.1 S.2.1 dX8_lot_35 rfl (lv_at hl 1 rfl) ?_
        refine hv_get (pc := 36) (C := RX8) (T := TX8) (N := 11) (ref := RX8) S uwX8 hK hH f_16 rfl 1 (by decide) tw_89 (fun _ h9 => h9) rfl dX8_lot_36 ?_
        refine lv_aload_n (pc := 39) S.1 S.2.1 dX8_lot_39 rfl (lv_at hl 1 rfl) ?_
        refine hv_get (pc := 40) (C := RX8) (T := TX8) (N := 11) (ref := RX8) S uwX8 hK hH f_16 rfl 6 (by decide) tw_94 (fun _ h9 => h9) rfl dX8_lot_40 ?_
        refine hv_new (pc := 43) (ci := 10) (fs := [.null, .int (nI 0)]) (C := RX6) (T := TX6) (N := 2) S uwX6 tyX6 tyX6_ok tw_69 tw_631 tw_22 hK hH hS hA rfl (fun j hj => by rcases (show j = 0 ∨ j = 1 by omega) with rfl | rfl <;> rfl) (Nat.le_of_ble_eq_true rfl) (Nat.le_of_ble_eq_true rfl) dX8_lot_43 (fun q_19 H hq_q_19 hH hS => ?_)
        replace hH := nup (e := .inr (10, [.null, .int (nI 0)])) hH
        obtain ⟨φ_20, hφ_20, fa_φ_20, fr_φ_20, hH⟩ := hH
        have f_21 := fr_φ_20 _ _ (hp_nf f_16 hq_q_19) f_16
        have f_22 := fr_φ_20 _ _ (hp_nf f_17 hq_q_19) f_17
        have f_23 := fr_φ_20 _ _ (hp_nf f_18 hq_q_19) f_18
        have f_24 := fr_φ_20 _ _ (hp_nf fa_φ_15 hq_q_19) fa_φ_15
        refine lv_dup (pc := 46) S.1 S.2.1 dX8_lot_46 rfl ?_
        refine lv_aload_n (pc := 47) S.1 S.2.1 dX8_lot_47 rfl (lv_at hl 0 rfl) ?_
        refine lv_iload_n (pc := 48) S.1 S.2.1 dX8_lot_48 rfl (lv_at hl 2 rfl) ?_
        refine hv_call (pc := 49) (va_runIN (As := [.ref (ga 0 fu), .int (nI x1)]) (rest := [.ref q_19, .int (nI nl), .ref la]) S (c_X6_init l D cA ga φ_20 H.size q_19 fu x1 fa_φ_20) ⟨va_cnB (host := "HatbandYard") 2 S.2.2.2.2 (gw tw_634) rfl rfl rfl (hX.nest _ (by decide +kernel)) (S.2.2.2.2 _ tw_22) (by decide +kernel) ⟨Nat.le_of_ble_eq_true rfl, Nat.le_of_ble_eq_true rfl⟩, rfl, S.2.2.2.2 _ tw_633⟩ (pre0_S hH hK hX hS hA) rfl rfl hl.1 rfl (lv_room (Nat.le_of_ble_eq_true rfl)) dX8_lot_49 ⟨Nat.le_of_ble_eq_true rfl, Nat.le_of_ble_eq_true rfl⟩) hS (af_le hH hS hA) (fun v_25 φ_26 H locs hw_v_25 hH hS => ?_)
        obtain ⟨rfl, hp9⟩ := hw_v_25
        rw [hp9] at hH
        replace hH := nup (e := .inr (10, [.ref (ga 0 fu), .int (nI x1)])) hH
        obtain ⟨φ_27, hφ_27, fa_φ_27, fr_φ_27, hH⟩ := hH
        have f_28 := fr_φ_27 _ _ (hp_ne f_21 fa_φ_20 (by intro h; first | (cases h; done) | (simp at h; done))) f_21
        have f_29 := fr_φ_27 _ _ (hp_ne f_22 fa_φ_20 (by intro h; first | (cases h; done) | (simp at h; done))) f_22
        have f_30 := fr_φ_27 _ _ (hp_ne f_23 fa_φ_20 (by intro h; first | (cases h; done) | (simp at h; done))) f_23
        have f_31 := fr_φ_27 _ _ (hp_ne f_24 fa_φ_20 (by intro h; first | (cases h; done) | (simp at h; done))) f_24
        refine hv_aast (pc := 52) (r := (RX6, TX6, 2)) S hK hH hS 7 10 f_30 rfl fa_φ_27 rfl (vp_in_nI (by omega) (by omega)) dX8_lot_52 (fun H locs hH hS => ?_)
        rw [nI_clamp (by omega)] at hH
        replace hH := nup (e := .inl (cA 7, 10, .inr (.inr (.inr (.inr (va_up (reF nl al) nl (some q_19))))))) hH
        obtain ⟨φ_32, hφ_32, fa_φ_32, fr_φ_32, hH⟩ := hH
        have f_33 := fr_φ_32 _ _ (hp_ne f_28 f_30 (by intro h; first | (cases h; done) | (simp at h; done))) f_28
        have f_34 := fr_φ_32 _ _ (hp_ne f_29 f_30 (by intro h; first | (cases h; done) | (simp at h; done))) f_29
        have f_35 := fr_φ_32 _ _ (hp_ne f_31 f_30 (by intro h; first | (cases h; done) | (simp at h; done))) f_31
        have f_36 := fr_φ_32 _ _ (hp_ne fa_φ_27 f_30 (by intro h; first | (cases h; done) | (simp at h; done))) fa_φ_27
        refine lv_aload_n (pc := 53) S.1 S.2.1 dX8_lot_53 rfl (lv_at hl 1 rfl) ?_
        refine lv_dup (pc := 54) S.1 S.2.1 dX8_lot_54 rfl ?_
        refine hv_get (pc := 55) (C := RX8) (T := TX8) (N := 11) (ref := RX8) S uwX8 hK hH f_33 rfl 6 (by decide) tw_94 (fun _ h9 => h9) rfl dX8_lot_55 ?_
        refine lv_iconst (pc := 58) (v := nI 1) S.1 S.2.1 dX8_lot_58 (by decide) ?_
        refine lv_iadd (pc := 59) S.1 S.2.1 dX8_lot_59 ?_
        refine hv_ti (y := nI (nl + 1)) (nI_add _ _) ?_
        refine hv_put (pc := 60) (ty := .int) (C := RX8) (T := TX8) (N := 11) (ref := RX8) S uwX8 tyX8 tyX8_ok nmX8 hK hH hS f_33 rfl 6 (by decide) tw_94 (fun _ h9 => h9) rfl (by decide +kernel) rfl rfl (Nat.le_of_ble_eq_true rfl) dX8_lot_60 (fun H locs hH hS => ?_)
        replace hH := nup (e := .inr (12, [.ref sb, .ref la, .ref ca, .ref ha, .ref ba, .ref hd, .int (nI (nl + 1)), .int (nI nc), .int (nI nh), .int (nI nb), .int (nI dy)])) hH
        obtain ⟨φ_37, hφ_37, fa_φ_37, fr_φ_37, hH⟩ := hH
        have f_38 := fr_φ_37 _ _ (hp_ne f_34 f_33 (by intro h; first | (cases h; done) | (simp at h; done))) f_34
        have f_39 := fr_φ_37 _ _ (hp_ne f_35 f_33 (by intro h; first | (cases h; done) | (simp at h; done))) f_35
        have f_40 := fr_φ_37 _ _ (hp_ne f_36 f_33 (by intro h; first | (cases h; done) | (simp at h; done))) f_36
        have f_41 := fr_φ_37 _ _ (hp_ne fa_φ_32 f_33 (by intro h; first | (cases h; done) | (simp at h; done))) fa_φ_32
        refine lv_aload_n (pc := 63) S.1 S.2.1 dX8_lot_63 rfl (lv_at hl 1 rfl) ?_
        refine hv_get (pc := 64) (C := RX8) (T := TX8) (N := 11) (ref := RX8) S uwX8 hK hH fa_φ_37 rfl 6 (by decide) tw_94 (fun _ h9 => h9) rfl dX8_lot_64 ?_
        refine lv_iconst (pc := 67) (v := nI 1) S.1 S.2.1 dX8_lot_67 (by decide) ?_
        refine lv_isub (pc := 68) S.1 S.2.1 dX8_lot_68 ?_
        refine hv_ti (y := nI ((nl + 1) - 1)) (pk_sub (by omega)) ?_
        exact vx_ret (hv_ret (pc := 69) (v := nI ((nl + 1) - 1)) S hr rfl hlocks hH hS (⟨e0, x1, rfl, hxlo, hxhi, Or.inr ⟨fu, q_19, rfl, by rw [← hφ_15]; exact hq_q_19, by rw [Nat.add_sub_cancel], by rw [hφ_37, hφ_32, hφ_27, hφ_20, hφ_15]⟩⟩) (Nat.le_of_ble_eq_true rfl) (Nat.le_of_ble_eq_true rfl) dX8_lot_69)

set_option maxHeartbeats 4000000 in
set_option maxRecDepth 100000 in
/-- cone(lot, grams, taper) -/
theorem c_cone (l : Launch) (hfl : l.stackTraces = false) (D : va_G) (cA : Nat → ClassId) (ga : Nat → Nat → Nat) (φ : hpM) (sz : Nat) (y sb la ca ha ba hd nl nc nh nb dy : Nat) (al ac lf lg : Nat → Nat) (x z t : Int32) (f0 : φ y = some (.inr (12, [.ref sb, .ref la, .ref ca, .ref ha, .ref ba, .ref hd, .int (nI nl), .int (nI nc), .int (nI nh), .int (nI nb), .int (nI dy)]))) (f1 : φ ca = some (.inl (cA 5, 12, .inr (.inr (.inr (.inr (reF nc ac))))))) (f2 : φ la = some (.inl (cA 7, 10, .inr (.inr (.inr (.inr (reF nl al))))))) (hlt : ∀ i, i < nl → φ (al i) = some (.inr (10, [.ref (ga 0 (lf i)), .int (nI (lg i))]))) (hlb : ∀ i, i < nl → lf i < 4 ∧ lg i ≤ 5000) (hnl : nl ≤ 10) (hnc : nc ≤ 12) : hMX l yX8_cone cX8_cone 5 (some .int) { frames := 10, cells := 9, slots := 55, locals := 320 } [.ref y, .int (x), .int (z), .int (t)] D cA ga φ sz (fun v φ' => coneX nl nc lg x z t = 0 ∧ (∃ x1 y1 t1 : Nat, x = nI x1 ∧ z = nI y1 ∧ t = nI t1 ∧ x1 < nl ∧ 10 ≤ y1 ∧ y1 ≤ 500 ∧ t1 ≤ 5 ∧ y1 ≤ lg x1 ∧ nc < 12 ∧ v = some (.int (nI nc)) ∧ ∃ q q1 q2 : Nat, (ups φ (al x1) (.inr (10, [.ref (ga 0 (lf x1)), .int (nI (lg x1 - y1))]))) q = none ∧ (ups (ups φ (al x1) (.inr (10, [.ref (ga 0 (lf x1)), .int (nI (lg x1 - y1))]))) q (.inr (5, [.null, .null, .null, .int (nI 0), .int (nI 0), .null, .int (nI 0)]))) q1 = none ∧ (ups (ups φ (al x1) (.inr (10, [.ref (ga 0 (lf x1)), .int (nI (lg x1 - y1))]))) q (.inr (5, [.null, .null, .null, .int (nI 0), .int (nI 0), .null, .int (nI 0)]))) q2 = none ∧ q2 ≠ q1 ∧ φ' = ups (ups (ups (ups (ups (ups (ups φ (al x1) (.inr (10, [.ref (ga 0 (lf x1)), .int (nI (lg x1 - y1))]))) q (.inr (5, [.null, .null, .null, .int (nI 0), .int (nI 0), .null, .int (nI 0)]))) q1 (.inl (cA 1, 6, .inl (fun j => nI ((pfx (fun b => 1200 - 150 * b) zr 6) j))))) q2 (.inl (cA 1, 6, .inl (fun j => nI ((va_up (pfx (gB y1 t1) zr 6) 0 (gB y1 t1 0 + (y1 - smN (gB y1 t1) 6))) j))))) q (.inr (5, [.ref (ga 0 (lf x1)), .ref q1, .ref q2, .int (nI 60), .int (nI 0), .null, .int (nI 0)]))) ca (.inl (cA 5, 12, .inr (.inr (.inr (.inr (va_up (reF nc ac) nc (some q)))))))) y (.inr (12, [.ref sb, .ref la, .ref ca, .ref ha, .ref ba, .ref hd, .int (nI nl), .int (nI (nc + 1)), .int (nI nh), .int (nI nb), .int (nI dy)])))) (fun E φ' => φ' = φ ∧ E = exE (coneX nl nc lg x z t) ∧ coneX nl nc lg x z t ≠ 0) 9 55 := by
  refine hMX.of (by decide) (Nat.le_of_ble_eq_true rfl) rfl ?_
  intro p e s m args below meth c ls H locs S hr hlocks hne hsz hHz hH hK hX hS hA hl
  refine lv_aload_n (pc := 0) S.1 S.2.1 dX8_cone_0 rfl (lv_at hl 0 rfl) ?_
  refine lv_iload_n (pc := 1) S.1 S.2.1 dX8_cone_1 rfl (lv_at hl 1 rfl) ?_
  refine hv_callX (pc := 2) (vx_runV (As := [.int (x)]) (rest := []) S (c_lotAt l hfl D cA ga φ H.size y sb la ca ha ba hd nl nc nh nb dy x (reF nl al) f0 f2) (cwV 1 S.2.2.2.2 (gV tw_251 tw_253 sw_6 tw_1 tw_254) rfl rfl rfl (by decide +kernel) ⟨Nat.le_of_ble_eq_true rfl, Nat.le_of_ble_eq_true rfl⟩) (pre0_V hH hK hX hS hA (hH.recv hK f0 rfl)) rfl rfl hl.1 rfl (lv_room (Nat.le_of_ble_eq_true rfl)) dX8_cone_2 ⟨Nat.le_of_ble_eq_true rfl, Nat.le_of_ble_eq_true rfl⟩) hS (af_le hH hS hA) (fun E ce q9 φ_2x H locs hx hH hS hce hcv hcl => ?_) (fun v_1 φ_2 H locs hw_v_1 hH hS => ?_)
  · skip
    have hn9 : ¬ inN x nl := fun h => by obtain ⟨i, e, hi⟩ := h.nat (by omega); exact hx.2.2 i (al i) e (by omega) (reF_at hi)
    have e9 : coneX nl nc lg x z t = 3 := by rw [coneX, if_neg hn9]
    exact hv_out hne hlocks hce hcv hcl hH hS ⟨hx.2.1, by rw [e9]; exact hx.1, by rw [e9]; decide⟩ (Nat.le_of_ble_eq_true rfl) (Nat.le_of_ble_eq_true rfl)
  · skip
    obtain ⟨⟨x1, a9, rfl, hxhi, hf9, rfl⟩, hp9⟩ := hw_v_1
    rw [hp9] at hH
    obtain ⟨hxn, rfl⟩ := reF_some hf9
    have hin_x : inN (nI x1) nl := (inN_nI (by omega) (by omega)).mpr hxn
    refine lv_astore (pc := 5) (lv' := [(4, .ref (al x1)), (0, .ref y), (1, .int (nI x1)), (2, .int (z)), (3, .int (t))]) S.1 S.2.1 dX8_cone_5 hl (by decide) rfl (fun ls hl => ?_)
    refine lv_iload_n (pc := 7) S.1 S.2.1 dX8_cone_7 rfl (lv_at hl 3 rfl) ?_
    refine lv_bipush (pc := 8) (v := nI 10) S.1 S.2.1 dX8_cone_8 (by decide) ?_
    refine lv_sipush (pc := 10) (v := nI 500) S.1 S.2.1 dX8_cone_10 (by decide) ?_
    refine hv_callX (pc := 13) (vx_runS (As := [.int (z), .int (nI 10), .int (nI 500)]) (rest := []) S (c_refuseOutside l hfl D cA ga φ H.size z 10 500) (va_cwS 3 S.2.2.2.2 (gS tw_203 tw_204 tw_1 tw_205) rfl rfl rfl (by decide +kernel) ⟨Nat.le_of_ble_eq_true rfl, Nat.le_of_ble_eq_true rfl⟩) (pre0_S hH hK hX hS hA) rfl rfl hl.1 rfl (lv_room (Nat.le_of_ble_eq_true rfl)) dX8_cone_13 ⟨Nat.le_of_ble_eq_true rfl, Nat.le_of_ble_eq_true rfl⟩) hS (af_le hH hS hA) (fun E ce q9 φ_4x H locs hx hH hS hce hcv hcl => ?_) (fun v_3 φ_4 H locs hw_v_3 hH hS => ?_)
    · skip
      have e9 : coneX nl nc lg (nI x1) z t = 1 := by rw [coneX, if_pos hin_x, if_neg hx.2.2]
      exact hv_out hne hlocks hce hcv hcl hH hS ⟨hx.2.1, by rw [e9]; exact hx.1, by rw [e9]; decide⟩ (Nat.le_of_ble_eq_true rfl) (Nat.le_of_ble_eq_true rfl)
    · skip
      obtain ⟨rfl, hp9, hin_z⟩ := hw_v_3
      rw [hp9] at hH
      obtain ⟨z1, rfl, hzlo, hzhi⟩ := hin_z.nat (by omega) (by omega)
      refine lv_iload_n (pc := 16) S.1 S.2.1 dX8_cone_16 rfl (lv_at hl 4 rfl) ?_
      refine lv_iconst (pc := 17) (v := nI 0) S.1 S.2.1 dX8_cone_17 (by decide) ?_
      refine lv_iconst (pc := 18) (v := nI 5) S.1 S.2.1 dX8_cone_18 (by decide) ?_
      refine hv_callX (pc := 19) (vx_runS (As := [.int (t), .int (nI 0), .int (nI 5)]) (rest := []) S (c_refuseOutside l hfl D cA ga φ H.size t 0 5) (va_cwS 3 S.2.2.2.2 (gS tw_203 tw_204 tw_1 tw_205) rfl rfl rfl (by decide +kernel) ⟨Nat.le_of_ble_eq_true rfl, Nat.le_of_ble_eq_true rfl⟩) (pre0_S hH hK hX hS hA) rfl rfl hl.1 rfl (lv_room (Nat.le_of_ble_eq_true rfl)) dX8_cone_19 ⟨Nat.le_of_ble_eq_true rfl, Nat.le_of_ble_eq_true rfl⟩) hS (af_le hH hS hA) (fun E ce q9 φ_6x H locs hx hH hS hce hcv hcl => ?_) (fun v_5 φ_6 H locs hw_v_5 hH hS => ?_)
      · skip
        have e9 : coneX nl nc lg (nI x1) (nI z1) t = 1 := by rw [coneX, if_pos hin_x, if_pos hin_z, if_neg hx.2.2]
        exact hv_out hne hlocks hce hcv hcl hH hS ⟨hx.2.1, by rw [e9]; exact hx.1, by rw [e9]; decide⟩ (Nat.le_of_ble_eq_true rfl) (Nat.le_of_ble_eq_true rfl)
      · skip
        obtain ⟨rfl, hp9, hin_t⟩ := hw_v_5
        rw [hp9] at hH
        obtain ⟨t1, rfl, htlo, hthi⟩ := hin_t.nat (by omega) (by omega)
        refine lv_aload_n (pc := 22) S.1 S.2.1 dX8_cone_22 rfl (lv_at hl 1 rfl) ?_
        refine hv_get (pc := 23) (C := RX8) (T := TX8) (N := 11) (ref := RX8) S uwX8 hK hH f0 rfl 7 (by decide) tw_95 (fun _ h9 => h9) rfl dX8_cone_23 ?_
        refine lv_aload_n (pc := 26) S.1 S.2.1 dX8_cone_26 rfl (lv_at hl 1 rfl) ?_
        refine hv_get (pc := 27) (C := RX8) (T := TX8) (N := 11) (ref := RX8) S uwX8 hK hH f0 rfl 2 (by decide) tw_90 (fun _ h9 => h9) rfl dX8_cone_27 ?_
        refine hv_alen (pc := 30) (v := nI 12) S hK hH 5 f1 rfl rfl dX8_cone_30 ?_
        refine hv_callX (pc := 31) (vx_runS (As := [.int (nI nc), .int (nI 12)]) (rest := []) S (c_refuseFull l hfl D cA ga φ H.size nc 12 (by omega) (by omega)) (va_cwS 2 S.2.2.2.2 (gS tw_278 tw_279 tw_1 tw_280) rfl rfl rfl (by decide +kernel) ⟨Nat.le_of_ble_eq_true rfl, Nat.le_of_ble_eq_true rfl⟩) (pre0_S hH hK hX hS hA) rfl rfl hl.1 rfl (lv_room (Nat.le_of_ble_eq_true rfl)) dX8_cone_31 ⟨Nat.le_of_ble_eq_true rfl, Nat.le_of_ble_eq_true rfl⟩) hS (af_le hH hS hA) (fun E ce q9 φ_8x H locs hx hH hS hce hcv hcl => ?_) (fun v_7 φ_8 H locs hw_v_7 hH hS => ?_)
        · skip
          have e9 : coneX nl nc lg (nI x1) (nI z1) (nI t1) = 2 := by rw [coneX, if_pos hin_x, if_pos hin_z, if_pos hin_t, if_neg hx.2.2]
          exact hv_out hne hlocks hce hcv hcl hH hS ⟨hx.2.1, by rw [e9]; exact hx.1, by rw [e9]; decide⟩ (Nat.le_of_ble_eq_true rfl) (Nat.le_of_ble_eq_true rfl)
        · skip
          obtain ⟨rfl, hp9, hfl9⟩ := hw_v_7
          rw [hp9] at hH
          have fl0 := hlt x1 hxn
          obtain ⟨hlf, hlg⟩ := hlb x1 hxn
          refine lv_aload (pc := 34) S.1 S.2.1 dX8_cone_34 (lv_at hl 0 rfl) ?_
          refine hv_getN (pc := 36) (C := RX6) (T := TX6) (N := 2) (ref := RX6) (host := "HatbandYard") S uwX6 hK hH fl0 rfl 1 (by decide) (hX.nest _ (by decide +kernel)) (fun _ h9 => h9) rfl dX8_cone_36 ?_
          refine lv_iload_n (pc := 39) S.1 S.2.1 dX8_cone_39 rfl (lv_at hl 3 rfl) ?_
          refine hv_icmp_ge (pc := 40) (tgt := 53) (a := lg x1) (b := z1) S.1 S.2.1 (by omega) (by omega) dX8_cone_40 (by decide) (fun c_9 => ?_) (fun c_9 => ?_)
          · skip
            have e0 : coneX nl nc lg (nI x1) (nI z1) (nI t1) = 0 := by rw [coneX, if_pos hin_x, if_pos hin_z, if_pos hin_t, if_pos hfl9, nx_nI (by omega), nx_nI (by omega), if_pos c_9]
            refine lv_aload (pc := 53) S.1 S.2.1 dX8_cone_53 (lv_at hl 0 rfl) ?_
            refine lv_dup (pc := 55) S.1 S.2.1 dX8_cone_55 rfl ?_
            refine hv_getN (pc := 56) (C := RX6) (T := TX6) (N := 2) (ref := RX6) (host := "HatbandYard") S uwX6 hK hH fl0 rfl 1 (by decide) (hX.nest _ (by decide +kernel)) (fun _ h9 => h9) rfl dX8_cone_56 ?_
            refine lv_iload_n (pc := 59) S.1 S.2.1 dX8_cone_59 rfl (lv_at hl 3 rfl) ?_
            refine lv_isub (pc := 60) S.1 S.2.1 dX8_cone_60 ?_
            refine hv_ti (y := nI ((lg x1) - z1)) (pk_sub (by omega)) ?_
            refine hv_putN (pc := 61) (ty := .int) (C := RX6) (T := TX6) (N := 2) (ref := RX6) (host := "HatbandYard") S uwX6 tyX6 tyX6_ok nmX6 hK hH hS fl0 rfl 1 (by decide) (hX.nest _ (by decide +kernel)) (fun _ h9 => h9) rfl (by decide +kernel) rfl rfl (Nat.le_of_ble_eq_true rfl) dX8_cone_61 (fun H locs hH hS => ?_)
            replace hH := nup (e := .inr (10, [.ref (ga 0 (lf x1)), .int (nI ((lg x1) - z1))])) hH
            obtain ⟨φ_10, hφ_10, fa_φ_10, fr_φ_10, hH⟩ := hH
            have f_11 := fr_φ_10 _ _ (hp_ne f0 fl0 (by intro h; first | (cases h; done) | (simp at h; done))) f0
            have f_12 := fr_φ_10 _ _ (hp_ne f1 fl0 (by intro h; first | (cases h; done) | (simp at h; done))) f1
            have f_13 := fr_φ_10 _ _ (hp_ne f2 fl0 (by intro h; first | (cases h; done) | (simp at h; done))) f2
            refine lv_aload_n (pc := 64) S.1 S.2.1 dX8_cone_64 rfl (lv_at hl 1 rfl) ?_
            refine hv_get (pc := 65) (C := RX8) (T := TX8) (N := 11) (ref := RX8) S uwX8 hK hH f_11 rfl 2 (by decide) tw_90 (fun _ h9 => h9) rfl dX8_cone_65 ?_
            refine lv_aload_n (pc := 68) S.1 S.2.1 dX8_cone_68 rfl (lv_at hl 1 rfl) ?_
            refine hv_get (pc := 69) (C := RX8) (T := TX8) (N := 11) (ref := RX8) S uwX8 hK hH f_11 rfl 7 (by decide) tw_95 (fun _ h9 => h9) rfl dX8_cone_69 ?_
            refine hv_new (pc := 72) (ci := 5) (fs := [.null, .null, .null, .int (nI 0), .int (nI 0), .null, .int (nI 0)]) (C := RX1) (T := TX1) (N := 7) S uwX1 tyX1 tyX1_ok tw_71 tw_225 tw_23 hK hH hS hA rfl (fun j hj => by rcases (show j = 0 ∨ j = 1 ∨ j = 2 ∨ j = 3 ∨ j = 4 ∨ j = 5 ∨ j = 6 by omega) with rfl | rfl | rfl | rfl | rfl | rfl | rfl <;> rfl) (Nat.le_of_ble_eq_true rfl) (Nat.le_of_ble_eq_true rfl) dX8_cone_72 (fun q_14 H hq_q_14 hH hS => ?_)
            replace hH := nup (e := .inr (5, [.null, .null, .null, .int (nI 0), .int (nI 0), .null, .int (nI 0)])) hH
            obtain ⟨φ_15, hφ_15, fa_φ_15, fr_φ_15, hH⟩ := hH
            have f_16 := fr_φ_15 _ _ (hp_nf f_11 hq_q_14) f_11
            have f_17 := fr_φ_15 _ _ (hp_nf f_12 hq_q_14) f_12
            have f_18 := fr_φ_15 _ _ (hp_nf f_13 hq_q_14) f_13
            have f_19 := fr_φ_15 _ _ (hp_nf fa_φ_10 hq_q_14) fa_φ_10
            refine lv_dup (pc := 75) S.1 S.2.1 dX8_cone_75 rfl ?_
            refine lv_aload (pc := 76) S.1 S.2.1 dX8_cone_76 (lv_at hl 0 rfl) ?_
            refine hv_getN (pc := 78) (C := RX6) (T := TX6) (N := 2) (ref := RX6) (host := "HatbandYard") S uwX6 hK hH f_19 rfl 0 (by decide) (hX.nest _ (by decide +kernel)) (fun _ h9 => h9) rfl dX8_cone_78 ?_
            refine lv_iload_n (pc := 81) S.1 S.2.1 dX8_cone_81 rfl (lv_at hl 3 rfl) ?_
            refine lv_iload_n (pc := 82) S.1 S.2.1 dX8_cone_82 rfl (lv_at hl 4 rfl) ?_
            refine hv_call (pc := 83) (va_runIN (As := [.ref (ga 0 (lf x1)), .int (nI z1), .int (nI t1)]) (rest := [.ref q_14, .int (nI nc), .ref ca]) S (c_X1_init l D cA ga φ_15 H.size q_14 (lf x1) z1 t1 fa_φ_15 hlf (by omega) (by omega)) ⟨va_cnB (host := "HatbandYard") 3 S.2.2.2.2 (gw tw_652) rfl rfl rfl (hX.nest _ (by decide +kernel)) (S.2.2.2.2 _ tw_23) (by decide +kernel) ⟨Nat.le_of_ble_eq_true rfl, Nat.le_of_ble_eq_true rfl⟩, rfl, S.2.2.2.2 _ tw_651⟩ (pre0_S hH hK hX hS hA) rfl rfl hl.1 rfl (lv_room (Nat.le_of_ble_eq_true rfl)) dX8_cone_83 ⟨Nat.le_of_ble_eq_true rfl, Nat.le_of_ble_eq_true rfl⟩) hS (af_le hH hS hA) (fun v_20 φ_21 H locs hw_v_20 hH hS => ?_)
            obtain ⟨rfl, q1, q2, hq1, hq2, hq12, hp9⟩ := hw_v_20
            rw [hp9] at hH
            obtain ⟨φ_23, hφ_23⟩ : ∃ z : hpM, z = ups φ_15 q1 (.inl (cA 1, 6, .inl (fun j => nI ((pfx (fun b => 1200 - 150 * b) zr 6) j)))) := ⟨_, rfl⟩
            rw [← hφ_23] at hH
            have f_25 : φ_23 y = some (.inr (12, [.ref sb, .ref la, .ref ca, .ref ha, .ref ba, .ref hd, .int (nI nl), .int (nI nc), .int (nI nh), .int (nI nb), .int (nI dy)])) := by rw [hφ_23]; exact ups_n (hp_nf f_16 hq1) f_16
            have f_26 : φ_23 ca = some (.inl (cA 5, 12, .inr (.inr (.inr (.inr (reF nc ac)))))) := by rw [hφ_23]; exact ups_n (hp_nf f_17 hq1) f_17
            have f_27 : φ_23 la = some (.inl (cA 7, 10, .inr (.inr (.inr (.inr (reF nl al)))))) := by rw [hφ_23]; exact ups_n (hp_nf f_18 hq1) f_18
            have f_28 : φ_23 (al x1) = some (.inr (10, [.ref (ga 0 (lf x1)), .int (nI ((lg x1) - z1))])) := by rw [hφ_23]; exact ups_n (hp_nf f_19 hq1) f_19
            have f_29 : φ_23 q_14 = some (.inr (5, [.null, .null, .null, .int (nI 0), .int (nI 0), .null, .int (nI 0)])) := by rw [hφ_23]; exact ups_n (hp_nf fa_φ_15 hq1) fa_φ_15
            have f_30 : φ_23 q1 = some (.inl (cA 1, 6, .inl (fun j => nI ((pfx (fun b => 1200 - 150 * b) zr 6) j)))) := by rw [hφ_23]; exact ups_s _ _ _
            have hq2b : φ_23 q2 = none := by rw [hφ_23]; exact ups_n hq12 hq2
            obtain ⟨φ_31, hφ_31⟩ : ∃ z : hpM, z = ups φ_23 q2 (.inl (cA 1, 6, .inl (fun j => nI ((va_up (pfx (gB z1 t1) zr 6) 0 (gB z1 t1 0 + (z1 - smN (gB z1 t1) 6))) j)))) := ⟨_, rfl⟩
            rw [← hφ_31] at hH
            have f_32 : φ_31 y = some (.inr (12, [.ref sb, .ref la, .ref ca, .ref ha, .ref ba, .ref hd, .int (nI nl), .int (nI nc), .int (nI nh), .int (nI nb), .int (nI dy)])) := by rw [hφ_31]; exact ups_n (hp_nf f_25 hq2b) f_25
            have f_33 : φ_31 ca = some (.inl (cA 5, 12, .inr (.inr (.inr (.inr (reF nc ac)))))) := by rw [hφ_31]; exact ups_n (hp_nf f_26 hq2b) f_26
            have f_34 : φ_31 la = some (.inl (cA 7, 10, .inr (.inr (.inr (.inr (reF nl al)))))) := by rw [hφ_31]; exact ups_n (hp_nf f_27 hq2b) f_27
            have f_35 : φ_31 (al x1) = some (.inr (10, [.ref (ga 0 (lf x1)), .int (nI ((lg x1) - z1))])) := by rw [hφ_31]; exact ups_n (hp_nf f_28 hq2b) f_28
            have f_36 : φ_31 q_14 = some (.inr (5, [.null, .null, .null, .int (nI 0), .int (nI 0), .null, .int (nI 0)])) := by rw [hφ_31]; exact ups_n (hp_nf f_29 hq2b) f_29
            have f_37 : φ_31 q1 = some (.inl (cA 1, 6, .inl (fun j => nI ((pfx (fun b => 1200 - 150 * b) zr 6) j)))) := by rw [hφ_31]; exact ups_n (hp_nf f_30 hq2b) f_30
            have f_38 : φ_31 q2 = some (.inl (cA 1, 6, .inl (fun j => nI ((va_up (pfx (gB z1 t1) zr 6) 0 (gB z1 t1 0 + (z1 - smN (gB z1 t1) 6))) j)))) := by rw [hφ_31]; exact ups_s _ _ _
            replace hH := nup (e := .inr (5, [.ref (ga 0 (lf x1)), .ref q1, .ref q2, .int (nI 60), .int (nI 0), .null, .int (nI 0)])) hH
            obtain ⟨φ_39, hφ_39, fa_φ_39, fr_φ_39, hH⟩ := hH
            have f_40 := fr_φ_39 _ _ (hp_ne f_32 f_36 (by intro h; first | (cases h; done) | (simp at h; done))) f_32
            have f_41 := fr_φ_39 _ _ (hp_ne f_33 f_36 (by intro h; first | (cases h; done) | (simp at h; done))) f_33
            have f_42 := fr_φ_39 _ _ (hp_ne f_34 f_36 (by intro h; first | (cases h; done) | (simp at h; done))) f_34
            have f_43 := fr_φ_39 _ _ (hp_ne f_35 f_36 (by intro h; first | (cases h; done) | (simp at h; done))) f_35
            have f_44 := fr_φ_39 _ _ (hp_ne f_37 f_36 (by intro h; first | (cases h; done) | (simp at h; done))) f_37
            have f_45 := fr_φ_39 _ _ (hp_ne f_38 f_36 (by intro h; first | (cases h; done) | (simp at h; done))) f_38
            refine hv_aast (pc := 86) (r := (RX1, TX1, 7)) S hK hH hS 5 5 f_41 rfl fa_φ_39 rfl (vp_in_nI (by omega) (by omega)) dX8_cone_86 (fun H locs hH hS => ?_)
            rw [nI_clamp (by omega)] at hH
            replace hH := nup (e := .inl (cA 5, 12, .inr (.inr (.inr (.inr (va_up (reF nc ac) nc (some q_14))))))) hH
            obtain ⟨φ_46, hφ_46, fa_φ_46, fr_φ_46, hH⟩ := hH
            have f_47 := fr_φ_46 _ _ (hp_ne f_40 f_41 (by intro h; first | (cases h; done) | (simp at h; done))) f_40
            have f_48 := fr_φ_46 _ _ (hp_ne f_42 f_41 (by intro h; first | (cases h; done) | (simp at h; done))) f_42
            have f_49 := fr_φ_46 _ _ (hp_ne f_43 f_41 (by intro h; first | (cases h; done) | (simp at h; done))) f_43
            have f_50 := fr_φ_46 _ _ (hp_ne f_44 f_41 (by intro h; first | (cases h; done) | (simp at h; done))) f_44
            have f_51 := fr_φ_46 _ _ (hp_ne f_45 f_41 (by intro h; first | (cases h; done) | (simp at h; done))) f_45
            have f_52 := fr_φ_46 _ _ (hp_ne fa_φ_39 f_41 (by intro h; first | (cases h; done) | (simp at h; done))) fa_φ_39
            refine lv_aload_n (pc := 87) S.1 S.2.1 dX8_cone_87 rfl (lv_at hl 1 rfl) ?_
            refine lv_dup (pc := 88) S.1 S.2.1 dX8_cone_88 rfl ?_
            refine hv_get (pc := 89) (C := RX8) (T := TX8) (N := 11) (ref := RX8) S uwX8 hK hH f_47 rfl 7 (by decide) tw_95 (fun _ h9 => h9) rfl dX8_cone_89 ?_
            refine lv_iconst (pc := 92) (v := nI 1) S.1 S.2.1 dX8_cone_92 (by decide) ?_
            refine lv_iadd (pc := 93) S.1 S.2.1 dX8_cone_93 ?_
            refine hv_ti (y := nI (nc + 1)) (nI_add _ _) ?_
            refine hv_put (pc := 94) (ty := .int) (C := RX8) (T := TX8) (N := 11) (ref := RX8) S uwX8 tyX8 tyX8_ok nmX8 hK hH hS f_47 rfl 7 (by decide) tw_95 (fun _ h9 => h9) rfl (by decide +kernel) rfl rfl (Nat.le_of_ble_eq_true rfl) dX8_cone_94 (fun H locs hH hS => ?_)
            replace hH := nup (e := .inr (12, [.ref sb, .ref la, .ref ca, .ref ha, .ref ba, .ref hd, .int (nI nl), .int (nI (nc + 1)), .int (nI nh), .int (nI nb), .int (nI dy)])) hH
            obtain ⟨φ_53, hφ_53, fa_φ_53, fr_φ_53, hH⟩ := hH
            have f_54 := fr_φ_53 _ _ (hp_ne f_48 f_47 (by intro h; first | (cases h; done) | (simp at h; done))) f_48
            have f_55 := fr_φ_53 _ _ (hp_ne f_49 f_47 (by intro h; first | (cases h; done) | (simp at h; done))) f_49
            have f_56 := fr_φ_53 _ _ (hp_ne f_50 f_47 (by intro h; first | (cases h; done) | (simp at h; done))) f_50
            have f_57 := fr_φ_53 _ _ (hp_ne f_51 f_47 (by intro h; first | (cases h; done) | (simp at h; done))) f_51
            have f_58 := fr_φ_53 _ _ (hp_ne f_52 f_47 (by intro h; first | (cases h; done) | (simp at h; done))) f_52
            have f_59 := fr_φ_53 _ _ (hp_ne fa_φ_46 f_47 (by intro h; first | (cases h; done) | (simp at h; done))) fa_φ_46
            refine lv_aload_n (pc := 97) S.1 S.2.1 dX8_cone_97 rfl (lv_at hl 1 rfl) ?_
            refine hv_get (pc := 98) (C := RX8) (T := TX8) (N := 11) (ref := RX8) S uwX8 hK hH fa_φ_53 rfl 7 (by decide) tw_95 (fun _ h9 => h9) rfl dX8_cone_98 ?_
            refine lv_iconst (pc := 101) (v := nI 1) S.1 S.2.1 dX8_cone_101 (by decide) ?_
            refine lv_isub (pc := 102) S.1 S.2.1 dX8_cone_102 ?_
            refine hv_ti (y := nI ((nc + 1) - 1)) (pk_sub (by omega)) ?_
            exact vx_ret (hv_ret (pc := 103) (v := nI ((nc + 1) - 1)) S hr rfl hlocks hH hS (⟨e0, x1, z1, t1, rfl, rfl, rfl, hxn, hzlo, hzhi, hthi, c_9, hfl9, by rw [Nat.add_sub_cancel], q_14, q1, q2, by rw [← hφ_10]; exact hq_q_14, by rw [← hφ_10, ← hφ_15]; exact hq1, by rw [← hφ_10, ← hφ_15]; exact hq2, hq12, by rw [hφ_53, hφ_46, hφ_39, hφ_31, hφ_23, hφ_15, hφ_10]⟩) (Nat.le_of_ble_eq_true rfl) (Nat.le_of_ble_eq_true rfl) dX8_cone_103)
          · skip
            have e9 : coneX nl nc lg (nI x1) (nI z1) (nI t1) = 2 := by rw [coneX, if_pos hin_x, if_pos hin_z, if_pos hin_t, if_pos hfl9, nx_nI (by omega), nx_nI (by omega), if_neg (by omega)]
            exact hv_throw (pc := 43) (cls := "java/lang/IllegalStateException") (text := "the lot has not so much") (ik := 96) (is := 98) (ic := 100) S hfl (by decide +kernel) tw_281 tw_12 hX.tx98 atISE hX hne hlocks hH hS (⟨rfl, by rw [e9]; rfl, by rw [e9]; decide⟩) hl.1 dX8_cone_43 dX8_cone_46 dX8_cone_47 dX8_cone_49 dX8_cone_52 (Nat.le_of_ble_eq_true rfl) (Nat.le_of_ble_eq_true rfl) (Nat.le_of_ble_eq_true rfl) (Nat.le_of_ble_eq_true rfl) (Nat.le_of_ble_eq_true rfl) (Nat.le_of_ble_eq_true rfl)

set_option maxHeartbeats 4000000 in
set_option maxRecDepth 100000 in
/-- hand() -/
theorem c_hand (l : Launch) (hfl : l.stackTraces = false) (D : va_G) (cA : Nat → ClassId) (ga : Nat → Nat → Nat) (φ : hpM) (sz : Nat) (y sb la ca ha ba hd nl nc nh nb dy : Nat) (ah : Nat → Nat) (f0 : φ y = some (.inr (12, [.ref sb, .ref la, .ref ca, .ref ha, .ref ba, .ref hd, .int (nI nl), .int (nI nc), .int (nI nh), .int (nI nb), .int (nI dy)]))) (f1 : φ ha = some (.inl (cA 6, 6, .inr (.inr (.inr (.inr (reF nh ah))))))) (hnh : nh ≤ 6) : hMX l yX8_hand cX8_hand 1 (some .int) { frames := 9, cells := 2, slots := 8, locals := 260 } [.ref y] D cA ga φ sz (fun v φ' => handX nh = 0 ∧ (nh < 6 ∧ v = some (.int (nI nh)) ∧ ∃ q, φ q = none ∧ φ' = ups (ups (ups (ups φ q (.inr (8, [.int (nI 0), .int (nI 0)]))) q (.inr (8, [.int (nI 0), .int (nI 0)]))) ha (.inl (cA 6, 6, .inr (.inr (.inr (.inr (va_up (reF nh ah) nh (some q)))))))) y (.inr (12, [.ref sb, .ref la, .ref ca, .ref ha, .ref ba, .ref hd, .int (nI nl), .int (nI nc), .int (nI (nh + 1)), .int (nI nb), .int (nI dy)])))) (fun E φ' => φ' = φ ∧ E = exE (handX nh) ∧ handX nh ≠ 0) 2 8 := by
  refine hMX.of (by decide) (Nat.le_of_ble_eq_true rfl) rfl ?_
  intro p e s m args below meth c ls H locs S hr hlocks hne hsz hHz hH hK hX hS hA hl
  refine lv_aload_n (pc := 0) S.1 S.2.1 dX8_hand_0 rfl (lv_at hl 0 rfl) ?_
  refine hv_get (pc := 1) (C := RX8) (T := TX8) (N := 11) (ref := RX8) S uwX8 hK hH f0 rfl 8 (by decide) tw_96 (fun _ h9 => h9) rfl dX8_hand_1 ?_
  refine lv_aload_n (pc := 4) S.1 S.2.1 dX8_hand_4 rfl (lv_at hl 0 rfl) ?_
  refine hv_get (pc := 5) (C := RX8) (T := TX8) (N := 11) (ref := RX8) S uwX8 hK hH f0 rfl 3 (by decide) tw_91 (fun _ h9 => h9) rfl dX8_hand_5 ?_
  refine hv_alen (pc := 8) (v := nI 6) S hK hH 6 f1 rfl rfl dX8_hand_8 ?_
  refine hv_callX (pc := 9) (vx_runS (As := [.int (nI nh), .int (nI 6)]) (rest := []) S (c_refuseFull l hfl D cA ga φ H.size nh 6 (by omega) (by omega)) (va_cwS 2 S.2.2.2.2 (gS tw_278 tw_279 tw_1 tw_280) rfl rfl rfl (by decide +kernel) ⟨Nat.le_of_ble_eq_true rfl, Nat.le_of_ble_eq_true rfl⟩) (pre0_S hH hK hX hS hA) rfl rfl hl.1 rfl (lv_room (Nat.le_of_ble_eq_true rfl)) dX8_hand_9 ⟨Nat.le_of_ble_eq_true rfl, Nat.le_of_ble_eq_true rfl⟩) hS (af_le hH hS hA) (fun E ce q9 φ_2x H locs hx hH hS hce hcv hcl => ?_) (fun v_1 φ_2 H locs hw_v_1 hH hS => ?_)
  · skip
    have e9 : handX nh = 2 := by rw [handX, if_neg hx.2.2]
    exact hv_out hne hlocks hce hcv hcl hH hS ⟨hx.2.1, by rw [e9]; exact hx.1, by rw [e9]; decide⟩ (Nat.le_of_ble_eq_true rfl) (Nat.le_of_ble_eq_true rfl)
  · skip
    obtain ⟨rfl, hp9, hfl9⟩ := hw_v_1
    rw [hp9] at hH
    have e0 : handX nh = 0 := by rw [handX, if_pos hfl9]
    refine lv_aload_n (pc := 12) S.1 S.2.1 dX8_hand_12 rfl (lv_at hl 0 rfl) ?_
    refine hv_get (pc := 13) (C := RX8) (T := TX8) (N := 11) (ref := RX8) S uwX8 hK hH f0 rfl 3 (by decide) tw_91 (fun _ h9 => h9) rfl dX8_hand_13 ?_
    refine lv_aload_n (pc := 16) S.1 S.2.1 dX8_hand_16 rfl (lv_at hl 0 rfl) ?_
    refine hv_get (pc := 17) (C := RX8) (T := TX8) (N := 11) (ref := RX8) S uwX8 hK hH f0 rfl 8 (by decide) tw_96 (fun _ h9 => h9) rfl dX8_hand_17 ?_
    refine hv_new (pc := 20) (ci := 8) (fs := [.int (nI 0), .int (nI 0)]) (C := RX4) (T := TX4) (N := 2) S uwX4 tyX4 tyX4_ok tw_73 tw_691 tw_24 hK hH hS hA rfl (fun j hj => by rcases (show j = 0 ∨ j = 1 by omega) with rfl | rfl <;> rfl) (Nat.le_of_ble_eq_true rfl) (Nat.le_of_ble_eq_true rfl) dX8_hand_20 (fun q_3 H hq_q_3 hH hS => ?_)
    replace hH := nup (e := .inr (8, [.int (nI 0), .int (nI 0)])) hH
    obtain ⟨φ_4, hφ_4, fa_φ_4, fr_φ_4, hH⟩ := hH
    have f_5 := fr_φ_4 _ _ (hp_nf f0 hq_q_3) f0
    have f_6 := fr_φ_4 _ _ (hp_nf f1 hq_q_3) f1
    refine lv_dup (pc := 23) S.1 S.2.1 dX8_hand_23 rfl ?_
    refine hv_call (pc := 24) (va_runIN (As := []) (rest := [.ref q_3, .int (nI nh), .ref ha]) S (c_X4_init l D cA ga φ_4 H.size q_3 fa_φ_4) ⟨va_cnB (host := "HatbandYard") 0 S.2.2.2.2 (gw tw_694) rfl rfl rfl (hX.nest _ (by decide +kernel)) (S.2.2.2.2 _ tw_24) (by decide +kernel) ⟨Nat.le_of_ble_eq_true rfl, Nat.le_of_ble_eq_true rfl⟩, rfl, S.2.2.2.2 _ tw_693⟩ (pre0_S hH hK hX hS hA) rfl rfl hl.1 rfl (lv_room (Nat.le_of_ble_eq_true rfl)) dX8_hand_24 ⟨Nat.le_of_ble_eq_true rfl, Nat.le_of_ble_eq_true rfl⟩) hS (af_le hH hS hA) (fun v_7 φ_8 H locs hw_v_7 hH hS => ?_)
    obtain ⟨rfl, hp9⟩ := hw_v_7
    rw [hp9] at hH
    replace hH := nup (e := .inr (8, [.int (nI 0), .int (nI 0)])) hH
    obtain ⟨φ_9, hφ_9, fa_φ_9, fr_φ_9, hH⟩ := hH
    have f_10 := fr_φ_9 _ _ (hp_ne f_5 fa_φ_4 (by intro h; first | (cases h; done) | (simp at h; done))) f_5
    have f_11 := fr_φ_9 _ _ (hp_ne f_6 fa_φ_4 (by intro h; first | (cases h; done) | (simp at h; done))) f_6
    refine hv_aast (pc := 27) (r := (RX4, TX4, 2)) S hK hH hS 6 8 f_11 rfl fa_φ_9 rfl (vp_in_nI (by omega) (by omega)) dX8_hand_27 (fun H locs hH hS => ?_)
    rw [nI_clamp (by omega)] at hH
    replace hH := nup (e := .inl (cA 6, 6, .inr (.inr (.inr (.inr (va_up (reF nh ah) nh (some q_3))))))) hH
    obtain ⟨φ_12, hφ_12, fa_φ_12, fr_φ_12, hH⟩ := hH
    have f_13 := fr_φ_12 _ _ (hp_ne f_10 f_11 (by intro h; first | (cases h; done) | (simp at h; done))) f_10
    have f_14 := fr_φ_12 _ _ (hp_ne fa_φ_9 f_11 (by intro h; first | (cases h; done) | (simp at h; done))) fa_φ_9
    refine lv_aload_n (pc := 28) S.1 S.2.1 dX8_hand_28 rfl (lv_at hl 0 rfl) ?_
    refine lv_dup (pc := 29) S.1 S.2.1 dX8_hand_29 rfl ?_
    refine hv_get (pc := 30) (C := RX8) (T := TX8) (N := 11) (ref := RX8) S uwX8 hK hH f_13 rfl 8 (by decide) tw_96 (fun _ h9 => h9) rfl dX8_hand_30 ?_
    refine lv_iconst (pc := 33) (v := nI 1) S.1 S.2.1 dX8_hand_33 (by decide) ?_
    refine lv_iadd (pc := 34) S.1 S.2.1 dX8_hand_34 ?_
    refine hv_ti (y := nI (nh + 1)) (nI_add _ _) ?_
    refine hv_put (pc := 35) (ty := .int) (C := RX8) (T := TX8) (N := 11) (ref := RX8) S uwX8 tyX8 tyX8_ok nmX8 hK hH hS f_13 rfl 8 (by decide) tw_96 (fun _ h9 => h9) rfl (by decide +kernel) rfl rfl (Nat.le_of_ble_eq_true rfl) dX8_hand_35 (fun H locs hH hS => ?_)
    replace hH := nup (e := .inr (12, [.ref sb, .ref la, .ref ca, .ref ha, .ref ba, .ref hd, .int (nI nl), .int (nI nc), .int (nI (nh + 1)), .int (nI nb), .int (nI dy)])) hH
    obtain ⟨φ_15, hφ_15, fa_φ_15, fr_φ_15, hH⟩ := hH
    have f_16 := fr_φ_15 _ _ (hp_ne f_14 f_13 (by intro h; first | (cases h; done) | (simp at h; done))) f_14
    have f_17 := fr_φ_15 _ _ (hp_ne fa_φ_12 f_13 (by intro h; first | (cases h; done) | (simp at h; done))) fa_φ_12
    refine lv_aload_n (pc := 38) S.1 S.2.1 dX8_hand_38 rfl (lv_at hl 0 rfl) ?_
    refine hv_get (pc := 39) (C := RX8) (T := TX8) (N := 11) (ref := RX8) S uwX8 hK hH fa_φ_15 rfl 8 (by decide) tw_96 (fun _ h9 => h9) rfl dX8_hand_39 ?_
    refine lv_iconst (pc := 42) (v := nI 1) S.1 S.2.1 dX8_hand_42 (by decide) ?_
    refine lv_isub (pc := 43) S.1 S.2.1 dX8_hand_43 ?_
    refine hv_ti (y := nI ((nh + 1) - 1)) (pk_sub (by omega)) ?_
    exact vx_ret (hv_ret (pc := 44) (v := nI ((nh + 1) - 1)) S hr rfl hlocks hH hS (⟨e0, hfl9, by rw [Nat.add_sub_cancel], q_3, hq_q_3, by rw [hφ_15, hφ_12, hφ_9, hφ_4]⟩) (Nat.le_of_ble_eq_true rfl) (Nat.le_of_ble_eq_true rfl) dX8_hand_44)

set_option maxHeartbeats 4000000 in
set_option maxRecDepth 100000 in
/-- block(size, depth) -/
theorem c_block (l : Launch) (hfl : l.stackTraces = false) (D : va_G) (cA : Nat → ClassId) (ga : Nat → Nat → Nat) (φ : hpM) (sz : Nat) (y sb la ca ha ba hd nl nc nh nb dy : Nat) (ab : Nat → Nat) (x z : Int32) (f0 : φ y = some (.inr (12, [.ref sb, .ref la, .ref ca, .ref ha, .ref ba, .ref hd, .int (nI nl), .int (nI nc), .int (nI nh), .int (nI nb), .int (nI dy)]))) (f1 : φ ba = some (.inl (cA 4, 8, .inr (.inr (.inr (.inr (reF nb ab))))))) (hnb : nb ≤ 8) : hMX l yX8_block cX8_block 3 (some .int) { frames := 9, cells := 4, slots := 20, locals := 260 } [.ref y, .int (x), .int (z)] D cA ga φ sz (fun v φ' => blockX nb x z = 0 ∧ (∃ x1 z1 : Nat, x = nI x1 ∧ z = nI z1 ∧ 300 ≤ x1 ∧ x1 ≤ 700 ∧ 1 ≤ z1 ∧ z1 ≤ 6 ∧ nb < 8 ∧ v = some (.int (nI nb)) ∧ ∃ q, φ q = none ∧ φ' = ups (ups (ups (ups φ q (.inr (4, [.int (nI 0), .int (nI 0)]))) q (.inr (4, [.int (nI x1), .int (nI z1)]))) ba (.inl (cA 4, 8, .inr (.inr (.inr (.inr (va_up (reF nb ab) nb (some q)))))))) y (.inr (12, [.ref sb, .ref la, .ref ca, .ref ha, .ref ba, .ref hd, .int (nI nl), .int (nI nc), .int (nI nh), .int (nI (nb + 1)), .int (nI dy)])))) (fun E φ' => φ' = φ ∧ E = exE (blockX nb x z) ∧ blockX nb x z ≠ 0) 4 20 := by
  refine hMX.of (by decide) (Nat.le_of_ble_eq_true rfl) rfl ?_
  intro p e s m args below meth c ls H locs S hr hlocks hne hsz hHz hH hK hX hS hA hl
  refine lv_iload_n (pc := 0) S.1 S.2.1 dX8_block_0 rfl (lv_at hl 1 rfl) ?_
  refine lv_sipush (pc := 1) (v := nI 300) S.1 S.2.1 dX8_block_1 (by decide) ?_
  refine lv_sipush (pc := 4) (v := nI 700) S.1 S.2.1 dX8_block_4 (by decide) ?_
  refine hv_callX (pc := 7) (vx_runS (As := [.int (x), .int (nI 300), .int (nI 700)]) (rest := []) S (c_refuseOutside l hfl D cA ga φ H.size x 300 700) (va_cwS 3 S.2.2.2.2 (gS tw_203 tw_204 tw_1 tw_205) rfl rfl rfl (by decide +kernel) ⟨Nat.le_of_ble_eq_true rfl, Nat.le_of_ble_eq_true rfl⟩) (pre0_S hH hK hX hS hA) rfl rfl hl.1 rfl (lv_room (Nat.le_of_ble_eq_true rfl)) dX8_block_7 ⟨Nat.le_of_ble_eq_true rfl, Nat.le_of_ble_eq_true rfl⟩) hS (af_le hH hS hA) (fun E ce q9 φ_2x H locs hx hH hS hce hcv hcl => ?_) (fun v_1 φ_2 H locs hw_v_1 hH hS => ?_)
  · skip
    have e9 : blockX nb x z = 1 := by rw [blockX, if_neg hx.2.2]
    exact hv_out hne hlocks hce hcv hcl hH hS ⟨hx.2.1, by rw [e9]; exact hx.1, by rw [e9]; decide⟩ (Nat.le_of_ble_eq_true rfl) (Nat.le_of_ble_eq_true rfl)
  · skip
    obtain ⟨rfl, hp9, hin_x⟩ := hw_v_1
    rw [hp9] at hH
    obtain ⟨x1, rfl, hxlo, hxhi⟩ := hin_x.nat (by omega) (by omega)
    refine lv_iload_n (pc := 10) S.1 S.2.1 dX8_block_10 rfl (lv_at hl 2 rfl) ?_
    refine lv_iconst (pc := 11) (v := nI 1) S.1 S.2.1 dX8_block_11 (by decide) ?_
    refine lv_bipush (pc := 12) (v := nI 6) S.1 S.2.1 dX8_block_12 (by decide) ?_
    refine hv_callX (pc := 14) (vx_runS (As := [.int (z), .int (nI 1), .int (nI 6)]) (rest := []) S (c_refuseOutside l hfl D cA ga φ H.size z 1 6) (va_cwS 3 S.2.2.2.2 (gS tw_203 tw_204 tw_1 tw_205) rfl rfl rfl (by decide +kernel) ⟨Nat.le_of_ble_eq_true rfl, Nat.le_of_ble_eq_true rfl⟩) (pre0_S hH hK hX hS hA) rfl rfl hl.1 rfl (lv_room (Nat.le_of_ble_eq_true rfl)) dX8_block_14 ⟨Nat.le_of_ble_eq_true rfl, Nat.le_of_ble_eq_true rfl⟩) hS (af_le hH hS hA) (fun E ce q9 φ_4x H locs hx hH hS hce hcv hcl => ?_) (fun v_3 φ_4 H locs hw_v_3 hH hS => ?_)
    · skip
      have e9 : blockX nb (nI x1) z = 1 := by rw [blockX, if_pos hin_x, if_neg hx.2.2]
      exact hv_out hne hlocks hce hcv hcl hH hS ⟨hx.2.1, by rw [e9]; exact hx.1, by rw [e9]; decide⟩ (Nat.le_of_ble_eq_true rfl) (Nat.le_of_ble_eq_true rfl)
    · skip
      obtain ⟨rfl, hp9, hin_z⟩ := hw_v_3
      rw [hp9] at hH
      obtain ⟨z1, rfl, hzlo, hzhi⟩ := hin_z.nat (by omega) (by omega)
      refine lv_aload_n (pc := 17) S.1 S.2.1 dX8_block_17 rfl (lv_at hl 0 rfl) ?_
      refine hv_get (pc := 18) (C := RX8) (T := TX8) (N := 11) (ref := RX8) S uwX8 hK hH f0 rfl 9 (by decide) tw_97 (fun _ h9 => h9) rfl dX8_block_18 ?_
      refine lv_aload_n (pc := 21) S.1 S.2.1 dX8_block_21 rfl (lv_at hl 0 rfl) ?_
      refine hv_get (pc := 22) (C := RX8) (T := TX8) (N := 11) (ref := RX8) S uwX8 hK hH f0 rfl 4 (by decide) tw_92 (fun _ h9 => h9) rfl dX8_block_22 ?_
      refine hv_alen (pc := 25) (v := nI 8) S hK hH 4 f1 rfl rfl dX8_block_25 ?_
      refine hv_callX (pc := 26) (vx_runS (As := [.int (nI nb), .int (nI 8)]) (rest := []) S (c_refuseFull l hfl D cA ga φ H.size nb 8 (by omega) (by omega)) (va_cwS 2 S.2.2.2.2 (gS tw_278 tw_279 tw_1 tw_280) rfl rfl rfl (by decide +kernel) ⟨Nat.le_of_ble_eq_true rfl, Nat.le_of_ble_eq_true rfl⟩) (pre0_S hH hK hX hS hA) rfl rfl hl.1 rfl (lv_room (Nat.le_of_ble_eq_true rfl)) dX8_block_26 ⟨Nat.le_of_ble_eq_true rfl, Nat.le_of_ble_eq_true rfl⟩) hS (af_le hH hS hA) (fun E ce q9 φ_6x H locs hx hH hS hce hcv hcl => ?_) (fun v_5 φ_6 H locs hw_v_5 hH hS => ?_)
      · skip
        have e9 : blockX nb (nI x1) (nI z1) = 2 := by rw [blockX, if_pos hin_x, if_pos hin_z, if_neg hx.2.2]
        exact hv_out hne hlocks hce hcv hcl hH hS ⟨hx.2.1, by rw [e9]; exact hx.1, by rw [e9]; decide⟩ (Nat.le_of_ble_eq_true rfl) (Nat.le_of_ble_eq_true rfl)
      · skip
        obtain ⟨rfl, hp9, hfl9⟩ := hw_v_5
        rw [hp9] at hH
        have e0 : blockX nb (nI x1) (nI z1) = 0 := by rw [blockX, if_pos hin_x, if_pos hin_z, if_pos hfl9]
        refine lv_aload_n (pc := 29) S.1 S.2.1 dX8_block_29 rfl (lv_at hl 0 rfl) ?_
        refine hv_get (pc := 30) (C := RX8) (T := TX8) (N := 11) (ref := RX8) S uwX8 hK hH f0 rfl 4 (by decide) tw_92 (fun _ h9 => h9) rfl dX8_block_30 ?_
        refine lv_aload_n (pc := 33) S.1 S.2.1 dX8_block_33 rfl (lv_at hl 0 rfl) ?_
        refine hv_get (pc := 34) (C := RX8) (T := TX8) (N := 11) (ref := RX8) S uwX8 hK hH f0 rfl 9 (by decide) tw_97 (fun _ h9 => h9) rfl dX8_block_34 ?_
        refine hv_new (pc := 37) (ci := 4) (fs := [.int (nI 0), .int (nI 0)]) (C := RX0) (T := TX0) (N := 2) S uwX0 tyX0 tyX0_ok tw_75 tw_732 tw_25 hK hH hS hA rfl (fun j hj => by rcases (show j = 0 ∨ j = 1 by omega) with rfl | rfl <;> rfl) (Nat.le_of_ble_eq_true rfl) (Nat.le_of_ble_eq_true rfl) dX8_block_37 (fun q_7 H hq_q_7 hH hS => ?_)
        replace hH := nup (e := .inr (4, [.int (nI 0), .int (nI 0)])) hH
        obtain ⟨φ_8, hφ_8, fa_φ_8, fr_φ_8, hH⟩ := hH
        have f_9 := fr_φ_8 _ _ (hp_nf f0 hq_q_7) f0
        have f_10 := fr_φ_8 _ _ (hp_nf f1 hq_q_7) f1
        refine lv_dup (pc := 40) S.1 S.2.1 dX8_block_40 rfl ?_
        refine lv_iload_n (pc := 41) S.1 S.2.1 dX8_block_41 rfl (lv_at hl 1 rfl) ?_
        refine lv_iload_n (pc := 42) S.1 S.2.1 dX8_block_42 rfl (lv_at hl 2 rfl) ?_
        refine hv_call (pc := 43) (va_runIN (As := [.int (nI x1), .int (nI z1)]) (rest := [.ref q_7, .int (nI nb), .ref ba]) S (c_X0_init l D cA ga φ_8 H.size q_7 x1 z1 fa_φ_8) ⟨va_cnB (host := "HatbandYard") 2 S.2.2.2.2 (gw tw_735) rfl rfl rfl (hX.nest _ (by decide +kernel)) (S.2.2.2.2 _ tw_25) (by decide +kernel) ⟨Nat.le_of_ble_eq_true rfl, Nat.le_of_ble_eq_true rfl⟩, rfl, S.2.2.2.2 _ tw_734⟩ (pre0_S hH hK hX hS hA) rfl rfl hl.1 rfl (lv_room (Nat.le_of_ble_eq_true rfl)) dX8_block_43 ⟨Nat.le_of_ble_eq_true rfl, Nat.le_of_ble_eq_true rfl⟩) hS (af_le hH hS hA) (fun v_11 φ_12 H locs hw_v_11 hH hS => ?_)
        obtain ⟨rfl, hp9⟩ := hw_v_11
        rw [hp9] at hH
        replace hH := nup (e := .inr (4, [.int (nI x1), .int (nI z1)])) hH
        obtain ⟨φ_13, hφ_13, fa_φ_13, fr_φ_13, hH⟩ := hH
        have f_14 := fr_φ_13 _ _ (hp_ne f_9 fa_φ_8 (by intro h; first | (cases h; done) | (simp at h; done))) f_9
        have f_15 := fr_φ_13 _ _ (hp_ne f_10 fa_φ_8 (by intro h; first | (cases h; done) | (simp at h; done))) f_10
        refine hv_aast (pc := 46) (r := (RX0, TX0, 2)) S hK hH hS 4 4 f_15 rfl fa_φ_13 rfl (vp_in_nI (by omega) (by omega)) dX8_block_46 (fun H locs hH hS => ?_)
        rw [nI_clamp (by omega)] at hH
        replace hH := nup (e := .inl (cA 4, 8, .inr (.inr (.inr (.inr (va_up (reF nb ab) nb (some q_7))))))) hH
        obtain ⟨φ_16, hφ_16, fa_φ_16, fr_φ_16, hH⟩ := hH
        have f_17 := fr_φ_16 _ _ (hp_ne f_14 f_15 (by intro h; first | (cases h; done) | (simp at h; done))) f_14
        have f_18 := fr_φ_16 _ _ (hp_ne fa_φ_13 f_15 (by intro h; first | (cases h; done) | (simp at h; done))) fa_φ_13
        refine lv_aload_n (pc := 47) S.1 S.2.1 dX8_block_47 rfl (lv_at hl 0 rfl) ?_
        refine lv_dup (pc := 48) S.1 S.2.1 dX8_block_48 rfl ?_
        refine hv_get (pc := 49) (C := RX8) (T := TX8) (N := 11) (ref := RX8) S uwX8 hK hH f_17 rfl 9 (by decide) tw_97 (fun _ h9 => h9) rfl dX8_block_49 ?_
        refine lv_iconst (pc := 52) (v := nI 1) S.1 S.2.1 dX8_block_52 (by decide) ?_
        refine lv_iadd (pc := 53) S.1 S.2.1 dX8_block_53 ?_
        refine hv_ti (y := nI (nb + 1)) (nI_add _ _) ?_
        refine hv_put (pc := 54) (ty := .int) (C := RX8) (T := TX8) (N := 11) (ref := RX8) S uwX8 tyX8 tyX8_ok nmX8 hK hH hS f_17 rfl 9 (by decide) tw_97 (fun _ h9 => h9) rfl (by decide +kernel) rfl rfl (Nat.le_of_ble_eq_true rfl) dX8_block_54 (fun H locs hH hS => ?_)
        replace hH := nup (e := .inr (12, [.ref sb, .ref la, .ref ca, .ref ha, .ref ba, .ref hd, .int (nI nl), .int (nI nc), .int (nI nh), .int (nI (nb + 1)), .int (nI dy)])) hH
        obtain ⟨φ_19, hφ_19, fa_φ_19, fr_φ_19, hH⟩ := hH
        have f_20 := fr_φ_19 _ _ (hp_ne f_18 f_17 (by intro h; first | (cases h; done) | (simp at h; done))) f_18
        have f_21 := fr_φ_19 _ _ (hp_ne fa_φ_16 f_17 (by intro h; first | (cases h; done) | (simp at h; done))) fa_φ_16
        refine lv_aload_n (pc := 57) S.1 S.2.1 dX8_block_57 rfl (lv_at hl 0 rfl) ?_
        refine hv_get (pc := 58) (C := RX8) (T := TX8) (N := 11) (ref := RX8) S uwX8 hK hH fa_φ_19 rfl 9 (by decide) tw_97 (fun _ h9 => h9) rfl dX8_block_58 ?_
        refine lv_iconst (pc := 61) (v := nI 1) S.1 S.2.1 dX8_block_61 (by decide) ?_
        refine lv_isub (pc := 62) S.1 S.2.1 dX8_block_62 ?_
        refine hv_ti (y := nI ((nb + 1) - 1)) (pk_sub (by omega)) ?_
        exact vx_ret (hv_ret (pc := 63) (v := nI ((nb + 1) - 1)) S hr rfl hlocks hH hS (⟨e0, x1, z1, rfl, rfl, hxlo, hxhi, hzlo, hzhi, hfl9, by rw [Nat.add_sub_cancel], q_7, hq_q_7, by rw [hφ_19, hφ_16, hφ_13, hφ_8]⟩) (Nat.le_of_ble_eq_true rfl) (Nat.le_of_ble_eq_true rfl) dX8_block_63)
