def drawX (nc nb : Nat) (x z : Int32) : Nat := if inN x nc then (if inN z nb then 0 else 3) else 3
def trimX (nc : Nat) (tr : Nat → Nat) (x : Int32) : Nat := if inN x nc then (if tr (nx x) = 0 then 0 else 2) else 3
def passX (x : Int32) : Nat := if inR x 1 30 then 0 else 1
def aboutX (nc : Nat) (x z t : Int32) : Nat := if inN x nc then (if inN z 6 then (if inR t 0 3 then 0 else 1) else 3) else 3
def anewX (nc : Nat) (x z : Int32) : Nat := if inN x nc then (if inN z 6 then 0 else 3) else 3
def cntX (x : Int32) : Nat := if inR x 1 100 then 0 else 1
def rowsX (x : Int32) : Nat := if inR x 1 2000 then 0 else 1
def measX (x z : Int32) : Nat := if inN x 8 then (if inR z 0 200 then 0 else 1) else 3
def inX (n : Nat) (x : Int32) : Nat := if inN x n then 0 else 3
/-- the refusal of a draw -/
def refR (k ht : Nat) (wf mf bw : Nat → Nat) : Nat := if hoF wf mf ht 6 0 = 0 then rfF k wf bw 6 0 0 else 1
theorem rfF_le (k : Nat) (wf bw : Nat → Nat) : ∀ n j t, rfF k wf bw n j t ≤ 3
  | 0, _, t => by unfold rfF; split <;> omega
  | n + 1, j, t => by
    unfold rfF
    split
    · omega
    · exact rfF_le k wf bw n (j + 1) _
theorem refR_le (k ht : Nat) (wf mf bw : Nat → Nat) : refR k ht wf mf bw ≤ 3 := by
  unfold refR
  split
  · exact rfF_le ..
  · omega
/-- the hands of which the first i have had a new day -/
def hdZ (ad : Nat → Nat) (i : Nat) : Nat → Nat := fun j => if j < i then 0 else ad j
set_option maxHeartbeats 4000000 in
set_option maxRecDepth 100000 in
/-- cycle(cone, hand) -/
theorem c_cycle (l : Launch) (hfl : l.stackTraces = false) (D : va_G) (cA : Nat → ClassId) (ga : Nat → Nat → Nat) (φ : hpM) (sz : Nat) (y sb la ca ha ba hd nl nc nh nb dy : Nat) (ac aw ag cf ht cy tr ab dr : Nat → Nat) (wf mf : Nat → Nat → Nat) (ah ad ae : Nat → Nat) (x z : Int32) (f0 : φ y = some (.inr (12, [.ref sb, .ref la, .ref ca, .ref ha, .ref ba, .ref hd, .int (nI nl), .int (nI nc), .int (nI nh), .int (nI nb), .int (nI dy)]))) (f1 : φ ca = some (.inl (cA 5, 12, .inr (.inr (.inr (.inr (reF nc ac))))))) (f2 : φ ha = some (.inl (cA 6, 6, .inr (.inr (.inr (.inr (reF nh ah))))))) (hcn : ∀ i, i < nc → φ (ac i) = some (.inr (5, [.ref (ga 0 (cf i)), .ref (aw i), .ref (ag i), .int (nI (ht i)), .int (nI (cy i)), lbV ab (dr i), .int (nI (tr i))])) ∧ φ (aw i) = some (.inl (cA 1, 6, .inl (fun j => nI ((wf i) j)))) ∧ φ (ag i) = some (.inl (cA 1, 6, .inl (fun j => nI ((mf i) j)))) ∧ ag i ≠ aw i) (hcb : ∀ i, i < nc → cf i < 4 ∧ (∀ j, wf i j ≤ 1200) ∧ ht i ≤ 60 ∧ (∀ j, mf i j ≤ 500) ∧ cy i ≤ 12 ∧ tr i ≤ 1) (hnc : nc ≤ 12) (hha : ∀ i, i < nh → φ (ah i) = some (.inr (8, [.int (nI (ad i)), .int (nI (ae i))]))) (hnh : nh ≤ 6) (had : ∀ i, i < nh → ad i ≤ 30) : hMX l yX8_cycle cX8_cycle 5 (some .int) { frames := 10, cells := 8, slots := 48, locals := 320 } [.ref y, .int (x), .int (z)] D cA ga φ sz (fun v φ' => cycleX nc nh cf cy ad dr x z = 0 ∧ (∃ x1 z1 : Nat, x = nI x1 ∧ z = nI z1 ∧ x1 < nc ∧ z1 < nh ∧ ad z1 + fAir (cf x1) ≤ 30 ∧ dr x1 = 0 ∧ cy x1 < 12 ∧ v = some (.int (nI (shA (cf x1) (wf x1 0)))) ∧ φ' = ups (ups (ups φ (ah z1) (.inr (8, [.int (nI (ad z1 + fAir (cf x1))), .int (nI (ae z1 + fAir (cf x1)))]))) (aw x1) (.inl (cA 1, 6, .inl (fun j => nI ((shP (cf x1) (wf x1) 6) j))))) (ac x1) (.inr (5, [.ref (ga 0 (cf x1)), .ref (aw x1), .ref (ag x1), .int (nI (shL (cf x1) (ht x1))), .int (nI (cy x1 + 1)), lbV ab (dr x1), .int (nI (tr x1))])))) (fun E φ' => φ' = φ ∧ E = exE (cycleX nc nh cf cy ad dr x z) ∧ cycleX nc nh cf cy ad dr x z ≠ 0) 8 48 := by
  refine hMX.of (by decide) (Nat.le_of_ble_eq_true rfl) rfl ?_
  intro p e s m args below meth c ls H locs S hr hlocks hne hsz hHz hH hK hX hS hA hl
  refine lv_aload_n (pc := 0) S.1 S.2.1 dX8_cycle_0 rfl (lv_at hl 0 rfl) ?_
  refine lv_iload_n (pc := 1) S.1 S.2.1 dX8_cycle_1 rfl (lv_at hl 1 rfl) ?_
  refine hv_callX (pc := 2) (vx_runV (As := [.int (x)]) (rest := []) S (c_coneAt l hfl D cA ga φ H.size y sb la ca ha ba hd nl nc nh nb dy x (reF nc ac) f0 f1) (cwV 1 S.2.2.2.2 (gV tw_126 tw_128 sw_0 tw_1 tw_129) rfl rfl rfl (by decide +kernel) ⟨Nat.le_of_ble_eq_true rfl, Nat.le_of_ble_eq_true rfl⟩) (pre0_V hH hK hX hS hA (hH.recv hK f0 rfl)) rfl rfl hl.1 rfl (lv_room (Nat.le_of_ble_eq_true rfl)) dX8_cycle_2 ⟨Nat.le_of_ble_eq_true rfl, Nat.le_of_ble_eq_true rfl⟩) hS (af_le hH hS hA) (fun E ce q9 φ_2x H locs hx hH hS hce hcv hcl => ?_) (fun v_1 φ_2 H locs hw_v_1 hH hS => ?_)
  · skip
    have hn9 : ¬ inN x nc := fun h => by obtain ⟨i, e, hi⟩ := h.nat (by omega); exact hx.2.2 i (ac i) e (by omega) (reF_at hi)
    have e9 : cycleX nc nh cf cy ad dr x z = 3 := by rw [cycleX, if_neg hn9]
    exact hv_out hne hlocks hce hcv hcl hH hS ⟨hx.2.1, by rw [e9]; exact hx.1, by rw [e9]; decide⟩ (Nat.le_of_ble_eq_true rfl) (Nat.le_of_ble_eq_true rfl)
  · skip
    obtain ⟨⟨x1, a9, rfl, hxhi, hf9, rfl⟩, hp9⟩ := hw_v_1
    rw [hp9] at hH
    obtain ⟨hxn, rfl⟩ := reF_some hf9
    have hin_x : inN (nI x1) nc := (inN_nI (by omega) (by omega)).mpr hxn
    refine lv_astore_n (pc := 5) (lv' := [(3, .ref (ac x1)), (0, .ref y), (1, .int (nI x1)), (2, .int (z))]) S.1 S.2.1 dX8_cycle_5 rfl hl (by decide) rfl (fun ls hl => ?_)
    refine lv_aload_n (pc := 6) S.1 S.2.1 dX8_cycle_6 rfl (lv_at hl 1 rfl) ?_
    refine lv_iload_n (pc := 7) S.1 S.2.1 dX8_cycle_7 rfl (lv_at hl 3 rfl) ?_
    refine hv_callX (pc := 8) (vx_runV (As := [.int (z)]) (rest := []) S (c_handAt l hfl D cA ga φ H.size y sb la ca ha ba hd nl nc nh nb dy z (reF nh ah) f0 f2) (cwV 1 S.2.2.2.2 (gV tw_242 tw_244 sw_5 tw_1 tw_245) rfl rfl rfl (by decide +kernel) ⟨Nat.le_of_ble_eq_true rfl, Nat.le_of_ble_eq_true rfl⟩) (pre0_V hH hK hX hS hA (hH.recv hK f0 rfl)) rfl rfl hl.1 rfl (lv_room (Nat.le_of_ble_eq_true rfl)) dX8_cycle_8 ⟨Nat.le_of_ble_eq_true rfl, Nat.le_of_ble_eq_true rfl⟩) hS (af_le hH hS hA) (fun E ce q9 φ_4x H locs hx hH hS hce hcv hcl => ?_) (fun v_3 φ_4 H locs hw_v_3 hH hS => ?_)
    · skip
      have hn9 : ¬ inN z nh := fun h => by obtain ⟨i, e, hi⟩ := h.nat (by omega); exact hx.2.2 i (ah i) e (by omega) (reF_at hi)
      have e9 : cycleX nc nh cf cy ad dr (nI x1) z = 3 := by rw [cycleX, if_pos hin_x, if_neg hn9]
      exact hv_out hne hlocks hce hcv hcl hH hS ⟨hx.2.1, by rw [e9]; exact hx.1, by rw [e9]; decide⟩ (Nat.le_of_ble_eq_true rfl) (Nat.le_of_ble_eq_true rfl)
    · skip
      obtain ⟨⟨z1, a9, rfl, hzhi, hf9, rfl⟩, hp9⟩ := hw_v_3
      rw [hp9] at hH
      obtain ⟨hzn, rfl⟩ := reF_some hf9
      have hin_z : inN (nI z1) nh := (inN_nI (by omega) (by omega)).mpr hzn
      refine lv_astore (pc := 11) (lv' := [(4, .ref (ah z1)), (3, .ref (ac x1)), (0, .ref y), (1, .int (nI x1)), (2, .int (nI z1))]) S.1 S.2.1 dX8_cycle_11 hl (by decide) rfl (fun ls hl => ?_)
      obtain ⟨fc0, fc1, fc2, nga⟩ := hcn x1 hxn
      obtain ⟨hcf, hwf, hht, hmf, hcy, htr⟩ := hcb x1 hxn
      have fh := hha z1 hzn
      have had1 := had z1 hzn
      have hfa := fAir_le (cf x1)
      have hx1 : x1 < 2 ^ 31 := by omega
      have hz1 : z1 < 2 ^ 31 := by omega
      refine lv_aload (pc := 13) S.1 S.2.1 dX8_cycle_13 (lv_at hl 0 rfl) ?_
      refine hv_getN (pc := 15) (C := RX4) (T := TX4) (N := 2) (ref := RX4) (host := "HatbandYard") S uwX4 hK hH fh rfl 0 (by decide) (hX.nest _ (by decide +kernel)) (fun _ h9 => h9) rfl dX8_cycle_15 ?_
      refine lv_aload_n (pc := 18) S.1 S.2.1 dX8_cycle_18 rfl (lv_at hl 1 rfl) ?_
      refine hv_getN (pc := 19) (C := RX1) (T := TX1) (N := 7) (ref := RX1) (host := "HatbandYard") S uwX1 hK hH fc0 rfl 0 (by decide) (hX.nest _ (by decide +kernel)) (fun _ h9 => h9) rfl dX8_cycle_19 ?_
      refine hv_getXN (pc := 22) (i := cf x1) (ref := RX3) (index := 123) (host := "HatbandYard") S hX.fur_airOfCycle hcf hS (hX.nest _ (by decide +kernel)) (fun _ h9 => h9) dX8_cycle_22 ?_
      refine lv_iadd (pc := 25) S.1 S.2.1 dX8_cycle_25 ?_
      refine hv_ti (y := nI ((ad z1) + (fAir (cf x1)))) (nI_add _ _) ?_
      refine lv_bipush (pc := 26) (v := nI 30) S.1 S.2.1 dX8_cycle_26 (by decide) ?_
      refine hv_icmp_le (pc := 28) (tgt := 41) (a := (ad z1) + (fAir (cf x1))) (b := 30) S.1 S.2.1 (by omega) (by omega) dX8_cycle_28 (by decide) (fun c_5 => ?_) (fun c_5 => ?_)
      · skip
        refine lv_aload_n (pc := 41) S.1 S.2.1 dX8_cycle_41 rfl (lv_at hl 1 rfl) ?_
        refine hv_getN (pc := 42) (C := RX1) (T := TX1) (N := 7) (ref := RX1) (host := "HatbandYard") S uwX1 hK hH fc0 rfl 5 (by decide) (hX.nest _ (by decide +kernel)) (fun _ h9 => h9) rfl dX8_cycle_42 ?_
        rcases Nat.eq_zero_or_pos (dr x1) with hd0 | hd0
        · skip
          refine hv_tv (y := .null) (by rw [lbV, if_pos hd0]) ?_
          refine lv_ifnullN (pc := 45) (tgt := 58) S.1 S.2.1 dX8_cycle_45 (by decide) ?_
          refine lv_aload_n (pc := 58) S.1 S.2.1 dX8_cycle_58 rfl (lv_at hl 1 rfl) ?_
          refine hv_getN (pc := 59) (C := RX1) (T := TX1) (N := 7) (ref := RX1) (host := "HatbandYard") S uwX1 hK hH fc0 rfl 4 (by decide) (hX.nest _ (by decide +kernel)) (fun _ h9 => h9) rfl dX8_cycle_59 ?_
          refine lv_bipush (pc := 62) (v := nI 12) S.1 S.2.1 dX8_cycle_62 (by decide) ?_
          refine hv_callX (pc := 64) (vx_runS (As := [.int (nI (cy x1)), .int (nI 12)]) (rest := []) S (c_refuseFull l hfl D cA ga φ H.size (cy x1) 12 (by omega) (by omega)) (va_cwS 2 S.2.2.2.2 (gS tw_278 tw_279 tw_1 tw_280) rfl rfl rfl (by decide +kernel) ⟨Nat.le_of_ble_eq_true rfl, Nat.le_of_ble_eq_true rfl⟩) (pre0_S hH hK hX hS hA) rfl rfl hl.1 rfl (lv_room (Nat.le_of_ble_eq_true rfl)) dX8_cycle_64 ⟨Nat.le_of_ble_eq_true rfl, Nat.le_of_ble_eq_true rfl⟩) hS (af_le hH hS hA) (fun E ce q9 φ_7x H locs hx hH hS hce hcv hcl => ?_) (fun v_6 φ_7 H locs hw_v_6 hH hS => ?_)
          · skip
            have e9 : cycleX nc nh cf cy ad dr (nI x1) (nI z1) = 2 := by rw [cycleX, if_pos hin_x, if_pos hin_z, nx_nI hx1, nx_nI hz1, if_pos c_5, if_pos hd0, if_neg hx.2.2]
            exact hv_out hne hlocks hce hcv hcl hH hS ⟨hx.2.1, by rw [e9]; exact hx.1, by rw [e9]; decide⟩ (Nat.le_of_ble_eq_true rfl) (Nat.le_of_ble_eq_true rfl)
          · skip
            obtain ⟨rfl, hp9, hfl9⟩ := hw_v_6
            rw [hp9] at hH
            have e0 : cycleX nc nh cf cy ad dr (nI x1) (nI z1) = 0 := by rw [cycleX, if_pos hin_x, if_pos hin_z, nx_nI hx1, nx_nI hz1, if_pos c_5, if_pos hd0, if_pos hfl9]
            refine lv_aload (pc := 67) S.1 S.2.1 dX8_cycle_67 (lv_at hl 0 rfl) ?_
            refine lv_aload_n (pc := 69) S.1 S.2.1 dX8_cycle_69 rfl (lv_at hl 1 rfl) ?_
            refine hv_getN (pc := 70) (C := RX1) (T := TX1) (N := 7) (ref := RX1) (host := "HatbandYard") S uwX1 hK hH fc0 rfl 0 (by decide) (hX.nest _ (by decide +kernel)) (fun _ h9 => h9) rfl dX8_cycle_70 ?_
            refine hv_getXN (pc := 73) (i := cf x1) (ref := RX3) (index := 123) (host := "HatbandYard") S hX.fur_airOfCycle hcf hS (hX.nest _ (by decide +kernel)) (fun _ h9 => h9) dX8_cycle_73 ?_
            refine hv_call (pc := 76) (va_runVN (As := [.int (nI (fAir (cf x1)))]) (rest := []) S (c_X4_breathe l D cA ga φ H.size (ah z1) (ad z1) (ae z1) (fAir (cf x1)) fh) ⟨va_cnB (host := "HatbandYard") 1 S.2.2.2.2 (gw tw_714) rfl rfl rfl (hX.nest _ (by decide +kernel)) (S.2.2.2.2 _ tw_24) (by decide +kernel) ⟨Nat.le_of_ble_eq_true rfl, Nat.le_of_ble_eq_true rfl⟩, S.2.2.2.2 _ tw_713, S.2.2.2.2 _ sw_10⟩ (pre0_V hH hK hX hS hA (hH.recv hK fh rfl)) rfl rfl hl.1 rfl (lv_room (Nat.le_of_ble_eq_true rfl)) dX8_cycle_76 ⟨Nat.le_of_ble_eq_true rfl, Nat.le_of_ble_eq_true rfl⟩) hS (af_le hH hS hA) (fun v_8 φ_9 H locs hw_v_8 hH hS => ?_)
            obtain ⟨rfl, hp9⟩ := hw_v_8
            rw [hp9] at hH
            replace hH := nup (e := .inr (8, [.int (nI (ad z1 + fAir (cf x1))), .int (nI (ae z1 + fAir (cf x1)))])) hH
            obtain ⟨φ_10, hφ_10, fa_φ_10, fr_φ_10, hH⟩ := hH
            have f_11 := fr_φ_10 _ _ (hp_ne f0 fh (by intro h; first | (cases h; done) | (simp at h; done))) f0
            have f_12 := fr_φ_10 _ _ (hp_ne f1 fh (by intro h; first | (cases h; done) | (simp at h; done))) f1
            have f_13 := fr_φ_10 _ _ (hp_ne f2 fh (by intro h; first | (cases h; done) | (simp at h; done))) f2
            have f_14 := fr_φ_10 _ _ (hp_ne fc0 fh (by intro h; first | (cases h; done) | (simp at h; done))) fc0
            have f_15 := fr_φ_10 _ _ (hp_ne fc1 fh (by intro h; first | (cases h; done) | (simp at h; done))) fc1
            have f_16 := fr_φ_10 _ _ (hp_ne fc2 fh (by intro h; first | (cases h; done) | (simp at h; done))) fc2
            refine lv_aload_n (pc := 79) S.1 S.2.1 dX8_cycle_79 rfl (lv_at hl 1 rfl) ?_
            refine hv_call (pc := 80) (va_runVN (As := []) (rest := []) S (c_X1_shrink l D cA ga φ_10 H.size (ac x1) (aw x1) (ag x1) (cf x1) (ht x1) (cy x1) (tr x1) (lbV ab (dr x1)) (wf x1) (mf x1) f_14 f_15 f_16 hcf hwf hht hmf) ⟨va_cnB (host := "HatbandYard") 0 S.2.2.2.2 (gw tw_718) rfl rfl rfl (hX.nest _ (by decide +kernel)) (S.2.2.2.2 _ tw_23) (by decide +kernel) ⟨Nat.le_of_ble_eq_true rfl, Nat.le_of_ble_eq_true rfl⟩, S.2.2.2.2 _ tw_717, S.2.2.2.2 _ sw_11⟩ (pre0_V hH hK hX hS hA (hH.recv hK f_14 rfl)) rfl rfl hl.1 rfl (lv_room (Nat.le_of_ble_eq_true rfl)) dX8_cycle_80 ⟨Nat.le_of_ble_eq_true rfl, Nat.le_of_ble_eq_true rfl⟩) hS (af_le hH hS hA) (fun v_17 φ_18 H locs hw_v_17 hH hS => ?_)
            obtain ⟨rfl, hp9⟩ := hw_v_17
            rw [hp9] at hH
            obtain ⟨φ_19, hφ_19⟩ : ∃ z : hpM, z = ups φ_10 (aw x1) (.inl (cA 1, 6, .inl (fun j => nI ((shP (cf x1) (wf x1) 6) j)))) := ⟨_, rfl⟩
            rw [← hφ_19] at hH
            have f_20 : φ_19 y = some (.inr (12, [.ref sb, .ref la, .ref ca, .ref ha, .ref ba, .ref hd, .int (nI nl), .int (nI nc), .int (nI nh), .int (nI nb), .int (nI dy)])) := by rw [hφ_19]; exact ups_n (hp_ne f_11 f_15 (by intro h; first | (cases h; done) | (simp at h; done))) f_11
            have f_21 : φ_19 ca = some (.inl (cA 5, 12, .inr (.inr (.inr (.inr (reF nc ac)))))) := by rw [hφ_19]; exact ups_n (hp_ne f_12 f_15 (by intro h; first | (cases h; done) | (simp at h; done))) f_12
            have f_22 : φ_19 ha = some (.inl (cA 6, 6, .inr (.inr (.inr (.inr (reF nh ah)))))) := by rw [hφ_19]; exact ups_n (hp_ne f_13 f_15 (by intro h; first | (cases h; done) | (simp at h; done))) f_13
            have f_23 : φ_19 (ac x1) = some (.inr (5, [.ref (ga 0 (cf x1)), .ref (aw x1), .ref (ag x1), .int (nI (ht x1)), .int (nI (cy x1)), lbV ab (dr x1), .int (nI (tr x1))])) := by rw [hφ_19]; exact ups_n (hp_ne f_14 f_15 (by intro h; first | (cases h; done) | (simp at h; done))) f_14
            have f_24 : φ_19 (ag x1) = some (.inl (cA 1, 6, .inl (fun j => nI ((mf x1) j)))) := by rw [hφ_19]; exact ups_n nga f_16
            have f_25 : φ_19 (ah z1) = some (.inr (8, [.int (nI (ad z1 + fAir (cf x1))), .int (nI (ae z1 + fAir (cf x1)))])) := by rw [hφ_19]; exact ups_n (hp_ne fa_φ_10 f_15 (by intro h; first | (cases h; done) | (simp at h; done))) fa_φ_10
            have f_26 : φ_19 (aw x1) = some (.inl (cA 1, 6, .inl (fun j => nI ((shP (cf x1) (wf x1) 6) j)))) := by rw [hφ_19]; exact ups_s _ _ _
            replace hH := nup (e := .inr (5, [.ref (ga 0 (cf x1)), .ref (aw x1), .ref (ag x1), .int (nI (shL (cf x1) (ht x1))), .int (nI (cy x1 + 1)), lbV ab (dr x1), .int (nI (tr x1))])) hH
            obtain ⟨φ_27, hφ_27, fa_φ_27, fr_φ_27, hH⟩ := hH
            have f_28 := fr_φ_27 _ _ (hp_ne f_20 f_23 (by intro h; first | (cases h; done) | (simp at h; done))) f_20
            have f_29 := fr_φ_27 _ _ (hp_ne f_21 f_23 (by intro h; first | (cases h; done) | (simp at h; done))) f_21
            have f_30 := fr_φ_27 _ _ (hp_ne f_22 f_23 (by intro h; first | (cases h; done) | (simp at h; done))) f_22
            have f_31 := fr_φ_27 _ _ (hp_ne f_24 f_23 (by intro h; first | (cases h; done) | (simp at h; done))) f_24
            have f_32 := fr_φ_27 _ _ (hp_ne f_25 f_23 (by intro h; first | (cases h; done) | (simp at h; done))) f_25
            have f_33 := fr_φ_27 _ _ (hp_ne f_26 f_23 (by intro h; first | (cases h; done) | (simp at h; done))) f_26
            refine lv_aload_n (pc := 83) S.1 S.2.1 dX8_cycle_83 rfl (lv_at hl 1 rfl) ?_
            refine lv_iconst (pc := 84) (v := nI 0) S.1 S.2.1 dX8_cycle_84 (by decide) ?_
            refine hv_call (pc := 85) (va_runVN (As := [.int (nI 0)]) (rest := []) S (c_X1_widthOf l D cA ga φ_27 H.size (ac x1) (aw x1) (ag x1) (cf x1) (shL (cf x1) (ht x1)) (cy x1 + 1) (tr x1) (lbV ab (dr x1)) (shP (cf x1) (wf x1) 6) (mf x1) 0 fa_φ_27 f_33 f_31 (by omega)) ⟨va_cnB (host := "HatbandYard") 1 S.2.2.2.2 (gw tw_226) rfl rfl rfl (hX.nest _ (by decide +kernel)) (S.2.2.2.2 _ tw_23) (by decide +kernel) ⟨Nat.le_of_ble_eq_true rfl, Nat.le_of_ble_eq_true rfl⟩, S.2.2.2.2 _ tw_224, S.2.2.2.2 _ sw_2⟩ (pre0_V hH hK hX hS hA (hH.recv hK fa_φ_27 rfl)) rfl rfl hl.1 rfl (lv_room (Nat.le_of_ble_eq_true rfl)) dX8_cycle_85 ⟨Nat.le_of_ble_eq_true rfl, Nat.le_of_ble_eq_true rfl⟩) hS (af_le hH hS hA) (fun v_34 φ_35 H locs hw_v_34 hH hS => ?_)
            obtain ⟨rfl, hqv_34⟩ := hw_v_34
            rw [hqv_34] at hH
            exact vx_ret (hv_ret (pc := 88) (v := nI (shP (cf x1) (wf x1) 6 0)) S hr rfl hlocks hH hS (⟨e0, x1, z1, rfl, rfl, hxn, hzn, c_5, hd0, hfl9, rfl, by rw [hφ_27, hφ_19, hφ_10]⟩) (Nat.le_of_ble_eq_true rfl) (Nat.le_of_ble_eq_true rfl) dX8_cycle_88)
        · skip
          refine hv_tv (y := .ref (ab (dr x1 - 1))) (by rw [lbV, if_neg (by omega)]) ?_
          refine lv_ifnull (pc := 45) S.1 S.2.1 dX8_cycle_45 ?_
          have e9 : cycleX nc nh cf cy ad dr (nI x1) (nI z1) = 2 := by rw [cycleX, if_pos hin_x, if_pos hin_z, nx_nI hx1, nx_nI hz1, if_pos c_5, if_neg (by omega)]
          exact hv_throw (pc := 48) (cls := "java/lang/IllegalStateException") (text := "the cone was drawn over a block") (ik := 96) (is := 134) (ic := 100) S hfl (by decide +kernel) tw_281 tw_12 hX.tx134 atISE hX hne hlocks hH hS (⟨rfl, by rw [e9]; rfl, by rw [e9]; decide⟩) hl.1 dX8_cycle_48 dX8_cycle_51 dX8_cycle_52 dX8_cycle_54 dX8_cycle_57 (Nat.le_of_ble_eq_true rfl) (Nat.le_of_ble_eq_true rfl) (Nat.le_of_ble_eq_true rfl) (Nat.le_of_ble_eq_true rfl) (Nat.le_of_ble_eq_true rfl) (Nat.le_of_ble_eq_true rfl)
      · skip
        have e9 : cycleX nc nh cf cy ad dr (nI x1) (nI z1) = 2 := by rw [cycleX, if_pos hin_x, if_pos hin_z, nx_nI hx1, nx_nI hz1, if_neg (by omega)]
        exact hv_throw (pc := 31) (cls := "java/lang/IllegalStateException") (text := "too much air for the hand today") (ik := 96) (is := 128) (ic := 100) S hfl (by decide +kernel) tw_281 tw_12 hX.tx128 atISE hX hne hlocks hH hS (⟨rfl, by rw [e9]; rfl, by rw [e9]; decide⟩) hl.1 dX8_cycle_31 dX8_cycle_34 dX8_cycle_35 dX8_cycle_37 dX8_cycle_40 (Nat.le_of_ble_eq_true rfl) (Nat.le_of_ble_eq_true rfl) (Nat.le_of_ble_eq_true rfl) (Nat.le_of_ble_eq_true rfl) (Nat.le_of_ble_eq_true rfl) (Nat.le_of_ble_eq_true rfl)

set_option maxHeartbeats 4000000 in
set_option maxRecDepth 100000 in
/-- draw(cone, block) -/
theorem c_draw (l : Launch) (hfl : l.stackTraces = false) (D : va_G) (cA : Nat → ClassId) (ga : Nat → Nat → Nat) (φ : hpM) (sz : Nat) (y sb la ca ha ba hd nl nc nh nb dy : Nat) (ac aw ag cf ht cy tr ab dr : Nat → Nat) (wf mf : Nat → Nat → Nat) (bs bd : Nat → Nat) (x z : Int32) (f0 : φ y = some (.inr (12, [.ref sb, .ref la, .ref ca, .ref ha, .ref ba, .ref hd, .int (nI nl), .int (nI nc), .int (nI nh), .int (nI nb), .int (nI dy)]))) (f1 : φ ca = some (.inl (cA 5, 12, .inr (.inr (.inr (.inr (reF nc ac))))))) (f2 : φ ba = some (.inl (cA 4, 8, .inr (.inr (.inr (.inr (reF nb ab))))))) (hcn : ∀ i, i < nc → φ (ac i) = some (.inr (5, [.ref (ga 0 (cf i)), .ref (aw i), .ref (ag i), .int (nI (ht i)), .int (nI (cy i)), lbV ab (dr i), .int (nI (tr i))])) ∧ φ (aw i) = some (.inl (cA 1, 6, .inl (fun j => nI ((wf i) j)))) ∧ φ (ag i) = some (.inl (cA 1, 6, .inl (fun j => nI ((mf i) j)))) ∧ ag i ≠ aw i) (hcb : ∀ i, i < nc → cf i < 4 ∧ (∀ j, wf i j ≤ 1200) ∧ ht i ≤ 60 ∧ (∀ j, mf i j ≤ 500) ∧ cy i ≤ 12 ∧ tr i ≤ 1) (hnc : nc ≤ 12) (hbl : ∀ i, i < nb → φ (ab i) = some (.inr (4, [.int (nI (bs i)), .int (nI (bd i))]))) (hbb : ∀ i, i < nb → bs i ≤ 700 ∧ bd i ≤ 6) (hnb : nb ≤ 8) : hMX l yX8_draw cX8_draw 6 (some .int) { frames := 12, cells := 4, slots := 24, locals := 440 } [.ref y, .int (x), .int (z)] D cA ga φ sz (fun v φ' => drawX nc nb x z = 0 ∧ (∃ x1 z1 : Nat, x = nI x1 ∧ z = nI z1 ∧ x1 < nc ∧ z1 < nb ∧ v = some (.int (nI (refR (cf x1) (ht x1) (wf x1) (mf x1) (bW (bs z1) (bd z1))))) ∧ φ' = if refR (cf x1) (ht x1) (wf x1) (mf x1) (bW (bs z1) (bd z1)) = 0 then ups (ups φ (aw x1) (.inl (cA 1, 6, .inl (fun j => nI ((pfx (bW (bs z1) (bd z1)) (wf x1) 6) j))))) (ac x1) (.inr (5, [.ref (ga 0 (cf x1)), .ref (aw x1), .ref (ag x1), .int (nI (ht x1)), .int (nI (cy x1)), .ref (ab z1), .int (nI (tr x1))])) else φ)) (fun E φ' => φ' = φ ∧ E = exE (drawX nc nb x z) ∧ drawX nc nb x z ≠ 0) 4 24 := by
  refine hMX.of (by decide) (Nat.le_of_ble_eq_true rfl) rfl ?_
  intro p e s m args below meth c ls H locs S hr hlocks hne hsz hHz hH hK hX hS hA hl
  refine lv_aload_n (pc := 0) S.1 S.2.1 dX8_draw_0 rfl (lv_at hl 0 rfl) ?_
  refine lv_iload_n (pc := 1) S.1 S.2.1 dX8_draw_1 rfl (lv_at hl 1 rfl) ?_
  refine hv_callX (pc := 2) (vx_runV (As := [.int (x)]) (rest := []) S (c_coneAt l hfl D cA ga φ H.size y sb la ca ha ba hd nl nc nh nb dy x (reF nc ac) f0 f1) (cwV 1 S.2.2.2.2 (gV tw_126 tw_128 sw_0 tw_1 tw_129) rfl rfl rfl (by decide +kernel) ⟨Nat.le_of_ble_eq_true rfl, Nat.le_of_ble_eq_true rfl⟩) (pre0_V hH hK hX hS hA (hH.recv hK f0 rfl)) rfl rfl hl.1 rfl (lv_room (Nat.le_of_ble_eq_true rfl)) dX8_draw_2 ⟨Nat.le_of_ble_eq_true rfl, Nat.le_of_ble_eq_true rfl⟩) hS (af_le hH hS hA) (fun E ce q9 φ_2x H locs hx hH hS hce hcv hcl => ?_) (fun v_1 φ_2 H locs hw_v_1 hH hS => ?_)
  · skip
    have hn9 : ¬ inN x nc := fun h => by obtain ⟨i, e, hi⟩ := h.nat (by omega); exact hx.2.2 i (ac i) e (by omega) (reF_at hi)
    have e9 : drawX nc nb x z = 3 := by rw [drawX, if_neg hn9]
    exact hv_out hne hlocks hce hcv hcl hH hS ⟨hx.2.1, by rw [e9]; exact hx.1, by rw [e9]; decide⟩ (Nat.le_of_ble_eq_true rfl) (Nat.le_of_ble_eq_true rfl)
  · skip
    obtain ⟨⟨x1, a9, rfl, hxhi, hf9, rfl⟩, hp9⟩ := hw_v_1
    rw [hp9] at hH
    obtain ⟨hxn, rfl⟩ := reF_some hf9
    have hin_x : inN (nI x1) nc := (inN_nI (by omega) (by omega)).mpr hxn
    refine lv_astore_n (pc := 5) (lv' := [(3, .ref (ac x1)), (0, .ref y), (1, .int (nI x1)), (2, .int (z))]) S.1 S.2.1 dX8_draw_5 rfl hl (by decide) rfl (fun ls hl => ?_)
    refine lv_aload_n (pc := 6) S.1 S.2.1 dX8_draw_6 rfl (lv_at hl 1 rfl) ?_
    refine lv_iload_n (pc := 7) S.1 S.2.1 dX8_draw_7 rfl (lv_at hl 3 rfl) ?_
    refine hv_callX (pc := 8) (vx_runV (As := [.int (z)]) (rest := []) S (c_blockAt l hfl D cA ga φ H.size y sb la ca ha ba hd nl nc nh nb dy z (reF nb ab) f0 f2) (cwV 1 S.2.2.2.2 (gV tw_748 tw_750 sw_14 tw_1 tw_751) rfl rfl rfl (by decide +kernel) ⟨Nat.le_of_ble_eq_true rfl, Nat.le_of_ble_eq_true rfl⟩) (pre0_V hH hK hX hS hA (hH.recv hK f0 rfl)) rfl rfl hl.1 rfl (lv_room (Nat.le_of_ble_eq_true rfl)) dX8_draw_8 ⟨Nat.le_of_ble_eq_true rfl, Nat.le_of_ble_eq_true rfl⟩) hS (af_le hH hS hA) (fun E ce q9 φ_4x H locs hx hH hS hce hcv hcl => ?_) (fun v_3 φ_4 H locs hw_v_3 hH hS => ?_)
    · skip
      have hn9 : ¬ inN z nb := fun h => by obtain ⟨i, e, hi⟩ := h.nat (by omega); exact hx.2.2 i (ab i) e (by omega) (reF_at hi)
      have e9 : drawX nc nb (nI x1) z = 3 := by rw [drawX, if_pos hin_x, if_neg hn9]
      exact hv_out hne hlocks hce hcv hcl hH hS ⟨hx.2.1, by rw [e9]; exact hx.1, by rw [e9]; decide⟩ (Nat.le_of_ble_eq_true rfl) (Nat.le_of_ble_eq_true rfl)
    · skip
      obtain ⟨⟨z1, a9, rfl, hzhi, hf9, rfl⟩, hp9⟩ := hw_v_3
      rw [hp9] at hH
      obtain ⟨hzn, rfl⟩ := reF_some hf9
      have hin_z : inN (nI z1) nb := (inN_nI (by omega) (by omega)).mpr hzn
      have e0 : drawX nc nb (nI x1) (nI z1) = 0 := by rw [drawX, if_pos hin_x, if_pos hin_z]
      refine lv_astore (pc := 11) (lv' := [(4, .ref (ab z1)), (3, .ref (ac x1)), (0, .ref y), (1, .int (nI x1)), (2, .int (nI z1))]) S.1 S.2.1 dX8_draw_11 hl (by decide) rfl (fun ls hl => ?_)
      obtain ⟨fc0, fc1, fc2, nga⟩ := hcn x1 hxn
      obtain ⟨hcf, hwf, hht, hmf, hcy, htr⟩ := hcb x1 hxn
      have fb := hbl z1 hzn
      obtain ⟨hbs, hbd⟩ := hbb z1 hzn
      refine lv_aload_n (pc := 13) S.1 S.2.1 dX8_draw_13 rfl (lv_at hl 1 rfl) ?_
      refine lv_aload (pc := 14) S.1 S.2.1 dX8_draw_14 (lv_at hl 0 rfl) ?_
      refine hv_call (pc := 16) (va_runVN (As := [.ref (ab z1)]) (rest := []) S (c_X1_refusalOf l D cA ga φ H.size (ac x1) (aw x1) (ag x1) (cf x1) (ht x1) (cy x1) (tr x1) (lbV ab (dr x1)) (wf x1) (mf x1) (ab z1) (bs z1) (bd z1) fc0 fc1 fc2 fb hcf hwf hht hmf hbs hbd) ⟨va_cnB (host := "HatbandYard") 1 S.2.2.2.2 (gw tw_756) rfl rfl rfl (hX.nest _ (by decide +kernel)) (S.2.2.2.2 _ tw_23) (by decide +kernel) ⟨Nat.le_of_ble_eq_true rfl, Nat.le_of_ble_eq_true rfl⟩, S.2.2.2.2 _ tw_755, S.2.2.2.2 _ sw_15⟩ (pre0_V hH hK hX hS hA (hH.recv hK fc0 rfl)) rfl rfl hl.1 rfl (lv_room (Nat.le_of_ble_eq_true rfl)) dX8_draw_16 ⟨Nat.le_of_ble_eq_true rfl, Nat.le_of_ble_eq_true rfl⟩) hS (af_le hH hS hA) (fun v_5 φ_6 H locs hw_v_5 hH hS => ?_)
      obtain ⟨rfl, hqv_5⟩ := hw_v_5
      rw [hqv_5] at hH
      have hrl := refR_le (cf x1) (ht x1) (wf x1) (mf x1) (bW (bs z1) (bd z1))
      refine lv_istore (pc := 19) (lv' := [(5, .int (nI (refR (cf x1) (ht x1) (wf x1) (mf x1) (bW (bs z1) (bd z1))))), (4, .ref (ab z1)), (3, .ref (ac x1)), (0, .ref y), (1, .int (nI x1)), (2, .int (nI z1))]) S.1 S.2.1 dX8_draw_19 hl (by decide) rfl (fun ls hl => ?_)
      refine lv_iload (pc := 21) S.1 S.2.1 dX8_draw_21 (lv_at hl 0 rfl) ?_
      refine hv_if_ne (pc := 23) (tgt := 32) (a := refR (cf x1) (ht x1) (wf x1) (mf x1) (bW (bs z1) (bd z1))) S.1 S.2.1 (by omega) dX8_draw_23 (by decide) (fun c_7 => ?_) (fun c_7 => ?_)
      · skip
        refine lv_iload (pc := 32) S.1 S.2.1 dX8_draw_32 (lv_at hl 0 rfl) ?_
        exact vx_ret (hv_ret (pc := 34) (v := nI (refR (cf x1) (ht x1) (wf x1) (mf x1) (bW (bs z1) (bd z1)))) S hr rfl hlocks hH hS (⟨e0, x1, z1, rfl, rfl, hxn, hzn, rfl, by rw [if_neg c_7]⟩) (Nat.le_of_ble_eq_true rfl) (Nat.le_of_ble_eq_true rfl) dX8_draw_34)
      · skip
        refine lv_aload_n (pc := 26) S.1 S.2.1 dX8_draw_26 rfl (lv_at hl 2 rfl) ?_
        refine lv_aload (pc := 27) S.1 S.2.1 dX8_draw_27 (lv_at hl 1 rfl) ?_
        refine hv_call (pc := 29) (va_runVN (As := [.ref (ab z1)]) (rest := []) S (c_X1_stretchOver l D cA ga φ H.size (ac x1) (aw x1) (ag x1) (cf x1) (ht x1) (cy x1) (tr x1) (lbV ab (dr x1)) (wf x1) (mf x1) (ab z1) (bs z1) (bd z1) fc0 fc1 fc2 fb hbs hbd) ⟨va_cnB (host := "HatbandYard") 1 S.2.2.2.2 (gw tw_774) rfl rfl rfl (hX.nest _ (by decide +kernel)) (S.2.2.2.2 _ tw_23) (by decide +kernel) ⟨Nat.le_of_ble_eq_true rfl, Nat.le_of_ble_eq_true rfl⟩, S.2.2.2.2 _ tw_773, S.2.2.2.2 _ sw_19⟩ (pre0_V hH hK hX hS hA (hH.recv hK fc0 rfl)) rfl rfl hl.1 rfl (lv_room (Nat.le_of_ble_eq_true rfl)) dX8_draw_29 ⟨Nat.le_of_ble_eq_true rfl, Nat.le_of_ble_eq_true rfl⟩) hS (af_le hH hS hA) (fun v_8 φ_9 H locs hw_v_8 hH hS => ?_)
        obtain ⟨rfl, hp9⟩ := hw_v_8
        rw [hp9] at hH
        refine lv_iload (pc := 32) S.1 S.2.1 dX8_draw_32 (lv_at hl 0 rfl) ?_
        exact vx_ret (hv_ret (pc := 34) (v := nI (refR (cf x1) (ht x1) (wf x1) (mf x1) (bW (bs z1) (bd z1)))) S hr rfl hlocks hH hS (⟨e0, x1, z1, rfl, rfl, hxn, hzn, rfl, by rw [if_pos (by omega)]⟩) (Nat.le_of_ble_eq_true rfl) (Nat.le_of_ble_eq_true rfl) dX8_draw_34)

theorem fiF_lt (off : Nat) (g : Nat → Nat) (k : Nat) : ∀ n j r, fiF off g k n j = some r → r < j + n
  | 0, j, r, h => by simp [fiF] at h
  | n + 1, j, r, h => by
    unfold fiF at h
    split at h
    · cases h; omega
    · have := fiF_lt off g k n (j + 1) r h; omega
def alF (f dy : Nat) : Nat := if dy / 10 < fPro f then 1 else 0
theorem alF_le (f dy : Nat) : alF f dy ≤ 1 := by unfold alF; split <;> omega
def trR (o : Option Nat) (dy : Nat) : Nat := match o with
  | none => 0
  | some f => alF f dy
def ctR (o : Option Nat) (x : Nat) : Int32 := match o with
  | none => -1
  | some k => nI (tN k (x - 1))
def rwR (o : Option Nat) (x : Nat) : Int32 := match o with
  | none => -1
  | some k => rcI (rcF k x 1000 0)
def abR (w h g t : Nat) : Nat := match t with
  | 0 => w
  | 1 => h
  | 2 => g
  | _ => g * 100000 / (w * h)
def fiR (w a : Nat) : Nat := if a ≤ w ∧ w ≤ a + 12 then 1 else 0
/-- the map behind a new day for the first i hands -/
def hzM (φ : hpM) (nh : Nat) (ah ae : Nat → Nat) : Nat → hpM
  | 0 => φ
  | i + 1 => if i < nh then ups (hzM φ nh ah ae i) (ah i) (.inr (8, [.int (nI 0), .int (nI (ae i))])) else hzM φ nh ah ae i
theorem hzM_o {φ : hpM} {nh : Nat} {ah ae : Nat → Nat} {b : Nat} (h : ∀ j, j < nh → b ≠ ah j) : ∀ i, hzM φ nh ah ae i b = φ b
  | 0 => rfl
  | i + 1 => by
    unfold hzM
    split
    · next hi => rw [ups_n (h i hi) rfl]; exact hzM_o h i
    · exact hzM_o h i
theorem hzM_h {φ : hpM} {nh : Nat} {ah ae : Nat → Nat} (hinj : ∀ i j, i < nh → j < nh → ah i = ah j → i = j) {j : Nat} (hj : j < nh) : ∀ i, i ≤ j → hzM φ nh ah ae i (ah j) = φ (ah j)
  | 0, _ => rfl
  | i + 1, h => by
    unfold hzM
    split
    · next hi => rw [ups_n (fun e => absurd (hinj j i hj hi e) (by omega)) rfl]; exact hzM_h hinj hj i (by omega)
    · exact hzM_h hinj hj i (by omega)
set_option maxHeartbeats 4000000 in
set_option maxRecDepth 100000 in
/-- trim(cone) -/
theorem c_trim (l : Launch) (hfl : l.stackTraces = false) (D : va_G) (cA : Nat → ClassId) (ga : Nat → Nat → Nat) (φ : hpM) (sz : Nat) (y sb la ca ha ba hd nl nc nh nb dy : Nat) (bq ml k : Nat) (g : Nat → Nat) (ac aw ag cf ht cy tr ab dr : Nat → Nat) (wf mf : Nat → Nat → Nat) (x : Int32) (f0 : φ y = some (.inr (12, [.ref sb, .ref la, .ref ca, .ref ha, .ref ba, .ref hd, .int (nI nl), .int (nI nc), .int (nI nh), .int (nI nb), .int (nI dy)]))) (f1 : φ sb = some (.inr (1, [.ref bq, .int (nI 0), .int (nI ml), .int (nI k)]))) (f2 : φ bq = some (.inl (cA 0, 16, .inl (fun j => nI (g j))))) (f3 : φ ca = some (.inl (cA 5, 12, .inr (.inr (.inr (.inr (reF nc ac))))))) (hcn : ∀ i, i < nc → φ (ac i) = some (.inr (5, [.ref (ga 0 (cf i)), .ref (aw i), .ref (ag i), .int (nI (ht i)), .int (nI (cy i)), lbV ab (dr i), .int (nI (tr i))])) ∧ φ (aw i) = some (.inl (cA 1, 6, .inl (fun j => nI ((wf i) j)))) ∧ φ (ag i) = some (.inl (cA 1, 6, .inl (fun j => nI ((mf i) j)))) ∧ ag i ≠ aw i) (hcb : ∀ i, i < nc → cf i < 4 ∧ (∀ j, wf i j ≤ 1200) ∧ ht i ≤ 60 ∧ (∀ j, mf i j ≤ 500) ∧ cy i ≤ 12 ∧ tr i ≤ 1) (hnc : nc ≤ 12) (hk : k ≤ 7) (hg : ∀ j, j < k → g j < 128) (hdy : dy < 2 ^ 30) : hMX l yX8_trim cX8_trim 4 (some .boolean) { frames := 14, cells := 3, slots := 18, locals := 560 } [.ref y, .int (x)] D cA ga φ sz (fun v φ' => trimX nc tr x = 0 ∧ (∃ x1 : Nat, x = nI x1 ∧ x1 < nc ∧ tr x1 = 0 ∧ v = some (.int (nI (trR (fiF 4 g k 3 0) dy))) ∧ φ' = ups (ups φ sb (.inr (1, [.ref bq, .int (nI 0), .int (nI (if k = 0 then ml else 1)), .int (nI 0)]))) (ac x1) (.inr (5, [.ref (ga 0 (cf x1)), .ref (aw x1), .ref (ag x1), .int (nI (ht x1)), .int (nI (cy x1)), lbV ab (dr x1), .int (nI (trR (fiF 4 g k 3 0) dy))])))) (fun E φ' => φ' = φ ∧ E = exE (trimX nc tr x) ∧ trimX nc tr x ≠ 0) 3 18 := by
  refine hMX.of (by decide) (Nat.le_of_ble_eq_true rfl) rfl ?_
  intro p e s m args below meth c ls H locs S hr hlocks hne hsz hHz hH hK hX hS hA hl
  refine lv_aload_n (pc := 0) S.1 S.2.1 dX8_trim_0 rfl (lv_at hl 0 rfl) ?_
  refine lv_iload_n (pc := 1) S.1 S.2.1 dX8_trim_1 rfl (lv_at hl 1 rfl) ?_
  refine hv_callX (pc := 2) (vx_runV (As := [.int (x)]) (rest := []) S (c_coneAt l hfl D cA ga φ H.size y sb la ca ha ba hd nl nc nh nb dy x (reF nc ac) f0 f3) (cwV 1 S.2.2.2.2 (gV tw_126 tw_128 sw_0 tw_1 tw_129) rfl rfl rfl (by decide +kernel) ⟨Nat.le_of_ble_eq_true rfl, Nat.le_of_ble_eq_true rfl⟩) (pre0_V hH hK hX hS hA (hH.recv hK f0 rfl)) rfl rfl hl.1 rfl (lv_room (Nat.le_of_ble_eq_true rfl)) dX8_trim_2 ⟨Nat.le_of_ble_eq_true rfl, Nat.le_of_ble_eq_true rfl⟩) hS (af_le hH hS hA) (fun E ce q9 φ_2x H locs hx hH hS hce hcv hcl => ?_) (fun v_1 φ_2 H locs hw_v_1 hH hS => ?_)
  · skip
    have hn9 : ¬ inN x nc := fun h => by obtain ⟨i, e, hi⟩ := h.nat (by omega); exact hx.2.2 i (ac i) e (by omega) (reF_at hi)
    have e9 : trimX nc tr x = 3 := by rw [trimX, if_neg hn9]
    exact hv_out hne hlocks hce hcv hcl hH hS ⟨hx.2.1, by rw [e9]; exact hx.1, by rw [e9]; decide⟩ (Nat.le_of_ble_eq_true rfl) (Nat.le_of_ble_eq_true rfl)
  · skip
    obtain ⟨⟨x1, a9, rfl, hxhi, hf9, rfl⟩, hp9⟩ := hw_v_1
    rw [hp9] at hH
    obtain ⟨hxn, rfl⟩ := reF_some hf9
    have hin_x : inN (nI x1) nc := (inN_nI (by omega) (by omega)).mpr hxn
    refine lv_astore_n (pc := 5) (lv' := [(2, .ref (ac x1)), (0, .ref y), (1, .int (nI x1))]) S.1 S.2.1 dX8_trim_5 rfl hl (by decide) rfl (fun ls hl => ?_)
    refine lv_aload_n (pc := 6) S.1 S.2.1 dX8_trim_6 rfl (lv_at hl 0 rfl) ?_
    obtain ⟨fc0, fc1, fc2, nga⟩ := hcn x1 hxn
    obtain ⟨hcf, hwf, hht, hmf, hcy, htr⟩ := hcb x1 hxn
    have hx1 : x1 < 2 ^ 31 := by omega
    refine hv_getN (pc := 7) (C := RX1) (T := TX1) (N := 7) (ref := RX1) (host := "HatbandYard") S uwX1 hK hH fc0 rfl 6 (by decide) (hX.nest _ (by decide +kernel)) (fun _ h9 => h9) rfl dX8_trim_7 ?_
    refine hv_if_eq (pc := 10) (tgt := 23) (a := tr x1) S.1 S.2.1 (by omega) dX8_trim_10 (by decide) (fun c_3 => ?_) (fun c_3 => ?_)
    · skip
      have e0 : trimX nc tr (nI x1) = 0 := by rw [trimX, if_pos hin_x, nx_nI hx1, if_pos (by omega)]
      refine lv_aload_n (pc := 23) S.1 S.2.1 dX8_trim_23 rfl (lv_at hl 1 rfl) ?_
      refine hv_call (pc := 24) (va_runV (As := []) (rest := []) S (c_typedFeather l D cA ga φ H.size y sb la ca ha ba hd nl nc nh nb dy bq ml k g f0 f1 f2 hk hg) (cwV 0 S.2.2.2.2 (gV tw_780 tw_782 sw_20 tw_1 tw_783) rfl rfl rfl (by decide +kernel) ⟨Nat.le_of_ble_eq_true rfl, Nat.le_of_ble_eq_true rfl⟩) (pre0_V hH hK hX hS hA (hH.recv hK f0 rfl)) rfl rfl hl.1 rfl (lv_room (Nat.le_of_ble_eq_true rfl)) dX8_trim_24 ⟨Nat.le_of_ble_eq_true rfl, Nat.le_of_ble_eq_true rfl⟩) hS (af_le hH hS hA) (fun v_4 φ_5 H locs hw_v_4 hH hS => ?_)
      obtain ⟨rfl, hp9⟩ := hw_v_4
      rw [hp9] at hH
      have hfl := fiF_lt 4 g k 3 0
      rcases hfu : fiF 4 g k 3 0 with _ | fu
      · skip
        refine hv_tv (y := .null) rfl ?_
        refine lv_astore_nN (pc := 27) (lv' := [(3, .null), (2, .ref (ac x1)), (0, .ref y), (1, .int (nI x1))]) S.1 S.2.1 dX8_trim_27 rfl hl (by decide) rfl (fun ls hl => ?_)
        refine lv_aload_n (pc := 28) S.1 S.2.1 dX8_trim_28 rfl (lv_at hl 2 rfl) ?_
        refine hv_call (pc := 29) (va_runV (As := []) (rest := []) S (c_clearTyped l D cA ga φ H.size y sb la ca ha ba hd nl nc nh nb dy bq ml k g f0 f1 f2 hk) (cwV 0 S.2.2.2.2 (gV tw_443 tw_445 sw_9 tw_1 tw_446) rfl rfl rfl (by decide +kernel) ⟨Nat.le_of_ble_eq_true rfl, Nat.le_of_ble_eq_true rfl⟩) (pre0_V hH hK hX hS hA (hH.recv hK f0 rfl)) rfl rfl hl.1 rfl (lv_room (Nat.le_of_ble_eq_true rfl)) dX8_trim_29 ⟨Nat.le_of_ble_eq_true rfl, Nat.le_of_ble_eq_true rfl⟩) hS (af_le hH hS hA) (fun v_6 φ_7 H locs hw_v_6 hH hS => ?_)
        obtain ⟨rfl, hp9⟩ := hw_v_6
        rw [hp9] at hH
        replace hH := nup (e := .inr (1, [.ref bq, .int (nI 0), .int (nI (if k = 0 then ml else 1)), .int (nI 0)])) hH
        obtain ⟨φ_8, hφ_8, fa_φ_8, fr_φ_8, hH⟩ := hH
        have f_9 := fr_φ_8 _ _ (hp_ne f0 f1 (by intro h; first | (cases h; done) | (simp at h; done))) f0
        have f_10 := fr_φ_8 _ _ (hp_ne f2 f1 (by intro h; first | (cases h; done) | (simp at h; done))) f2
        have f_11 := fr_φ_8 _ _ (hp_ne f3 f1 (by intro h; first | (cases h; done) | (simp at h; done))) f3
        have f_12 := fr_φ_8 _ _ (hp_ne fc0 f1 (by intro h; first | (cases h; done) | (simp at h; done))) fc0
        have f_13 := fr_φ_8 _ _ (hp_ne fc1 f1 (by intro h; first | (cases h; done) | (simp at h; done))) fc1
        have f_14 := fr_φ_8 _ _ (hp_ne fc2 f1 (by intro h; first | (cases h; done) | (simp at h; done))) fc2
        refine lv_aload_n (pc := 32) S.1 S.2.1 dX8_trim_32 rfl (lv_at hl 1 rfl) ?_
        refine lv_aload_nN (pc := 33) S.1 S.2.1 dX8_trim_33 rfl (lv_at hl 0 rfl) ?_
        refine lv_ifnullN (pc := 34) (tgt := 52) S.1 S.2.1 dX8_trim_34 (by decide) ?_
        refine lv_iconst (pc := 52) (v := nI 0) S.1 S.2.1 dX8_trim_52 (by decide) ?_
        refine hv_putN (pc := 53) (ty := .boolean) (C := RX1) (T := TX1) (N := 7) (ref := RX1) (host := "HatbandYard") S uwX1 tyX1 tyX1_ok nmX1 hK hH hS f_12 rfl 6 (by decide) (hX.nest _ (by decide +kernel)) (fun _ h9 => h9) rfl (by decide +kernel) rfl rfl (Nat.le_of_ble_eq_true rfl) dX8_trim_53 (fun H locs hH hS => ?_)
        replace hH := nup (e := .inr (5, [.ref (ga 0 (cf x1)), .ref (aw x1), .ref (ag x1), .int (nI (ht x1)), .int (nI (cy x1)), lbV ab (dr x1), .int (nI 0)])) hH
        obtain ⟨φ_15, hφ_15, fa_φ_15, fr_φ_15, hH⟩ := hH
        have f_16 := fr_φ_15 _ _ (hp_ne f_9 f_12 (by intro h; first | (cases h; done) | (simp at h; done))) f_9
        have f_17 := fr_φ_15 _ _ (hp_ne f_10 f_12 (by intro h; first | (cases h; done) | (simp at h; done))) f_10
        have f_18 := fr_φ_15 _ _ (hp_ne f_11 f_12 (by intro h; first | (cases h; done) | (simp at h; done))) f_11
        have f_19 := fr_φ_15 _ _ (hp_ne f_13 f_12 (by intro h; first | (cases h; done) | (simp at h; done))) f_13
        have f_20 := fr_φ_15 _ _ (hp_ne f_14 f_12 (by intro h; first | (cases h; done) | (simp at h; done))) f_14
        have f_21 := fr_φ_15 _ _ (hp_ne fa_φ_8 f_12 (by intro h; first | (cases h; done) | (simp at h; done))) fa_φ_8
        refine lv_aload_n (pc := 56) S.1 S.2.1 dX8_trim_56 rfl (lv_at hl 1 rfl) ?_
        refine hv_getN (pc := 57) (C := RX1) (T := TX1) (N := 7) (ref := RX1) (host := "HatbandYard") S uwX1 hK hH fa_φ_15 rfl 6 (by decide) (hX.nest _ (by decide +kernel)) (fun _ h9 => h9) rfl dX8_trim_57 ?_
        exact vx_ret (hv_ret (pc := 60) (v := nI 0) S hr rfl hlocks hH hS (⟨e0, x1, rfl, hxn, by omega, rfl, by rw [hφ_15, hφ_8]; rfl⟩) (Nat.le_of_ble_eq_true rfl) (Nat.le_of_ble_eq_true rfl) dX8_trim_60)
      · skip
        refine hv_tv (y := .ref (ga 1 fu)) rfl ?_
        have hfu9 := hfl fu hfu
        refine lv_astore_n (pc := 27) (lv' := [(3, .ref (ga 1 fu)), (2, .ref (ac x1)), (0, .ref y), (1, .int (nI x1))]) S.1 S.2.1 dX8_trim_27 rfl hl (by decide) rfl (fun ls hl => ?_)
        refine lv_aload_n (pc := 28) S.1 S.2.1 dX8_trim_28 rfl (lv_at hl 2 rfl) ?_
        refine hv_call (pc := 29) (va_runV (As := []) (rest := []) S (c_clearTyped l D cA ga φ H.size y sb la ca ha ba hd nl nc nh nb dy bq ml k g f0 f1 f2 hk) (cwV 0 S.2.2.2.2 (gV tw_443 tw_445 sw_9 tw_1 tw_446) rfl rfl rfl (by decide +kernel) ⟨Nat.le_of_ble_eq_true rfl, Nat.le_of_ble_eq_true rfl⟩) (pre0_V hH hK hX hS hA (hH.recv hK f0 rfl)) rfl rfl hl.1 rfl (lv_room (Nat.le_of_ble_eq_true rfl)) dX8_trim_29 ⟨Nat.le_of_ble_eq_true rfl, Nat.le_of_ble_eq_true rfl⟩) hS (af_le hH hS hA) (fun v_22 φ_23 H locs hw_v_22 hH hS => ?_)
        obtain ⟨rfl, hp9⟩ := hw_v_22
        rw [hp9] at hH
        replace hH := nup (e := .inr (1, [.ref bq, .int (nI 0), .int (nI (if k = 0 then ml else 1)), .int (nI 0)])) hH
        obtain ⟨φ_24, hφ_24, fa_φ_24, fr_φ_24, hH⟩ := hH
        have f_25 := fr_φ_24 _ _ (hp_ne f0 f1 (by intro h; first | (cases h; done) | (simp at h; done))) f0
        have f_26 := fr_φ_24 _ _ (hp_ne f2 f1 (by intro h; first | (cases h; done) | (simp at h; done))) f2
        have f_27 := fr_φ_24 _ _ (hp_ne f3 f1 (by intro h; first | (cases h; done) | (simp at h; done))) f3
        have f_28 := fr_φ_24 _ _ (hp_ne fc0 f1 (by intro h; first | (cases h; done) | (simp at h; done))) fc0
        have f_29 := fr_φ_24 _ _ (hp_ne fc1 f1 (by intro h; first | (cases h; done) | (simp at h; done))) fc1
        have f_30 := fr_φ_24 _ _ (hp_ne fc2 f1 (by intro h; first | (cases h; done) | (simp at h; done))) fc2
        refine lv_aload_n (pc := 32) S.1 S.2.1 dX8_trim_32 rfl (lv_at hl 1 rfl) ?_
        refine lv_aload_n (pc := 33) S.1 S.2.1 dX8_trim_33 rfl (lv_at hl 0 rfl) ?_
        refine lv_ifnull (pc := 34) S.1 S.2.1 dX8_trim_34 ?_
        refine lv_aload_n (pc := 37) S.1 S.2.1 dX8_trim_37 rfl (lv_at hl 0 rfl) ?_
        refine lv_aload_n (pc := 38) S.1 S.2.1 dX8_trim_38 rfl (lv_at hl 2 rfl) ?_
        refine hv_call (pc := 39) (va_runV (As := []) (rest := [.ref (ga 1 fu), .ref (ac x1)]) S (c_year l D cA ga φ_24 H.size y sb la ca ha ba hd nl nc nh nb dy f_25 hdy) (cwV 0 S.2.2.2.2 (gV tw_786 tw_788 sw_21 tw_1 tw_789) rfl rfl rfl (by decide +kernel) ⟨Nat.le_of_ble_eq_true rfl, Nat.le_of_ble_eq_true rfl⟩) (pre0_V hH hK hX hS hA (hH.recv hK f_25 rfl)) rfl rfl hl.1 rfl (lv_room (Nat.le_of_ble_eq_true rfl)) dX8_trim_39 ⟨Nat.le_of_ble_eq_true rfl, Nat.le_of_ble_eq_true rfl⟩) hS (af_le hH hS hA) (fun v_31 φ_32 H locs hw_v_31 hH hS => ?_)
        obtain ⟨rfl, hqv_31⟩ := hw_v_31
        rw [hqv_31] at hH
        refine hv_call (pc := 42) (va_runVNn (As := [.int (nI (dy / 10))]) (rest := [.ref (ac x1)]) S (c_X2_isAllowedIn l D cA ga φ_24 H.size fu (dy / 10) (by omega) (by omega)) ⟨va_cnBn (host := "HatbandYard") 1 S.2.2.2.2 (gw tw_794) rfl rfl rfl (hX.nest _ (by decide +kernel)) (by decide +kernel) ⟨Nat.le_of_ble_eq_true rfl, Nat.le_of_ble_eq_true rfl⟩, S.2.2.2.2 _ tw_792, S.2.2.2.2 _ sw_22⟩ (pre0_V hH hK hX hS hA (o_recv (hX.feaO fu (by omega)) hS)) rfl rfl hl.1 rfl (lv_room (Nat.le_of_ble_eq_true rfl)) dX8_trim_42 ⟨Nat.le_of_ble_eq_true rfl, Nat.le_of_ble_eq_true rfl⟩) hS (af_le hH hS hA) (fun v_33 φ_34 H locs hw_v_33 hH hS => ?_)
        obtain ⟨rfl, hqv_33⟩ := hw_v_33
        rw [hqv_33] at hH
        have hal := alF_le fu dy
        refine hv_if_eq (pc := 45) (tgt := 52) (a := alF fu dy) S.1 S.2.1 (by omega) dX8_trim_45 (by decide) (fun c_35 => ?_) (fun c_35 => ?_)
        · skip
          have et : trR (some fu) dy = 0 := by show alF fu dy = 0; omega
          refine lv_iconst (pc := 52) (v := nI 0) S.1 S.2.1 dX8_trim_52 (by decide) ?_
          refine hv_putN (pc := 53) (ty := .boolean) (C := RX1) (T := TX1) (N := 7) (ref := RX1) (host := "HatbandYard") S uwX1 tyX1 tyX1_ok nmX1 hK hH hS f_28 rfl 6 (by decide) (hX.nest _ (by decide +kernel)) (fun _ h9 => h9) rfl (by decide +kernel) rfl rfl (Nat.le_of_ble_eq_true rfl) dX8_trim_53 (fun H locs hH hS => ?_)
          replace hH := nup (e := .inr (5, [.ref (ga 0 (cf x1)), .ref (aw x1), .ref (ag x1), .int (nI (ht x1)), .int (nI (cy x1)), lbV ab (dr x1), .int (nI 0)])) hH
          obtain ⟨φ_36, hφ_36, fa_φ_36, fr_φ_36, hH⟩ := hH
          have f_37 := fr_φ_36 _ _ (hp_ne f_25 f_28 (by intro h; first | (cases h; done) | (simp at h; done))) f_25
          have f_38 := fr_φ_36 _ _ (hp_ne f_26 f_28 (by intro h; first | (cases h; done) | (simp at h; done))) f_26
          have f_39 := fr_φ_36 _ _ (hp_ne f_27 f_28 (by intro h; first | (cases h; done) | (simp at h; done))) f_27
          have f_40 := fr_φ_36 _ _ (hp_ne f_29 f_28 (by intro h; first | (cases h; done) | (simp at h; done))) f_29
          have f_41 := fr_φ_36 _ _ (hp_ne f_30 f_28 (by intro h; first | (cases h; done) | (simp at h; done))) f_30
          have f_42 := fr_φ_36 _ _ (hp_ne fa_φ_24 f_28 (by intro h; first | (cases h; done) | (simp at h; done))) fa_φ_24
          refine lv_aload_n (pc := 56) S.1 S.2.1 dX8_trim_56 rfl (lv_at hl 1 rfl) ?_
          refine hv_getN (pc := 57) (C := RX1) (T := TX1) (N := 7) (ref := RX1) (host := "HatbandYard") S uwX1 hK hH fa_φ_36 rfl 6 (by decide) (hX.nest _ (by decide +kernel)) (fun _ h9 => h9) rfl dX8_trim_57 ?_
          exact vx_ret (hv_ret (pc := 60) (v := nI 0) S hr rfl hlocks hH hS (⟨e0, x1, rfl, hxn, by omega, by rw [et], by rw [hφ_36, hφ_24, et]⟩) (Nat.le_of_ble_eq_true rfl) (Nat.le_of_ble_eq_true rfl) dX8_trim_60)
        · skip
          have et : trR (some fu) dy = 1 := by show alF fu dy = 1; omega
          refine lv_iconst (pc := 48) (v := nI 1) S.1 S.2.1 dX8_trim_48 (by decide) ?_
          refine lv_goto (pc := 49) (tgt := 53) S.1 S.2.1 dX8_trim_49 (by decide) ?_
          refine hv_putN (pc := 53) (ty := .boolean) (C := RX1) (T := TX1) (N := 7) (ref := RX1) (host := "HatbandYard") S uwX1 tyX1 tyX1_ok nmX1 hK hH hS f_28 rfl 6 (by decide) (hX.nest _ (by decide +kernel)) (fun _ h9 => h9) rfl (by decide +kernel) rfl rfl (Nat.le_of_ble_eq_true rfl) dX8_trim_53 (fun H locs hH hS => ?_)
          replace hH := nup (e := .inr (5, [.ref (ga 0 (cf x1)), .ref (aw x1), .ref (ag x1), .int (nI (ht x1)), .int (nI (cy x1)), lbV ab (dr x1), .int (nI 1)])) hH
          obtain ⟨φ_43, hφ_43, fa_φ_43, fr_φ_43, hH⟩ := hH
          have f_44 := fr_φ_43 _ _ (hp_ne f_25 f_28 (by intro h; first | (cases h; done) | (simp at h; done))) f_25
          have f_45 := fr_φ_43 _ _ (hp_ne f_26 f_28 (by intro h; first | (cases h; done) | (simp at h; done))) f_26
          have f_46 := fr_φ_43 _ _ (hp_ne f_27 f_28 (by intro h; first | (cases h; done) | (simp at h; done))) f_27
          have f_47 := fr_φ_43 _ _ (hp_ne f_29 f_28 (by intro h; first | (cases h; done) | (simp at h; done))) f_29
          have f_48 := fr_φ_43 _ _ (hp_ne f_30 f_28 (by intro h; first | (cases h; done) | (simp at h; done))) f_30
          have f_49 := fr_φ_43 _ _ (hp_ne fa_φ_24 f_28 (by intro h; first | (cases h; done) | (simp at h; done))) fa_φ_24
          refine lv_aload_n (pc := 56) S.1 S.2.1 dX8_trim_56 rfl (lv_at hl 1 rfl) ?_
          refine hv_getN (pc := 57) (C := RX1) (T := TX1) (N := 7) (ref := RX1) (host := "HatbandYard") S uwX1 hK hH fa_φ_43 rfl 6 (by decide) (hX.nest _ (by decide +kernel)) (fun _ h9 => h9) rfl dX8_trim_57 ?_
          exact vx_ret (hv_ret (pc := 60) (v := nI 1) S hr rfl hlocks hH hS (⟨e0, x1, rfl, hxn, by omega, by rw [et], by rw [hφ_43, hφ_24, et]⟩) (Nat.le_of_ble_eq_true rfl) (Nat.le_of_ble_eq_true rfl) dX8_trim_60)
    · skip
      have e9 : trimX nc tr (nI x1) = 2 := by rw [trimX, if_pos hin_x, nx_nI hx1, if_neg (by omega)]
      exact hv_throw (pc := 13) (cls := "java/lang/IllegalStateException") (text := "the cone is trimmed") (ik := 96) (is := 168) (ic := 100) S hfl (by decide +kernel) tw_281 tw_12 hX.tx168 atISE hX hne hlocks hH hS (⟨rfl, by rw [e9]; rfl, by rw [e9]; decide⟩) hl.1 dX8_trim_13 dX8_trim_16 dX8_trim_17 dX8_trim_19 dX8_trim_22 (Nat.le_of_ble_eq_true rfl) (Nat.le_of_ble_eq_true rfl) (Nat.le_of_ble_eq_true rfl) (Nat.le_of_ble_eq_true rfl) (Nat.le_of_ble_eq_true rfl) (Nat.le_of_ble_eq_true rfl)

set_option maxHeartbeats 4000000 in
set_option maxRecDepth 100000 in
/-- pass(days) -/
theorem c_pass (l : Launch) (hfl : l.stackTraces = false) (D : va_G) (cA : Nat → ClassId) (ga : Nat → Nat → Nat) (φ : hpM) (sz : Nat) (y sb la ca ha ba hd nl nc nh nb dy : Nat) (ah ad ae : Nat → Nat) (x : Int32) (f0 : φ y = some (.inr (12, [.ref sb, .ref la, .ref ca, .ref ha, .ref ba, .ref hd, .int (nI nl), .int (nI nc), .int (nI nh), .int (nI nb), .int (nI dy)]))) (f1 : φ ha = some (.inl (cA 6, 6, .inr (.inr (.inr (.inr (reF nh ah))))))) (hha : ∀ i, i < nh → φ (ah i) = some (.inr (8, [.int (nI (ad i)), .int (nI (ae i))]))) (hai : ∀ i j, i < nh → j < nh → ah i = ah j → i = j) (hdy : dy + 30 < 2 ^ 30) : hMX l yX8_pass cX8_pass 6 (some .int) { frames := 9, cells := 1, slots := 6, locals := 260 } [.ref y, .int (x)] D cA ga φ sz (fun v φ' => passX x = 0 ∧ (∃ x1 : Nat, x = nI x1 ∧ 1 ≤ x1 ∧ x1 ≤ 30 ∧ v = some (.int (nI ((dy + x1) / 10))) ∧ φ' = hzM (ups φ y (.inr (12, [.ref sb, .ref la, .ref ca, .ref ha, .ref ba, .ref hd, .int (nI nl), .int (nI nc), .int (nI nh), .int (nI nb), .int (nI (dy + x1))]))) nh ah ae 6)) (fun E φ' => φ' = φ ∧ E = exE (passX x) ∧ passX x ≠ 0) 1 6 := by
  refine hMX.of (by decide) (Nat.le_of_ble_eq_true rfl) rfl ?_
  intro p e s m args below meth c ls H locs S hr hlocks hne hsz hHz hH hK hX hS hA hl
  refine lv_iload_n (pc := 0) S.1 S.2.1 dX8_pass_0 rfl (lv_at hl 1 rfl) ?_
  refine lv_iconst (pc := 1) (v := nI 1) S.1 S.2.1 dX8_pass_1 (by decide) ?_
  refine lv_bipush (pc := 2) (v := nI 30) S.1 S.2.1 dX8_pass_2 (by decide) ?_
  refine hv_callX (pc := 4) (vx_runS (As := [.int (x), .int (nI 1), .int (nI 30)]) (rest := []) S (c_refuseOutside l hfl D cA ga φ H.size x 1 30) (va_cwS 3 S.2.2.2.2 (gS tw_203 tw_204 tw_1 tw_205) rfl rfl rfl (by decide +kernel) ⟨Nat.le_of_ble_eq_true rfl, Nat.le_of_ble_eq_true rfl⟩) (pre0_S hH hK hX hS hA) rfl rfl hl.1 rfl (lv_room (Nat.le_of_ble_eq_true rfl)) dX8_pass_4 ⟨Nat.le_of_ble_eq_true rfl, Nat.le_of_ble_eq_true rfl⟩) hS (af_le hH hS hA) (fun E ce q9 φ_2x H locs hx hH hS hce hcv hcl => ?_) (fun v_1 φ_2 H locs hw_v_1 hH hS => ?_)
  · skip
    have e9 : passX x = 1 := by rw [passX, if_neg hx.2.2]
    exact hv_out hne hlocks hce hcv hcl hH hS ⟨hx.2.1, by rw [e9]; exact hx.1, by rw [e9]; decide⟩ (Nat.le_of_ble_eq_true rfl) (Nat.le_of_ble_eq_true rfl)
  · skip
    obtain ⟨rfl, hp9, hin_x⟩ := hw_v_1
    rw [hp9] at hH
    obtain ⟨x1, rfl, hxlo, hxhi⟩ := hin_x.nat (by omega) (by omega)
    have e0 : passX (nI x1) = 0 := by rw [passX, if_pos hin_x]
    refine lv_aload_n (pc := 7) S.1 S.2.1 dX8_pass_7 rfl (lv_at hl 0 rfl) ?_
    refine lv_dup (pc := 8) S.1 S.2.1 dX8_pass_8 rfl ?_
    refine hv_get (pc := 9) (C := RX8) (T := TX8) (N := 11) (ref := RX8) S uwX8 hK hH f0 rfl 10 (by decide) tw_98 (fun _ h9 => h9) rfl dX8_pass_9 ?_
    refine lv_iload_n (pc := 12) S.1 S.2.1 dX8_pass_12 rfl (lv_at hl 1 rfl) ?_
    refine lv_iadd (pc := 13) S.1 S.2.1 dX8_pass_13 ?_
    refine hv_ti (y := nI (dy + x1)) (nI_add _ _) ?_
    refine hv_put (pc := 14) (ty := .int) (C := RX8) (T := TX8) (N := 11) (ref := RX8) S uwX8 tyX8 tyX8_ok nmX8 hK hH hS f0 rfl 10 (by decide) tw_98 (fun _ h9 => h9) rfl (by decide +kernel) rfl rfl (Nat.le_of_ble_eq_true rfl) dX8_pass_14 (fun H locs hH hS => ?_)
    replace hH := nup (e := .inr (12, [.ref sb, .ref la, .ref ca, .ref ha, .ref ba, .ref hd, .int (nI nl), .int (nI nc), .int (nI nh), .int (nI nb), .int (nI (dy + x1))])) hH
    obtain ⟨φ_3, hφ_3, fa_φ_3, fr_φ_3, hH⟩ := hH
    have f_4 := fr_φ_3 _ _ (hp_ne f1 f0 (by intro h; first | (cases h; done) | (simp at h; done))) f1
    refine lv_aload_n (pc := 17) S.1 S.2.1 dX8_pass_17 rfl (lv_at hl 0 rfl) ?_
    refine hv_get (pc := 18) (C := RX8) (T := TX8) (N := 11) (ref := RX8) S uwX8 hK hH fa_φ_3 rfl 3 (by decide) tw_91 (fun _ h9 => h9) rfl dX8_pass_18 ?_
    refine lv_astore_n (pc := 21) (lv' := [(2, .ref ha), (0, .ref y), (1, .int (nI x1))]) S.1 S.2.1 dX8_pass_21 rfl hl (by decide) rfl (fun ls hl => ?_)
    refine lv_aload_n (pc := 22) S.1 S.2.1 dX8_pass_22 rfl (lv_at hl 0 rfl) ?_
    refine hv_alen (pc := 23) (v := nI 6) S hK hH 6 f_4 rfl rfl dX8_pass_23 ?_
    refine lv_istore_n (pc := 24) (lv' := [(3, .int (nI 6)), (2, .ref ha), (0, .ref y), (1, .int (nI x1))]) S.1 S.2.1 dX8_pass_24 rfl hl (by decide) rfl (fun ls hl => ?_)
    refine lv_iconst (pc := 25) (v := nI 0) S.1 S.2.1 dX8_pass_25 (by decide) ?_
    refine lv_istore (pc := 26) (lv' := [(4, .int (nI 0)), (3, .int (nI 6)), (2, .ref ha), (0, .ref y), (1, .int (nI x1))]) S.1 S.2.1 dX8_pass_26 hl (by decide) rfl (fun ls hl => ?_)
    have hh1 : ∀ i, i < nh → φ_3 (ah i) = some (.inr (8, [.int (nI (ad i)), .int (nI (ae i))])) := fun i hi => by rw [hφ_3]; exact ups_n (hp_ne (hha i hi) f0 (by intro h; first | (cases h; done) | (simp at h; done))) (hha i hi)
    have ny : ∀ j, j < nh → y ≠ ah j := fun j hj => hp_ne f0 (hha j hj) (by intro h; first | (cases h; done) | (simp at h; done))
    have na : ∀ j, j < nh → ha ≠ ah j := fun j hj => hp_ne f1 (hha j hj) (by intro h; first | (cases h; done) | (simp at h; done))
    have hg : ∃ (n i : Nat) (φk_5 : hpM), ((i + n = 6) ∧ φk_5 = hzM φ_3 nh ah ae i ∧ hp D (Af φ sz) φk_5 H) ∧ lv_has ls 6 [(0, .ref y), (1, .int (nI x1)), (2, .ref ha), (3, .int (nI 6)), (4, .int (nI i))] := ⟨6, 0, φ_3, ⟨rfl, rfl, hH⟩, lv_sub hl [3, 4, 2, 1, 0] rfl⟩
    clear hl hH
    try clear hHz
    obtain ⟨n, i, φk_5, hi, hl⟩ := hg
    induction n generalizing ls H locs i φk_5 with
    | zero =>
      obtain ⟨hi, hφk_5, hH⟩ := hi
      have f_6 : φk_5 y = some (.inr (12, [.ref sb, .ref la, .ref ca, .ref ha, .ref ba, .ref hd, .int (nI nl), .int (nI nc), .int (nI nh), .int (nI nb), .int (nI (dy + x1))])) := by rw [hφk_5]; exact (hzM_o ny i).trans fa_φ_3
      have f_7 : φk_5 ha = some (.inl (cA 6, 6, .inr (.inr (.inr (.inr (reF nh ah)))))) := by rw [hφk_5]; exact (hzM_o na i).trans f_4
      obtain rfl : i = 6 := by omega
      refine lv_iload (pc := 28) S.1 S.2.1 dX8_pass_28 (lv_at hl 4 rfl) ?_
      refine lv_iload_n (pc := 30) S.1 S.2.1 dX8_pass_30 rfl (lv_at hl 3 rfl) ?_
      refine hv_icmp_ge (pc := 31) (tgt := 57) (a := 6) (b := 6) S.1 S.2.1 (by omega) (by omega) dX8_pass_31 (by decide) (fun c_8 => ?_) (fun c_8 => ?_)
      · skip
        refine lv_aload_n (pc := 57) S.1 S.2.1 dX8_pass_57 rfl (lv_at hl 0 rfl) ?_
        refine hv_call (pc := 58) (va_runV (As := []) (rest := []) S (c_year l D cA ga φk_5 H.size y sb la ca ha ba hd nl nc nh nb (dy + x1) f_6 (by omega)) (cwV 0 S.2.2.2.2 (gV tw_786 tw_788 sw_21 tw_1 tw_789) rfl rfl rfl (by decide +kernel) ⟨Nat.le_of_ble_eq_true rfl, Nat.le_of_ble_eq_true rfl⟩) (pre0_V hH hK hX hS hA (hH.recv hK f_6 rfl)) rfl rfl hl.1 rfl (lv_room (Nat.le_of_ble_eq_true rfl)) dX8_pass_58 ⟨Nat.le_of_ble_eq_true rfl, Nat.le_of_ble_eq_true rfl⟩) hS (af_le hH hS hA) (fun v_9 φ_10 H locs hw_v_9 hH hS => ?_)
        obtain ⟨rfl, hqv_9⟩ := hw_v_9
        rw [hqv_9] at hH
        exact vx_ret (hv_ret (pc := 61) (v := nI ((dy + x1) / 10)) S hr rfl hlocks hH hS (⟨e0, x1, rfl, hxlo, hxhi, rfl, by rw [hφk_5, hφ_3]⟩) (Nat.le_of_ble_eq_true rfl) (Nat.le_of_ble_eq_true rfl) dX8_pass_61)
      · skip
        exact absurd c_8 (by omega)
    | succ n ih =>
      obtain ⟨hi, hφk_5, hH⟩ := hi
      have f_11 : φk_5 y = some (.inr (12, [.ref sb, .ref la, .ref ca, .ref ha, .ref ba, .ref hd, .int (nI nl), .int (nI nc), .int (nI nh), .int (nI nb), .int (nI (dy + x1))])) := by rw [hφk_5]; exact (hzM_o ny i).trans fa_φ_3
      have f_12 : φk_5 ha = some (.inl (cA 6, 6, .inr (.inr (.inr (.inr (reF nh ah)))))) := by rw [hφk_5]; exact (hzM_o na i).trans f_4
      refine lv_iload (pc := 28) S.1 S.2.1 dX8_pass_28 (lv_at hl 4 rfl) ?_
      refine lv_iload_n (pc := 30) S.1 S.2.1 dX8_pass_30 rfl (lv_at hl 3 rfl) ?_
      refine hv_icmp_ge (pc := 31) (tgt := 57) (a := i) (b := 6) S.1 S.2.1 (by omega) (by omega) dX8_pass_31 (by decide) (fun c_13 => ?_) (fun c_13 => ?_)
      · skip
        exact absurd c_13 (by omega)
      · skip
        refine lv_aload_n (pc := 34) S.1 S.2.1 dX8_pass_34 rfl (lv_at hl 2 rfl) ?_
        refine lv_iload (pc := 35) S.1 S.2.1 dX8_pass_35 (lv_at hl 4 rfl) ?_
        refine hv_aald (pc := 37) S hK hH 6 f_12 rfl (vp_in_nI (by omega) (by omega)) dX8_pass_37 ?_
        refine hv_tv (y := va_rf (reF nh ah i)) (by rw [nI_clamp (by omega)]) ?_
        rcases Nat.lt_or_ge i nh with hin | hin
        · skip
          refine hv_tv (y := .ref (ah i)) (by rw [reF_at hin]; rfl) ?_
          have f_14 : φk_5 (ah i) = some (.inr (8, [.int (nI (ad i)), .int (nI (ae i))])) := by rw [hφk_5]; exact (hzM_h hai hin i (Nat.le_refl _)).trans (hh1 i hin)
          refine lv_astore (pc := 38) (lv' := [(5, .ref (ah i)), (0, .ref y), (1, .int (nI x1)), (2, .ref ha), (3, .int (nI 6)), (4, .int (nI i))]) S.1 S.2.1 dX8_pass_38 hl (by decide) rfl (fun ls hl => ?_)
          refine lv_aload (pc := 40) S.1 S.2.1 dX8_pass_40 (lv_at hl 0 rfl) ?_
          refine lv_ifnull (pc := 42) S.1 S.2.1 dX8_pass_42 ?_
          refine lv_aload (pc := 45) S.1 S.2.1 dX8_pass_45 (lv_at hl 0 rfl) ?_
          refine lv_iconst (pc := 47) (v := nI 0) S.1 S.2.1 dX8_pass_47 (by decide) ?_
          refine hv_putN (pc := 48) (ty := .int) (C := RX4) (T := TX4) (N := 2) (ref := RX4) (host := "HatbandYard") S uwX4 tyX4 tyX4_ok nmX4 hK hH hS f_14 rfl 0 (by decide) (hX.nest _ (by decide +kernel)) (fun _ h9 => h9) rfl (by decide +kernel) rfl rfl (Nat.le_of_ble_eq_true rfl) dX8_pass_48 (fun H locs hH hS => ?_)
          replace hH := nup (e := .inr (8, [.int (nI 0), .int (nI (ae i))])) hH
          obtain ⟨φ_15, hφ_15, fa_φ_15, fr_φ_15, hH⟩ := hH
          have f_16 := fr_φ_15 _ _ (hp_ne f_11 f_14 (by intro h; first | (cases h; done) | (simp at h; done))) f_11
          have f_17 := fr_φ_15 _ _ (hp_ne f_12 f_14 (by intro h; first | (cases h; done) | (simp at h; done))) f_12
          refine lv_iinc (pc := 51) (v := nI (i + 1)) (lv' := [(4, .int (nI (i + 1))), (5, .ref (ah i)), (0, .ref y), (1, .int (nI x1)), (2, .ref ha), (3, .int (nI 6))]) S.1 S.2.1 dX8_pass_51 hl (k := 5) rfl (by first | rfl | exact nI_add _ _) (by decide) rfl (fun ls hl => ?_)
          refine lv_goto (pc := 54) (tgt := 28) S.1 S.2.1 dX8_pass_54 (by decide) ?_
          have hi2 : ((i + 1) + n = 6) ∧ φ_15 = hzM φ_3 nh ah ae (i + 1) ∧ hp D (Af φ sz) φ_15 H := ⟨by omega, by rw [hφ_15, hφk_5, hzM, if_pos hin], hH⟩
          have hl2 : lv_has ls 6 [(0, .ref y), (1, .int (nI x1)), (2, .ref ha), (3, .int (nI 6)), (4, .int (nI (i + 1)))] := lv_sub hl [2, 3, 4, 5, 0] rfl
          apply ih (i := i + 1) (φk_5 := φ_15) <;> assumption
        · skip
          refine hv_tv (y := .null) (by rw [reF, if_neg (by omega)]; rfl) ?_
          refine lv_astoreN (pc := 38) (lv' := [(5, .null), (0, .ref y), (1, .int (nI x1)), (2, .ref ha), (3, .int (nI 6)), (4, .int (nI i))]) S.1 S.2.1 dX8_pass_38 hl (by decide) rfl (fun ls hl => ?_)
          refine lv_aloadN (pc := 40) S.1 S.2.1 dX8_pass_40 (lv_at hl 0 rfl) ?_
          refine lv_ifnullN (pc := 42) (tgt := 51) S.1 S.2.1 dX8_pass_42 (by decide) ?_
          refine lv_iinc (pc := 51) (v := nI (i + 1)) (lv' := [(4, .int (nI (i + 1))), (5, .null), (0, .ref y), (1, .int (nI x1)), (2, .ref ha), (3, .int (nI 6))]) S.1 S.2.1 dX8_pass_51 hl (k := 5) rfl (by first | rfl | exact nI_add _ _) (by decide) rfl (fun ls hl => ?_)
          refine lv_goto (pc := 54) (tgt := 28) S.1 S.2.1 dX8_pass_54 (by decide) ?_
          have hi2 : ((i + 1) + n = 6) ∧ φk_5 = hzM φ_3 nh ah ae (i + 1) ∧ hp D (Af φ sz) φk_5 H := ⟨by omega, by rw [hφk_5, hzM, if_neg (by omega)], hH⟩
          have hl2 : lv_has ls 6 [(0, .ref y), (1, .int (nI x1)), (2, .ref ha), (3, .int (nI 6)), (4, .int (nI (i + 1)))] := lv_sub hl [2, 3, 4, 5, 0] rfl
          apply ih (i := i + 1) (φk_5 := φk_5) <;> assumption

set_option maxHeartbeats 4000000 in
set_option maxRecDepth 100000 in
/-- about(cone, band, what) -/
theorem c_about (l : Launch) (hfl : l.stackTraces = false) (D : va_G) (cA : Nat → ClassId) (ga : Nat → Nat → Nat) (φ : hpM) (sz : Nat) (y sb la ca ha ba hd nl nc nh nb dy : Nat) (ac aw ag cf ht cy tr ab dr : Nat → Nat) (wf mf : Nat → Nat → Nat) (x z t : Int32) (f0 : φ y = some (.inr (12, [.ref sb, .ref la, .ref ca, .ref ha, .ref ba, .ref hd, .int (nI nl), .int (nI nc), .int (nI nh), .int (nI nb), .int (nI dy)]))) (f1 : φ ca = some (.inl (cA 5, 12, .inr (.inr (.inr (.inr (reF nc ac))))))) (hcn : ∀ i, i < nc → φ (ac i) = some (.inr (5, [.ref (ga 0 (cf i)), .ref (aw i), .ref (ag i), .int (nI (ht i)), .int (nI (cy i)), lbV ab (dr i), .int (nI (tr i))])) ∧ φ (aw i) = some (.inl (cA 1, 6, .inl (fun j => nI ((wf i) j)))) ∧ φ (ag i) = some (.inl (cA 1, 6, .inl (fun j => nI ((mf i) j)))) ∧ ag i ≠ aw i) (hcb : ∀ i, i < nc → cf i < 4 ∧ (∀ j, wf i j ≤ 1200) ∧ ht i ≤ 60 ∧ (∀ j, mf i j ≤ 500) ∧ cy i ≤ 12 ∧ tr i ≤ 1) (hnc : nc ≤ 12) : hMX l yX8_about cX8_about 5 (some .int) { frames := 10, cells := 5, slots := 30, locals := 320 } [.ref y, .int (x), .int (z), .int (t)] D cA ga φ sz (fun v φ' => aboutX nc x z t = 0 ∧ (∃ x1 z1 t1 : Nat, x = nI x1 ∧ z = nI z1 ∧ t = nI t1 ∧ x1 < nc ∧ z1 < 6 ∧ t1 ≤ 3 ∧ v = some (.int (nI (abR (wf x1 z1) (ht x1) (mf x1 z1) t1))) ∧ φ' = φ)) (fun E φ' => φ' = φ ∧ E = exE (aboutX nc x z t) ∧ aboutX nc x z t ≠ 0) 5 30 := by
  refine hMX.of (by decide) (Nat.le_of_ble_eq_true rfl) rfl ?_
  intro p e s m args below meth c ls H locs S hr hlocks hne hsz hHz hH hK hX hS hA hl
  refine lv_aload_n (pc := 0) S.1 S.2.1 dX8_about_0 rfl (lv_at hl 0 rfl) ?_
  refine lv_iload_n (pc := 1) S.1 S.2.1 dX8_about_1 rfl (lv_at hl 1 rfl) ?_
  refine hv_callX (pc := 2) (vx_runV (As := [.int (x)]) (rest := []) S (c_coneAt l hfl D cA ga φ H.size y sb la ca ha ba hd nl nc nh nb dy x (reF nc ac) f0 f1) (cwV 1 S.2.2.2.2 (gV tw_126 tw_128 sw_0 tw_1 tw_129) rfl rfl rfl (by decide +kernel) ⟨Nat.le_of_ble_eq_true rfl, Nat.le_of_ble_eq_true rfl⟩) (pre0_V hH hK hX hS hA (hH.recv hK f0 rfl)) rfl rfl hl.1 rfl (lv_room (Nat.le_of_ble_eq_true rfl)) dX8_about_2 ⟨Nat.le_of_ble_eq_true rfl, Nat.le_of_ble_eq_true rfl⟩) hS (af_le hH hS hA) (fun E ce q9 φ_2x H locs hx hH hS hce hcv hcl => ?_) (fun v_1 φ_2 H locs hw_v_1 hH hS => ?_)
  · skip
    have hn9 : ¬ inN x nc := fun h => by obtain ⟨i, e, hi⟩ := h.nat (by omega); exact hx.2.2 i (ac i) e (by omega) (reF_at hi)
    have e9 : aboutX nc x z t = 3 := by rw [aboutX, if_neg hn9]
    exact hv_out hne hlocks hce hcv hcl hH hS ⟨hx.2.1, by rw [e9]; exact hx.1, by rw [e9]; decide⟩ (Nat.le_of_ble_eq_true rfl) (Nat.le_of_ble_eq_true rfl)
  · skip
    obtain ⟨⟨x1, a9, rfl, hxhi, hf9, rfl⟩, hp9⟩ := hw_v_1
    rw [hp9] at hH
    obtain ⟨hxn, rfl⟩ := reF_some hf9
    have hin_x : inN (nI x1) nc := (inN_nI (by omega) (by omega)).mpr hxn
    refine lv_astore (pc := 5) (lv' := [(4, .ref (ac x1)), (0, .ref y), (1, .int (nI x1)), (2, .int (z)), (3, .int (t))]) S.1 S.2.1 dX8_about_5 hl (by decide) rfl (fun ls hl => ?_)
    refine lv_iload_n (pc := 7) S.1 S.2.1 dX8_about_7 rfl (lv_at hl 3 rfl) ?_
    refine lv_bipush (pc := 8) (v := nI 6) S.1 S.2.1 dX8_about_8 (by decide) ?_
    refine hv_callX (pc := 10) (vx_runS (As := [.int (z), .int (nI 6)]) (rest := []) S (c_refuseNoSuch l hfl D cA ga φ H.size z 6) (va_cwS 2 S.2.2.2.2 (gS tw_130 tw_131 tw_1 tw_132) rfl rfl rfl (by decide +kernel) ⟨Nat.le_of_ble_eq_true rfl, Nat.le_of_ble_eq_true rfl⟩) (pre0_S hH hK hX hS hA) rfl rfl hl.1 rfl (lv_room (Nat.le_of_ble_eq_true rfl)) dX8_about_10 ⟨Nat.le_of_ble_eq_true rfl, Nat.le_of_ble_eq_true rfl⟩) hS (af_le hH hS hA) (fun E ce q9 φ_4x H locs hx hH hS hce hcv hcl => ?_) (fun v_3 φ_4 H locs hw_v_3 hH hS => ?_)
    · skip
      have e9 : aboutX nc (nI x1) z t = 3 := by rw [aboutX, if_pos hin_x, if_neg hx.2.2]
      exact hv_out hne hlocks hce hcv hcl hH hS ⟨hx.2.1, by rw [e9]; exact hx.1, by rw [e9]; decide⟩ (Nat.le_of_ble_eq_true rfl) (Nat.le_of_ble_eq_true rfl)
    · skip
      obtain ⟨rfl, hp9, hin_z⟩ := hw_v_3
      rw [hp9] at hH
      obtain ⟨z1, rfl, hzn⟩ := hin_z.nat (by omega)
      refine lv_iload_n (pc := 13) S.1 S.2.1 dX8_about_13 rfl (lv_at hl 4 rfl) ?_
      refine lv_iconst (pc := 14) (v := nI 0) S.1 S.2.1 dX8_about_14 (by decide) ?_
      refine lv_iconst (pc := 15) (v := nI 3) S.1 S.2.1 dX8_about_15 (by decide) ?_
      refine hv_callX (pc := 16) (vx_runS (As := [.int (t), .int (nI 0), .int (nI 3)]) (rest := []) S (c_refuseOutside l hfl D cA ga φ H.size t 0 3) (va_cwS 3 S.2.2.2.2 (gS tw_203 tw_204 tw_1 tw_205) rfl rfl rfl (by decide +kernel) ⟨Nat.le_of_ble_eq_true rfl, Nat.le_of_ble_eq_true rfl⟩) (pre0_S hH hK hX hS hA) rfl rfl hl.1 rfl (lv_room (Nat.le_of_ble_eq_true rfl)) dX8_about_16 ⟨Nat.le_of_ble_eq_true rfl, Nat.le_of_ble_eq_true rfl⟩) hS (af_le hH hS hA) (fun E ce q9 φ_6x H locs hx hH hS hce hcv hcl => ?_) (fun v_5 φ_6 H locs hw_v_5 hH hS => ?_)
      · skip
        have e9 : aboutX nc (nI x1) (nI z1) t = 1 := by rw [aboutX, if_pos hin_x, if_pos hin_z, if_neg hx.2.2]
        exact hv_out hne hlocks hce hcv hcl hH hS ⟨hx.2.1, by rw [e9]; exact hx.1, by rw [e9]; decide⟩ (Nat.le_of_ble_eq_true rfl) (Nat.le_of_ble_eq_true rfl)
      · skip
        obtain ⟨rfl, hp9, hin_t⟩ := hw_v_5
        rw [hp9] at hH
        obtain ⟨t1, rfl, htlo, hthi⟩ := hin_t.nat (by omega) (by omega)
        have e0 : aboutX nc (nI x1) (nI z1) (nI t1) = 0 := by rw [aboutX, if_pos hin_x, if_pos hin_z, if_pos hin_t]
        refine lv_iload_n (pc := 19) S.1 S.2.1 dX8_about_19 rfl (lv_at hl 4 rfl) ?_
        obtain ⟨fc0, fc1, fc2, nga⟩ := hcn x1 hxn
        obtain ⟨hcf, hwf, hht, hmf, hcy, htr⟩ := hcb x1 hxn
        rcases (show t1 = 0 ∨ t1 = 1 ∨ t1 = 2 ∨ t1 = 3 by omega) with rfl | rfl | rfl | rfl
        · skip
          refine lv_tableIn (pc := 20) (off := 28) (tgt := 48) S.1 S.2.1 dX8_about_20 (by decide) (by decide) (by decide) (by decide) ?_
          refine lv_aload (pc := 48) S.1 S.2.1 dX8_about_48 (lv_at hl 0 rfl) ?_
          refine lv_iload_n (pc := 50) S.1 S.2.1 dX8_about_50 rfl (lv_at hl 3 rfl) ?_
          refine hv_call (pc := 51) (va_runVN (As := [.int (nI z1)]) (rest := []) S (c_X1_widthOf l D cA ga φ H.size (ac x1) (aw x1) (ag x1) (cf x1) (ht x1) (cy x1) (tr x1) (lbV ab (dr x1)) (wf x1) (mf x1) z1 fc0 fc1 fc2 hzn) ⟨va_cnB (host := "HatbandYard") 1 S.2.2.2.2 (gw tw_226) rfl rfl rfl (hX.nest _ (by decide +kernel)) (S.2.2.2.2 _ tw_23) (by decide +kernel) ⟨Nat.le_of_ble_eq_true rfl, Nat.le_of_ble_eq_true rfl⟩, S.2.2.2.2 _ tw_224, S.2.2.2.2 _ sw_2⟩ (pre0_V hH hK hX hS hA (hH.recv hK fc0 rfl)) rfl rfl hl.1 rfl (lv_room (Nat.le_of_ble_eq_true rfl)) dX8_about_51 ⟨Nat.le_of_ble_eq_true rfl, Nat.le_of_ble_eq_true rfl⟩) hS (af_le hH hS hA) (fun v_7 φ_8 H locs hw_v_7 hH hS => ?_)
          obtain ⟨rfl, hqv_7⟩ := hw_v_7
          rw [hqv_7] at hH
          exact vx_ret (hv_ret (pc := 54) (v := nI (wf x1 z1)) S hr rfl hlocks hH hS (⟨e0, x1, z1, 0, rfl, rfl, rfl, hxn, hzn, by omega, rfl, rfl⟩) (Nat.le_of_ble_eq_true rfl) (Nat.le_of_ble_eq_true rfl) dX8_about_54)
        · skip
          refine lv_tableIn (pc := 20) (off := 35) (tgt := 55) S.1 S.2.1 dX8_about_20 (by decide) (by decide) (by decide) (by decide) ?_
          refine lv_aload (pc := 55) S.1 S.2.1 dX8_about_55 (lv_at hl 0 rfl) ?_
          refine hv_getN (pc := 57) (C := RX1) (T := TX1) (N := 7) (ref := RX1) (host := "HatbandYard") S uwX1 hK hH fc0 rfl 3 (by decide) (hX.nest _ (by decide +kernel)) (fun _ h9 => h9) rfl dX8_about_57 ?_
          exact vx_ret (hv_ret (pc := 60) (v := nI (ht x1)) S hr rfl hlocks hH hS (⟨e0, x1, z1, 1, rfl, rfl, rfl, hxn, hzn, by omega, rfl, rfl⟩) (Nat.le_of_ble_eq_true rfl) (Nat.le_of_ble_eq_true rfl) dX8_about_60)
        · skip
          refine lv_tableIn (pc := 20) (off := 41) (tgt := 61) S.1 S.2.1 dX8_about_20 (by decide) (by decide) (by decide) (by decide) ?_
          refine lv_aload (pc := 61) S.1 S.2.1 dX8_about_61 (lv_at hl 0 rfl) ?_
          refine lv_iload_n (pc := 63) S.1 S.2.1 dX8_about_63 rfl (lv_at hl 3 rfl) ?_
          refine hv_call (pc := 64) (va_runVN (As := [.int (nI z1)]) (rest := []) S (c_X1_gramsOf l D cA ga φ H.size (ac x1) (aw x1) (ag x1) (cf x1) (ht x1) (cy x1) (tr x1) (lbV ab (dr x1)) (wf x1) (mf x1) z1 fc0 fc1 fc2 hzn) ⟨va_cnB (host := "HatbandYard") 1 S.2.2.2.2 (gw tw_230) rfl rfl rfl (hX.nest _ (by decide +kernel)) (S.2.2.2.2 _ tw_23) (by decide +kernel) ⟨Nat.le_of_ble_eq_true rfl, Nat.le_of_ble_eq_true rfl⟩, S.2.2.2.2 _ tw_229, S.2.2.2.2 _ sw_3⟩ (pre0_V hH hK hX hS hA (hH.recv hK fc0 rfl)) rfl rfl hl.1 rfl (lv_room (Nat.le_of_ble_eq_true rfl)) dX8_about_64 ⟨Nat.le_of_ble_eq_true rfl, Nat.le_of_ble_eq_true rfl⟩) hS (af_le hH hS hA) (fun v_9 φ_10 H locs hw_v_9 hH hS => ?_)
          obtain ⟨rfl, hqv_9⟩ := hw_v_9
          rw [hqv_9] at hH
          exact vx_ret (hv_ret (pc := 67) (v := nI (mf x1 z1)) S hr rfl hlocks hH hS (⟨e0, x1, z1, 2, rfl, rfl, rfl, hxn, hzn, by omega, rfl, rfl⟩) (Nat.le_of_ble_eq_true rfl) (Nat.le_of_ble_eq_true rfl) dX8_about_67)
        · skip
          refine lv_tableOut (pc := 20) (tgt := 68) S.1 S.2.1 dX8_about_20 (Or.inr (by decide)) (by decide) ?_
          refine lv_aload (pc := 68) S.1 S.2.1 dX8_about_68 (lv_at hl 0 rfl) ?_
          refine lv_iload_n (pc := 70) S.1 S.2.1 dX8_about_70 rfl (lv_at hl 3 rfl) ?_
          refine hv_call (pc := 71) (va_runVN (As := [.int (nI z1)]) (rest := []) S (c_X1_thicknessOf l D cA ga φ H.size (ac x1) (aw x1) (ag x1) (cf x1) (ht x1) (cy x1) (tr x1) (lbV ab (dr x1)) (wf x1) (mf x1) z1 fc0 fc1 fc2 hcf hwf hht hmf hzn) ⟨va_cnB (host := "HatbandYard") 1 S.2.2.2.2 (gw tw_234) rfl rfl rfl (hX.nest _ (by decide +kernel)) (S.2.2.2.2 _ tw_23) (by decide +kernel) ⟨Nat.le_of_ble_eq_true rfl, Nat.le_of_ble_eq_true rfl⟩, S.2.2.2.2 _ tw_233, S.2.2.2.2 _ sw_4⟩ (pre0_V hH hK hX hS hA (hH.recv hK fc0 rfl)) rfl rfl hl.1 rfl (lv_room (Nat.le_of_ble_eq_true rfl)) dX8_about_71 ⟨Nat.le_of_ble_eq_true rfl, Nat.le_of_ble_eq_true rfl⟩) hS (af_le hH hS hA) (fun v_11 φ_12 H locs hw_v_11 hH hS => ?_)
          obtain ⟨rfl, hqv_11⟩ := hw_v_11
          rw [hqv_11] at hH
          exact vx_ret (hv_ret (pc := 74) (v := nI (mf x1 z1 * 100000 / (wf x1 z1 * ht x1))) S hr rfl hlocks hH hS (⟨e0, x1, z1, 3, rfl, rfl, rfl, hxn, hzn, by omega, rfl, rfl⟩) (Nat.le_of_ble_eq_true rfl) (Nat.le_of_ble_eq_true rfl) dX8_about_74)

set_option maxHeartbeats 4000000 in
set_option maxRecDepth 100000 in
/-- widthAnew(cone, band) -/
theorem c_widthAnew (l : Launch) (hfl : l.stackTraces = false) (D : va_G) (cA : Nat → ClassId) (ga : Nat → Nat → Nat) (φ : hpM) (sz : Nat) (y sb la ca ha ba hd nl nc nh nb dy : Nat) (ac aw ag cf ht cy tr ab dr : Nat → Nat) (wf mf : Nat → Nat → Nat) (bs bd : Nat → Nat) (x z : Int32) (f0 : φ y = some (.inr (12, [.ref sb, .ref la, .ref ca, .ref ha, .ref ba, .ref hd, .int (nI nl), .int (nI nc), .int (nI nh), .int (nI nb), .int (nI dy)]))) (f1 : φ ca = some (.inl (cA 5, 12, .inr (.inr (.inr (.inr (reF nc ac))))))) (hcn : ∀ i, i < nc → φ (ac i) = some (.inr (5, [.ref (ga 0 (cf i)), .ref (aw i), .ref (ag i), .int (nI (ht i)), .int (nI (cy i)), lbV ab (dr i), .int (nI (tr i))])) ∧ φ (aw i) = some (.inl (cA 1, 6, .inl (fun j => nI ((wf i) j)))) ∧ φ (ag i) = some (.inl (cA 1, 6, .inl (fun j => nI ((mf i) j)))) ∧ ag i ≠ aw i) (hcb : ∀ i, i < nc → cf i < 4 ∧ (∀ j, wf i j ≤ 1200) ∧ ht i ≤ 60 ∧ (∀ j, mf i j ≤ 500) ∧ cy i ≤ 12 ∧ tr i ≤ 1) (hnc : nc ≤ 12) (hbl : ∀ i, i < nb → φ (ab i) = some (.inr (4, [.int (nI (bs i)), .int (nI (bd i))]))) (hbb : ∀ i, i < nb → bs i ≤ 700 ∧ bd i ≤ 6) (hdr : ∀ i, i < nc → dr i ≤ nb) : hMX l yX8_widthAnew cX8_widthAnew 4 (some .int) { frames := 10, cells := 4, slots := 24, locals := 320 } [.ref y, .int (x), .int (z)] D cA ga φ sz (fun v φ' => anewX nc x z = 0 ∧ (∃ x1 z1 : Nat, x = nI x1 ∧ z = nI z1 ∧ x1 < nc ∧ z1 < 6 ∧ v = some (.int (nI (if dr x1 = 0 then wS (cf x1) (cy x1) (1200 - 150 * z1) else bW (bs (dr x1 - 1)) (bd (dr x1 - 1)) z1))) ∧ φ' = φ)) (fun E φ' => φ' = φ ∧ E = exE (anewX nc x z) ∧ anewX nc x z ≠ 0) 4 24 := by
  refine hMX.of (by decide) (Nat.le_of_ble_eq_true rfl) rfl ?_
  intro p e s m args below meth c ls H locs S hr hlocks hne hsz hHz hH hK hX hS hA hl
  refine lv_aload_n (pc := 0) S.1 S.2.1 dX8_widthAnew_0 rfl (lv_at hl 0 rfl) ?_
  refine lv_iload_n (pc := 1) S.1 S.2.1 dX8_widthAnew_1 rfl (lv_at hl 1 rfl) ?_
  refine hv_callX (pc := 2) (vx_runV (As := [.int (x)]) (rest := []) S (c_coneAt l hfl D cA ga φ H.size y sb la ca ha ba hd nl nc nh nb dy x (reF nc ac) f0 f1) (cwV 1 S.2.2.2.2 (gV tw_126 tw_128 sw_0 tw_1 tw_129) rfl rfl rfl (by decide +kernel) ⟨Nat.le_of_ble_eq_true rfl, Nat.le_of_ble_eq_true rfl⟩) (pre0_V hH hK hX hS hA (hH.recv hK f0 rfl)) rfl rfl hl.1 rfl (lv_room (Nat.le_of_ble_eq_true rfl)) dX8_widthAnew_2 ⟨Nat.le_of_ble_eq_true rfl, Nat.le_of_ble_eq_true rfl⟩) hS (af_le hH hS hA) (fun E ce q9 φ_2x H locs hx hH hS hce hcv hcl => ?_) (fun v_1 φ_2 H locs hw_v_1 hH hS => ?_)
  · skip
    have hn9 : ¬ inN x nc := fun h => by obtain ⟨i, e, hi⟩ := h.nat (by omega); exact hx.2.2 i (ac i) e (by omega) (reF_at hi)
    have e9 : anewX nc x z = 3 := by rw [anewX, if_neg hn9]
    exact hv_out hne hlocks hce hcv hcl hH hS ⟨hx.2.1, by rw [e9]; exact hx.1, by rw [e9]; decide⟩ (Nat.le_of_ble_eq_true rfl) (Nat.le_of_ble_eq_true rfl)
  · skip
    obtain ⟨⟨x1, a9, rfl, hxhi, hf9, rfl⟩, hp9⟩ := hw_v_1
    rw [hp9] at hH
    obtain ⟨hxn, rfl⟩ := reF_some hf9
    have hin_x : inN (nI x1) nc := (inN_nI (by omega) (by omega)).mpr hxn
    refine lv_astore_n (pc := 5) (lv' := [(3, .ref (ac x1)), (0, .ref y), (1, .int (nI x1)), (2, .int (z))]) S.1 S.2.1 dX8_widthAnew_5 rfl hl (by decide) rfl (fun ls hl => ?_)
    refine lv_iload_n (pc := 6) S.1 S.2.1 dX8_widthAnew_6 rfl (lv_at hl 3 rfl) ?_
    refine lv_bipush (pc := 7) (v := nI 6) S.1 S.2.1 dX8_widthAnew_7 (by decide) ?_
    refine hv_callX (pc := 9) (vx_runS (As := [.int (z), .int (nI 6)]) (rest := []) S (c_refuseNoSuch l hfl D cA ga φ H.size z 6) (va_cwS 2 S.2.2.2.2 (gS tw_130 tw_131 tw_1 tw_132) rfl rfl rfl (by decide +kernel) ⟨Nat.le_of_ble_eq_true rfl, Nat.le_of_ble_eq_true rfl⟩) (pre0_S hH hK hX hS hA) rfl rfl hl.1 rfl (lv_room (Nat.le_of_ble_eq_true rfl)) dX8_widthAnew_9 ⟨Nat.le_of_ble_eq_true rfl, Nat.le_of_ble_eq_true rfl⟩) hS (af_le hH hS hA) (fun E ce q9 φ_4x H locs hx hH hS hce hcv hcl => ?_) (fun v_3 φ_4 H locs hw_v_3 hH hS => ?_)
    · skip
      have e9 : anewX nc (nI x1) z = 3 := by rw [anewX, if_pos hin_x, if_neg hx.2.2]
      exact hv_out hne hlocks hce hcv hcl hH hS ⟨hx.2.1, by rw [e9]; exact hx.1, by rw [e9]; decide⟩ (Nat.le_of_ble_eq_true rfl) (Nat.le_of_ble_eq_true rfl)
    · skip
      obtain ⟨rfl, hp9, hin_z⟩ := hw_v_3
      rw [hp9] at hH
      obtain ⟨z1, rfl, hzn⟩ := hin_z.nat (by omega)
      have e0 : anewX nc (nI x1) (nI z1) = 0 := by rw [anewX, if_pos hin_x, if_pos hin_z]
      refine lv_aload_n (pc := 12) S.1 S.2.1 dX8_widthAnew_12 rfl (lv_at hl 0 rfl) ?_
      refine lv_iload_n (pc := 13) S.1 S.2.1 dX8_widthAnew_13 rfl (lv_at hl 3 rfl) ?_
      obtain ⟨fc0, fc1, fc2, nga⟩ := hcn x1 hxn
      obtain ⟨hcf, hwf, hht, hmf, hcy, htr⟩ := hcb x1 hxn
      have hdx := hdr x1 hxn
      rcases Nat.eq_zero_or_pos (dr x1) with hd0 | hd0
      · skip
        rw [lbV, if_pos hd0] at fc0
        refine hv_call (pc := 14) (va_runVN (As := [.int (nI z1)]) (rest := []) S (c_X1_widthFollowed0 l D cA ga φ H.size (ac x1) (aw x1) (ag x1) (cf x1) (ht x1) (cy x1) (tr x1) (wf x1) (mf x1) z1 fc0 hcf hcy hzn) ⟨va_cnB (host := "HatbandYard") 1 S.2.2.2.2 (gw tw_806) rfl rfl rfl (hX.nest _ (by decide +kernel)) (S.2.2.2.2 _ tw_23) (by decide +kernel) ⟨Nat.le_of_ble_eq_true rfl, Nat.le_of_ble_eq_true rfl⟩, S.2.2.2.2 _ tw_805, S.2.2.2.2 _ sw_23⟩ (pre0_V hH hK hX hS hA (hH.recv hK fc0 rfl)) rfl rfl hl.1 rfl (lv_room (Nat.le_of_ble_eq_true rfl)) dX8_widthAnew_14 ⟨Nat.le_of_ble_eq_true rfl, Nat.le_of_ble_eq_true rfl⟩) hS (af_le hH hS hA) (fun v_5 φ_6 H locs hw_v_5 hH hS => ?_)
        obtain ⟨rfl, hqv_5⟩ := hw_v_5
        rw [hqv_5] at hH
        exact vx_ret (hv_ret (pc := 17) (v := nI (wS (cf x1) (cy x1) (1200 - 150 * z1))) S hr rfl hlocks hH hS (⟨e0, x1, z1, rfl, rfl, hxn, hzn, by rw [if_pos hd0], rfl⟩) (Nat.le_of_ble_eq_true rfl) (Nat.le_of_ble_eq_true rfl) dX8_widthAnew_17)
      · skip
        rw [lbV, if_neg (by omega)] at fc0
        have fb := hbl (dr x1 - 1) (by omega)
        obtain ⟨hbs, hbd⟩ := hbb (dr x1 - 1) (by omega)
        refine hv_call (pc := 14) (va_runVN (As := [.int (nI z1)]) (rest := []) S (c_X1_widthFollowed1 l D cA ga φ H.size (ac x1) (aw x1) (ag x1) (cf x1) (ht x1) (cy x1) (tr x1) (wf x1) (mf x1) z1 (ab (dr x1 - 1)) (bs (dr x1 - 1)) (bd (dr x1 - 1)) fc0 fb hbs hbd hzn) ⟨va_cnB (host := "HatbandYard") 1 S.2.2.2.2 (gw tw_806) rfl rfl rfl (hX.nest _ (by decide +kernel)) (S.2.2.2.2 _ tw_23) (by decide +kernel) ⟨Nat.le_of_ble_eq_true rfl, Nat.le_of_ble_eq_true rfl⟩, S.2.2.2.2 _ tw_805, S.2.2.2.2 _ sw_23⟩ (pre0_V hH hK hX hS hA (hH.recv hK fc0 rfl)) rfl rfl hl.1 rfl (lv_room (Nat.le_of_ble_eq_true rfl)) dX8_widthAnew_14 ⟨Nat.le_of_ble_eq_true rfl, Nat.le_of_ble_eq_true rfl⟩) hS (af_le hH hS hA) (fun v_7 φ_8 H locs hw_v_7 hH hS => ?_)
        obtain ⟨rfl, hqv_7⟩ := hw_v_7
        rw [hqv_7] at hH
        exact vx_ret (hv_ret (pc := 17) (v := nI (bW (bs (dr x1 - 1)) (bd (dr x1 - 1)) z1)) S hr rfl hlocks hH hS (⟨e0, x1, z1, rfl, rfl, hxn, hzn, by rw [if_neg (by omega)], rfl⟩) (Nat.le_of_ble_eq_true rfl) (Nat.le_of_ble_eq_true rfl) dX8_widthAnew_17)

set_option maxHeartbeats 4000000 in
set_option maxRecDepth 100000 in
/-- count -/
theorem c_count (l : Launch) (hfl : l.stackTraces = false) (D : va_G) (cA : Nat → ClassId) (ga : Nat → Nat → Nat) (φ : hpM) (sz : Nat) (y sb la ca ha ba hd nl nc nh nb dy : Nat) (bq ml k : Nat) (g : Nat → Nat) (x : Int32) (f0 : φ y = some (.inr (12, [.ref sb, .ref la, .ref ca, .ref ha, .ref ba, .ref hd, .int (nI nl), .int (nI nc), .int (nI nh), .int (nI nb), .int (nI dy)]))) (f1 : φ sb = some (.inr (1, [.ref bq, .int (nI 0), .int (nI ml), .int (nI k)]))) (f2 : φ bq = some (.inl (cA 0, 16, .inl (fun j => nI (g j))))) (hk : k ≤ 7) (hg : ∀ j, j < k → g j < 128) : hMX l yX8_count cX8_count 3 (some .int) { frames := 14, cells := 1, slots := 6, locals := 560 } [.ref y, .int (x)] D cA ga φ sz (fun v φ' => cntX x = 0 ∧ (∃ x1 : Nat, x = nI x1 ∧ 1 ≤ x1 ∧ x1 ≤ 100 ∧ v = some (.int (ctR (fiF 7 g k 4 0) x1)) ∧ φ' = ups φ sb (.inr (1, [.ref bq, .int (nI 0), .int (nI (if k = 0 then ml else 1)), .int (nI 0)])))) (fun E φ' => φ' = φ ∧ E = exE (cntX x) ∧ cntX x ≠ 0) 1 6 := by
  refine hMX.of (by decide) (Nat.le_of_ble_eq_true rfl) rfl ?_
  intro p e s m args below meth c ls H locs S hr hlocks hne hsz hHz hH hK hX hS hA hl
  refine lv_iload_n (pc := 0) S.1 S.2.1 dX8_count_0 rfl (lv_at hl 1 rfl) ?_
  refine lv_iconst (pc := 1) (v := nI 1) S.1 S.2.1 dX8_count_1 (by decide) ?_
  refine lv_bipush (pc := 2) (v := nI 100) S.1 S.2.1 dX8_count_2 (by decide) ?_
  refine hv_callX (pc := 4) (vx_runS (As := [.int (x), .int (nI 1), .int (nI 100)]) (rest := []) S (c_refuseOutside l hfl D cA ga φ H.size x 1 100) (va_cwS 3 S.2.2.2.2 (gS tw_203 tw_204 tw_1 tw_205) rfl rfl rfl (by decide +kernel) ⟨Nat.le_of_ble_eq_true rfl, Nat.le_of_ble_eq_true rfl⟩) (pre0_S hH hK hX hS hA) rfl rfl hl.1 rfl (lv_room (Nat.le_of_ble_eq_true rfl)) dX8_count_4 ⟨Nat.le_of_ble_eq_true rfl, Nat.le_of_ble_eq_true rfl⟩) hS (af_le hH hS hA) (fun E ce q9 φ_2x H locs hx hH hS hce hcv hcl => ?_) (fun v_1 φ_2 H locs hw_v_1 hH hS => ?_)
  · skip
    have e9 : cntX x = 1 := by rw [cntX, if_neg hx.2.2]
    exact hv_out hne hlocks hce hcv hcl hH hS ⟨hx.2.1, by rw [e9]; exact hx.1, by rw [e9]; decide⟩ (Nat.le_of_ble_eq_true rfl) (Nat.le_of_ble_eq_true rfl)
  · skip
    obtain ⟨rfl, hp9, hin_x⟩ := hw_v_1
    rw [hp9] at hH
    obtain ⟨x1, rfl, hxlo, hxhi⟩ := hin_x.nat (by omega) (by omega)
    have e0 : cntX (nI x1) = 0 := by rw [cntX, if_pos hin_x]
    refine lv_aload_n (pc := 7) S.1 S.2.1 dX8_count_7 rfl (lv_at hl 0 rfl) ?_
    refine hv_call (pc := 8) (va_runV (As := []) (rest := []) S (c_typedSpiral l D cA ga φ H.size y sb la ca ha ba hd nl nc nh nb dy bq ml k g f0 f1 f2 hk hg) (cwV 0 S.2.2.2.2 (gV tw_820 tw_822 sw_24 tw_1 tw_823) rfl rfl rfl (by decide +kernel) ⟨Nat.le_of_ble_eq_true rfl, Nat.le_of_ble_eq_true rfl⟩) (pre0_V hH hK hX hS hA (hH.recv hK f0 rfl)) rfl rfl hl.1 rfl (lv_room (Nat.le_of_ble_eq_true rfl)) dX8_count_8 ⟨Nat.le_of_ble_eq_true rfl, Nat.le_of_ble_eq_true rfl⟩) hS (af_le hH hS hA) (fun v_3 φ_4 H locs hw_v_3 hH hS => ?_)
    obtain ⟨rfl, hp9⟩ := hw_v_3
    rw [hp9] at hH
    have hfl := fiF_lt 7 g k 4 0
    rcases hfu : fiF 7 g k 4 0 with _ | fu
    · skip
      refine hv_tv (y := .null) rfl ?_
      refine lv_astore_nN (pc := 11) (lv' := [(2, .null), (0, .ref y), (1, .int (nI x1))]) S.1 S.2.1 dX8_count_11 rfl hl (by decide) rfl (fun ls hl => ?_)
      refine lv_aload_n (pc := 12) S.1 S.2.1 dX8_count_12 rfl (lv_at hl 1 rfl) ?_
      refine hv_call (pc := 13) (va_runV (As := []) (rest := []) S (c_clearTyped l D cA ga φ H.size y sb la ca ha ba hd nl nc nh nb dy bq ml k g f0 f1 f2 hk) (cwV 0 S.2.2.2.2 (gV tw_443 tw_445 sw_9 tw_1 tw_446) rfl rfl rfl (by decide +kernel) ⟨Nat.le_of_ble_eq_true rfl, Nat.le_of_ble_eq_true rfl⟩) (pre0_V hH hK hX hS hA (hH.recv hK f0 rfl)) rfl rfl hl.1 rfl (lv_room (Nat.le_of_ble_eq_true rfl)) dX8_count_13 ⟨Nat.le_of_ble_eq_true rfl, Nat.le_of_ble_eq_true rfl⟩) hS (af_le hH hS hA) (fun v_5 φ_6 H locs hw_v_5 hH hS => ?_)
      obtain ⟨rfl, hp9⟩ := hw_v_5
      rw [hp9] at hH
      replace hH := nup (e := .inr (1, [.ref bq, .int (nI 0), .int (nI (if k = 0 then ml else 1)), .int (nI 0)])) hH
      obtain ⟨φ_7, hφ_7, fa_φ_7, fr_φ_7, hH⟩ := hH
      have f_8 := fr_φ_7 _ _ (hp_ne f0 f1 (by intro h; first | (cases h; done) | (simp at h; done))) f0
      have f_9 := fr_φ_7 _ _ (hp_ne f2 f1 (by intro h; first | (cases h; done) | (simp at h; done))) f2
      refine lv_aload_nN (pc := 16) S.1 S.2.1 dX8_count_16 rfl (lv_at hl 0 rfl) ?_
      refine lv_ifnonnullN (pc := 17) S.1 S.2.1 dX8_count_17 ?_
      refine lv_iconst (pc := 20) (v := -1) S.1 S.2.1 dX8_count_20 (by decide) ?_
      refine lv_goto (pc := 21) (tgt := 29) S.1 S.2.1 dX8_count_21 (by decide) ?_
      exact vx_ret (hv_ret (pc := 29) (v := (-1 : Int32)) S hr rfl hlocks hH hS (⟨e0, x1, rfl, hxlo, hxhi, rfl, by rw [hφ_7]⟩) (Nat.le_of_ble_eq_true rfl) (Nat.le_of_ble_eq_true rfl) dX8_count_29)
    · skip
      refine hv_tv (y := .ref (ga 2 fu)) rfl ?_
      have hfu9 := hfl fu hfu
      refine lv_astore_n (pc := 11) (lv' := [(2, .ref (ga 2 fu)), (0, .ref y), (1, .int (nI x1))]) S.1 S.2.1 dX8_count_11 rfl hl (by decide) rfl (fun ls hl => ?_)
      refine lv_aload_n (pc := 12) S.1 S.2.1 dX8_count_12 rfl (lv_at hl 1 rfl) ?_
      refine hv_call (pc := 13) (va_runV (As := []) (rest := []) S (c_clearTyped l D cA ga φ H.size y sb la ca ha ba hd nl nc nh nb dy bq ml k g f0 f1 f2 hk) (cwV 0 S.2.2.2.2 (gV tw_443 tw_445 sw_9 tw_1 tw_446) rfl rfl rfl (by decide +kernel) ⟨Nat.le_of_ble_eq_true rfl, Nat.le_of_ble_eq_true rfl⟩) (pre0_V hH hK hX hS hA (hH.recv hK f0 rfl)) rfl rfl hl.1 rfl (lv_room (Nat.le_of_ble_eq_true rfl)) dX8_count_13 ⟨Nat.le_of_ble_eq_true rfl, Nat.le_of_ble_eq_true rfl⟩) hS (af_le hH hS hA) (fun v_10 φ_11 H locs hw_v_10 hH hS => ?_)
      obtain ⟨rfl, hp9⟩ := hw_v_10
      rw [hp9] at hH
      replace hH := nup (e := .inr (1, [.ref bq, .int (nI 0), .int (nI (if k = 0 then ml else 1)), .int (nI 0)])) hH
      obtain ⟨φ_12, hφ_12, fa_φ_12, fr_φ_12, hH⟩ := hH
      have f_13 := fr_φ_12 _ _ (hp_ne f0 f1 (by intro h; first | (cases h; done) | (simp at h; done))) f0
      have f_14 := fr_φ_12 _ _ (hp_ne f2 f1 (by intro h; first | (cases h; done) | (simp at h; done))) f2
      refine lv_aload_n (pc := 16) S.1 S.2.1 dX8_count_16 rfl (lv_at hl 0 rfl) ?_
      refine lv_ifnonnull (pc := 17) (tgt := 24) S.1 S.2.1 dX8_count_17 (by decide) ?_
      refine lv_aload_n (pc := 24) S.1 S.2.1 dX8_count_24 rfl (lv_at hl 0 rfl) ?_
      refine lv_iload_n (pc := 25) S.1 S.2.1 dX8_count_25 rfl (lv_at hl 2 rfl) ?_
      refine hv_call (pc := 26) (va_runVN (As := [.int (nI x1)]) (rest := []) S (c_X7_stitchesRowByRow l D cA ga φ_12 H.size fu x1 (by omega) hxhi hxlo) ⟨va_cnB (host := "HatbandYard") 1 S.2.2.2.2 (gw tw_830) rfl rfl rfl (hX.nest _ (by decide +kernel)) (S.2.2.2.2 _ tw_27) (by decide +kernel) ⟨Nat.le_of_ble_eq_true rfl, Nat.le_of_ble_eq_true rfl⟩, S.2.2.2.2 _ tw_828, S.2.2.2.2 _ sw_25⟩ (pre0_V hH hK hX hS hA (o_recv (hX.spiO fu (by omega)) hS)) rfl rfl hl.1 rfl (lv_room (Nat.le_of_ble_eq_true rfl)) dX8_count_26 ⟨Nat.le_of_ble_eq_true rfl, Nat.le_of_ble_eq_true rfl⟩) hS (af_le hH hS hA) (fun v_15 φ_16 H locs hw_v_15 hH hS => ?_)
      obtain ⟨rfl, hqv_15⟩ := hw_v_15
      rw [hqv_15] at hH
      exact vx_ret (hv_ret (pc := 29) (v := nI (tN fu (x1 - 1))) S hr rfl hlocks hH hS (⟨e0, x1, rfl, hxlo, hxhi, rfl, by rw [hφ_12]⟩) (Nat.le_of_ble_eq_true rfl) (Nat.le_of_ble_eq_true rfl) dX8_count_29)

set_option maxHeartbeats 4000000 in
set_option maxRecDepth 100000 in
/-- countAnew -/
theorem c_countAnew (l : Launch) (hfl : l.stackTraces = false) (D : va_G) (cA : Nat → ClassId) (ga : Nat → Nat → Nat) (φ : hpM) (sz : Nat) (y sb la ca ha ba hd nl nc nh nb dy : Nat) (bq ml k : Nat) (g : Nat → Nat) (x : Int32) (f0 : φ y = some (.inr (12, [.ref sb, .ref la, .ref ca, .ref ha, .ref ba, .ref hd, .int (nI nl), .int (nI nc), .int (nI nh), .int (nI nb), .int (nI dy)]))) (f1 : φ sb = some (.inr (1, [.ref bq, .int (nI 0), .int (nI ml), .int (nI k)]))) (f2 : φ bq = some (.inl (cA 0, 16, .inl (fun j => nI (g j))))) (hk : k ≤ 7) (hg : ∀ j, j < k → g j < 128) : hMX l yX8_countAnew cX8_countAnew 3 (some .int) { frames := 14, cells := 1, slots := 6, locals := 560 } [.ref y, .int (x)] D cA ga φ sz (fun v φ' => cntX x = 0 ∧ (∃ x1 : Nat, x = nI x1 ∧ 1 ≤ x1 ∧ x1 ≤ 100 ∧ v = some (.int (ctR (fiF 7 g k 4 0) x1)) ∧ φ' = ups φ sb (.inr (1, [.ref bq, .int (nI 0), .int (nI (if k = 0 then ml else 1)), .int (nI 0)])))) (fun E φ' => φ' = φ ∧ E = exE (cntX x) ∧ cntX x ≠ 0) 1 6 := by
  refine hMX.of (by decide) (Nat.le_of_ble_eq_true rfl) rfl ?_
  intro p e s m args below meth c ls H locs S hr hlocks hne hsz hHz hH hK hX hS hA hl
  refine lv_iload_n (pc := 0) S.1 S.2.1 dX8_countAnew_0 rfl (lv_at hl 1 rfl) ?_
  refine lv_iconst (pc := 1) (v := nI 1) S.1 S.2.1 dX8_countAnew_1 (by decide) ?_
  refine lv_bipush (pc := 2) (v := nI 100) S.1 S.2.1 dX8_countAnew_2 (by decide) ?_
  refine hv_callX (pc := 4) (vx_runS (As := [.int (x), .int (nI 1), .int (nI 100)]) (rest := []) S (c_refuseOutside l hfl D cA ga φ H.size x 1 100) (va_cwS 3 S.2.2.2.2 (gS tw_203 tw_204 tw_1 tw_205) rfl rfl rfl (by decide +kernel) ⟨Nat.le_of_ble_eq_true rfl, Nat.le_of_ble_eq_true rfl⟩) (pre0_S hH hK hX hS hA) rfl rfl hl.1 rfl (lv_room (Nat.le_of_ble_eq_true rfl)) dX8_countAnew_4 ⟨Nat.le_of_ble_eq_true rfl, Nat.le_of_ble_eq_true rfl⟩) hS (af_le hH hS hA) (fun E ce q9 φ_2x H locs hx hH hS hce hcv hcl => ?_) (fun v_1 φ_2 H locs hw_v_1 hH hS => ?_)
  · skip
    have e9 : cntX x = 1 := by rw [cntX, if_neg hx.2.2]
    exact hv_out hne hlocks hce hcv hcl hH hS ⟨hx.2.1, by rw [e9]; exact hx.1, by rw [e9]; decide⟩ (Nat.le_of_ble_eq_true rfl) (Nat.le_of_ble_eq_true rfl)
  · skip
    obtain ⟨rfl, hp9, hin_x⟩ := hw_v_1
    rw [hp9] at hH
    obtain ⟨x1, rfl, hxlo, hxhi⟩ := hin_x.nat (by omega) (by omega)
    have e0 : cntX (nI x1) = 0 := by rw [cntX, if_pos hin_x]
    refine lv_aload_n (pc := 7) S.1 S.2.1 dX8_countAnew_7 rfl (lv_at hl 0 rfl) ?_
    refine hv_call (pc := 8) (va_runV (As := []) (rest := []) S (c_typedSpiral l D cA ga φ H.size y sb la ca ha ba hd nl nc nh nb dy bq ml k g f0 f1 f2 hk hg) (cwV 0 S.2.2.2.2 (gV tw_820 tw_822 sw_24 tw_1 tw_823) rfl rfl rfl (by decide +kernel) ⟨Nat.le_of_ble_eq_true rfl, Nat.le_of_ble_eq_true rfl⟩) (pre0_V hH hK hX hS hA (hH.recv hK f0 rfl)) rfl rfl hl.1 rfl (lv_room (Nat.le_of_ble_eq_true rfl)) dX8_countAnew_8 ⟨Nat.le_of_ble_eq_true rfl, Nat.le_of_ble_eq_true rfl⟩) hS (af_le hH hS hA) (fun v_3 φ_4 H locs hw_v_3 hH hS => ?_)
    obtain ⟨rfl, hp9⟩ := hw_v_3
    rw [hp9] at hH
    have hfl := fiF_lt 7 g k 4 0
    rcases hfu : fiF 7 g k 4 0 with _ | fu
    · skip
      refine hv_tv (y := .null) rfl ?_
      refine lv_astore_nN (pc := 11) (lv' := [(2, .null), (0, .ref y), (1, .int (nI x1))]) S.1 S.2.1 dX8_countAnew_11 rfl hl (by decide) rfl (fun ls hl => ?_)
      refine lv_aload_n (pc := 12) S.1 S.2.1 dX8_countAnew_12 rfl (lv_at hl 1 rfl) ?_
      refine hv_call (pc := 13) (va_runV (As := []) (rest := []) S (c_clearTyped l D cA ga φ H.size y sb la ca ha ba hd nl nc nh nb dy bq ml k g f0 f1 f2 hk) (cwV 0 S.2.2.2.2 (gV tw_443 tw_445 sw_9 tw_1 tw_446) rfl rfl rfl (by decide +kernel) ⟨Nat.le_of_ble_eq_true rfl, Nat.le_of_ble_eq_true rfl⟩) (pre0_V hH hK hX hS hA (hH.recv hK f0 rfl)) rfl rfl hl.1 rfl (lv_room (Nat.le_of_ble_eq_true rfl)) dX8_countAnew_13 ⟨Nat.le_of_ble_eq_true rfl, Nat.le_of_ble_eq_true rfl⟩) hS (af_le hH hS hA) (fun v_5 φ_6 H locs hw_v_5 hH hS => ?_)
      obtain ⟨rfl, hp9⟩ := hw_v_5
      rw [hp9] at hH
      replace hH := nup (e := .inr (1, [.ref bq, .int (nI 0), .int (nI (if k = 0 then ml else 1)), .int (nI 0)])) hH
      obtain ⟨φ_7, hφ_7, fa_φ_7, fr_φ_7, hH⟩ := hH
      have f_8 := fr_φ_7 _ _ (hp_ne f0 f1 (by intro h; first | (cases h; done) | (simp at h; done))) f0
      have f_9 := fr_φ_7 _ _ (hp_ne f2 f1 (by intro h; first | (cases h; done) | (simp at h; done))) f2
      refine lv_aload_nN (pc := 16) S.1 S.2.1 dX8_countAnew_16 rfl (lv_at hl 0 rfl) ?_
      refine lv_ifnonnullN (pc := 17) S.1 S.2.1 dX8_countAnew_17 ?_
      refine lv_iconst (pc := 20) (v := -1) S.1 S.2.1 dX8_countAnew_20 (by decide) ?_
      refine lv_goto (pc := 21) (tgt := 29) S.1 S.2.1 dX8_countAnew_21 (by decide) ?_
      exact vx_ret (hv_ret (pc := 29) (v := (-1 : Int32)) S hr rfl hlocks hH hS (⟨e0, x1, rfl, hxlo, hxhi, rfl, by rw [hφ_7]⟩) (Nat.le_of_ble_eq_true rfl) (Nat.le_of_ble_eq_true rfl) dX8_countAnew_29)
    · skip
      refine hv_tv (y := .ref (ga 2 fu)) rfl ?_
      have hfu9 := hfl fu hfu
      refine lv_astore_n (pc := 11) (lv' := [(2, .ref (ga 2 fu)), (0, .ref y), (1, .int (nI x1))]) S.1 S.2.1 dX8_countAnew_11 rfl hl (by decide) rfl (fun ls hl => ?_)
      refine lv_aload_n (pc := 12) S.1 S.2.1 dX8_countAnew_12 rfl (lv_at hl 1 rfl) ?_
      refine hv_call (pc := 13) (va_runV (As := []) (rest := []) S (c_clearTyped l D cA ga φ H.size y sb la ca ha ba hd nl nc nh nb dy bq ml k g f0 f1 f2 hk) (cwV 0 S.2.2.2.2 (gV tw_443 tw_445 sw_9 tw_1 tw_446) rfl rfl rfl (by decide +kernel) ⟨Nat.le_of_ble_eq_true rfl, Nat.le_of_ble_eq_true rfl⟩) (pre0_V hH hK hX hS hA (hH.recv hK f0 rfl)) rfl rfl hl.1 rfl (lv_room (Nat.le_of_ble_eq_true rfl)) dX8_countAnew_13 ⟨Nat.le_of_ble_eq_true rfl, Nat.le_of_ble_eq_true rfl⟩) hS (af_le hH hS hA) (fun v_10 φ_11 H locs hw_v_10 hH hS => ?_)
      obtain ⟨rfl, hp9⟩ := hw_v_10
      rw [hp9] at hH
      replace hH := nup (e := .inr (1, [.ref bq, .int (nI 0), .int (nI (if k = 0 then ml else 1)), .int (nI 0)])) hH
      obtain ⟨φ_12, hφ_12, fa_φ_12, fr_φ_12, hH⟩ := hH
      have f_13 := fr_φ_12 _ _ (hp_ne f0 f1 (by intro h; first | (cases h; done) | (simp at h; done))) f0
      have f_14 := fr_φ_12 _ _ (hp_ne f2 f1 (by intro h; first | (cases h; done) | (simp at h; done))) f2
      refine lv_aload_n (pc := 16) S.1 S.2.1 dX8_countAnew_16 rfl (lv_at hl 0 rfl) ?_
      refine lv_ifnonnull (pc := 17) (tgt := 24) S.1 S.2.1 dX8_countAnew_17 (by decide) ?_
      refine lv_aload_n (pc := 24) S.1 S.2.1 dX8_countAnew_24 rfl (lv_at hl 0 rfl) ?_
      refine lv_iload_n (pc := 25) S.1 S.2.1 dX8_countAnew_25 rfl (lv_at hl 2 rfl) ?_
      refine hv_call (pc := 26) (va_runVN (As := [.int (nI x1)]) (rest := []) S (c_X7_stitchesAtOnce l D cA ga φ_12 H.size fu x1 (by omega) hxhi hxlo) ⟨va_cnB (host := "HatbandYard") 1 S.2.2.2.2 (gw tw_843) rfl rfl rfl (hX.nest _ (by decide +kernel)) (S.2.2.2.2 _ tw_27) (by decide +kernel) ⟨Nat.le_of_ble_eq_true rfl, Nat.le_of_ble_eq_true rfl⟩, S.2.2.2.2 _ tw_842, S.2.2.2.2 _ sw_27⟩ (pre0_V hH hK hX hS hA (o_recv (hX.spiO fu (by omega)) hS)) rfl rfl hl.1 rfl (lv_room (Nat.le_of_ble_eq_true rfl)) dX8_countAnew_26 ⟨Nat.le_of_ble_eq_true rfl, Nat.le_of_ble_eq_true rfl⟩) hS (af_le hH hS hA) (fun v_15 φ_16 H locs hw_v_15 hH hS => ?_)
      obtain ⟨rfl, hqv_15⟩ := hw_v_15
      rw [hqv_15] at hH
      exact vx_ret (hv_ret (pc := 29) (v := nI (tN fu (x1 - 1))) S hr rfl hlocks hH hS (⟨e0, x1, rfl, hxlo, hxhi, rfl, by rw [hφ_12]⟩) (Nat.le_of_ble_eq_true rfl) (Nat.le_of_ble_eq_true rfl) dX8_countAnew_29)

set_option maxHeartbeats 4000000 in
set_option maxRecDepth 100000 in
/-- rows -/
theorem c_rows (l : Launch) (hfl : l.stackTraces = false) (D : va_G) (cA : Nat → ClassId) (ga : Nat → Nat → Nat) (φ : hpM) (sz : Nat) (y sb la ca ha ba hd nl nc nh nb dy : Nat) (bq ml k : Nat) (g : Nat → Nat) (x : Int32) (f0 : φ y = some (.inr (12, [.ref sb, .ref la, .ref ca, .ref ha, .ref ba, .ref hd, .int (nI nl), .int (nI nc), .int (nI nh), .int (nI nb), .int (nI dy)]))) (f1 : φ sb = some (.inr (1, [.ref bq, .int (nI 0), .int (nI ml), .int (nI k)]))) (f2 : φ bq = some (.inl (cA 0, 16, .inl (fun j => nI (g j))))) (hk : k ≤ 7) (hg : ∀ j, j < k → g j < 128) : hMX l yX8_rows cX8_rows 3 (some .int) { frames := 14, cells := 1, slots := 6, locals := 560 } [.ref y, .int (x)] D cA ga φ sz (fun v φ' => rowsX x = 0 ∧ (∃ x1 : Nat, x = nI x1 ∧ 1 ≤ x1 ∧ x1 ≤ 2000 ∧ v = some (.int (rwR (fiF 7 g k 4 0) x1)) ∧ φ' = ups φ sb (.inr (1, [.ref bq, .int (nI 0), .int (nI (if k = 0 then ml else 1)), .int (nI 0)])))) (fun E φ' => φ' = φ ∧ E = exE (rowsX x) ∧ rowsX x ≠ 0) 1 6 := by
  refine hMX.of (by decide) (Nat.le_of_ble_eq_true rfl) rfl ?_
  intro p e s m args below meth c ls H locs S hr hlocks hne hsz hHz hH hK hX hS hA hl
  refine lv_iload_n (pc := 0) S.1 S.2.1 dX8_rows_0 rfl (lv_at hl 1 rfl) ?_
  refine lv_iconst (pc := 1) (v := nI 1) S.1 S.2.1 dX8_rows_1 (by decide) ?_
  refine lv_sipush (pc := 2) (v := nI 2000) S.1 S.2.1 dX8_rows_2 (by decide) ?_
  refine hv_callX (pc := 5) (vx_runS (As := [.int (x), .int (nI 1), .int (nI 2000)]) (rest := []) S (c_refuseOutside l hfl D cA ga φ H.size x 1 2000) (va_cwS 3 S.2.2.2.2 (gS tw_203 tw_204 tw_1 tw_205) rfl rfl rfl (by decide +kernel) ⟨Nat.le_of_ble_eq_true rfl, Nat.le_of_ble_eq_true rfl⟩) (pre0_S hH hK hX hS hA) rfl rfl hl.1 rfl (lv_room (Nat.le_of_ble_eq_true rfl)) dX8_rows_5 ⟨Nat.le_of_ble_eq_true rfl, Nat.le_of_ble_eq_true rfl⟩) hS (af_le hH hS hA) (fun E ce q9 φ_2x H locs hx hH hS hce hcv hcl => ?_) (fun v_1 φ_2 H locs hw_v_1 hH hS => ?_)
  · skip
    have e9 : rowsX x = 1 := by rw [rowsX, if_neg hx.2.2]
    exact hv_out hne hlocks hce hcv hcl hH hS ⟨hx.2.1, by rw [e9]; exact hx.1, by rw [e9]; decide⟩ (Nat.le_of_ble_eq_true rfl) (Nat.le_of_ble_eq_true rfl)
  · skip
    obtain ⟨rfl, hp9, hin_x⟩ := hw_v_1
    rw [hp9] at hH
    obtain ⟨x1, rfl, hxlo, hxhi⟩ := hin_x.nat (by omega) (by omega)
    have e0 : rowsX (nI x1) = 0 := by rw [rowsX, if_pos hin_x]
    refine lv_aload_n (pc := 8) S.1 S.2.1 dX8_rows_8 rfl (lv_at hl 0 rfl) ?_
    refine hv_call (pc := 9) (va_runV (As := []) (rest := []) S (c_typedSpiral l D cA ga φ H.size y sb la ca ha ba hd nl nc nh nb dy bq ml k g f0 f1 f2 hk hg) (cwV 0 S.2.2.2.2 (gV tw_820 tw_822 sw_24 tw_1 tw_823) rfl rfl rfl (by decide +kernel) ⟨Nat.le_of_ble_eq_true rfl, Nat.le_of_ble_eq_true rfl⟩) (pre0_V hH hK hX hS hA (hH.recv hK f0 rfl)) rfl rfl hl.1 rfl (lv_room (Nat.le_of_ble_eq_true rfl)) dX8_rows_9 ⟨Nat.le_of_ble_eq_true rfl, Nat.le_of_ble_eq_true rfl⟩) hS (af_le hH hS hA) (fun v_3 φ_4 H locs hw_v_3 hH hS => ?_)
    obtain ⟨rfl, hp9⟩ := hw_v_3
    rw [hp9] at hH
    have hfl := fiF_lt 7 g k 4 0
    rcases hfu : fiF 7 g k 4 0 with _ | fu
    · skip
      refine hv_tv (y := .null) rfl ?_
      refine lv_astore_nN (pc := 12) (lv' := [(2, .null), (0, .ref y), (1, .int (nI x1))]) S.1 S.2.1 dX8_rows_12 rfl hl (by decide) rfl (fun ls hl => ?_)
      refine lv_aload_n (pc := 13) S.1 S.2.1 dX8_rows_13 rfl (lv_at hl 1 rfl) ?_
      refine hv_call (pc := 14) (va_runV (As := []) (rest := []) S (c_clearTyped l D cA ga φ H.size y sb la ca ha ba hd nl nc nh nb dy bq ml k g f0 f1 f2 hk) (cwV 0 S.2.2.2.2 (gV tw_443 tw_445 sw_9 tw_1 tw_446) rfl rfl rfl (by decide +kernel) ⟨Nat.le_of_ble_eq_true rfl, Nat.le_of_ble_eq_true rfl⟩) (pre0_V hH hK hX hS hA (hH.recv hK f0 rfl)) rfl rfl hl.1 rfl (lv_room (Nat.le_of_ble_eq_true rfl)) dX8_rows_14 ⟨Nat.le_of_ble_eq_true rfl, Nat.le_of_ble_eq_true rfl⟩) hS (af_le hH hS hA) (fun v_5 φ_6 H locs hw_v_5 hH hS => ?_)
      obtain ⟨rfl, hp9⟩ := hw_v_5
      rw [hp9] at hH
      replace hH := nup (e := .inr (1, [.ref bq, .int (nI 0), .int (nI (if k = 0 then ml else 1)), .int (nI 0)])) hH
      obtain ⟨φ_7, hφ_7, fa_φ_7, fr_φ_7, hH⟩ := hH
      have f_8 := fr_φ_7 _ _ (hp_ne f0 f1 (by intro h; first | (cases h; done) | (simp at h; done))) f0
      have f_9 := fr_φ_7 _ _ (hp_ne f2 f1 (by intro h; first | (cases h; done) | (simp at h; done))) f2
      refine lv_aload_nN (pc := 17) S.1 S.2.1 dX8_rows_17 rfl (lv_at hl 0 rfl) ?_
      refine lv_ifnonnullN (pc := 18) S.1 S.2.1 dX8_rows_18 ?_
      refine lv_iconst (pc := 21) (v := -1) S.1 S.2.1 dX8_rows_21 (by decide) ?_
      refine lv_goto (pc := 22) (tgt := 30) S.1 S.2.1 dX8_rows_22 (by decide) ?_
      exact vx_ret (hv_ret (pc := 30) (v := (-1 : Int32)) S hr rfl hlocks hH hS (⟨e0, x1, rfl, hxlo, hxhi, rfl, by rw [hφ_7]⟩) (Nat.le_of_ble_eq_true rfl) (Nat.le_of_ble_eq_true rfl) dX8_rows_30)
    · skip
      refine hv_tv (y := .ref (ga 2 fu)) rfl ?_
      have hfu9 := hfl fu hfu
      refine lv_astore_n (pc := 12) (lv' := [(2, .ref (ga 2 fu)), (0, .ref y), (1, .int (nI x1))]) S.1 S.2.1 dX8_rows_12 rfl hl (by decide) rfl (fun ls hl => ?_)
      refine lv_aload_n (pc := 13) S.1 S.2.1 dX8_rows_13 rfl (lv_at hl 1 rfl) ?_
      refine hv_call (pc := 14) (va_runV (As := []) (rest := []) S (c_clearTyped l D cA ga φ H.size y sb la ca ha ba hd nl nc nh nb dy bq ml k g f0 f1 f2 hk) (cwV 0 S.2.2.2.2 (gV tw_443 tw_445 sw_9 tw_1 tw_446) rfl rfl rfl (by decide +kernel) ⟨Nat.le_of_ble_eq_true rfl, Nat.le_of_ble_eq_true rfl⟩) (pre0_V hH hK hX hS hA (hH.recv hK f0 rfl)) rfl rfl hl.1 rfl (lv_room (Nat.le_of_ble_eq_true rfl)) dX8_rows_14 ⟨Nat.le_of_ble_eq_true rfl, Nat.le_of_ble_eq_true rfl⟩) hS (af_le hH hS hA) (fun v_10 φ_11 H locs hw_v_10 hH hS => ?_)
      obtain ⟨rfl, hp9⟩ := hw_v_10
      rw [hp9] at hH
      replace hH := nup (e := .inr (1, [.ref bq, .int (nI 0), .int (nI (if k = 0 then ml else 1)), .int (nI 0)])) hH
      obtain ⟨φ_12, hφ_12, fa_φ_12, fr_φ_12, hH⟩ := hH
      have f_13 := fr_φ_12 _ _ (hp_ne f0 f1 (by intro h; first | (cases h; done) | (simp at h; done))) f0
      have f_14 := fr_φ_12 _ _ (hp_ne f2 f1 (by intro h; first | (cases h; done) | (simp at h; done))) f2
      refine lv_aload_n (pc := 17) S.1 S.2.1 dX8_rows_17 rfl (lv_at hl 0 rfl) ?_
      refine lv_ifnonnull (pc := 18) (tgt := 25) S.1 S.2.1 dX8_rows_18 (by decide) ?_
      refine lv_aload_n (pc := 25) S.1 S.2.1 dX8_rows_25 rfl (lv_at hl 0 rfl) ?_
      refine lv_iload_n (pc := 26) S.1 S.2.1 dX8_rows_26 rfl (lv_at hl 2 rfl) ?_
      refine hv_call (pc := 27) (va_runVN (As := [.int (nI x1)]) (rest := []) S (c_X7_rowsToClose l D cA ga φ_12 H.size fu x1 (by omega) hxhi) ⟨va_cnB (host := "HatbandYard") 1 S.2.2.2.2 (gw tw_855) rfl rfl rfl (hX.nest _ (by decide +kernel)) (S.2.2.2.2 _ tw_27) (by decide +kernel) ⟨Nat.le_of_ble_eq_true rfl, Nat.le_of_ble_eq_true rfl⟩, S.2.2.2.2 _ tw_854, S.2.2.2.2 _ sw_28⟩ (pre0_V hH hK hX hS hA (o_recv (hX.spiO fu (by omega)) hS)) rfl rfl hl.1 rfl (lv_room (Nat.le_of_ble_eq_true rfl)) dX8_rows_27 ⟨Nat.le_of_ble_eq_true rfl, Nat.le_of_ble_eq_true rfl⟩) hS (af_le hH hS hA) (fun v_15 φ_16 H locs hw_v_15 hH hS => ?_)
      obtain ⟨rfl, hqv_15⟩ := hw_v_15
      rw [hqv_15] at hH
      exact vx_ret (hv_ret (pc := 30) (v := rcI (rcF fu x1 1000 0)) S hr rfl hlocks hH hS (⟨e0, x1, rfl, hxlo, hxhi, rfl, by rw [hφ_12]⟩) (Nat.le_of_ble_eq_true rfl) (Nat.le_of_ble_eq_true rfl) dX8_rows_30)

set_option maxHeartbeats 4000000 in
set_option maxRecDepth 100000 in
/-- measure(radius, length) -/
theorem c_measure (l : Launch) (hfl : l.stackTraces = false) (D : va_G) (cA : Nat → ClassId) (ga : Nat → Nat → Nat) (φ : hpM) (sz : Nat) (y sb la ca ha ba hd nl nc nh nb dy : Nat) (rq : Nat) (rf : Nat → Nat) (x z : Int32) (f0 : φ y = some (.inr (12, [.ref sb, .ref la, .ref ca, .ref ha, .ref ba, .ref hd, .int (nI nl), .int (nI nc), .int (nI nh), .int (nI nb), .int (nI dy)]))) (f1 : φ hd = some (.inr (9, [.ref rq]))) (f2 : φ rq = some (.inl (cA 1, 8, .inl (fun j => nI (rf j))))) (hrf : ∀ j, rf j ≤ 200) : hMX l yX8_measure cX8_measure 3 (some .int) { frames := 9, cells := 2, slots := 12, locals := 260 } [.ref y, .int (x), .int (z)] D cA ga φ sz (fun v φ' => measX x z = 0 ∧ (∃ x1 z1 : Nat, x = nI x1 ∧ z = nI z1 ∧ x1 < 8 ∧ z1 ≤ 200 ∧ v = some (.int (nI (smN (va_up rf x1 z1) 8 * 785 / 1000))) ∧ φ' = ups φ rq (.inl (cA 1, 8, .inl (fun j => nI ((va_up rf x1 z1) j)))))) (fun E φ' => φ' = φ ∧ E = exE (measX x z) ∧ measX x z ≠ 0) 2 12 := by
  refine hMX.of (by decide) (Nat.le_of_ble_eq_true rfl) rfl ?_
  intro p e s m args below meth c ls H locs S hr hlocks hne hsz hHz hH hK hX hS hA hl
  refine lv_iload_n (pc := 0) S.1 S.2.1 dX8_measure_0 rfl (lv_at hl 1 rfl) ?_
  refine lv_bipush (pc := 1) (v := nI 8) S.1 S.2.1 dX8_measure_1 (by decide) ?_
  refine hv_callX (pc := 3) (vx_runS (As := [.int (x), .int (nI 8)]) (rest := []) S (c_refuseNoSuch l hfl D cA ga φ H.size x 8) (va_cwS 2 S.2.2.2.2 (gS tw_130 tw_131 tw_1 tw_132) rfl rfl rfl (by decide +kernel) ⟨Nat.le_of_ble_eq_true rfl, Nat.le_of_ble_eq_true rfl⟩) (pre0_S hH hK hX hS hA) rfl rfl hl.1 rfl (lv_room (Nat.le_of_ble_eq_true rfl)) dX8_measure_3 ⟨Nat.le_of_ble_eq_true rfl, Nat.le_of_ble_eq_true rfl⟩) hS (af_le hH hS hA) (fun E ce q9 φ_2x H locs hx hH hS hce hcv hcl => ?_) (fun v_1 φ_2 H locs hw_v_1 hH hS => ?_)
  · skip
    have e9 : measX x z = 3 := by rw [measX, if_neg hx.2.2]
    exact hv_out hne hlocks hce hcv hcl hH hS ⟨hx.2.1, by rw [e9]; exact hx.1, by rw [e9]; decide⟩ (Nat.le_of_ble_eq_true rfl) (Nat.le_of_ble_eq_true rfl)
  · skip
    obtain ⟨rfl, hp9, hin_x⟩ := hw_v_1
    rw [hp9] at hH
    obtain ⟨x1, rfl, hxn⟩ := hin_x.nat (by omega)
    refine lv_iload_n (pc := 6) S.1 S.2.1 dX8_measure_6 rfl (lv_at hl 2 rfl) ?_
    refine lv_iconst (pc := 7) (v := nI 0) S.1 S.2.1 dX8_measure_7 (by decide) ?_
    refine lv_sipush (pc := 8) (v := nI 200) S.1 S.2.1 dX8_measure_8 (by decide) ?_
    refine hv_callX (pc := 11) (vx_runS (As := [.int (z), .int (nI 0), .int (nI 200)]) (rest := []) S (c_refuseOutside l hfl D cA ga φ H.size z 0 200) (va_cwS 3 S.2.2.2.2 (gS tw_203 tw_204 tw_1 tw_205) rfl rfl rfl (by decide +kernel) ⟨Nat.le_of_ble_eq_true rfl, Nat.le_of_ble_eq_true rfl⟩) (pre0_S hH hK hX hS hA) rfl rfl hl.1 rfl (lv_room (Nat.le_of_ble_eq_true rfl)) dX8_measure_11 ⟨Nat.le_of_ble_eq_true rfl, Nat.le_of_ble_eq_true rfl⟩) hS (af_le hH hS hA) (fun E ce q9 φ_4x H locs hx hH hS hce hcv hcl => ?_) (fun v_3 φ_4 H locs hw_v_3 hH hS => ?_)
    · skip
      have e9 : measX (nI x1) z = 1 := by rw [measX, if_pos hin_x, if_neg hx.2.2]
      exact hv_out hne hlocks hce hcv hcl hH hS ⟨hx.2.1, by rw [e9]; exact hx.1, by rw [e9]; decide⟩ (Nat.le_of_ble_eq_true rfl) (Nat.le_of_ble_eq_true rfl)
    · skip
      obtain ⟨rfl, hp9, hin_z⟩ := hw_v_3
      rw [hp9] at hH
      obtain ⟨z1, rfl, hzlo, hzhi⟩ := hin_z.nat (by omega) (by omega)
      have e0 : measX (nI x1) (nI z1) = 0 := by rw [measX, if_pos hin_x, if_pos hin_z]
      have hr2 : ∀ j, va_up rf x1 z1 j ≤ 200 := fun j => by unfold va_up; split; exact hzhi; exact hrf j
      have hs8 := smN_le hr2 8
      refine lv_aload_n (pc := 14) S.1 S.2.1 dX8_measure_14 rfl (lv_at hl 0 rfl) ?_
      refine hv_get (pc := 15) (C := RX8) (T := TX8) (N := 11) (ref := RX8) S uwX8 hK hH f0 rfl 5 (by decide) tw_93 (fun _ h9 => h9) rfl dX8_measure_15 ?_
      refine lv_iload_n (pc := 18) S.1 S.2.1 dX8_measure_18 rfl (lv_at hl 1 rfl) ?_
      refine lv_iload_n (pc := 19) S.1 S.2.1 dX8_measure_19 rfl (lv_at hl 2 rfl) ?_
      refine hv_call (pc := 20) (va_runVN (As := [.int (nI x1), .int (nI z1)]) (rest := []) S (c_X5_setRadius l D cA ga φ H.size hd rq x1 z1 rf f1 f2 hxn) ⟨va_cnB (host := "HatbandYard") 2 S.2.2.2.2 (gw tw_863) rfl rfl rfl (hX.nest _ (by decide +kernel)) (S.2.2.2.2 _ tw_6) (by decide +kernel) ⟨Nat.le_of_ble_eq_true rfl, Nat.le_of_ble_eq_true rfl⟩, S.2.2.2.2 _ tw_862, S.2.2.2.2 _ sw_29⟩ (pre0_V hH hK hX hS hA (hH.recv hK f1 rfl)) rfl rfl hl.1 rfl (lv_room (Nat.le_of_ble_eq_true rfl)) dX8_measure_20 ⟨Nat.le_of_ble_eq_true rfl, Nat.le_of_ble_eq_true rfl⟩) hS (af_le hH hS hA) (fun v_5 φ_6 H locs hw_v_5 hH hS => ?_)
      obtain ⟨rfl, hp9⟩ := hw_v_5
      rw [hp9] at hH
      replace hH := nup (e := .inl (cA 1, 8, .inl (fun j => nI ((va_up rf x1 z1) j)))) hH
      obtain ⟨φ_7, hφ_7, fa_φ_7, fr_φ_7, hH⟩ := hH
      have f_8 := fr_φ_7 _ _ (hp_ne f0 f2 (by intro h; first | (cases h; done) | (simp at h; done))) f0
      have f_9 := fr_φ_7 _ _ (hp_ne f1 f2 (by intro h; first | (cases h; done) | (simp at h; done))) f1
      refine lv_aload_n (pc := 23) S.1 S.2.1 dX8_measure_23 rfl (lv_at hl 0 rfl) ?_
      refine hv_get (pc := 24) (C := RX8) (T := TX8) (N := 11) (ref := RX8) S uwX8 hK hH f_8 rfl 5 (by decide) tw_93 (fun _ h9 => h9) rfl dX8_measure_24 ?_
      refine hv_call (pc := 27) (va_runVN (As := []) (rest := []) S (c_X5_around l D cA ga φ_7 H.size hd rq (va_up rf x1 z1) f_9 fa_φ_7 (by omega)) ⟨va_cnB (host := "HatbandYard") 0 S.2.2.2.2 (gw tw_867) rfl rfl rfl (hX.nest _ (by decide +kernel)) (S.2.2.2.2 _ tw_6) (by decide +kernel) ⟨Nat.le_of_ble_eq_true rfl, Nat.le_of_ble_eq_true rfl⟩, S.2.2.2.2 _ tw_866, S.2.2.2.2 _ sw_30⟩ (pre0_V hH hK hX hS hA (hH.recv hK f_9 rfl)) rfl rfl hl.1 rfl (lv_room (Nat.le_of_ble_eq_true rfl)) dX8_measure_27 ⟨Nat.le_of_ble_eq_true rfl, Nat.le_of_ble_eq_true rfl⟩) hS (af_le hH hS hA) (fun v_10 φ_11 H locs hw_v_10 hH hS => ?_)
      obtain ⟨rfl, hqv_10⟩ := hw_v_10
      rw [hqv_10] at hH
      exact vx_ret (hv_ret (pc := 30) (v := nI (smN (va_up rf x1 z1) 8 * 785 / 1000)) S hr rfl hlocks hH hS (⟨e0, x1, z1, rfl, rfl, hxn, hzhi, rfl, by rw [hφ_7]⟩) (Nat.le_of_ble_eq_true rfl) (Nat.le_of_ble_eq_true rfl) dX8_measure_30)

set_option maxHeartbeats 4000000 in
set_option maxRecDepth 100000 in
/-- fits(cone) -/
theorem c_fits (l : Launch) (hfl : l.stackTraces = false) (D : va_G) (cA : Nat → ClassId) (ga : Nat → Nat → Nat) (φ : hpM) (sz : Nat) (y sb la ca ha ba hd nl nc nh nb dy : Nat) (ac aw ag cf ht cy tr ab dr : Nat → Nat) (wf mf : Nat → Nat → Nat) (rq : Nat) (rf : Nat → Nat) (x : Int32) (f0 : φ y = some (.inr (12, [.ref sb, .ref la, .ref ca, .ref ha, .ref ba, .ref hd, .int (nI nl), .int (nI nc), .int (nI nh), .int (nI nb), .int (nI dy)]))) (f1 : φ ca = some (.inl (cA 5, 12, .inr (.inr (.inr (.inr (reF nc ac))))))) (f2 : φ hd = some (.inr (9, [.ref rq]))) (f3 : φ rq = some (.inl (cA 1, 8, .inl (fun j => nI (rf j))))) (hcn : ∀ i, i < nc → φ (ac i) = some (.inr (5, [.ref (ga 0 (cf i)), .ref (aw i), .ref (ag i), .int (nI (ht i)), .int (nI (cy i)), lbV ab (dr i), .int (nI (tr i))])) ∧ φ (aw i) = some (.inl (cA 1, 6, .inl (fun j => nI ((wf i) j)))) ∧ φ (ag i) = some (.inl (cA 1, 6, .inl (fun j => nI ((mf i) j)))) ∧ ag i ≠ aw i) (hcb : ∀ i, i < nc → cf i < 4 ∧ (∀ j, wf i j ≤ 1200) ∧ ht i ≤ 60 ∧ (∀ j, mf i j ≤ 500) ∧ cy i ≤ 12 ∧ tr i ≤ 1) (hnc : nc ≤ 12) (hrf : ∀ j, rf j ≤ 200) : hMX l yX8_fits cX8_fits 3 (some .boolean) { frames := 10, cells := 2, slots := 12, locals := 320 } [.ref y, .int (x)] D cA ga φ sz (fun v φ' => inX nc x = 0 ∧ (∃ x1 : Nat, x = nI x1 ∧ x1 < nc ∧ v = some (.int (nI (fiR (wf x1 0) (smN rf 8 * 785 / 1000)))) ∧ φ' = φ)) (fun E φ' => φ' = φ ∧ E = exE (inX nc x) ∧ inX nc x ≠ 0) 2 12 := by
  refine hMX.of (by decide) (Nat.le_of_ble_eq_true rfl) rfl ?_
  intro p e s m args below meth c ls H locs S hr hlocks hne hsz hHz hH hK hX hS hA hl
  refine lv_aload_n (pc := 0) S.1 S.2.1 dX8_fits_0 rfl (lv_at hl 0 rfl) ?_
  refine lv_iload_n (pc := 1) S.1 S.2.1 dX8_fits_1 rfl (lv_at hl 1 rfl) ?_
  refine hv_callX (pc := 2) (vx_runV (As := [.int (x)]) (rest := []) S (c_coneAt l hfl D cA ga φ H.size y sb la ca ha ba hd nl nc nh nb dy x (reF nc ac) f0 f1) (cwV 1 S.2.2.2.2 (gV tw_126 tw_128 sw_0 tw_1 tw_129) rfl rfl rfl (by decide +kernel) ⟨Nat.le_of_ble_eq_true rfl, Nat.le_of_ble_eq_true rfl⟩) (pre0_V hH hK hX hS hA (hH.recv hK f0 rfl)) rfl rfl hl.1 rfl (lv_room (Nat.le_of_ble_eq_true rfl)) dX8_fits_2 ⟨Nat.le_of_ble_eq_true rfl, Nat.le_of_ble_eq_true rfl⟩) hS (af_le hH hS hA) (fun E ce q9 φ_2x H locs hx hH hS hce hcv hcl => ?_) (fun v_1 φ_2 H locs hw_v_1 hH hS => ?_)
  · skip
    have hn9 : ¬ inN x nc := fun h => by obtain ⟨i, e, hi⟩ := h.nat (by omega); exact hx.2.2 i (ac i) e (by omega) (reF_at hi)
    have e9 : inX nc x = 3 := by rw [inX, if_neg hn9]
    exact hv_out hne hlocks hce hcv hcl hH hS ⟨hx.2.1, by rw [e9]; exact hx.1, by rw [e9]; decide⟩ (Nat.le_of_ble_eq_true rfl) (Nat.le_of_ble_eq_true rfl)
  · skip
    obtain ⟨⟨x1, a9, rfl, hxhi, hf9, rfl⟩, hp9⟩ := hw_v_1
    rw [hp9] at hH
    obtain ⟨hxn, rfl⟩ := reF_some hf9
    have hin_x : inN (nI x1) nc := (inN_nI (by omega) (by omega)).mpr hxn
    have e0 : inX nc (nI x1) = 0 := by rw [inX, if_pos hin_x]
    have hs8 := smN_le hrf 8
    obtain ⟨fc0, fc1, fc2, nga⟩ := hcn x1 hxn
    obtain ⟨hcf, hwf, hht, hmf, hcy, htr⟩ := hcb x1 hxn
    have hw0 := hwf 0
    refine lv_iconst (pc := 5) (v := nI 0) S.1 S.2.1 dX8_fits_5 (by decide) ?_
    refine hv_call (pc := 6) (va_runVN (As := [.int (nI 0)]) (rest := []) S (c_X1_widthOf l D cA ga φ H.size (ac x1) (aw x1) (ag x1) (cf x1) (ht x1) (cy x1) (tr x1) (lbV ab (dr x1)) (wf x1) (mf x1) 0 fc0 fc1 fc2 (by omega)) ⟨va_cnB (host := "HatbandYard") 1 S.2.2.2.2 (gw tw_226) rfl rfl rfl (hX.nest _ (by decide +kernel)) (S.2.2.2.2 _ tw_23) (by decide +kernel) ⟨Nat.le_of_ble_eq_true rfl, Nat.le_of_ble_eq_true rfl⟩, S.2.2.2.2 _ tw_224, S.2.2.2.2 _ sw_2⟩ (pre0_V hH hK hX hS hA (hH.recv hK fc0 rfl)) rfl rfl hl.1 rfl (lv_room (Nat.le_of_ble_eq_true rfl)) dX8_fits_6 ⟨Nat.le_of_ble_eq_true rfl, Nat.le_of_ble_eq_true rfl⟩) hS (af_le hH hS hA) (fun v_3 φ_4 H locs hw_v_3 hH hS => ?_)
    obtain ⟨rfl, hqv_3⟩ := hw_v_3
    rw [hqv_3] at hH
    refine lv_aload_n (pc := 9) S.1 S.2.1 dX8_fits_9 rfl (lv_at hl 0 rfl) ?_
    refine hv_get (pc := 10) (C := RX8) (T := TX8) (N := 11) (ref := RX8) S uwX8 hK hH f0 rfl 5 (by decide) tw_93 (fun _ h9 => h9) rfl dX8_fits_10 ?_
    refine hv_call (pc := 13) (va_runVN (As := []) (rest := [.int (nI (wf x1 0))]) S (c_X5_around l D cA ga φ H.size hd rq rf f2 f3 (by omega)) ⟨va_cnB (host := "HatbandYard") 0 S.2.2.2.2 (gw tw_867) rfl rfl rfl (hX.nest _ (by decide +kernel)) (S.2.2.2.2 _ tw_6) (by decide +kernel) ⟨Nat.le_of_ble_eq_true rfl, Nat.le_of_ble_eq_true rfl⟩, S.2.2.2.2 _ tw_866, S.2.2.2.2 _ sw_30⟩ (pre0_V hH hK hX hS hA (hH.recv hK f2 rfl)) rfl rfl hl.1 rfl (lv_room (Nat.le_of_ble_eq_true rfl)) dX8_fits_13 ⟨Nat.le_of_ble_eq_true rfl, Nat.le_of_ble_eq_true rfl⟩) hS (af_le hH hS hA) (fun v_5 φ_6 H locs hw_v_5 hH hS => ?_)
    obtain ⟨rfl, hqv_5⟩ := hw_v_5
    rw [hqv_5] at hH
    refine lv_isub (pc := 16) S.1 S.2.1 dX8_fits_16 ?_
    by_cases hle : smN rf 8 * 785 / 1000 ≤ wf x1 0
    · skip
      refine hv_ti (y := nI (wf x1 0 - smN rf 8 * 785 / 1000)) (pk_sub hle) ?_
      refine lv_istore_n (pc := 17) (lv' := [(2, .int (nI (wf x1 0 - smN rf 8 * 785 / 1000))), (0, .ref y), (1, .int (nI x1))]) S.1 S.2.1 dX8_fits_17 rfl hl (by decide) rfl (fun ls hl => ?_)
      refine lv_iload_n (pc := 18) S.1 S.2.1 dX8_fits_18 rfl (lv_at hl 0 rfl) ?_
      refine hv_if_lt (pc := 19) (tgt := 32) (a := wf x1 0 - smN rf 8 * 785 / 1000) S.1 S.2.1 (by omega) dX8_fits_19 (by decide) (fun c_7 => ?_) (fun c_7 => ?_)
      · skip
        exact c_7.elim
      · skip
        refine lv_iload_n (pc := 22) S.1 S.2.1 dX8_fits_22 rfl (lv_at hl 0 rfl) ?_
        refine lv_bipush (pc := 23) (v := nI 12) S.1 S.2.1 dX8_fits_23 (by decide) ?_
        refine hv_icmp_gt (pc := 25) (tgt := 32) (a := wf x1 0 - smN rf 8 * 785 / 1000) (b := 12) S.1 S.2.1 (by omega) (by omega) dX8_fits_25 (by decide) (fun c_8 => ?_) (fun c_8 => ?_)
        · skip
          refine lv_iconst (pc := 32) (v := nI 0) S.1 S.2.1 dX8_fits_32 (by decide) ?_
          exact vx_ret (hv_ret (pc := 33) (v := nI 0) S hr rfl hlocks hH hS (⟨e0, x1, rfl, hxn, by rw [fiR, if_neg (by omega)], rfl⟩) (Nat.le_of_ble_eq_true rfl) (Nat.le_of_ble_eq_true rfl) dX8_fits_33)
        · skip
          refine lv_iconst (pc := 28) (v := nI 1) S.1 S.2.1 dX8_fits_28 (by decide) ?_
          refine lv_goto (pc := 29) (tgt := 33) S.1 S.2.1 dX8_fits_29 (by decide) ?_
          exact vx_ret (hv_ret (pc := 33) (v := nI 1) S hr rfl hlocks hH hS (⟨e0, x1, rfl, hxn, by rw [fiR, if_pos ⟨hle, by omega⟩], rfl⟩) (Nat.le_of_ble_eq_true rfl) (Nat.le_of_ble_eq_true rfl) dX8_fits_33)
    · skip
      refine lv_istore_n (pc := 17) (lv' := [(2, .int (nI (wf x1 0) - nI (smN rf 8 * 785 / 1000))), (0, .ref y), (1, .int (nI x1))]) S.1 S.2.1 dX8_fits_17 rfl hl (by decide) rfl (fun ls hl => ?_)
      refine lv_iload_n (pc := 18) S.1 S.2.1 dX8_fits_18 rfl (lv_at hl 0 rfl) ?_
      refine lv_if_lt (pc := 19) (tgt := 32) S.1 S.2.1 dX8_fits_19 (by decide) (fun c_9 => ?_) (fun c_9 => ?_)
      · skip
        refine lv_iconst (pc := 32) (v := nI 0) S.1 S.2.1 dX8_fits_32 (by decide) ?_
        exact vx_ret (hv_ret (pc := 33) (v := nI 0) S hr rfl hlocks hH hS (⟨e0, x1, rfl, hxn, by rw [fiR, if_neg (by omega)], rfl⟩) (Nat.le_of_ble_eq_true rfl) (Nat.le_of_ble_eq_true rfl) dX8_fits_33)
      · skip
        exact absurd (pk_sneg (by omega) (by omega)) c_9

set_option maxHeartbeats 4000000 in
set_option maxRecDepth 100000 in
/-- air(hand, isToday) -/
theorem c_air (l : Launch) (hfl : l.stackTraces = false) (D : va_G) (cA : Nat → ClassId) (ga : Nat → Nat → Nat) (φ : hpM) (sz : Nat) (y sb la ca ha ba hd nl nc nh nb dy : Nat) (ah ad ae : Nat → Nat) (x z : Int32) (f0 : φ y = some (.inr (12, [.ref sb, .ref la, .ref ca, .ref ha, .ref ba, .ref hd, .int (nI nl), .int (nI nc), .int (nI nh), .int (nI nb), .int (nI dy)]))) (f1 : φ ha = some (.inl (cA 6, 6, .inr (.inr (.inr (.inr (reF nh ah))))))) (hha : ∀ i, i < nh → φ (ah i) = some (.inr (8, [.int (nI (ad i)), .int (nI (ae i))]))) (hnh : nh ≤ 6) : hMX l yX8_air cX8_air 4 (some .int) { frames := 10, cells := 2, slots := 12, locals := 320 } [.ref y, .int (x), .int (z)] D cA ga φ sz (fun v φ' => inX nh x = 0 ∧ (∃ x1 : Nat, x = nI x1 ∧ x1 < nh ∧ v = some (.int (nI (if z = 0 then ae x1 else ad x1))) ∧ φ' = φ)) (fun E φ' => φ' = φ ∧ E = exE (inX nh x) ∧ inX nh x ≠ 0) 2 12 := by
  refine hMX.of (by decide) (Nat.le_of_ble_eq_true rfl) rfl ?_
  intro p e s m args below meth c ls H locs S hr hlocks hne hsz hHz hH hK hX hS hA hl
  refine lv_aload_n (pc := 0) S.1 S.2.1 dX8_air_0 rfl (lv_at hl 0 rfl) ?_
  refine lv_iload_n (pc := 1) S.1 S.2.1 dX8_air_1 rfl (lv_at hl 1 rfl) ?_
  refine hv_callX (pc := 2) (vx_runV (As := [.int (x)]) (rest := []) S (c_handAt l hfl D cA ga φ H.size y sb la ca ha ba hd nl nc nh nb dy x (reF nh ah) f0 f1) (cwV 1 S.2.2.2.2 (gV tw_242 tw_244 sw_5 tw_1 tw_245) rfl rfl rfl (by decide +kernel) ⟨Nat.le_of_ble_eq_true rfl, Nat.le_of_ble_eq_true rfl⟩) (pre0_V hH hK hX hS hA (hH.recv hK f0 rfl)) rfl rfl hl.1 rfl (lv_room (Nat.le_of_ble_eq_true rfl)) dX8_air_2 ⟨Nat.le_of_ble_eq_true rfl, Nat.le_of_ble_eq_true rfl⟩) hS (af_le hH hS hA) (fun E ce q9 φ_2x H locs hx hH hS hce hcv hcl => ?_) (fun v_1 φ_2 H locs hw_v_1 hH hS => ?_)
  · skip
    have hn9 : ¬ inN x nh := fun h => by obtain ⟨i, e, hi⟩ := h.nat (by omega); exact hx.2.2 i (ah i) e (by omega) (reF_at hi)
    have e9 : inX nh x = 3 := by rw [inX, if_neg hn9]
    exact hv_out hne hlocks hce hcv hcl hH hS ⟨hx.2.1, by rw [e9]; exact hx.1, by rw [e9]; decide⟩ (Nat.le_of_ble_eq_true rfl) (Nat.le_of_ble_eq_true rfl)
  · skip
    obtain ⟨⟨x1, a9, rfl, hxhi, hf9, rfl⟩, hp9⟩ := hw_v_1
    rw [hp9] at hH
    obtain ⟨hxn, rfl⟩ := reF_some hf9
    have hin_x : inN (nI x1) nh := (inN_nI (by omega) (by omega)).mpr hxn
    have e0 : inX nh (nI x1) = 0 := by rw [inX, if_pos hin_x]
    have fh := hha x1 hxn
    refine lv_astore_n (pc := 5) (lv' := [(3, .ref (ah x1)), (0, .ref y), (1, .int (nI x1)), (2, .int (z))]) S.1 S.2.1 dX8_air_5 rfl hl (by decide) rfl (fun ls hl => ?_)
    refine lv_iload_n (pc := 6) S.1 S.2.1 dX8_air_6 rfl (lv_at hl 3 rfl) ?_
    refine lv_if_eq (pc := 7) (tgt := 17) S.1 S.2.1 dX8_air_7 (by decide) (fun c_3 => ?_) (fun c_3 => ?_)
    · skip
      refine lv_aload_n (pc := 17) S.1 S.2.1 dX8_air_17 rfl (lv_at hl 0 rfl) ?_
      refine hv_getN (pc := 18) (C := RX4) (T := TX4) (N := 2) (ref := RX4) (host := "HatbandYard") S uwX4 hK hH fh rfl 1 (by decide) (hX.nest _ (by decide +kernel)) (fun _ h9 => h9) rfl dX8_air_18 ?_
      exact vx_ret (hv_ret (pc := 21) (v := nI (ae x1)) S hr rfl hlocks hH hS (⟨e0, x1, rfl, hxn, by rw [if_pos c_3], rfl⟩) (Nat.le_of_ble_eq_true rfl) (Nat.le_of_ble_eq_true rfl) dX8_air_21)
    · skip
      refine lv_aload_n (pc := 10) S.1 S.2.1 dX8_air_10 rfl (lv_at hl 0 rfl) ?_
      refine hv_getN (pc := 11) (C := RX4) (T := TX4) (N := 2) (ref := RX4) (host := "HatbandYard") S uwX4 hK hH fh rfl 0 (by decide) (hX.nest _ (by decide +kernel)) (fun _ h9 => h9) rfl dX8_air_11 ?_
      refine lv_goto (pc := 14) (tgt := 21) S.1 S.2.1 dX8_air_14 (by decide) ?_
      exact vx_ret (hv_ret (pc := 21) (v := nI (ad x1)) S hr rfl hlocks hH hS (⟨e0, x1, rfl, hxn, by rw [if_neg c_3], rfl⟩) (Nat.le_of_ble_eq_true rfl) (Nat.le_of_ble_eq_true rfl) dX8_air_21)

set_option maxHeartbeats 4000000 in
set_option maxRecDepth 100000 in
/-- grams(lot) -/
theorem c_grams (l : Launch) (hfl : l.stackTraces = false) (D : va_G) (cA : Nat → ClassId) (ga : Nat → Nat → Nat) (φ : hpM) (sz : Nat) (y sb la ca ha ba hd nl nc nh nb dy : Nat) (al lf lg : Nat → Nat) (x : Int32) (f0 : φ y = some (.inr (12, [.ref sb, .ref la, .ref ca, .ref ha, .ref ba, .ref hd, .int (nI nl), .int (nI nc), .int (nI nh), .int (nI nb), .int (nI dy)]))) (f1 : φ la = some (.inl (cA 7, 10, .inr (.inr (.inr (.inr (reF nl al))))))) (hlt : ∀ i, i < nl → φ (al i) = some (.inr (10, [.ref (ga 0 (lf i)), .int (nI (lg i))]))) (hnl : nl ≤ 10) : hMX l yX8_grams cX8_grams 2 (some .int) { frames := 10, cells := 2, slots := 12, locals := 320 } [.ref y, .int (x)] D cA ga φ sz (fun v φ' => inX nl x = 0 ∧ (∃ x1 : Nat, x = nI x1 ∧ x1 < nl ∧ v = some (.int (nI (lg x1))) ∧ φ' = φ)) (fun E φ' => φ' = φ ∧ E = exE (inX nl x) ∧ inX nl x ≠ 0) 2 12 := by
  refine hMX.of (by decide) (Nat.le_of_ble_eq_true rfl) rfl ?_
  intro p e s m args below meth c ls H locs S hr hlocks hne hsz hHz hH hK hX hS hA hl
  refine lv_aload_n (pc := 0) S.1 S.2.1 dX8_grams_0 rfl (lv_at hl 0 rfl) ?_
  refine lv_iload_n (pc := 1) S.1 S.2.1 dX8_grams_1 rfl (lv_at hl 1 rfl) ?_
  refine hv_callX (pc := 2) (vx_runV (As := [.int (x)]) (rest := []) S (c_lotAt l hfl D cA ga φ H.size y sb la ca ha ba hd nl nc nh nb dy x (reF nl al) f0 f1) (cwV 1 S.2.2.2.2 (gV tw_251 tw_253 sw_6 tw_1 tw_254) rfl rfl rfl (by decide +kernel) ⟨Nat.le_of_ble_eq_true rfl, Nat.le_of_ble_eq_true rfl⟩) (pre0_V hH hK hX hS hA (hH.recv hK f0 rfl)) rfl rfl hl.1 rfl (lv_room (Nat.le_of_ble_eq_true rfl)) dX8_grams_2 ⟨Nat.le_of_ble_eq_true rfl, Nat.le_of_ble_eq_true rfl⟩) hS (af_le hH hS hA) (fun E ce q9 φ_2x H locs hx hH hS hce hcv hcl => ?_) (fun v_1 φ_2 H locs hw_v_1 hH hS => ?_)
  · skip
    have hn9 : ¬ inN x nl := fun h => by obtain ⟨i, e, hi⟩ := h.nat (by omega); exact hx.2.2 i (al i) e (by omega) (reF_at hi)
    have e9 : inX nl x = 3 := by rw [inX, if_neg hn9]
    exact hv_out hne hlocks hce hcv hcl hH hS ⟨hx.2.1, by rw [e9]; exact hx.1, by rw [e9]; decide⟩ (Nat.le_of_ble_eq_true rfl) (Nat.le_of_ble_eq_true rfl)
  · skip
    obtain ⟨⟨x1, a9, rfl, hxhi, hf9, rfl⟩, hp9⟩ := hw_v_1
    rw [hp9] at hH
    obtain ⟨hxn, rfl⟩ := reF_some hf9
    have hin_x : inN (nI x1) nl := (inN_nI (by omega) (by omega)).mpr hxn
    have e0 : inX nl (nI x1) = 0 := by rw [inX, if_pos hin_x]
    have fh := hlt x1 hxn
    refine hv_getN (pc := 5) (C := RX6) (T := TX6) (N := 2) (ref := RX6) (host := "HatbandYard") S uwX6 hK hH fh rfl 1 (by decide) (hX.nest _ (by decide +kernel)) (fun _ h9 => h9) rfl dX8_grams_5 ?_
    exact vx_ret (hv_ret (pc := 8) (v := nI (lg x1)) S hr rfl hlocks hH hS (⟨e0, x1, rfl, hxn, rfl, rfl⟩) (Nat.le_of_ble_eq_true rfl) (Nat.le_of_ble_eq_true rfl) dX8_grams_8)
