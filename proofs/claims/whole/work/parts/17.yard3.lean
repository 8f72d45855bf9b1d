def drawX (nc nb : Nat) (x z : Int32) : Nat := if inN x nc then (if inN z nb then 0 else 3) else 3
def trimX (nc : Nat) (tr : Nat → Nat) (x : Int32) : Nat := if inN x nc then (if tr (nx x) = 0 then 0 else 2) else 3
def passX (x : Int32) : Nat := if inR x 1 30 then 0 else 1
def aboutX (nc : Nat) (x z t : Int32) : Nat := if inN x nc then (if inN z 6 then (if inR t 0 3 then 0 else 1) else 3) else 3
def anewX (nc : Nat) (x z : Int32) : Nat := if inN x nc then (if inN z 6 then 0 else 3) else 3
def cntX (x : Int32) : Nat := if inR x 1 100 then 0 else 1
def rowsX (x : Int32) : Nat := if inR x 1 2000 then 0 else 1
def measX (x z : Int32) : Nat := if inN x 8 then (if inR z 0 200 then 0 else 1) else 3
def inX (n : Nat) (x : Int32) : Nat := if inN x n then 0 else 3
/-- the refusal of a draw -/
def refR (k ht : Nat) (wf mf bw : Nat → Nat) : Nat := if hoF wf mf ht 6 0 = 0 then rfF k wf bw 6 0 0 else 1
theorem rfF_le (k : Nat) (wf bw : Nat → Nat) : ∀ n j t, rfF k wf bw n j t ≤ 3
  | 0, _, t => by unfold rfF; split <;> omega
  | n + 1, j, t => by
    unfold rfF
    split
    · omega
    · exact rfF_le k wf bw n (j + 1) _
theorem refR_le (k ht : Nat) (wf mf bw : Nat → Nat) : refR k ht wf mf bw ≤ 3 := by
  unfold refR
  split
  · exact rfF_le ..
  · omega
/-- the hands of which the first i have had a new day -/
def hdZ (ad : Nat → Nat) (i : Nat) : Nat → Nat := fun j => if j < i then 0 else ad j
set_option maxHeartbeats 4000000 in
set_option maxRecDepth 100000 in
/-- cycle(cone, hand) -/
theorem c_cycle (l : Launch) (hfl : l.stackTraces = false) (D : va_G) (cA : Nat → ClassId) (ga : Nat → Nat → Nat) (φ : hpM) (sz : Nat) (y sb la ca ha ba hd nl nc nh nb dy : Nat) (ac aw ag cf ht cy tr ab dr : Nat → Nat) (wf mf : Nat → Nat → Nat) (ah ad ae : Nat → Nat) (x z : Int32) (f0 : φ y = some (.inr (12, [.ref sb, .ref la, .ref ca, .ref ha, .ref ba, .ref hd, .int (nI nl), .int (nI nc), .int (nI nh), .int (nI nb), .int (nI dy)]))) (f1 : φ ca = some (.inl (cA 5, 12, .inr (.inr (.inr (.inr (reF nc ac))))))) (f2 : φ ha = some (.inl (cA 6, 6, .inr (.inr (.inr (.inr (reF nh ah))))))) (hcn : ∀ i, i < nc → φ (ac i) = some (.inr (5, [.ref (ga 0 (cf i)), .ref (aw i), .ref (ag i), .int (nI (ht i)), .int (nI (cy i)), lbV ab (dr i), .int (nI (tr i))])) ∧ φ (aw i) = some (.inl (cA 1, 6, .inl (fun j => nI ((wf i) j)))) ∧ φ (ag i) = some (.inl (cA 1, 6, .inl (fun j => nI ((mf i) j)))) ∧ ag i ≠ aw i) (hcb : ∀ i, i < nc → cf i < 4 ∧ (∀ j, wf i j ≤ 1200) ∧ ht i ≤ 60 ∧ (∀ j, mf i j ≤ 500) ∧ cy i ≤ 12 ∧ tr i ≤ 1) (hnc : nc ≤ 12) (hha : ∀ i, i < nh → φ (ah i) = some (.inr (8, [.int (nI (ad i)), .int (nI (ae i))]))) (hnh : nh ≤ 6) (had : ∀ i, i < nh → ad i ≤ 30) : hMX l yX8_cycle cX8_cycle 5 (some .int) { frames := 10, cells := 8, slots := 48, locals := 320 } [.ref y, .int (x), .int (z)] D cA ga φ sz (fun v φ' => cycleX nc nh cf cy ad dr x z = 0 ∧ (∃ x1 z1 : Nat, x = nI x1 ∧ z = nI z1 ∧ x1 < nc ∧ z1 < nh ∧ ad z1 + fAir (cf x1) ≤ 30 ∧ dr x1 = 0 ∧ cy x1 < 12 ∧ v = some (.int (nI (shA (cf x1) (wf x1 0)))) ∧ φ' = ups (ups (ups φ (ah z1) (.inr (8, [.int (nI (ad z1 + fAir (cf x1))), .int (nI (ae z1 + fAir (cf x1)))]))) (aw x1) (.inl (cA 1, 6, .inl (fun j => nI ((shP (cf x1) (wf x1) 6) j))))) (ac x1) (.inr (5, [.ref (ga 0 (cf x1)), .ref (aw x1), .ref (ag x1), .int (nI (shL (cf x1) (ht x1))), .int (nI (cy x1 + 1)), lbV ab (dr x1), .int (nI (tr x1))])))) (fun E φ' => φ' = φ ∧ E = exE (cycleX nc nh cf cy ad dr x z) ∧ cycleX nc nh cf cy ad dr x z ≠ 0) 8 48 := by
  refine hMX.of (by decide) (Nat.le_of_ble_eq_true rfl) rfl ?_
  intro p e s m args below meth c ls H locs S hr hlocks hne hsz hHz hH hK hX hS hA hl
  refine lv_aload_n (pc := 0) S.1 S.2.1 dX8_cycle_0 rfl (lv_at hl 0 rfl) ?_
  refine lv_iload_n (pc := 1) S.1 S.2.1 dX8_cycle_1 rfl (lv_at hl 1 rfl) ?_
  refine hv_callX (pc := 2) (vx_runV (As := [.int (x)]) (rest := []) S (c_coneAt l hfl D cA ga φ H.size y sb la ca ha ba hd nl nc nh nb dy x (reF nc ac) f0 f1) (cwV 1 S.2.2.2.2 (gV tw_681 tw_683 sw_5 tw_1 tw_684) rfl rfl rfl (by decide +kernel) ⟨Nat.le_of_ble_eq_true rfl, Nat.le_of_ble_eq_true rfl⟩) (pre0_V hH hK hX hS hA (hH.recv hK f0 rfl)) rfl rfl hl.1 rfl (lv_room (Nat.le_of_ble_eq_true rfl)) dX8_cycle_2 ⟨Nat.le_of_ble_eq_true rfl, Nat.le_of_ble_eq_true rfl⟩) hS (af_le hH hS hA) (fun E ce q9 φ_2x H locs hx hH hS hce hcv hcl => ?_) (fun v_1 φ_2 H locs hw_v_1 hH hS => ?_)
  · skip
    have hn9 : ¬ inN x nc := fun h => by obtain ⟨i, e, hi⟩ := h.nat (by omega); exact hx.2.2 i (ac i) e (by omega) (reF_at hi)
    have e9 : cycleX nc nh cf cy ad dr x z = 3 := by rw [cycleX, if_neg hn9]
    exact hv_out hne hlocks hce hcv hcl hH hS ⟨hx.2.1, by rw [e9]; exact hx.1, by rw [e9]; decide⟩ (Nat.le_of_ble_eq_true rfl) (Nat.le_of_ble_eq_true rfl)
  · skip
    obtain ⟨⟨x1, a9, rfl, hxhi, hf9, rfl⟩, hp9⟩ := hw_v_1
    rw [hp9] at hH
    obtain ⟨hxn, rfl⟩ := reF_some hf9
    have hin_x : inN (nI x1) nc := (inN_nI (by omega) (by omega)).mpr hxn
    refine lv_astore_n (pc := 5) (lv' := [(3, .ref (ac x1)), (0, .ref y), (1, .int (nI x1)), (2, .int (z))]) S.1 S.2.1 dX8_cycle_5 rfl hl (by decide) rfl (fun ls hl => ?_)
    refine lv_aload_n (pc := 6) S.1 S.2.1 dX8_cycle_6 rfl (lv_at hl 1 rfl) ?_
    refine lv_iload_n (pc := 7) S.1 S.2.1 dX8_cycle_7 rfl (lv_at hl 3 rfl) ?_
    refine hv_callX (pc := 8) (vx_runV (As := [.int (z)]) (rest := []) S (c_handAt l hfl D cA ga φ H.size y sb la ca ha ba hd nl nc nh nb dy z (reF nh ah) f0 f2) (cwV 1 S.2.2.2.2 (gV tw_686 tw_688 sw_6 tw_1 tw_689) rfl rfl rfl (by decide +kernel) ⟨Nat.le_of_ble_eq_true rfl, Nat.le_of_ble_eq_true rfl⟩) (pre0_V hH hK hX hS hA (hH.recv hK f0 rfl)) rfl rfl hl.1 rfl (lv_room (Nat.le_of_ble_eq_true rfl)) dX8_cycle_8 ⟨Nat.le_of_ble_eq_true rfl, Nat.le_of_ble_eq_true rfl⟩) hS (af_le hH hS hA) (fun E ce q9 φ_4x H locs hx hH hS hce hcv hcl => ?_) (fun v_3 φ_4 H locs hw_v_3 hH hS => ?_)
    · skip
      have hn9 : ¬ inN z nh := fun h => by obtain ⟨i, e, hi⟩ := h.nat (by omega); exact hx.2.2 i (ah i) e (by omega) (reF_at hi)
      have e9 : cycleX nc nh cf cy ad dr (nI x1) z = 3 := by rw [cycleX, if_pos hin_x, if_neg hn9]
      exact hv_out hne hlocks hce hcv hcl hH hS ⟨hx.2.1, by rw [e9]; exact hx.1, by rw [e9]; decide⟩ (Nat.le_of_ble_eq_true rfl) (Nat.le_of_ble_eq_true rfl)
    · skip
      obtain ⟨⟨z1, a9, rfl, hzhi, hf9, rfl⟩, hp9⟩ := hw_v_3
      rw [hp9] at hH
      obtain ⟨hzn, rfl⟩ := reF_some hf9
      have hin_z : inN (nI z1) nh := (inN_nI (by omega) (by omega)).mpr hzn
      refine lv_astore (pc := 11) (lv' := [(4, .ref (ah z1)), (3, .ref (ac x1)), (0, .ref y), (1, .int (nI x1)), (2, .int (nI z1))]) S.1 S.2.1 dX8_cycle_11 hl (by decide) rfl (fun ls hl => ?_)
      obtain ⟨fc0, fc1, fc2, nga⟩ := hcn x1 hxn
      obtain ⟨hcf, hwf, hht, hmf, hcy, htr⟩ := hcb x1 hxn
      have fh := hha z1 hzn
      have had1 := had z1 hzn
      have hfa := fAir_le (cf x1)
      have hx1 : x1 < 2 ^ 31 := by omega
      have hz1 : z1 < 2 ^ 31 := by omega
      refine lv_aload (pc := 13) S.1 S.2.1 dX8_cycle_13 (lv_at hl 0 rfl) ?_
      refine hv_getN (pc := 15) (C := RX4) (T := TX4) (N := 2) (ref := RX4) (host := "HatbandYard") S uwX4 hK hH fh rfl 0 (by decide) (hX.nest _ (by decide +kernel)) (fun _ h9 => h9) rfl dX8_cycle_15 ?_
      refine lv_aload_n (pc := 18) S.1 S.2.1 dX8_cycle_18 rfl (lv_at hl 1 rfl) ?_
      refine hv_getN (pc := 19) (C := RX1) (T := TX1) (N := 7) (ref := RX1) (host := "HatbandYard") S uwX1 hK hH fc0 rfl 0 (by decide) (hX.nest _ (by decide +kernel)) (fun _ h9 => h9) rfl dX8_cycle_19 ?_
      refine hv_getXN (pc := 22) (i := cf x1) (ref := RX3) (index := 123) (host := "HatbandYard") S hX.fur_airOfCycle hcf hS (hX.nest _ (by decide +kernel)) (fun _ h9 => h9) dX8_cycle_22 ?_
      refine lv_iadd (pc := 25) S.1 S.2.1 dX8_cycle_25 ?_
      refine hv_ti (y := nI ((ad z1) + (fAir (cf x1)))) (nI_add _ _) ?_
      refine lv_bipush (pc := 26) (v := nI 30) S.1 S.2.1 dX8_cycle_26 (by decide) ?_
      refine hv_icmp_le (pc := 28) (tgt := 41) (a := (ad z1) + (fAir (cf x1))) (b := 30) S.1 S.2.1 (by omega) (by omega) dX8_cycle_28 (by decide) (fun c_5 => ?_) (fun c_5 => ?_)
      · skip
        refine lv_aload_n (pc := 41) S.1 S.2.1 dX8_cycle_41 rfl (lv_at hl 1 rfl) ?_
        refine hv_getN (pc := 42) (C := RX1) (T := TX1) (N := 7) (ref := RX1) (host := "HatbandYard") S uwX1 hK hH fc0 rfl 5 (by decide) (hX.nest _ (by decide +kernel)) (fun _ h9 => h9) rfl dX8_cycle_42 ?_
        rcases Nat.eq_zero_or_pos (dr x1) with hd0 | hd0
        · skip
          refine hv_tv (y := .null) (by rw [lbV, if_pos hd0]) ?_
          refine lv_ifnullN (pc := 45) (tgt := 58) S.1 S.2.1 dX8_cycle_45 (by decide) ?_
          refine lv_aload_n (pc := 58) S.1 S.2.1 dX8_cycle_58 rfl (lv_at hl 1 rfl) ?_
          refine hv_getN (pc := 59) (C := RX1) (T := TX1) (N := 7) (ref := RX1) (host := "HatbandYard") S uwX1 hK hH fc0 rfl 4 (by decide) (hX.nest _ (by decide +kernel)) (fun _ h9 => h9) rfl dX8_cycle_59 ?_
          refine lv_bipush (pc := 62) (v := nI 12) S.1 S.2.1 dX8_cycle_62 (by decide) ?_
          refine hv_callX (pc := 64) (vx_runS (As := [.int (nI (cy x1)), .int (nI 12)]) (rest := []) S (c_refuseFull l hfl D cA ga φ H.size (cy x1) 12 (by omega) (by omega)) (va_cwS 2 S.2.2.2.2 (gS tw_212 tw_213 tw_1 tw_214) rfl rfl rfl (by decide +kernel) ⟨Nat.le_of_ble_eq_true rfl, Nat.le_of_ble_eq_true rfl⟩) (pre0_S hH hK hX hS hA) rfl rfl hl.1 rfl (lv_room (Nat.le_of_ble_eq_true rfl)) dX8_cycle_64 ⟨Nat.le_of_ble_eq_true rfl, Nat.le_of_ble_eq_true rfl⟩) hS (af_le hH hS hA) (fun E ce q9 φ_7x H locs hx hH hS hce hcv hcl => ?_) (fun v_6 φ_7 H locs hw_v_6 hH hS => ?_)
          · skip
            have e9 : cycleX nc nh cf cy ad dr (nI x1) (nI z1) = 2 := by rw [cycleX, if_pos hin_x, if_pos hin_z, nx_nI hx1, nx_nI hz1, if_pos c_5, if_pos hd0, if_neg hx.2.2]
            exact hv_out hne hlocks hce hcv hcl hH hS ⟨hx.2.1, by rw [e9]; exact hx.1, by rw [e9]; decide⟩ (Nat.le_of_ble_eq_true rfl) (Nat.le_of_ble_eq_true rfl)
          · skip
            obtain ⟨rfl, hp9, hfl9⟩ := hw_v_6
            rw [hp9] at hH
            have e0 : cycleX nc nh cf cy ad dr (nI x1) (nI z1) = 0 := by rw [cycleX, if_pos hin_x, if_pos hin_z, nx_nI hx1, nx_nI hz1, if_pos c_5, if_pos hd0, if_pos hfl9]
            refine lv_aload (pc := 67) S.1 S.2.1 dX8_cycle_67 (lv_at hl 0 rfl) ?_
            refine lv_aload_n (pc := 69) S.1 S.2.1 dX8_cycle_69 rfl (lv_at hl 1 rfl) ?_
            refine hv_getN (pc := 70) (C := RX1) (T := TX1) (N := 7) (ref := RX1) (host := "HatbandYard") S uwX1 hK hH fc0 rfl 0 (by decide) (hX.nest _ (by decide +kernel)) (fun _ h9 => h9) rfl dX8_cycle_70 ?_
            refine hv_getXN (pc := 73) (i := cf x1) (ref := RX3) (index := 123) (host := "HatbandYard") S hX.fur_airOfCycle hcf hS (hX.nest _ (by decide +kernel)) (fun _ h9 => h9) dX8_cycle_73 ?_
            refine hv_call (pc := 76) (va_runVN (As := [.int (nI (fAir (cf x1)))]) (rest := []) S (c_X4_breathe l D cA ga φ H.size (ah z1) (ad z1) (ae z1) (fAir (cf x1)) fh) ⟨va_cnB (host := "HatbandYard") 1 S.2.2.2.2 (gw tw_696) rfl rfl rfl (hX.nest _ (by decide +kernel)) (S.2.2.2.2 _ tw_25) (by decide +kernel) ⟨Nat.le_of_ble_eq_true rfl, Nat.le_of_ble_eq_true rfl⟩, S.2.2.2.2 _ tw_695, S.2.2.2.2 _ sw_7⟩ (pre0_V hH hK hX hS hA (hH.recv hK fh rfl)) rfl rfl hl.1 rfl (lv_room (Nat.le_of_ble_eq_true rfl)) dX8_cycle_76 ⟨Nat.le_of_ble_eq_true rfl, Nat.le_of_ble_eq_true rfl⟩) hS (af_le hH hS hA) (fun v_8 φ_9 H locs hw_v_8 hH hS => ?_)
            obtain ⟨rfl, hp9⟩ := hw_v_8
            rw [hp9] at hH
            replace hH := nup (e := .inr (8, [.int (nI (ad z1 + fAir (cf x1))), .int (nI (ae z1 + fAir (cf x1)))])) hH
            obtain ⟨φ_10, hφ_10, fa_φ_10, fr_φ_10, hH⟩ := hH
            have f_11 := fr_φ_10 _ _ (hp_ne f0 fh (by intro h; first | (cases h; done) | (simp at h; done))) f0
            have f_12 := fr_φ_10 _ _ (hp_ne f1 fh (by intro h; first | (cases h; done) | (simp at h; done))) f1
            have f_13 := fr_φ_10 _ _ (hp_ne f2 fh (by intro h; first | (cases h; done) | (simp at h; done))) f2
            have f_14 := fr_φ_10 _ _ (hp_ne fc0 fh (by intro h; first | (cases h; done) | (simp at h; done))) fc0
            have f_15 := fr_φ_10 _ _ (hp_ne fc1 fh (by intro h; first | (cases h; done) | (simp at h; done))) fc1
            have f_16 := fr_φ_10 _ _ (hp_ne fc2 fh (by intro h; first | (cases h; done) | (simp at h; done))) fc2
            refine lv_aload_n (pc := 79) S.1 S.2.1 dX8_cycle_79 rfl (lv_at hl 1 rfl) ?_
            refine hv_call (pc := 80) (va_runVN (As := []) (rest := []) S (c_X1_shrink l D cA ga φ_10 H.size (ac x1) (aw x1) (ag x1) (cf x1) (ht x1) (cy x1) (tr x1) (lbV ab (dr x1)) (wf x1) (mf x1) f_14 f_15 f_16 hcf hwf hht hmf) ⟨va_cnB (host := "HatbandYard") 0 S.2.2.2.2 (gw tw_700) rfl rfl rfl (hX.nest _ (by decide +kernel)) (S.2.2.2.2 _ tw_24) (by decide +kernel) ⟨Nat.le_of_ble_eq_true rfl, Nat.le_of_ble_eq_true rfl⟩, S.2.2.2.2 _ tw_699, S.2.2.2.2 _ sw_8⟩ (pre0_V hH hK hX hS hA (hH.recv hK f_14 rfl)) rfl rfl hl.1 rfl (lv_room (Nat.le_of_ble_eq_true rfl)) dX8_cycle_80 ⟨Nat.le_of_ble_eq_true rfl, Nat.le_of_ble_eq_true rfl⟩) hS (af_le hH hS hA) (fun v_17 φ_18 H locs hw_v_17 hH hS => ?_)
            obtain ⟨rfl, hp9⟩ := hw_v_17
            rw [hp9] at hH
            obtain ⟨φ_19, hφ_19⟩ : ∃ z : hpM, z = ups φ_10 (aw x1) (.inl (cA 1, 6, .inl (fun j => nI ((shP (cf x1) (wf x1) 6) j)))) := ⟨_, rfl⟩
            rw [← hφ_19] at hH
            have f_20 : φ_19 y = some (.inr (12, [.ref sb, .ref la, .ref ca, .ref ha, .ref ba, .ref hd, .int (nI nl), .int (nI nc), .int (nI nh), .int (nI nb), .int (nI dy)])) := by rw [hφ_19]; exact ups_n (hp_ne f_11 f_15 (by intro h; first | (cases h; done) | (simp at h; done))) f_11
            have f_21 : φ_19 ca = some (.inl (cA 5, 12, .inr (.inr (.inr (.inr (reF nc ac)))))) := by rw [hφ_19]; exact ups_n (hp_ne f_12 f_15 (by intro h; first | (cases h; done) | (simp at h; done))) f_12
            have f_22 : φ_19 ha = some (.inl (cA 6, 6, .inr (.inr (.inr (.inr (reF nh ah)))))) := by rw [hφ_19]; exact ups_n (hp_ne f_13 f_15 (by intro h; first | (cases h; done) | (simp at h; done))) f_13
            have f_23 : φ_19 (ac x1) = some (.inr (5, [.ref (ga 0 (cf x1)), .ref (aw x1), .ref (ag x1), .int (nI (ht x1)), .int (nI (cy x1)), lbV ab (dr x1), .int (nI (tr x1))])) := by rw [hφ_19]; exact ups_n (hp_ne f_14 f_15 (by intro h; first | (cases h; done) | (simp at h; done))) f_14
            have f_24 : φ_19 (ag x1) = some (.inl (cA 1, 6, .inl (fun j => nI ((mf x1) j)))) := by rw [hφ_19]; exact ups_n nga f_16
            have f_25 : φ_19 (ah z1) = some (.inr (8, [.int (nI (ad z1 + fAir (cf x1))), .int (nI (ae z1 + fAir (cf x1)))])) := by rw [hφ_19]; exact ups_n (hp_ne fa_φ_10 f_15 (by intro h; first | (cases h; done) | (simp at h; done))) fa_φ_10
            have f_26 : φ_19 (aw x1) = some (.inl (cA 1, 6, .inl (fun j => nI ((shP (cf x1) (wf x1) 6) j)))) := by rw [hφ_19]; exact ups_s _ _ _
            replace hH := nup (e := .inr (5, [.ref (ga 0 (cf x1)), .ref (aw x1), .ref (ag x1), .int (nI (shL (cf x1) (ht x1))), .int (nI (cy x1 + 1)), lbV ab (dr x1), .int (nI (tr x1))])) hH
            obtain ⟨φ_27, hφ_27, fa_φ_27, fr_φ_27, hH⟩ := hH
            have f_28 := fr_φ_27 _ _ (hp_ne f_20 f_23 (by intro h; first | (cases h; done) | (simp at h; done))) f_20
            have f_29 := fr_φ_27 _ _ (hp_ne f_21 f_23 (by intro h; first | (cases h; done) | (simp at h; done))) f_21
            have f_30 := fr_φ_27 _ _ (hp_ne f_22 f_23 (by intro h; first | (cases h; done) | (simp at h; done))) f_22
            have f_31 := fr_φ_27 _ _ (hp_ne f_24 f_23 (by intro h; first | (cases h; done) | (simp at h; done))) f_24
            have f_32 := fr_φ_27 _ _ (hp_ne f_25 f_23 (by intro h; first | (cases h; done) | (simp at h; done))) f_25
            have f_33 := fr_φ_27 _ _ (hp_ne f_26 f_23 (by intro h; first | (cases h; done) | (simp at h; done))) f_26
            refine lv_aload_n (pc := 83) S.1 S.2.1 dX8_cycle_83 rfl (lv_at hl 1 rfl) ?_
            refine lv_iconst (pc := 84) (v := nI 0) S.1 S.2.1 dX8_cycle_84 (by decide) ?_
            refine hv_call (pc := 85) (va_runVN (As := [.int (nI 0)]) (rest := []) S (c_X1_widthOf l D cA ga φ_27 H.size (ac x1) (aw x1) (ag x1) (cf x1) (shL (cf x1) (ht x1)) (cy x1 + 1) (tr x1) (lbV ab (dr x1)) (shP (cf x1) (wf x1) 6) (mf x1) 0 fa_φ_27 f_33 f_31 (by omega)) ⟨va_cnB (host := "HatbandYard") 1 S.2.2.2.2 (gw tw_713) rfl rfl rfl (hX.nest _ (by decide +kernel)) (S.2.2.2.2 _ tw_24) (by decide +kernel) ⟨Nat.le_of_ble_eq_true rfl, Nat.le_of_ble_eq_true rfl⟩, S.2.2.2.2 _ tw_712, S.2.2.2.2 _ sw_11⟩ (pre0_V hH hK hX hS hA (hH.recv hK fa_φ_27 rfl)) rfl rfl hl.1 rfl (lv_room (Nat.le_of_ble_eq_true rfl)) dX8_cycle_85 ⟨Nat.le_of_ble_eq_true rfl, Nat.le_of_ble_eq_true rfl⟩) hS (af_le hH hS hA) (fun v_34 φ_35 H locs hw_v_34 hH hS => ?_)
            obtain ⟨rfl, hqv_34⟩ := hw_v_34
            rw [hqv_34] at hH
            exact vx_ret (hv_ret (pc := 88) (v := nI (shP (cf x1) (wf x1) 6 0)) S hr rfl hlocks hH hS (⟨e0, x1, z1, rfl, rfl, hxn, hzn, c_5, hd0, hfl9, rfl, by rw [hφ_27, hφ_19, hφ_10]⟩) (Nat.le_of_ble_eq_true rfl) (Nat.le_of_ble_eq_true rfl) dX8_cycle_88)
        · skip
          refine hv_tv (y := .ref (ab (dr x1 - 1))) (by rw [lbV, if_neg (by omega)]) ?_
          refine lv_ifnull (pc := 45) S.1 S.2.1 dX8_cycle_45 ?_
          have e9 : cycleX nc nh cf cy ad dr (nI x1) (nI z1) = 2 := by rw [cycleX, if_pos hin_x, if_pos hin_z, nx_nI hx1, nx_nI hz1, if_pos c_5, if_neg (by omega)]
          exact hv_throw (pc := 48) (cls := "java/lang/IllegalStateException") (text := "the cone was drawn over a block") (ik := 96) (is := 134) (ic := 100) S hfl (by decide +kernel) tw_215 tw_12 hX.tx134 atISE hX hne hlocks hH hS (⟨rfl, by rw [e9]; rfl, by rw [e9]; decide⟩) hl.1 dX8_cycle_48 dX8_cycle_51 dX8_cycle_52 dX8_cycle_54 dX8_cycle_57 (Nat.le_of_ble_eq_true rfl) (Nat.le_of_ble_eq_true rfl) (Nat.le_of_ble_eq_true rfl) (Nat.le_of_ble_eq_true rfl) (Nat.le_of_ble_eq_true rfl) (Nat.le_of_ble_eq_true rfl)
      · skip
        have e9 : cycleX nc nh cf cy ad dr (nI x1) (nI z1) = 2 := by rw [cycleX, if_pos hin_x, if_pos hin_z, nx_nI hx1, nx_nI hz1, if_neg (by omega)]
        exact hv_throw (pc := 31) (cls := "java/lang/IllegalStateException") (text := "too much air for the hand today") (ik := 96) (is := 128) (ic := 100) S hfl (by decide +kernel) tw_215 tw_12 hX.tx128 atISE hX hne hlocks hH hS (⟨rfl, by rw [e9]; rfl, by rw [e9]; decide⟩) hl.1 dX8_cycle_31 dX8_cycle_34 dX8_cycle_35 dX8_cycle_37 dX8_cycle_40 (Nat.le_of_ble_eq_true rfl) (Nat.le_of_ble_eq_true rfl) (Nat.le_of_ble_eq_true rfl) (Nat.le_of_ble_eq_true rfl) (Nat.le_of_ble_eq_true rfl) (Nat.le_of_ble_eq_true rfl)

set_option maxHeartbeats 4000000 in
set_option maxRecDepth 100000 in
/-- draw(cone, block) -/
theorem c_draw (l : Launch) (hfl : l.stackTraces = false) (D : va_G) (cA : Nat → ClassId) (ga : Nat → Nat → Nat) (φ : hpM) (sz : Nat) (y sb la ca ha ba hd nl nc nh nb dy : Nat) (ac aw ag cf ht cy tr ab dr : Nat → Nat) (wf mf : Nat → Nat → Nat) (bs bd : Nat → Nat) (x z : Int32) (f0 : φ y = some (.inr (12, [.ref sb, .ref la, .ref ca, .ref ha, .ref ba, .ref hd, .int (nI nl), .int (nI nc), .int (nI nh), .int (nI nb), .int (nI dy)]))) (f1 : φ ca = some (.inl (cA 5, 12, .inr (.inr (.inr (.inr (reF nc ac))))))) (f2 : φ ba = some (.inl (cA 4, 8, .inr (.inr (.inr (.inr (reF nb ab))))))) (hcn : ∀ i, i < nc → φ (ac i) = some (.inr (5, [.ref (ga 0 (cf i)), .ref (aw i), .ref (ag i), .int (nI (ht i)), .int (nI (cy i)), lbV ab (dr i), .int (nI (tr i))])) ∧ φ (aw i) = some (.inl (cA 1, 6, .inl (fun j => nI ((wf i) j)))) ∧ φ (ag i) = some (.inl (cA 1, 6, .inl (fun j => nI ((mf i) j)))) ∧ ag i ≠ aw i) (hcb : ∀ i, i < nc → cf i < 4 ∧ (∀ j, wf i j ≤ 1200) ∧ ht i ≤ 60 ∧ (∀ j, mf i j ≤ 500) ∧ cy i ≤ 12 ∧ tr i ≤ 1) (hnc : nc ≤ 12) (hbl : ∀ i, i < nb → φ (ab i) = some (.inr (4, [.int (nI (bs i)), .int (nI (bd i))]))) (hbb : ∀ i, i < nb → bs i ≤ 700 ∧ bd i ≤ 6) (hnb : nb ≤ 8) : hMX l yX8_draw cX8_draw 6 (some .int) { frames := 12, cells := 4, slots := 24, locals := 440 } [.ref y, .int (x), .int (z)] D cA ga φ sz (fun v φ' => drawX nc nb x z = 0 ∧ (∃ x1 z1 : Nat, x = nI x1 ∧ z = nI z1 ∧ x1 < nc ∧ z1 < nb ∧ v = some (.int (nI (refR (cf x1) (ht x1) (wf x1) (mf x1) (bW (bs z1) (bd z1))))) ∧ φ' = if refR (cf x1) (ht x1) (wf x1) (mf x1) (bW (bs z1) (bd z1)) = 0 then ups (ups φ (aw x1) (.inl (cA 1, 6, .inl (fun j => nI ((pfx (bW (bs z1) (bd z1)) (wf x1) 6) j))))) (ac x1) (.inr (5, [.ref (ga 0 (cf x1)), .ref (aw x1), .ref (ag x1), .int (nI (ht x1)), .int (nI (cy x1)), .ref (ab z1), .int (nI (tr x1))])) else φ)) (fun E φ' => φ' = φ ∧ E = exE (drawX nc nb x z) ∧ drawX nc nb x z ≠ 0) 4 24 := by
  refine hMX.of (by decide) (Nat.le_of_ble_eq_true rfl) rfl ?_
  intro p e s m args below meth c ls H locs S hr hlocks hne hsz hHz hH hK hX hS hA hl
  refine lv_aload_n (pc := 0) S.1 S.2.1 dX8_draw_0 rfl (lv_at hl 0 rfl) ?_
  refine lv_iload_n (pc := 1) S.1 S.2.1 dX8_draw_1 rfl (lv_at hl 1 rfl) ?_
  refine hv_callX (pc := 2) (vx_runV (As := [.int (x)]) (rest := []) S (c_coneAt l hfl D cA ga φ H.size y sb la ca ha ba hd nl nc nh nb dy x (reF nc ac) f0 f1) (cwV 1 S.2.2.2.2 (gV tw_681 tw_683 sw_5 tw_1 tw_684) rfl rfl rfl (by decide +kernel) ⟨Nat.le_of_ble_eq_true rfl, Nat.le_of_ble_eq_true rfl⟩) (pre0_V hH hK hX hS hA (hH.recv hK f0 rfl)) rfl rfl hl.1 rfl (lv_room (Nat.le_of_ble_eq_true rfl)) dX8_draw_2 ⟨Nat.le_of_ble_eq_true rfl, Nat.le_of_ble_eq_true rfl⟩) hS (af_le hH hS hA) (fun E ce q9 φ_2x H locs hx hH hS hce hcv hcl => ?_) (fun v_1 φ_2 H locs hw_v_1 hH hS => ?_)
  · skip
    have hn9 : ¬ inN x nc := fun h => by obtain ⟨i, e, hi⟩ := h.nat (by omega); exact hx.2.2 i (ac i) e (by omega) (reF_at hi)
    have e9 : drawX nc nb x z = 3 := by rw [drawX, if_neg hn9]
    exact hv_out hne hlocks hce hcv hcl hH hS ⟨hx.2.1, by rw [e9]; exact hx.1, by rw [e9]; decide⟩ (Nat.le_of_ble_eq_true rfl) (Nat.le_of_ble_eq_true rfl)
  · skip
    obtain ⟨⟨x1, a9, rfl, hxhi, hf9, rfl⟩, hp9⟩ := hw_v_1
    rw [hp9] at hH
    obtain ⟨hxn, rfl⟩ := reF_some hf9
    have hin_x : inN (nI x1) nc := (inN_nI (by omega) (by omega)).mpr hxn
    refine lv_astore_n (pc := 5) (lv' := [(3, .ref (ac x1)), (0, .ref y), (1, .int (nI x1)), (2, .int (z))]) S.1 S.2.1 dX8_draw_5 rfl hl (by decide) rfl (fun ls hl => ?_)
    refine lv_aload_n (pc := 6) S.1 S.2.1 dX8_draw_6 rfl (lv_at hl 1 rfl) ?_
    refine lv_iload_n (pc := 7) S.1 S.2.1 dX8_draw_7 rfl (lv_at hl 3 rfl) ?_
    refine hv_callX (pc := 8) (vx_runV (As := [.int (z)]) (rest := []) S (c_blockAt l hfl D cA ga φ H.size y sb la ca ha ba hd nl nc nh nb dy z (reF nb ab) f0 f2) (cwV 1 S.2.2.2.2 (gV tw_740 tw_742 sw_12 tw_1 tw_743) rfl rfl rfl (by decide +kernel) ⟨Nat.le_of_ble_eq_true rfl, Nat.le_of_ble_eq_true rfl⟩) (pre0_V hH hK hX hS hA (hH.recv hK f0 rfl)) rfl rfl hl.1 rfl (lv_room (Nat.le_of_ble_eq_true rfl)) dX8_draw_8 ⟨Nat.le_of_ble_eq_true rfl, Nat.le_of_ble_eq_true rfl⟩) hS (af_le hH hS hA) (fun E ce q9 φ_4x H locs hx hH hS hce hcv hcl => ?_) (fun v_3 φ_4 H locs hw_v_3 hH hS => ?_)
    · skip
      have hn9 : ¬ inN z nb := fun h => by obtain ⟨i, e, hi⟩ := h.nat (by omega); exact hx.2.2 i (ab i) e (by omega) (reF_at hi)
      have e9 : drawX nc nb (nI x1) z = 3 := by rw [drawX, if_pos hin_x, if_neg hn9]
      exact hv_out hne hlocks hce hcv hcl hH hS ⟨hx.2.1, by rw [e9]; exact hx.1, by rw [e9]; decide⟩ (Nat.le_of_ble_eq_true rfl) (Nat.le_of_ble_eq_true rfl)
    · skip
      obtain ⟨⟨z1, a9, rfl, hzhi, hf9, rfl⟩, hp9⟩ := hw_v_3
      rw [hp9] at hH
      obtain ⟨hzn, rfl⟩ := reF_some hf9
      have hin_z : inN (nI z1) nb := (inN_nI (by omega) (by omega)).mpr hzn
      have e0 : drawX nc nb (nI x1) (nI z1) = 0 := by rw [drawX, if_pos hin_x, if_pos hin_z]
      refine lv_astore (pc := 11) (lv' := [(4, .ref (ab z1)), (3, .ref (ac x1)), (0, .ref y), (1, .int (nI x1)), (2, .int (nI z1))]) S.1 S.2.1 dX8_draw_11 hl (by decide) rfl (fun ls hl => ?_)
      obtain ⟨fc0, fc1, fc2, nga⟩ := hcn x1 hxn
      obtain ⟨hcf, hwf, hht, hmf, hcy, htr⟩ := hcb x1 hxn
      have fb := hbl z1 hzn
      obtain ⟨hbs, hbd⟩ := hbb z1 hzn
      refine lv_aload_n (pc := 13) S.1 S.2.1 dX8_draw_13 rfl (lv_at hl 1 rfl) ?_
      refine lv_aload (pc := 14) S.1 S.2.1 dX8_draw_14 (lv_at hl 0 rfl) ?_
      refine hv_call (pc := 16) (va_runVN (As := [.ref (ab z1)]) (rest := []) S (c_X1_refusalOf l D cA ga φ H.size (ac x1) (aw x1) (ag x1) (cf x1) (ht x1) (cy x1) (tr x1) (lbV ab (dr x1)) (wf x1) (mf x1) (ab z1) (bs z1) (bd z1) fc0 fc1 fc2 fb hcf hwf hht hmf hbs hbd) ⟨va_cnB (host := "HatbandYard") 1 S.2.2.2.2 (gw tw_748) rfl rfl rfl (hX.nest _ (by decide +kernel)) (S.2.2.2.2 _ tw_24) (by decide +kernel) ⟨Nat.le_of_ble_eq_true rfl, Nat.le_of_ble_eq_true rfl⟩, S.2.2.2.2 _ tw_747, S.2.2.2.2 _ sw_13⟩ (pre0_V hH hK hX hS hA (hH.recv hK fc0 rfl)) rfl rfl hl.1 rfl (lv_room (Nat.le_of_ble_eq_true rfl)) dX8_draw_16 ⟨Nat.le_of_ble_eq_true rfl, Nat.le_of_ble_eq_true rfl⟩) hS (af_le hH hS hA) (fun v_5 φ_6 H locs hw_v_5 hH hS => ?_)
      obtain ⟨rfl, hqv_5⟩ := hw_v_5
      rw [hqv_5] at hH
      have hrl := refR_le (cf x1) (ht x1) (wf x1) (mf x1) (bW (bs z1) (bd z1))
      refine lv_istore (pc := 19) (lv' := [(5, .int (nI (refR (cf x1) (ht x1) (wf x1) (mf x1) (bW (bs z1) (bd z1))))), (4, .ref (ab z1)), (3, .ref (ac x1)), (0, .ref y), (1, .int (nI x1)), (2, .int (nI z1))]) S.1 S.2.1 dX8_draw_19 hl (by decide) rfl (fun ls hl => ?_)
      refine lv_iload (pc := 21) S.1 S.2.1 dX8_draw_21 (lv_at hl 0 rfl) ?_
      refine hv_if_ne (pc := 23) (tgt := 32) (a := refR (cf x1) (ht x1) (wf x1) (mf x1) (bW (bs z1) (bd z1))) S.1 S.2.1 (by omega) dX8_draw_23 (by decide) (fun c_7 => ?_) (fun c_7 => ?_)
      · skip
        refine lv_iload (pc := 32) S.1 S.2.1 dX8_draw_32 (lv_at hl 0 rfl) ?_
        exact vx_ret (hv_ret (pc := 34) (v := nI (refR (cf x1) (ht x1) (wf x1) (mf x1) (bW (bs z1) (bd z1)))) S hr rfl hlocks hH hS (⟨e0, x1, z1, rfl, rfl, hxn, hzn, rfl, by rw [if_neg c_7]⟩) (Nat.le_of_ble_eq_true rfl) (Nat.le_of_ble_eq_true rfl) dX8_draw_34)
      · skip
        refine lv_aload_n (pc := 26) S.1 S.2.1 dX8_draw_26 rfl (lv_at hl 2 rfl) ?_
        refine lv_aload (pc := 27) S.1 S.2.1 dX8_draw_27 (lv_at hl 1 rfl) ?_
        refine hv_call (pc := 29) (va_runVN (As := [.ref (ab z1)]) (rest := []) S (c_X1_stretchOver l D cA ga φ H.size (ac x1) (aw x1) (ag x1) (cf x1) (ht x1) (cy x1) (tr x1) (lbV ab (dr x1)) (wf x1) (mf x1) (ab z1) (bs z1) (bd z1) fc0 fc1 fc2 fb hbs hbd) ⟨va_cnB (host := "HatbandYard") 1 S.2.2.2.2 (gw tw_775) rfl rfl rfl (hX.nest _ (by decide +kernel)) (S.2.2.2.2 _ tw_24) (by decide +kernel) ⟨Nat.le_of_ble_eq_true rfl, Nat.le_of_ble_eq_true rfl⟩, S.2.2.2.2 _ tw_774, S.2.2.2.2 _ sw_19⟩ (pre0_V hH hK hX hS hA (hH.recv hK fc0 rfl)) rfl rfl hl.1 rfl (lv_room (Nat.le_of_ble_eq_true rfl)) dX8_draw_29 ⟨Nat.le_of_ble_eq_true rfl, Nat.le_of_ble_eq_true rfl⟩) hS (af_le hH hS hA) (fun v_8 φ_9 H locs hw_v_8 hH hS => ?_)
        obtain ⟨rfl, hp9⟩ := hw_v_8
        rw [hp9] at hH
        refine lv_iload (pc := 32) S.1 S.2.1 dX8_draw_32 (lv_at hl 0 rfl) ?_
        exact vx_ret (hv_ret (pc := 34) (v := nI (refR (cf x1) (ht x1) (wf x1) (mf x1) (bW (bs z1) (bd z1)))) S hr rfl hlocks hH hS (⟨e0, x1, z1, rfl, rfl, hxn, hzn, rfl, by rw [if_pos (by omega)]⟩) (Nat.le_of_ble_eq_true rfl) (Nat.le_of_ble_eq_true rfl) dX8_draw_34)
