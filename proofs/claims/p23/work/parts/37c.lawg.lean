/-! More cases of a turn -/
def tkF (wf mf : Nat → Nat) (ht i : Nat) : Nat := mf i * 100000 / (wf i * ht)
theorem mn_a {th : Nat → Nat} {j T : Nat} (h : T < 40 ↔ ∃ i, i < j ∧ th i < 40) (hl : th j < T) : th j < 40 ↔ ∃ i, i < j + 1 ∧ th i < 40 := by
  constructor
  · intro z
    exact ⟨j, by omega, z⟩
  · rintro ⟨i, hi, hz⟩
    by_cases hq : i = j
    · rw [← hq]; exact hz
    · have := h.mpr ⟨i, by omega, hz⟩
      omega
theorem mn_b {th : Nat → Nat} {j T : Nat} (h : T < 40 ↔ ∃ i, i < j ∧ th i < 40) (hl : ¬ th j < T) : T < 40 ↔ ∃ i, i < j + 1 ∧ th i < 40 := by
  constructor
  · intro z
    obtain ⟨i, hi, hz⟩ := h.mp z
    exact ⟨i, by omega, hz⟩
  · rintro ⟨i, hi, hz⟩
    by_cases hq : i = j
    · rw [hq] at hz; omega
    · exact h.mpr ⟨i, by omega, hz⟩
theorem hoF_0 (wf mf : Nat → Nat) (ht : Nat) : ∀ n j, hoF wf mf ht n j = 0 ↔ ∀ i, i < n → ¬ tkF wf mf ht (j + i) < 40
  | 0, _ => by simp [hoF]
  | n + 1, j => by
    unfold hoF
    by_cases h : mf j * 100000 / (wf j * ht) < 40
    · rw [if_pos h]
      exact ⟨fun z => absurd z (by decide), fun z => absurd h (z 0 (by omega))⟩
    · rw [if_neg h, hoF_0 wf mf ht n (j + 1)]
      constructor
      · intro z i hi
        rcases i with _ | i
        · exact h
        · have := z i (by omega)
          rwa [show j + 1 + i = j + (i + 1) by omega] at this
      · intro z i hi
        have := z (i + 1) (by omega)
        rwa [show j + (i + 1) = j + 1 + i by omega] at this
theorem rfF_ne (k : Nat) (wf bw : Nat → Nat) : ∀ n j t, rfF k wf bw n j t ≠ 1
  | 0, _, t => by unfold rfF; split <;> omega
  | n + 1, j, t => by
    unfold rfF
    split
    · omega
    · exact rfF_ne k wf bw n (j + 1) _
theorem refR_1 (k ht : Nat) (wf mf bw : Nat → Nat) : refR k ht wf mf bw = 1 ↔ ∃ i, i < 6 ∧ tkF wf mf ht i < 40 := by
  have h0 := hoF_0 wf mf ht 6 0
  unfold refR
  constructor
  · intro z
    split at z
    · exact absurd z (rfF_ne k wf bw 6 0 0)
    · next hn =>
      refine Classical.byContradiction fun hq => hn (h0.mpr fun i hi hlt => hq ⟨i, hi, ?_⟩)
      rwa [Nat.zero_add] at hlt
  · rintro ⟨i, hi, hlt⟩
    rw [if_neg (fun z => h0.mp z i hi (by rw [Nat.zero_add]; exact hlt))]
theorem fea_9 : fiL 4 (lsN (wdN 9) 8) 3 0 = some 0 := by decide +kernel
theorem fea_10 : fiL 4 (lsN (wdN 10) 8) 3 0 = none := by decide +kernel
theorem tr_9 {d k : Nat} {g : Nat → Nat} (hd : d < 10000) (h : (List.range k).map g = lsN (wdN 9) 8) : trR (fiF 4 g k 3 0) d = 1 := by
  rw [fi_L, h, fea_9]
  show alF 0 d = 1
  unfold alF
  rw [if_pos (show d / 10 < fPro 0 by show d / 10 < 2147483647; omega)]
theorem tr_10 {d k : Nat} {g : Nat → Nat} (h : (List.range k).map g = lsN (wdN 10) 8) : trR (fiF 4 g k 3 0) d = 0 := by
  rw [fi_L, h, fea_10]; rfl
theorem adsub {r a b : Nat} (h : b ≤ r) : nI r + (nI a - nI b) = nI (r + a - b) := by
  rw [← pk_sub (a := r + a) (b := b) (by omega), ← nI_add, Int32.sub_eq_add_neg, Int32.sub_eq_add_neg, Int32.add_assoc]
set_option maxHeartbeats 4000000 in
set_option maxRecDepth 100000 in
/-- a cone is drawn -/
theorem law_draw (l : Launch) (hfl : l.stackTraces = false) {p : Program} {e : Env} {s : State} {m : MethodId} {below : List Frame} {meth : Method} {c : Code} {b : Nat} {D : va_G} {cA : Nat → ClassId} {ga : Nat → Nat → Nat} {Q : State → Prop} (S : CallFix p m c code 19 s #[.ref b] Wc RL) (hK : va_K D vwCl (tysL cA) s) (hX : Sx ga (fun q => s.heap.size ≤ q) s s.heap) {k x9 hw y9 cn z9 cells slots : Nat} {H : Heap} {locs : List Loc} {ls : Array Slot} {az : Nat → Nat} {tk tm : Nat} {tg sc : Nat → Nat} {ar : Nat → Nat → Nat} {w : Nat → Nat → Nat → Nat} {ez o : Nat → Nat → Nat} {φ : hpM} (hk : k < 130) (hc : cells ≤ 500000) (hs : slots ≤ 5000000) (hz9 : z9 < 2 ^ 27) (hw34 : hw < 34)
    (hY : YW cA ga az tk tm tg sc ar w ez o φ) (hI : LI k sc ar w ez o) (hT : TY tk tg) (h5 : o 0 5 = tk) (hH : hp D (fun q => s.heap.size ≤ q) φ H) (hS : va_S (fun q => s.heap.size ≤ q) s.heap H locs) (hcn : 0 < sc 3 → cn < sc 3) (hl : lv_has ls 19 [(13, .int (nI z9)), (12, .int (nI cn)), (11, .int (nI y9)), (10, .int (nI hw)), (9, .int (nI x9)), (8, .int (nI k)), (7, .int (nI 1)), (6, .ref (az 13)), (5, .ref (az 12)), (4, .ref (az 11)), (3, .ref (az 10)), (2, .ref (az 9)), (1, .ref (az 0)), (0, .ref b)])
    (kk : ∀ (H1 : Heap) (locs1 : List Loc) (ls1 : Array Slot), WLD cA ga D (fun q => s.heap.size ≤ q) az (k + 1) H1 → va_S (fun q => s.heap.size ≤ q) s.heap H1 locs1 → lv_has ls1 19 [(11, .int (nI y9)), (9, .int (nI x9)), (8, .int (nI k)), (7, .int (nI 1)), (6, .ref (az 13)), (5, .ref (az 12)), (4, .ref (az 11)), (3, .ref (az 10)), (2, .ref (az 9)), (1, .ref (az 0)), (0, .ref b)] → W p l e room_1 s m #[.ref b] below meth c H1 locs1 (cells + 130) (slots + 800) Q (F0 m 1489 ls1 [])) (h : 21 ≤ hw ∧ hw < 25) (h03 : 0 < sc 3) (h04 : 0 < sc 4) :
    W p l e room_1 s m #[.ref b] below meth c H locs cells slots Q (F0 m 201 ls []) := by
  have hA : ∀ q, s.heap.size ≤ q → (fun q => s.heap.size ≤ q) q := fun _ h => h
  have hl1 := hI.l1
  have hm := hI.lm
  have h200 : k ≤ 200 := by omega
  have hk7 := hT.1
  have hcn3 := hcn h03
  have hc5 := hI.l5 cn hcn3
  have hht := hI.ht hcn3
  refine lv_iload (pc := 201) S.1 S.2.1 dL_law_201 (lv_at hl 3 rfl) ?_
  refine lv_iconst (pc := 203) (v := nI 3) S.1 S.2.1 dL_law_203 (by decide) ?_
  refine hv_icmp_ge (pc := 204) (tgt := 389) (a := hw) (b := 3) S.1 S.2.1 (by omega) (by omega) dL_law_204 (by decide) (fun c_1 => ?_) (fun c9 => absurd c9 (by omega))
  refine lv_iload (pc := 389) S.1 S.2.1 dL_law_389 (lv_at hl 3 rfl) ?_
  refine lv_bipush (pc := 391) (v := nI 7) S.1 S.2.1 dL_law_391 (by decide) ?_
  refine hv_icmp_ge (pc := 393) (tgt := 546) (a := hw) (b := 7) S.1 S.2.1 (by omega) (by omega) dL_law_393 (by decide) (fun c_2 => ?_) (fun c9 => absurd c9 (by omega))
  refine lv_iload (pc := 546) S.1 S.2.1 dL_law_546 (lv_at hl 3 rfl) ?_
  refine lv_bipush (pc := 548) (v := nI 9) S.1 S.2.1 dL_law_548 (by decide) ?_
  refine hv_icmp_ge (pc := 550) (tgt := 610) (a := hw) (b := 9) S.1 S.2.1 (by omega) (by omega) dL_law_550 (by decide) (fun c_3 => ?_) (fun c9 => absurd c9 (by omega))
  refine lv_iload (pc := 610) S.1 S.2.1 dL_law_610 (lv_at hl 3 rfl) ?_
  refine lv_bipush (pc := 612) (v := nI 11) S.1 S.2.1 dL_law_612 (by decide) ?_
  refine hv_icmp_ge (pc := 614) (tgt := 726) (a := hw) (b := 11) S.1 S.2.1 (by omega) (by omega) dL_law_614 (by decide) (fun c_4 => ?_) (fun c9 => absurd c9 (by omega))
  refine lv_iload (pc := 726) S.1 S.2.1 dL_law_726 (lv_at hl 3 rfl) ?_
  refine lv_bipush (pc := 728) (v := nI 21) S.1 S.2.1 dL_law_728 (by decide) ?_
  refine hv_icmp_ge (pc := 730) (tgt := 908) (a := hw) (b := 21) S.1 S.2.1 (by omega) (by omega) dL_law_730 (by decide) (fun c_5 => ?_) (fun c9 => absurd c9 (by omega))
  refine lv_iload (pc := 908) S.1 S.2.1 dL_law_908 (lv_at hl 3 rfl) ?_
  refine lv_bipush (pc := 910) (v := nI 25) S.1 S.2.1 dL_law_910 (by decide) ?_
  refine hv_icmp_ge (pc := 912) (tgt := 1154) (a := hw) (b := 25) S.1 S.2.1 (by omega) (by omega) dL_law_912 (by decide) (fun c9 => absurd c9 (by omega)) (fun c_6 => ?_)
  refine lv_iload (pc := 915) S.1 S.2.1 dL_law_915 (lv_at hl 3 rfl) ?_
  refine lv_bipush (pc := 917) (v := nI 20) S.1 S.2.1 dL_law_917 (by decide) ?_
  refine hv_icmp_le (pc := 919) (tgt := 1154) (a := hw) (b := 20) S.1 S.2.1 (by omega) (by omega) dL_law_919 (by decide) (fun c9 => absurd c9 (by omega)) (fun c_7 => ?_)
  refine lv_aload_n (pc := 922) S.1 S.2.1 dL_law_922 rfl (lv_at hl 11 rfl) ?_
  refine lv_iconst (pc := 923) (v := nI 1) S.1 S.2.1 dL_law_923 (by decide) ?_
  refine hv_iald (pc := 924) S hK hH 1 (hY.a0) rfl (vp_in_nI (show 1 < 6 by omega) (by omega)) dL_law_924 ?_
  refine hv_ti (y := nI ((o 0) 1)) (hv_ld (by omega)) ?_
  refine hv_ti (y := nI (sc 3)) (congrArg nI hm.2.1) ?_
  refine hv_if_le (pc := 925) (tgt := 1154) (a := sc 3) S.1 S.2.1 (by omega) dL_law_925 (by decide) (fun c9 => absurd c9 (by omega)) (fun c_8 => ?_)
  refine lv_aload_n (pc := 928) S.1 S.2.1 dL_law_928 rfl (lv_at hl 11 rfl) ?_
  refine lv_iconst (pc := 929) (v := nI 2) S.1 S.2.1 dL_law_929 (by decide) ?_
  refine hv_iald (pc := 930) S hK hH 1 (hY.a0) rfl (vp_in_nI (show 2 < 6 by omega) (by omega)) dL_law_930 ?_
  refine hv_ti (y := nI ((o 0) 2)) (hv_ld (by omega)) ?_
  refine hv_ti (y := nI (sc 4)) (congrArg nI hm.2.2.1) ?_
  refine hv_if_le (pc := 931) (tgt := 1154) (a := sc 4) S.1 S.2.1 (by omega) dL_law_931 (by decide) (fun c9 => absurd c9 (by omega)) (fun c_9 => ?_)
  refine lv_iload (pc := 934) S.1 S.2.1 dL_law_934 (lv_at hl 0 rfl) ?_
  refine lv_aload_n (pc := 936) S.1 S.2.1 dL_law_936 rfl (lv_at hl 11 rfl) ?_
  refine lv_iconst (pc := 937) (v := nI 2) S.1 S.2.1 dL_law_937 (by decide) ?_
  refine hv_iald (pc := 938) S hK hH 1 (hY.a0) rfl (vp_in_nI (show 2 < 6 by omega) (by omega)) dL_law_938 ?_
  refine hv_ti (y := nI ((o 0) 2)) (hv_ld (by omega)) ?_
  refine hv_ti (y := nI (sc 4)) (congrArg nI hm.2.2.1) ?_
  refine lv_irem (pc := 939) S.1 S.2.1 dL_law_939 (fun h9 => by have := jI_inj (show nI (sc 4) = nI 0 from h9.trans nI_0.symm) (by omega) (by decide); omega) ?_
  refine hv_ti (y := nI (z9 % (sc 4))) (pk_rem (by omega) (by omega) (by omega)) ?_
  have hmod : z9 % sc 4 < sc 4 := Nat.mod_lt _ h04
  obtain ⟨J9, hJ9⟩ : ∃ J9 : Nat, J9 = z9 % (sc 4) := ⟨_, rfl⟩
  refine hv_ti (y := nI J9) (by rw [hJ9]) ?_
  have hbJ9 : J9 < sc 4 := by omega
  have hw12 := hc5.1 0
  have hl6 := hI.l6 J9 hbJ9
  have hlc := hI.lc cn
  refine lv_istore (pc := 940) (lv' := [(14, .int (nI J9)), (13, .int (nI z9)), (12, .int (nI cn)), (11, .int (nI y9)), (10, .int (nI hw)), (9, .int (nI x9)), (8, .int (nI k)), (7, .int (nI 1)), (6, .ref (az 13)), (5, .ref (az 12)), (4, .ref (az 11)), (3, .ref (az 10)), (2, .ref (az 9)), (1, .ref (az 0)), (0, .ref b)]) S.1 S.2.1 dL_law_940 hl (by decide) rfl (fun ls hl => ?_)
  refine lv_ldc (pc := 942) (v := nI 999999) S.1 S.2.1 S.2.2.2.1 (S.2.2.2.2 _ tw_916) dL_law_942 ?_
  refine lv_istore (pc := 944) (lv' := [(15, .int (nI 999999)), (14, .int (nI J9)), (13, .int (nI z9)), (12, .int (nI cn)), (11, .int (nI y9)), (10, .int (nI hw)), (9, .int (nI x9)), (8, .int (nI k)), (7, .int (nI 1)), (6, .ref (az 13)), (5, .ref (az 12)), (4, .ref (az 11)), (3, .ref (az 10)), (2, .ref (az 9)), (1, .ref (az 0)), (0, .ref b)]) S.1 S.2.1 dL_law_944 hl (by decide) rfl (fun ls hl => ?_)
  refine lv_aload_n (pc := 946) S.1 S.2.1 dL_law_946 rfl (lv_at hl 14 rfl) ?_
  refine lv_iload (pc := 947) S.1 S.2.1 dL_law_947 (lv_at hl 3 rfl) ?_
  refine lv_iconst (pc := 949) (v := nI 0) S.1 S.2.1 dL_law_949 (by decide) ?_
  refine lv_iconst (pc := 950) (v := nI 0) S.1 S.2.1 dL_law_950 (by decide) ?_
  refine hv_call (pc := 951) (va_runV (As := [.int (nI cn), .int (nI 0), .int (nI 0)]) (rest := []) S (ys_about l hfl D cA ga φ H.size az k tk tm tg sc ar w ez o o cn 0 0 hY hI hT hcn3 (by decide) (by decide)) (cwV 3 S.2.2.2.2 (gV tw_122 tw_123 tw_124 tw_1 tw_125) rfl rfl rfl (by decide +kernel) ⟨Nat.le_of_ble_eq_true rfl, Nat.le_of_ble_eq_true rfl⟩) (pre0_V hH hK hX hS hA (ycv hH hK hY)) rfl rfl hl.1 rfl (lv_room (Nat.le_of_ble_eq_true rfl)) dL_law_951 ⟨Nat.le_trans (show _ ≤ 600000 by omega) (Nat.le_of_ble_eq_true rfl), Nat.le_trans (show _ ≤ 7000000 by omega) (Nat.le_of_ble_eq_true rfl)⟩) hS (af_le hH hS hA) (fun v_10 φ_11 H locs hw_v_10 hH hS => ?_)
  obtain ⟨rfl, hqv_10⟩ := hw_v_10
  rw [hqv_10] at hH
  refine hv_ti (y := nI (w 0 cn 0)) (rfl) ?_
  refine lv_istore (pc := 954) (lv' := [(16, .int (nI (w 0 cn 0))), (15, .int (nI 999999)), (14, .int (nI J9)), (13, .int (nI z9)), (12, .int (nI cn)), (11, .int (nI y9)), (10, .int (nI hw)), (9, .int (nI x9)), (8, .int (nI k)), (7, .int (nI 1)), (6, .ref (az 13)), (5, .ref (az 12)), (4, .ref (az 11)), (3, .ref (az 10)), (2, .ref (az 9)), (1, .ref (az 0)), (0, .ref b)]) S.1 S.2.1 dL_law_954 hl (by decide) rfl (fun ls hl => ?_)
  refine lv_iconst (pc := 956) (v := nI 0) S.1 S.2.1 dL_law_956 (by decide) ?_
  refine lv_istore (pc := 957) (lv' := [(17, .int (nI 0)), (16, .int (nI (w 0 cn 0))), (15, .int (nI 999999)), (14, .int (nI J9)), (13, .int (nI z9)), (12, .int (nI cn)), (11, .int (nI y9)), (10, .int (nI hw)), (9, .int (nI x9)), (8, .int (nI k)), (7, .int (nI 1)), (6, .ref (az 13)), (5, .ref (az 12)), (4, .ref (az 11)), (3, .ref (az 10)), (2, .ref (az 9)), (1, .ref (az 0)), (0, .ref b)]) S.1 S.2.1 dL_law_957 hl (by decide) rfl (fun ls hl => ?_)
  have hg : ∃ n j T : Nat, (j + n = 6 ∧ T < 2 ^ 31 ∧ (T < 40 ↔ ∃ i, i < j ∧ tkF (w 0 cn) (w 1 cn) (ez 1 cn) i < 40)) ∧ lv_has ls 19 [(17, .int (nI j)), (16, .int (nI (w 0 cn 0))), (15, .int (nI T)), (14, .int (nI J9)), (13, .int (nI z9)), (12, .int (nI cn)), (11, .int (nI y9)), (10, .int (nI hw)), (9, .int (nI x9)), (8, .int (nI k)), (7, .int (nI 1)), (6, .ref (az 13)), (5, .ref (az 12)), (4, .ref (az 11)), (3, .ref (az 10)), (2, .ref (az 9)), (1, .ref (az 0)), (0, .ref b)] := ⟨6, 0, 999999, ⟨by decide, by decide, fun h9 => absurd h9 (by decide), fun ⟨i, hi, _⟩ => absurd hi (Nat.not_lt_zero i)⟩, lv_sub hl [0, 1, 2, 3, 4, 5, 6, 7, 8, 9, 10, 11, 12, 13, 14, 15, 16, 17] rfl⟩
  clear hl
  try clear hHz
  obtain ⟨n, j, T, hi, hl⟩ := hg
  refine W.widen (k := cells + 5 + 10 * j) (n := slots + 30 + 60 * j) (by omega) (by omega) ?_
  induction n generalizing ls H locs j T with
  | zero =>
    obtain ⟨hj6, hT31, hT40⟩ := hi
    have hj6 : j = 6 := by omega
    refine lv_iload (pc := 959) S.1 S.2.1 dL_law_959 (lv_at hl 0 rfl) ?_
    refine lv_bipush (pc := 961) (v := nI 6) S.1 S.2.1 dL_law_961 (by decide) ?_
    refine hv_icmp_ge (pc := 963) (tgt := 1002) (a := j) (b := 6) S.1 S.2.1 (by omega) (by omega) dL_law_963 (by decide) (fun c_12 => ?_) (fun c9 => absurd c9 (by omega))
    rw [hj6] at hT40
    refine lv_aload_n (pc := 1002) S.1 S.2.1 dL_law_1002 rfl (lv_at hl 16 rfl) ?_
    refine lv_bipush (pc := 1003) (v := nI 6) S.1 S.2.1 dL_law_1003 (by decide) ?_
    refine lv_iload (pc := 1005) S.1 S.2.1 dL_law_1005 (lv_at hl 5 rfl) ?_
    refine lv_iload (pc := 1007) S.1 S.2.1 dL_law_1007 (lv_at hl 3 rfl) ?_
    refine lv_iconst (pc := 1009) (v := nI 0) S.1 S.2.1 dL_law_1009 (by decide) ?_
    obtain ⟨Q9, hQ9⟩ : ∃ Q9 : Nat, Q9 = refR (ar 3 cn) (ez 1 cn) (w 0 cn) (w 1 cn) (bW (ar 10 J9) (ar 11 J9)) := ⟨_, rfl⟩
    have hQ3 := refR_le (ar 3 cn) (ez 1 cn) (w 0 cn) (w 1 cn) (bW (ar 10 J9) (ar 11 J9))
    have hQ1 := refR_1 (ar 3 cn) (ez 1 cn) (w 0 cn) (w 1 cn) (bW (ar 10 J9) (ar 11 J9))
    rw [← hT40] at hQ1
    rw [← hQ9] at hQ3 hQ1
    refine hv_call (pc := 1010) (vx_runSW (As := [.ref (az 0), .int (nI 6), .int (nI cn), .int (nI J9), .int (nI 0)]) (rest := []) S (as_draw l hfl D cA ga φ H.size az k tk tm tg sc ar w ez o o cn J9 hY hI hT h200 hcn3 hbJ9) (vx_cwSW 5 S.2.2.2.2 (gSW tw_261 tw_262 tw_0 tw_263) rfl rfl rfl (by decide +kernel) ⟨Nat.le_of_ble_eq_true rfl, Nat.le_of_ble_eq_true rfl⟩) (pre0_S hH hK hX hS hA) rfl rfl hl.1 rfl (lv_room (Nat.le_of_ble_eq_true rfl)) dL_law_1010 ⟨Nat.le_trans (show _ ≤ 600000 by omega) (Nat.le_of_ble_eq_true rfl), Nat.le_trans (show _ ≤ 7000000 by omega) (Nat.le_of_ble_eq_true rfl)⟩) hS (af_le hH hS hA) (fun v_13 φ_14 H locs hw_v_13 hH hS => ?_)
    obtain ⟨rfl, hqn, hqz⟩ := hw_v_13
    rw [← hQ9] at hqn hqz
    refine hv_ti (y := nI Q9) (by rw [hQ9]) ?_
    by_cases hQ0 : Q9 = 0
    · skip
      have hY2 := hqz hQ0
      have hLF := hI.draw hcn3 hbJ9
      refine lv_istore (pc := 1013) (lv' := [(17, .int (nI Q9)), (16, .int (nI (w 0 cn 0))), (15, .int (nI T)), (14, .int (nI J9)), (13, .int (nI z9)), (12, .int (nI cn)), (11, .int (nI y9)), (10, .int (nI hw)), (9, .int (nI x9)), (8, .int (nI k)), (7, .int (nI 1)), (6, .ref (az 13)), (5, .ref (az 12)), (4, .ref (az 11)), (3, .ref (az 10)), (2, .ref (az 9)), (1, .ref (az 0)), (0, .ref b)]) S.1 S.2.1 dL_law_1013 hl (by decide) rfl (fun ls hl => ?_)
      refine lv_iload (pc := 1015) S.1 S.2.1 dL_law_1015 (lv_at hl 0 rfl) ?_
      refine hv_if_lt (pc := 1017) (tgt := 1123) (a := Q9) S.1 S.2.1 (by omega) dL_law_1017 (by decide) (fun c9 => absurd c9 id) (fun c_15 => ?_)
      refine lv_iload (pc := 1020) S.1 S.2.1 dL_law_1020 (lv_at hl 0 rfl) ?_
      refine lv_iconst (pc := 1022) (v := nI 4) S.1 S.2.1 dL_law_1022 (by decide) ?_
      refine hv_icmp_ge (pc := 1023) (tgt := 1123) (a := Q9) (b := 4) S.1 S.2.1 (by omega) (by omega) dL_law_1023 (by decide) (fun c9 => absurd c9 (by omega)) (fun c_16 => ?_)
      refine lv_iload (pc := 1026) S.1 S.2.1 dL_law_1026 (lv_at hl 0 rfl) ?_
      refine lv_iconst (pc := 1028) (v := nI 1) S.1 S.2.1 dL_law_1028 (by decide) ?_
      refine hv_icmp_ne (pc := 1029) (tgt := 1036) (a := Q9) (b := 1) S.1 S.2.1 (by omega) (by omega) dL_law_1029 (by decide) (fun c_17 => ?_) (fun c9 => absurd c9 (by omega))
      refine lv_iconst (pc := 1036) (v := nI 0) S.1 S.2.1 dL_law_1036 (by decide) ?_
      refine lv_iload (pc := 1037) S.1 S.2.1 dL_law_1037 (lv_at hl 2 rfl) ?_
      refine lv_bipush (pc := 1039) (v := nI 40) S.1 S.2.1 dL_law_1039 (by decide) ?_
      refine hv_icmp_ge (pc := 1041) (tgt := 1048) (a := T) (b := 40) S.1 S.2.1 (by omega) (by omega) dL_law_1041 (by decide) (fun c_18 => ?_) (fun c9 => absurd c9 (by omega))
      refine lv_iconst (pc := 1048) (v := nI 0) S.1 S.2.1 dL_law_1048 (by decide) ?_
      refine hv_icmp_ne (pc := 1049) (tgt := 1123) (a := 0) (b := 0) S.1 S.2.1 (by omega) (by omega) dL_law_1049 (by decide) (fun c9 => absurd c9 (by omega)) (fun c_19 => ?_)
      refine lv_iload (pc := 1052) S.1 S.2.1 dL_law_1052 (lv_at hl 0 rfl) ?_
      refine hv_if_le (pc := 1054) (tgt := 1073) (a := Q9) S.1 S.2.1 (by omega) dL_law_1054 (by decide) (fun c_20 => ?_) (fun c9 => absurd c9 (by omega))
      refine lv_aload_n (pc := 1073) S.1 S.2.1 dL_law_1073 rfl (lv_at hl 16 rfl) ?_
      refine lv_iload (pc := 1074) S.1 S.2.1 dL_law_1074 (lv_at hl 5 rfl) ?_
      refine lv_iconst (pc := 1076) (v := nI 0) S.1 S.2.1 dL_law_1076 (by decide) ?_
      refine lv_iconst (pc := 1077) (v := nI 0) S.1 S.2.1 dL_law_1077 (by decide) ?_
      refine hv_call (pc := 1078) (va_runV (As := [.int (nI cn), .int (nI 0), .int (nI 0)]) (rest := []) S (ys_about l hfl D cA ga φ_14 H.size az (k + 1) tk tm tg sc ar (va_up w 0 (va_up (w 0) cn (pfx (bW (ar 10 J9) (ar 11 J9)) (w 0 cn) 6))) (va_up ez 2 (va_up (ez 2) cn (J9 + 1))) o _ cn 0 0 hY2 hLF hT hcn3 (by decide) (by decide)) (cwV 3 S.2.2.2.2 (gV tw_122 tw_123 tw_124 tw_1 tw_125) rfl rfl rfl (by decide +kernel) ⟨Nat.le_of_ble_eq_true rfl, Nat.le_of_ble_eq_true rfl⟩) (pre0_V hH hK hX hS hA (ycv hH hK hY2)) rfl rfl hl.1 rfl (lv_room (Nat.le_of_ble_eq_true rfl)) dL_law_1078 ⟨Nat.le_trans (show _ ≤ 600000 by omega) (Nat.le_of_ble_eq_true rfl), Nat.le_trans (show _ ≤ 7000000 by omega) (Nat.le_of_ble_eq_true rfl)⟩) hS (af_le hH hS hA) (fun v_21 φ_22 H locs hw_v_21 hH hS => ?_)
      obtain ⟨rfl, hqv_21⟩ := hw_v_21
      rw [hqv_21] at hH
      refine hv_ti (y := nI (ar 10 J9)) (by show nI (va_up (w 0) cn (pfx (bW (ar 10 J9) (ar 11 J9)) (w 0 cn) 6) cn 0) = _; rw [va_up_self, pfx_lt (by decide), bW_in hl6.1.1 (by omega)]) ?_
      refine lv_aload (pc := 1081) S.1 S.2.1 dL_law_1081 (lv_at hl 13 rfl) ?_
      refine lv_iconst (pc := 1083) (v := nI 2) S.1 S.2.1 dL_law_1083 (by decide) ?_
      refine lv_iload (pc := 1084) S.1 S.2.1 dL_law_1084 (lv_at hl 3 rfl) ?_
      refine lv_imul (pc := 1086) S.1 S.2.1 dL_law_1086 ?_
      refine hv_ti (y := nI (2 * J9)) (pk_mul _ _) ?_
      refine hv_iald (pc := 1087) S hK hH 1 (hY2.a2) rfl (vp_in_nI (show 2 * J9 < 16 by omega) (by omega)) dL_law_1087 ?_
      refine hv_ti (y := nI ((o 2) (2 * J9))) (hv_ld (by omega)) ?_
      refine hv_ti (y := nI (ar 10 J9)) (congrArg nI hl6.2.2.1) ?_
      refine hv_icmp_ne (pc := 1088) (tgt := 1123) (a := ar 10 J9) (b := ar 10 J9) S.1 S.2.1 (by omega) (by omega) dL_law_1088 (by decide) (fun c9 => absurd c9 (by omega)) (fun c_23 => ?_)
      refine lv_aload_n (pc := 1091) S.1 S.2.1 dL_law_1091 rfl (lv_at hl 16 rfl) ?_
      refine lv_iload (pc := 1092) S.1 S.2.1 dL_law_1092 (lv_at hl 5 rfl) ?_
      refine lv_aload (pc := 1094) S.1 S.2.1 dL_law_1094 (lv_at hl 13 rfl) ?_
      refine lv_iconst (pc := 1096) (v := nI 2) S.1 S.2.1 dL_law_1096 (by decide) ?_
      refine lv_iload (pc := 1097) S.1 S.2.1 dL_law_1097 (lv_at hl 3 rfl) ?_
      refine lv_imul (pc := 1099) S.1 S.2.1 dL_law_1099 ?_
      refine hv_ti (y := nI (2 * J9)) (pk_mul _ _) ?_
      refine lv_iconst (pc := 1100) (v := nI 1) S.1 S.2.1 dL_law_1100 (by decide) ?_
      refine lv_iadd (pc := 1101) S.1 S.2.1 dL_law_1101 ?_
      refine hv_ti (y := nI ((2 * J9) + 1)) (nI_add _ _) ?_
      refine hv_iald (pc := 1102) S hK hH 1 (hY2.a2) rfl (vp_in_nI (show (2 * J9) + 1 < 16 by omega) (by omega)) dL_law_1102 ?_
      refine hv_ti (y := nI ((o 2) ((2 * J9) + 1))) (hv_ld (by omega)) ?_
      refine hv_ti (y := nI (ar 11 J9)) (congrArg nI hl6.2.2.2) ?_
      refine lv_iconst (pc := 1103) (v := nI 1) S.1 S.2.1 dL_law_1103 (by decide) ?_
      refine lv_isub (pc := 1104) S.1 S.2.1 dL_law_1104 ?_
      refine hv_ti (y := nI ((ar 11 J9) - 1)) (pk_sub (by omega)) ?_
      refine lv_iconst (pc := 1105) (v := nI 0) S.1 S.2.1 dL_law_1105 (by decide) ?_
      refine hv_call (pc := 1106) (va_runV (As := [.int (nI cn), .int (nI ((ar 11 J9) - 1)), .int (nI 0)]) (rest := []) S (ys_about l hfl D cA ga φ_14 H.size az (k + 1) tk tm tg sc ar (va_up w 0 (va_up (w 0) cn (pfx (bW (ar 10 J9) (ar 11 J9)) (w 0 cn) 6))) (va_up ez 2 (va_up (ez 2) cn (J9 + 1))) o _ cn (ar 11 J9 - 1) 0 hY2 hLF hT hcn3 (by omega) (by decide)) (cwV 3 S.2.2.2.2 (gV tw_122 tw_123 tw_124 tw_1 tw_125) rfl rfl rfl (by decide +kernel) ⟨Nat.le_of_ble_eq_true rfl, Nat.le_of_ble_eq_true rfl⟩) (pre0_V hH hK hX hS hA (ycv hH hK hY2)) rfl rfl hl.1 rfl (lv_room (Nat.le_of_ble_eq_true rfl)) dL_law_1106 ⟨Nat.le_trans (show _ ≤ 600000 by omega) (Nat.le_of_ble_eq_true rfl), Nat.le_trans (show _ ≤ 7000000 by omega) (Nat.le_of_ble_eq_true rfl)⟩) hS (af_le hH hS hA) (fun v_24 φ_25 H locs hw_v_24 hH hS => ?_)
      obtain ⟨rfl, hqv_24⟩ := hw_v_24
      rw [hqv_24] at hH
      refine hv_ti (y := nI (ar 10 J9)) (by show nI (va_up (w 0) cn (pfx (bW (ar 10 J9) (ar 11 J9)) (w 0 cn) 6) cn (ar 11 J9 - 1)) = _; rw [va_up_self, pfx_lt (by omega), bW_in hl6.1.1 (by omega)]) ?_
      refine lv_aload (pc := 1109) S.1 S.2.1 dL_law_1109 (lv_at hl 13 rfl) ?_
      refine lv_iconst (pc := 1111) (v := nI 2) S.1 S.2.1 dL_law_1111 (by decide) ?_
      refine lv_iload (pc := 1112) S.1 S.2.1 dL_law_1112 (lv_at hl 3 rfl) ?_
      refine lv_imul (pc := 1114) S.1 S.2.1 dL_law_1114 ?_
      refine hv_ti (y := nI (2 * J9)) (pk_mul _ _) ?_
      refine hv_iald (pc := 1115) S hK hH 1 (hY2.a2) rfl (vp_in_nI (show 2 * J9 < 16 by omega) (by omega)) dL_law_1115 ?_
      refine hv_ti (y := nI ((o 2) (2 * J9))) (hv_ld (by omega)) ?_
      refine hv_ti (y := nI (ar 10 J9)) (congrArg nI hl6.2.2.1) ?_
      refine hv_icmp_ne (pc := 1116) (tgt := 1123) (a := ar 10 J9) (b := ar 10 J9) S.1 S.2.1 (by omega) (by omega) dL_law_1116 (by decide) (fun c9 => absurd c9 (by omega)) (fun c_26 => ?_)
      refine lv_iconst (pc := 1119) (v := nI 1) S.1 S.2.1 dL_law_1119 (by decide) ?_
      refine lv_goto (pc := 1120) (tgt := 1124) S.1 S.2.1 dL_law_1120 (by decide) ?_
      refine lv_istore (pc := 1124) (lv' := [(7, .int (nI 1)), (17, .int (nI Q9)), (16, .int (nI (w 0 cn 0))), (15, .int (nI T)), (14, .int (nI J9)), (13, .int (nI z9)), (12, .int (nI cn)), (11, .int (nI y9)), (10, .int (nI hw)), (9, .int (nI x9)), (8, .int (nI k)), (6, .ref (az 13)), (5, .ref (az 12)), (4, .ref (az 11)), (3, .ref (az 10)), (2, .ref (az 9)), (1, .ref (az 0)), (0, .ref b)]) S.1 S.2.1 dL_law_1124 hl (by decide) rfl (fun ls hl => ?_)
      refine lv_aload_n (pc := 1126) S.1 S.2.1 dL_law_1126 rfl (lv_at hl 14 rfl) ?_
      refine lv_iconst (pc := 1127) (v := nI 4) S.1 S.2.1 dL_law_1127 (by decide) ?_
      refine lv_iload (pc := 1128) S.1 S.2.1 dL_law_1128 (lv_at hl 6 rfl) ?_
      refine lv_imul (pc := 1130) S.1 S.2.1 dL_law_1130 ?_
      refine hv_ti (y := nI (4 * cn)) (pk_mul _ _) ?_
      refine lv_iconst (pc := 1131) (v := nI 2) S.1 S.2.1 dL_law_1131 (by decide) ?_
      refine lv_iadd (pc := 1132) S.1 S.2.1 dL_law_1132 ?_
      refine hv_ti (y := nI ((4 * cn) + 2)) (nI_add _ _) ?_
      refine lv_iload (pc := 1133) S.1 S.2.1 dL_law_1133 (lv_at hl 1 rfl) ?_
      refine hv_if_ne (pc := 1135) (tgt := 1142) (a := Q9) S.1 S.2.1 (by omega) dL_law_1135 (by decide) (fun c9 => absurd c9 (by omega)) (fun c_27 => ?_)
      refine lv_iconst (pc := 1138) (v := nI 1) S.1 S.2.1 dL_law_1138 (by decide) ?_
      refine lv_goto (pc := 1139) (tgt := 1150) S.1 S.2.1 dL_law_1139 (by decide) ?_
      refine hv_iast (pc := 1150) S hK hH hS 1 (hY2.a1) rfl (vp_in_nI (show 4 * cn + 2 < 48 by omega) (by omega)) dL_law_1150 (fun H locs hH hS => ?_)
      rw [hv_upd (by omega)] at hH
      replace hH := nup (e := .inl (cA 1, 48, .inl (fun j => nI ((va_up (o 1) (4 * cn + 2) 1) j)))) hH
      obtain ⟨φ_29, hφ_29, fa_φ_29, fr_φ_29, hH⟩ := hH
      have hY_28 := hY2.s1 (4 * cn + 2) 1
      rw [← hφ_29] at hY_28
      refine lv_goto (pc := 1151) (tgt := 1489) S.1 S.2.1 dL_law_1151 (by decide) ?_
      refine W.widen (k := cells + 130) (n := slots + 800) (by omega) (by omega) ?_
      exact kk _ _ _ ⟨tk, tm, tg, sc, ar, va_up w 0 (va_up (w 0) cn (pfx (bW (ar 10 J9) (ar 11 J9)) (w 0 cn) 6)), va_up ez 2 (va_up (ez 2) cn (J9 + 1)), _, _, hY_28, hLF, hT, h5, hH⟩ hS (lv_sub hl [7, 9, 10, 0, 11, 12, 13, 14, 15, 16, 17] rfl)
    · skip
      have hq9 := hqn hQ0
      rw [hq9] at hH
      refine lv_istore (pc := 1013) (lv' := [(17, .int (nI Q9)), (16, .int (nI (w 0 cn 0))), (15, .int (nI T)), (14, .int (nI J9)), (13, .int (nI z9)), (12, .int (nI cn)), (11, .int (nI y9)), (10, .int (nI hw)), (9, .int (nI x9)), (8, .int (nI k)), (7, .int (nI 1)), (6, .ref (az 13)), (5, .ref (az 12)), (4, .ref (az 11)), (3, .ref (az 10)), (2, .ref (az 9)), (1, .ref (az 0)), (0, .ref b)]) S.1 S.2.1 dL_law_1013 hl (by decide) rfl (fun ls hl => ?_)
      refine lv_iload (pc := 1015) S.1 S.2.1 dL_law_1015 (lv_at hl 0 rfl) ?_
      refine hv_if_lt (pc := 1017) (tgt := 1123) (a := Q9) S.1 S.2.1 (by omega) dL_law_1017 (by decide) (fun c9 => absurd c9 id) (fun c_30 => ?_)
      refine lv_iload (pc := 1020) S.1 S.2.1 dL_law_1020 (lv_at hl 0 rfl) ?_
      refine lv_iconst (pc := 1022) (v := nI 4) S.1 S.2.1 dL_law_1022 (by decide) ?_
      refine hv_icmp_ge (pc := 1023) (tgt := 1123) (a := Q9) (b := 4) S.1 S.2.1 (by omega) (by omega) dL_law_1023 (by decide) (fun c9 => absurd c9 (by omega)) (fun c_31 => ?_)
      refine lv_iload (pc := 1026) S.1 S.2.1 dL_law_1026 (lv_at hl 0 rfl) ?_
      refine lv_iconst (pc := 1028) (v := nI 1) S.1 S.2.1 dL_law_1028 (by decide) ?_
      by_cases hQ11 : Q9 = 1
      · skip
        refine hv_icmp_ne (pc := 1029) (tgt := 1036) (a := Q9) (b := 1) S.1 S.2.1 (by omega) (by omega) dL_law_1029 (by decide) (fun c9 => absurd c9 (by omega)) (fun c_32 => ?_)
        refine lv_iconst (pc := 1032) (v := nI 1) S.1 S.2.1 dL_law_1032 (by decide) ?_
        refine lv_goto (pc := 1033) (tgt := 1037) S.1 S.2.1 dL_law_1033 (by decide) ?_
        refine lv_iload (pc := 1037) S.1 S.2.1 dL_law_1037 (lv_at hl 2 rfl) ?_
        refine lv_bipush (pc := 1039) (v := nI 40) S.1 S.2.1 dL_law_1039 (by decide) ?_
        refine hv_icmp_ge (pc := 1041) (tgt := 1048) (a := T) (b := 40) S.1 S.2.1 (by omega) (by omega) dL_law_1041 (by decide) (fun c9 => absurd c9 (by omega)) (fun c_33 => ?_)
        refine lv_iconst (pc := 1044) (v := nI 1) S.1 S.2.1 dL_law_1044 (by decide) ?_
        refine lv_goto (pc := 1045) (tgt := 1049) S.1 S.2.1 dL_law_1045 (by decide) ?_
        refine hv_icmp_ne (pc := 1049) (tgt := 1123) (a := 1) (b := 1) S.1 S.2.1 (by omega) (by omega) dL_law_1049 (by decide) (fun c9 => absurd c9 (by omega)) (fun c_34 => ?_)
        refine lv_iload (pc := 1052) S.1 S.2.1 dL_law_1052 (lv_at hl 0 rfl) ?_
        refine hv_if_le (pc := 1054) (tgt := 1073) (a := Q9) S.1 S.2.1 (by omega) dL_law_1054 (by decide) (fun c9 => absurd c9 (by omega)) (fun c_35 => ?_)
        refine lv_aload_n (pc := 1057) S.1 S.2.1 dL_law_1057 rfl (lv_at hl 16 rfl) ?_
        refine lv_iload (pc := 1058) S.1 S.2.1 dL_law_1058 (lv_at hl 5 rfl) ?_
        refine lv_iconst (pc := 1060) (v := nI 0) S.1 S.2.1 dL_law_1060 (by decide) ?_
        refine lv_iconst (pc := 1061) (v := nI 0) S.1 S.2.1 dL_law_1061 (by decide) ?_
        refine hv_call (pc := 1062) (va_runV (As := [.int (nI cn), .int (nI 0), .int (nI 0)]) (rest := []) S (ys_about l hfl D cA ga φ H.size az k tk tm tg sc ar w ez o o cn 0 0 hY hI hT hcn3 (by decide) (by decide)) (cwV 3 S.2.2.2.2 (gV tw_122 tw_123 tw_124 tw_1 tw_125) rfl rfl rfl (by decide +kernel) ⟨Nat.le_of_ble_eq_true rfl, Nat.le_of_ble_eq_true rfl⟩) (pre0_V hH hK hX hS hA (ycv hH hK hY)) rfl rfl hl.1 rfl (lv_room (Nat.le_of_ble_eq_true rfl)) dL_law_1062 ⟨Nat.le_trans (show _ ≤ 600000 by omega) (Nat.le_of_ble_eq_true rfl), Nat.le_trans (show _ ≤ 7000000 by omega) (Nat.le_of_ble_eq_true rfl)⟩) hS (af_le hH hS hA) (fun v_36 φ_37 H locs hw_v_36 hH hS => ?_)
        obtain ⟨rfl, hqv_36⟩ := hw_v_36
        rw [hqv_36] at hH
        refine hv_ti (y := nI (w 0 cn 0)) (rfl) ?_
        refine lv_iload (pc := 1065) S.1 S.2.1 dL_law_1065 (lv_at hl 1 rfl) ?_
        refine hv_icmp_ne (pc := 1067) (tgt := 1123) (a := w 0 cn 0) (b := w 0 cn 0) S.1 S.2.1 (by omega) (by omega) dL_law_1067 (by decide) (fun c9 => absurd c9 (by omega)) (fun c_38 => ?_)
        refine lv_goto (pc := 1070) (tgt := 1119) S.1 S.2.1 dL_law_1070 (by decide) ?_
        refine lv_iconst (pc := 1119) (v := nI 1) S.1 S.2.1 dL_law_1119 (by decide) ?_
        refine lv_goto (pc := 1120) (tgt := 1124) S.1 S.2.1 dL_law_1120 (by decide) ?_
        refine lv_istore (pc := 1124) (lv' := [(7, .int (nI 1)), (17, .int (nI Q9)), (16, .int (nI (w 0 cn 0))), (15, .int (nI T)), (14, .int (nI J9)), (13, .int (nI z9)), (12, .int (nI cn)), (11, .int (nI y9)), (10, .int (nI hw)), (9, .int (nI x9)), (8, .int (nI k)), (6, .ref (az 13)), (5, .ref (az 12)), (4, .ref (az 11)), (3, .ref (az 10)), (2, .ref (az 9)), (1, .ref (az 0)), (0, .ref b)]) S.1 S.2.1 dL_law_1124 hl (by decide) rfl (fun ls hl => ?_)
        refine lv_aload_n (pc := 1126) S.1 S.2.1 dL_law_1126 rfl (lv_at hl 14 rfl) ?_
        refine lv_iconst (pc := 1127) (v := nI 4) S.1 S.2.1 dL_law_1127 (by decide) ?_
        refine lv_iload (pc := 1128) S.1 S.2.1 dL_law_1128 (lv_at hl 6 rfl) ?_
        refine lv_imul (pc := 1130) S.1 S.2.1 dL_law_1130 ?_
        refine hv_ti (y := nI (4 * cn)) (pk_mul _ _) ?_
        refine lv_iconst (pc := 1131) (v := nI 2) S.1 S.2.1 dL_law_1131 (by decide) ?_
        refine lv_iadd (pc := 1132) S.1 S.2.1 dL_law_1132 ?_
        refine hv_ti (y := nI ((4 * cn) + 2)) (nI_add _ _) ?_
        refine lv_iload (pc := 1133) S.1 S.2.1 dL_law_1133 (lv_at hl 1 rfl) ?_
        refine hv_if_ne (pc := 1135) (tgt := 1142) (a := Q9) S.1 S.2.1 (by omega) dL_law_1135 (by decide) (fun c_39 => ?_) (fun c9 => absurd c9 (by omega))
        refine lv_aload_n (pc := 1142) S.1 S.2.1 dL_law_1142 rfl (lv_at hl 14 rfl) ?_
        refine lv_iconst (pc := 1143) (v := nI 4) S.1 S.2.1 dL_law_1143 (by decide) ?_
        refine lv_iload (pc := 1144) S.1 S.2.1 dL_law_1144 (lv_at hl 6 rfl) ?_
        refine lv_imul (pc := 1146) S.1 S.2.1 dL_law_1146 ?_
        refine hv_ti (y := nI (4 * cn)) (pk_mul _ _) ?_
        refine lv_iconst (pc := 1147) (v := nI 2) S.1 S.2.1 dL_law_1147 (by decide) ?_
        refine lv_iadd (pc := 1148) S.1 S.2.1 dL_law_1148 ?_
        refine hv_ti (y := nI ((4 * cn) + 2)) (nI_add _ _) ?_
        refine hv_iald (pc := 1149) S hK hH 1 (hY.a1) rfl (vp_in_nI (show (4 * cn) + 2 < 48 by omega) (by omega)) dL_law_1149 ?_
        refine hv_ti (y := nI ((o 1) ((4 * cn) + 2))) (hv_ld (by omega)) ?_
        refine hv_ti (y := nI (o 1 (4 * cn + 2))) (rfl) ?_
        refine hv_iast (pc := 1150) S hK hH hS 1 (hY.a1) rfl (vp_in_nI (show 4 * cn + 2 < 48 by omega) (by omega)) dL_law_1150 (fun H locs hH hS => ?_)
        rw [hv_upd (by omega)] at hH
        replace hH := nup (e := .inl (cA 1, 48, .inl (fun j => nI ((va_up (o 1) (4 * cn + 2) (o 1 (4 * cn + 2))) j)))) hH
        obtain ⟨φ_41, hφ_41, fa_φ_41, fr_φ_41, hH⟩ := hH
        have hY_40 := hY.s1 (4 * cn + 2) (o 1 (4 * cn + 2))
        rw [← hφ_41] at hY_40
        rw [up_id (k := 1) (j := 4 * cn + 2) (v := o 1 (4 * cn + 2)) rfl] at hY_40
        refine lv_goto (pc := 1151) (tgt := 1489) S.1 S.2.1 dL_law_1151 (by decide) ?_
        refine W.widen (k := cells + 130) (n := slots + 800) (by omega) (by omega) ?_
        exact kk _ _ _ ⟨tk, tm, tg, sc, ar, w, ez, o, _, hY_40, hI.up, hT, h5, hH⟩ hS (lv_sub hl [7, 9, 10, 0, 11, 12, 13, 14, 15, 16, 17] rfl)
      · skip
        refine hv_icmp_ne (pc := 1029) (tgt := 1036) (a := Q9) (b := 1) S.1 S.2.1 (by omega) (by omega) dL_law_1029 (by decide) (fun c_42 => ?_) (fun c9 => absurd c9 (by omega))
        refine lv_iconst (pc := 1036) (v := nI 0) S.1 S.2.1 dL_law_1036 (by decide) ?_
        refine lv_iload (pc := 1037) S.1 S.2.1 dL_law_1037 (lv_at hl 2 rfl) ?_
        refine lv_bipush (pc := 1039) (v := nI 40) S.1 S.2.1 dL_law_1039 (by decide) ?_
        refine hv_icmp_ge (pc := 1041) (tgt := 1048) (a := T) (b := 40) S.1 S.2.1 (by omega) (by omega) dL_law_1041 (by decide) (fun c_43 => ?_) (fun c9 => absurd c9 (by omega))
        refine lv_iconst (pc := 1048) (v := nI 0) S.1 S.2.1 dL_law_1048 (by decide) ?_
        refine hv_icmp_ne (pc := 1049) (tgt := 1123) (a := 0) (b := 0) S.1 S.2.1 (by omega) (by omega) dL_law_1049 (by decide) (fun c9 => absurd c9 (by omega)) (fun c_44 => ?_)
        refine lv_iload (pc := 1052) S.1 S.2.1 dL_law_1052 (lv_at hl 0 rfl) ?_
        refine hv_if_le (pc := 1054) (tgt := 1073) (a := Q9) S.1 S.2.1 (by omega) dL_law_1054 (by decide) (fun c9 => absurd c9 (by omega)) (fun c_45 => ?_)
        refine lv_aload_n (pc := 1057) S.1 S.2.1 dL_law_1057 rfl (lv_at hl 16 rfl) ?_
        refine lv_iload (pc := 1058) S.1 S.2.1 dL_law_1058 (lv_at hl 5 rfl) ?_
        refine lv_iconst (pc := 1060) (v := nI 0) S.1 S.2.1 dL_law_1060 (by decide) ?_
        refine lv_iconst (pc := 1061) (v := nI 0) S.1 S.2.1 dL_law_1061 (by decide) ?_
        refine hv_call (pc := 1062) (va_runV (As := [.int (nI cn), .int (nI 0), .int (nI 0)]) (rest := []) S (ys_about l hfl D cA ga φ H.size az k tk tm tg sc ar w ez o o cn 0 0 hY hI hT hcn3 (by decide) (by decide)) (cwV 3 S.2.2.2.2 (gV tw_122 tw_123 tw_124 tw_1 tw_125) rfl rfl rfl (by decide +kernel) ⟨Nat.le_of_ble_eq_true rfl, Nat.le_of_ble_eq_true rfl⟩) (pre0_V hH hK hX hS hA (ycv hH hK hY)) rfl rfl hl.1 rfl (lv_room (Nat.le_of_ble_eq_true rfl)) dL_law_1062 ⟨Nat.le_trans (show _ ≤ 600000 by omega) (Nat.le_of_ble_eq_true rfl), Nat.le_trans (show _ ≤ 7000000 by omega) (Nat.le_of_ble_eq_true rfl)⟩) hS (af_le hH hS hA) (fun v_46 φ_47 H locs hw_v_46 hH hS => ?_)
        obtain ⟨rfl, hqv_46⟩ := hw_v_46
        rw [hqv_46] at hH
        refine hv_ti (y := nI (w 0 cn 0)) (rfl) ?_
        refine lv_iload (pc := 1065) S.1 S.2.1 dL_law_1065 (lv_at hl 1 rfl) ?_
        refine hv_icmp_ne (pc := 1067) (tgt := 1123) (a := w 0 cn 0) (b := w 0 cn 0) S.1 S.2.1 (by omega) (by omega) dL_law_1067 (by decide) (fun c9 => absurd c9 (by omega)) (fun c_48 => ?_)
        refine lv_goto (pc := 1070) (tgt := 1119) S.1 S.2.1 dL_law_1070 (by decide) ?_
        refine lv_iconst (pc := 1119) (v := nI 1) S.1 S.2.1 dL_law_1119 (by decide) ?_
        refine lv_goto (pc := 1120) (tgt := 1124) S.1 S.2.1 dL_law_1120 (by decide) ?_
        refine lv_istore (pc := 1124) (lv' := [(7, .int (nI 1)), (17, .int (nI Q9)), (16, .int (nI (w 0 cn 0))), (15, .int (nI T)), (14, .int (nI J9)), (13, .int (nI z9)), (12, .int (nI cn)), (11, .int (nI y9)), (10, .int (nI hw)), (9, .int (nI x9)), (8, .int (nI k)), (6, .ref (az 13)), (5, .ref (az 12)), (4, .ref (az 11)), (3, .ref (az 10)), (2, .ref (az 9)), (1, .ref (az 0)), (0, .ref b)]) S.1 S.2.1 dL_law_1124 hl (by decide) rfl (fun ls hl => ?_)
        refine lv_aload_n (pc := 1126) S.1 S.2.1 dL_law_1126 rfl (lv_at hl 14 rfl) ?_
        refine lv_iconst (pc := 1127) (v := nI 4) S.1 S.2.1 dL_law_1127 (by decide) ?_
        refine lv_iload (pc := 1128) S.1 S.2.1 dL_law_1128 (lv_at hl 6 rfl) ?_
        refine lv_imul (pc := 1130) S.1 S.2.1 dL_law_1130 ?_
        refine hv_ti (y := nI (4 * cn)) (pk_mul _ _) ?_
        refine lv_iconst (pc := 1131) (v := nI 2) S.1 S.2.1 dL_law_1131 (by decide) ?_
        refine lv_iadd (pc := 1132) S.1 S.2.1 dL_law_1132 ?_
        refine hv_ti (y := nI ((4 * cn) + 2)) (nI_add _ _) ?_
        refine lv_iload (pc := 1133) S.1 S.2.1 dL_law_1133 (lv_at hl 1 rfl) ?_
        refine hv_if_ne (pc := 1135) (tgt := 1142) (a := Q9) S.1 S.2.1 (by omega) dL_law_1135 (by decide) (fun c_49 => ?_) (fun c9 => absurd c9 (by omega))
        refine lv_aload_n (pc := 1142) S.1 S.2.1 dL_law_1142 rfl (lv_at hl 14 rfl) ?_
        refine lv_iconst (pc := 1143) (v := nI 4) S.1 S.2.1 dL_law_1143 (by decide) ?_
        refine lv_iload (pc := 1144) S.1 S.2.1 dL_law_1144 (lv_at hl 6 rfl) ?_
        refine lv_imul (pc := 1146) S.1 S.2.1 dL_law_1146 ?_
        refine hv_ti (y := nI (4 * cn)) (pk_mul _ _) ?_
        refine lv_iconst (pc := 1147) (v := nI 2) S.1 S.2.1 dL_law_1147 (by decide) ?_
        refine lv_iadd (pc := 1148) S.1 S.2.1 dL_law_1148 ?_
        refine hv_ti (y := nI ((4 * cn) + 2)) (nI_add _ _) ?_
        refine hv_iald (pc := 1149) S hK hH 1 (hY.a1) rfl (vp_in_nI (show (4 * cn) + 2 < 48 by omega) (by omega)) dL_law_1149 ?_
        refine hv_ti (y := nI ((o 1) ((4 * cn) + 2))) (hv_ld (by omega)) ?_
        refine hv_ti (y := nI (o 1 (4 * cn + 2))) (rfl) ?_
        refine hv_iast (pc := 1150) S hK hH hS 1 (hY.a1) rfl (vp_in_nI (show 4 * cn + 2 < 48 by omega) (by omega)) dL_law_1150 (fun H locs hH hS => ?_)
        rw [hv_upd (by omega)] at hH
        replace hH := nup (e := .inl (cA 1, 48, .inl (fun j => nI ((va_up (o 1) (4 * cn + 2) (o 1 (4 * cn + 2))) j)))) hH
        obtain ⟨φ_51, hφ_51, fa_φ_51, fr_φ_51, hH⟩ := hH
        have hY_50 := hY.s1 (4 * cn + 2) (o 1 (4 * cn + 2))
        rw [← hφ_51] at hY_50
        rw [up_id (k := 1) (j := 4 * cn + 2) (v := o 1 (4 * cn + 2)) rfl] at hY_50
        refine lv_goto (pc := 1151) (tgt := 1489) S.1 S.2.1 dL_law_1151 (by decide) ?_
        refine W.widen (k := cells + 130) (n := slots + 800) (by omega) (by omega) ?_
        exact kk _ _ _ ⟨tk, tm, tg, sc, ar, w, ez, o, _, hY_50, hI.up, hT, h5, hH⟩ hS (lv_sub hl [7, 9, 10, 0, 11, 12, 13, 14, 15, 16, 17] rfl)
  | succ n ih =>
    obtain ⟨hj6, hT31, hT40⟩ := hi
    refine lv_iload (pc := 959) S.1 S.2.1 dL_law_959 (lv_at hl 0 rfl) ?_
    refine lv_bipush (pc := 961) (v := nI 6) S.1 S.2.1 dL_law_961 (by decide) ?_
    refine hv_icmp_ge (pc := 963) (tgt := 1002) (a := j) (b := 6) S.1 S.2.1 (by omega) (by omega) dL_law_963 (by decide) (fun c9 => absurd c9 (by omega)) (fun c_52 => ?_)
    have hj : j < 6 := by omega
    have hg5 := hc5.2.1 j
    have hth : tkF (w 0 cn) (w 1 cn) (ez 1 cn) j < 2 ^ 31 := Nat.lt_of_le_of_lt (Nat.div_le_self _ _) (by omega)
    refine lv_aload_n (pc := 966) S.1 S.2.1 dL_law_966 rfl (lv_at hl 16 rfl) ?_
    refine lv_iload (pc := 967) S.1 S.2.1 dL_law_967 (lv_at hl 5 rfl) ?_
    refine lv_iload (pc := 969) S.1 S.2.1 dL_law_969 (lv_at hl 0 rfl) ?_
    refine lv_iconst (pc := 971) (v := nI 3) S.1 S.2.1 dL_law_971 (by decide) ?_
    refine hv_call (pc := 972) (va_runV (As := [.int (nI cn), .int (nI j), .int (nI 3)]) (rest := []) S (ys_about l hfl D cA ga φ H.size az k tk tm tg sc ar w ez o o cn j 3 hY hI hT hcn3 hj (by decide)) (cwV 3 S.2.2.2.2 (gV tw_122 tw_123 tw_124 tw_1 tw_125) rfl rfl rfl (by decide +kernel) ⟨Nat.le_of_ble_eq_true rfl, Nat.le_of_ble_eq_true rfl⟩) (pre0_V hH hK hX hS hA (ycv hH hK hY)) rfl rfl hl.1 rfl (lv_room (Nat.le_of_ble_eq_true rfl)) dL_law_972 ⟨Nat.le_trans (show _ ≤ 600000 by omega) (Nat.le_of_ble_eq_true rfl), Nat.le_trans (show _ ≤ 7000000 by omega) (Nat.le_of_ble_eq_true rfl)⟩) hS (af_le hH hS hA) (fun v_53 φ_54 H locs hw_v_53 hH hS => ?_)
    obtain ⟨rfl, hqv_53⟩ := hw_v_53
    rw [hqv_53] at hH
    refine hv_ti (y := nI (tkF (w 0 cn) (w 1 cn) (ez 1 cn) j)) (rfl) ?_
    refine lv_iload (pc := 975) S.1 S.2.1 dL_law_975 (lv_at hl 2 rfl) ?_
    by_cases hlt : tkF (w 0 cn) (w 1 cn) (ez 1 cn) j < T
    · skip
      refine hv_icmp_ge (pc := 977) (tgt := 992) (a := tkF (w 0 cn) (w 1 cn) (ez 1 cn) j) (b := T) S.1 S.2.1 (by omega) (by omega) dL_law_977 (by decide) (fun c9 => absurd c9 (by omega)) (fun c_55 => ?_)
      refine lv_aload_n (pc := 980) S.1 S.2.1 dL_law_980 rfl (lv_at hl 16 rfl) ?_
      refine lv_iload (pc := 981) S.1 S.2.1 dL_law_981 (lv_at hl 5 rfl) ?_
      refine lv_iload (pc := 983) S.1 S.2.1 dL_law_983 (lv_at hl 0 rfl) ?_
      refine lv_iconst (pc := 985) (v := nI 3) S.1 S.2.1 dL_law_985 (by decide) ?_
      refine hv_call (pc := 986) (va_runV (As := [.int (nI cn), .int (nI j), .int (nI 3)]) (rest := []) S (ys_about l hfl D cA ga φ H.size az k tk tm tg sc ar w ez o o cn j 3 hY hI hT hcn3 hj (by decide)) (cwV 3 S.2.2.2.2 (gV tw_122 tw_123 tw_124 tw_1 tw_125) rfl rfl rfl (by decide +kernel) ⟨Nat.le_of_ble_eq_true rfl, Nat.le_of_ble_eq_true rfl⟩) (pre0_V hH hK hX hS hA (ycv hH hK hY)) rfl rfl hl.1 rfl (lv_room (Nat.le_of_ble_eq_true rfl)) dL_law_986 ⟨Nat.le_trans (show _ ≤ 600000 by omega) (Nat.le_of_ble_eq_true rfl), Nat.le_trans (show _ ≤ 7000000 by omega) (Nat.le_of_ble_eq_true rfl)⟩) hS (af_le hH hS hA) (fun v_56 φ_57 H locs hw_v_56 hH hS => ?_)
      obtain ⟨rfl, hqv_56⟩ := hw_v_56
      rw [hqv_56] at hH
      refine hv_ti (y := nI (tkF (w 0 cn) (w 1 cn) (ez 1 cn) j)) (rfl) ?_
      refine lv_goto (pc := 989) (tgt := 994) S.1 S.2.1 dL_law_989 (by decide) ?_
      refine lv_istore (pc := 994) (lv' := [(15, .int (nI (tkF (w 0 cn) (w 1 cn) (ez 1 cn) j))), (17, .int (nI j)), (16, .int (nI (w 0 cn 0))), (14, .int (nI J9)), (13, .int (nI z9)), (12, .int (nI cn)), (11, .int (nI y9)), (10, .int (nI hw)), (9, .int (nI x9)), (8, .int (nI k)), (7, .int (nI 1)), (6, .ref (az 13)), (5, .ref (az 12)), (4, .ref (az 11)), (3, .ref (az 10)), (2, .ref (az 9)), (1, .ref (az 0)), (0, .ref b)]) S.1 S.2.1 dL_law_994 hl (by decide) rfl (fun ls hl => ?_)
      refine lv_iinc (pc := 996) (v := nI (j + 1)) (lv' := [(17, .int (nI (j + 1))), (15, .int (nI (tkF (w 0 cn) (w 1 cn) (ez 1 cn) j))), (16, .int (nI (w 0 cn 0))), (14, .int (nI J9)), (13, .int (nI z9)), (12, .int (nI cn)), (11, .int (nI y9)), (10, .int (nI hw)), (9, .int (nI x9)), (8, .int (nI k)), (7, .int (nI 1)), (6, .ref (az 13)), (5, .ref (az 12)), (4, .ref (az 11)), (3, .ref (az 10)), (2, .ref (az 9)), (1, .ref (az 0)), (0, .ref b)]) S.1 S.2.1 dL_law_996 hl (k := 1) rfl (by first | rfl | exact nI_add _ _) (by decide) rfl (fun ls hl => ?_)
      refine lv_goto (pc := 999) (tgt := 959) S.1 S.2.1 dL_law_999 (by decide) ?_
      refine W.widen (k := cells + 5 + 10 * (j + 1)) (n := slots + 30 + 60 * (j + 1)) (by omega) (by omega) ?_
      have hi2 : (j + 1) + (n) = 6 ∧ (tkF (w 0 cn) (w 1 cn) (ez 1 cn) j) < 2 ^ 31 ∧ ((tkF (w 0 cn) (w 1 cn) (ez 1 cn) j) < 40 ↔ ∃ i, i < (j + 1) ∧ tkF (w 0 cn) (w 1 cn) (ez 1 cn) i < 40) := ⟨by omega, hth, mn_a hT40 hlt⟩
      have hl2 : lv_has ls 19 [(17, .int (nI (j + 1))), (16, .int (nI (w 0 cn 0))), (15, .int (nI (tkF (w 0 cn) (w 1 cn) (ez 1 cn) j))), (14, .int (nI J9)), (13, .int (nI z9)), (12, .int (nI cn)), (11, .int (nI y9)), (10, .int (nI hw)), (9, .int (nI x9)), (8, .int (nI k)), (7, .int (nI 1)), (6, .ref (az 13)), (5, .ref (az 12)), (4, .ref (az 11)), (3, .ref (az 10)), (2, .ref (az 9)), (1, .ref (az 0)), (0, .ref b)] := lv_sub hl [0, 2, 1, 3, 4, 5, 6, 7, 8, 9, 10, 11, 12, 13, 14, 15, 16, 17] rfl
      apply ih (j := j + 1) (T := tkF (w 0 cn) (w 1 cn) (ez 1 cn) j) <;> assumption
    · skip
      refine hv_icmp_ge (pc := 977) (tgt := 992) (a := tkF (w 0 cn) (w 1 cn) (ez 1 cn) j) (b := T) S.1 S.2.1 (by omega) (by omega) dL_law_977 (by decide) (fun c_58 => ?_) (fun c9 => absurd c9 (by omega))
      refine lv_iload (pc := 992) S.1 S.2.1 dL_law_992 (lv_at hl 2 rfl) ?_
      refine lv_istore (pc := 994) (lv' := [(15, .int (nI T)), (17, .int (nI j)), (16, .int (nI (w 0 cn 0))), (14, .int (nI J9)), (13, .int (nI z9)), (12, .int (nI cn)), (11, .int (nI y9)), (10, .int (nI hw)), (9, .int (nI x9)), (8, .int (nI k)), (7, .int (nI 1)), (6, .ref (az 13)), (5, .ref (az 12)), (4, .ref (az 11)), (3, .ref (az 10)), (2, .ref (az 9)), (1, .ref (az 0)), (0, .ref b)]) S.1 S.2.1 dL_law_994 hl (by decide) rfl (fun ls hl => ?_)
      refine lv_iinc (pc := 996) (v := nI (j + 1)) (lv' := [(17, .int (nI (j + 1))), (15, .int (nI T)), (16, .int (nI (w 0 cn 0))), (14, .int (nI J9)), (13, .int (nI z9)), (12, .int (nI cn)), (11, .int (nI y9)), (10, .int (nI hw)), (9, .int (nI x9)), (8, .int (nI k)), (7, .int (nI 1)), (6, .ref (az 13)), (5, .ref (az 12)), (4, .ref (az 11)), (3, .ref (az 10)), (2, .ref (az 9)), (1, .ref (az 0)), (0, .ref b)]) S.1 S.2.1 dL_law_996 hl (k := 1) rfl (by first | rfl | exact nI_add _ _) (by decide) rfl (fun ls hl => ?_)
      refine lv_goto (pc := 999) (tgt := 959) S.1 S.2.1 dL_law_999 (by decide) ?_
      refine W.widen (k := cells + 5 + 10 * (j + 1)) (n := slots + 30 + 60 * (j + 1)) (by omega) (by omega) ?_
      have hi2 : (j + 1) + (n) = 6 ∧ (T) < 2 ^ 31 ∧ ((T) < 40 ↔ ∃ i, i < (j + 1) ∧ tkF (w 0 cn) (w 1 cn) (ez 1 cn) i < 40) := ⟨by omega, hT31, mn_b hT40 hlt⟩
      have hl2 : lv_has ls 19 [(17, .int (nI (j + 1))), (16, .int (nI (w 0 cn 0))), (15, .int (nI (T))), (14, .int (nI J9)), (13, .int (nI z9)), (12, .int (nI cn)), (11, .int (nI y9)), (10, .int (nI hw)), (9, .int (nI x9)), (8, .int (nI k)), (7, .int (nI 1)), (6, .ref (az 13)), (5, .ref (az 12)), (4, .ref (az 11)), (3, .ref (az 10)), (2, .ref (az 9)), (1, .ref (az 0)), (0, .ref b)] := lv_sub hl [0, 2, 1, 3, 4, 5, 6, 7, 8, 9, 10, 11, 12, 13, 14, 15, 16, 17] rfl
      apply ih (j := j + 1) (T := T) <;> assumption
set_option maxHeartbeats 4000000 in
set_option maxRecDepth 100000 in
/-- a cone is trimmed -/
theorem law_trim (l : Launch) (hfl : l.stackTraces = false) {p : Program} {e : Env} {s : State} {m : MethodId} {below : List Frame} {meth : Method} {c : Code} {b : Nat} {D : va_G} {cA : Nat → ClassId} {ga : Nat → Nat → Nat} {Q : State → Prop} (S : CallFix p m c code 19 s #[.ref b] Wc RL) (hK : va_K D vwCl (tysL cA) s) (hX : Sx ga (fun q => s.heap.size ≤ q) s s.heap) {k x9 hw y9 cn z9 cells slots : Nat} {H : Heap} {locs : List Loc} {ls : Array Slot} {az : Nat → Nat} {tk tm : Nat} {tg sc : Nat → Nat} {ar : Nat → Nat → Nat} {w : Nat → Nat → Nat → Nat} {ez o : Nat → Nat → Nat} {φ : hpM} (hk : k < 130) (hc : cells ≤ 500000) (hs : slots ≤ 5000000) (hz9 : z9 < 2 ^ 27) (hw34 : hw < 34)
    (hY : YW cA ga az tk tm tg sc ar w ez o φ) (hI : LI k sc ar w ez o) (hT : TY tk tg) (h5 : o 0 5 = tk) (hH : hp D (fun q => s.heap.size ≤ q) φ H) (hS : va_S (fun q => s.heap.size ≤ q) s.heap H locs) (hcn : 0 < sc 3 → cn < sc 3) (hl : lv_has ls 19 [(13, .int (nI z9)), (12, .int (nI cn)), (11, .int (nI y9)), (10, .int (nI hw)), (9, .int (nI x9)), (8, .int (nI k)), (7, .int (nI 1)), (6, .ref (az 13)), (5, .ref (az 12)), (4, .ref (az 11)), (3, .ref (az 10)), (2, .ref (az 9)), (1, .ref (az 0)), (0, .ref b)])
    (kk : ∀ (H1 : Heap) (locs1 : List Loc) (ls1 : Array Slot), WLD cA ga D (fun q => s.heap.size ≤ q) az (k + 1) H1 → va_S (fun q => s.heap.size ≤ q) s.heap H1 locs1 → lv_has ls1 19 [(11, .int (nI y9)), (9, .int (nI x9)), (8, .int (nI k)), (7, .int (nI 1)), (6, .ref (az 13)), (5, .ref (az 12)), (4, .ref (az 11)), (3, .ref (az 10)), (2, .ref (az 9)), (1, .ref (az 0)), (0, .ref b)] → W p l e room_1 s m #[.ref b] below meth c H1 locs1 (cells + 130) (slots + 800) Q (F0 m 1489 ls1 [])) (h : hw = 25) (h03 : 0 < sc 3) :
    W p l e room_1 s m #[.ref b] below meth c H locs cells slots Q (F0 m 201 ls []) := by
  have hA : ∀ q, s.heap.size ≤ q → (fun q => s.heap.size ≤ q) q := fun _ h => h
  have hl1 := hI.l1
  have hm := hI.lm
  have h200 : k ≤ 200 := by omega
  have hk7 := hT.1
  have hcn3 := hcn h03
  have hlc := hI.lc cn
  have h9le := (hI.l3 cn).2.2.1
  have hd := hI.l9.1
  refine lv_iload (pc := 201) S.1 S.2.1 dL_law_201 (lv_at hl 3 rfl) ?_
  refine lv_iconst (pc := 203) (v := nI 3) S.1 S.2.1 dL_law_203 (by decide) ?_
  refine hv_icmp_ge (pc := 204) (tgt := 389) (a := hw) (b := 3) S.1 S.2.1 (by omega) (by omega) dL_law_204 (by decide) (fun c_1 => ?_) (fun c9 => absurd c9 (by omega))
  refine lv_iload (pc := 389) S.1 S.2.1 dL_law_389 (lv_at hl 3 rfl) ?_
  refine lv_bipush (pc := 391) (v := nI 7) S.1 S.2.1 dL_law_391 (by decide) ?_
  refine hv_icmp_ge (pc := 393) (tgt := 546) (a := hw) (b := 7) S.1 S.2.1 (by omega) (by omega) dL_law_393 (by decide) (fun c_2 => ?_) (fun c9 => absurd c9 (by omega))
  refine lv_iload (pc := 546) S.1 S.2.1 dL_law_546 (lv_at hl 3 rfl) ?_
  refine lv_bipush (pc := 548) (v := nI 9) S.1 S.2.1 dL_law_548 (by decide) ?_
  refine hv_icmp_ge (pc := 550) (tgt := 610) (a := hw) (b := 9) S.1 S.2.1 (by omega) (by omega) dL_law_550 (by decide) (fun c_3 => ?_) (fun c9 => absurd c9 (by omega))
  refine lv_iload (pc := 610) S.1 S.2.1 dL_law_610 (lv_at hl 3 rfl) ?_
  refine lv_bipush (pc := 612) (v := nI 11) S.1 S.2.1 dL_law_612 (by decide) ?_
  refine hv_icmp_ge (pc := 614) (tgt := 726) (a := hw) (b := 11) S.1 S.2.1 (by omega) (by omega) dL_law_614 (by decide) (fun c_4 => ?_) (fun c9 => absurd c9 (by omega))
  refine lv_iload (pc := 726) S.1 S.2.1 dL_law_726 (lv_at hl 3 rfl) ?_
  refine lv_bipush (pc := 728) (v := nI 21) S.1 S.2.1 dL_law_728 (by decide) ?_
  refine hv_icmp_ge (pc := 730) (tgt := 908) (a := hw) (b := 21) S.1 S.2.1 (by omega) (by omega) dL_law_730 (by decide) (fun c_5 => ?_) (fun c9 => absurd c9 (by omega))
  refine lv_iload (pc := 908) S.1 S.2.1 dL_law_908 (lv_at hl 3 rfl) ?_
  refine lv_bipush (pc := 910) (v := nI 25) S.1 S.2.1 dL_law_910 (by decide) ?_
  refine hv_icmp_ge (pc := 912) (tgt := 1154) (a := hw) (b := 25) S.1 S.2.1 (by omega) (by omega) dL_law_912 (by decide) (fun c_6 => ?_) (fun c9 => absurd c9 (by omega))
  refine lv_iload (pc := 1154) S.1 S.2.1 dL_law_1154 (lv_at hl 3 rfl) ?_
  refine lv_bipush (pc := 1156) (v := nI 25) S.1 S.2.1 dL_law_1156 (by decide) ?_
  refine hv_icmp_ne (pc := 1158) (tgt := 1295) (a := hw) (b := 25) S.1 S.2.1 (by omega) (by omega) dL_law_1158 (by decide) (fun c9 => absurd c9 (by omega)) (fun c_7 => ?_)
  refine lv_aload_n (pc := 1161) S.1 S.2.1 dL_law_1161 rfl (lv_at hl 11 rfl) ?_
  refine lv_iconst (pc := 1162) (v := nI 1) S.1 S.2.1 dL_law_1162 (by decide) ?_
  refine hv_iald (pc := 1163) S hK hH 1 (hY.a0) rfl (vp_in_nI (show 1 < 6 by omega) (by omega)) dL_law_1163 ?_
  refine hv_ti (y := nI ((o 0) 1)) (hv_ld (by omega)) ?_
  refine hv_ti (y := nI (sc 3)) (congrArg nI hm.2.1) ?_
  refine hv_if_le (pc := 1164) (tgt := 1295) (a := sc 3) S.1 S.2.1 (by omega) dL_law_1164 (by decide) (fun c9 => absurd c9 (by omega)) (fun c_8 => ?_)
  refine lv_aload_n (pc := 1167) S.1 S.2.1 dL_law_1167 rfl (lv_at hl 10 rfl) ?_
  refine lv_iconst (pc := 1168) (v := nI 4) S.1 S.2.1 dL_law_1168 (by decide) ?_
  refine lv_iload (pc := 1169) S.1 S.2.1 dL_law_1169 (lv_at hl 1 rfl) ?_
  refine lv_imul (pc := 1171) S.1 S.2.1 dL_law_1171 ?_
  refine hv_ti (y := nI (4 * cn)) (pk_mul _ _) ?_
  refine lv_iconst (pc := 1172) (v := nI 3) S.1 S.2.1 dL_law_1172 (by decide) ?_
  refine lv_iadd (pc := 1173) S.1 S.2.1 dL_law_1173 ?_
  refine hv_ti (y := nI ((4 * cn) + 3)) (nI_add _ _) ?_
  refine hv_iald (pc := 1174) S hK hH 1 (hY.a1) rfl (vp_in_nI (show (4 * cn) + 3 < 48 by omega) (by omega)) dL_law_1174 ?_
  refine hv_ti (y := nI ((o 1) ((4 * cn) + 3))) (hv_ld (by omega)) ?_
  refine hv_ti (y := nI (ar 9 cn)) (congrArg nI hlc.2.2) ?_
  refine lv_iconst (pc := 1175) (v := nI 1) S.1 S.2.1 dL_law_1175 (by decide) ?_
  by_cases h91 : ar 9 cn = 1
  · skip
    refine hv_icmp_ne (pc := 1176) (tgt := 1183) (a := ar 9 cn) (b := 1) S.1 S.2.1 (by omega) (by omega) dL_law_1176 (by decide) (fun c9 => absurd c9 (by omega)) (fun c_9 => ?_)
    refine lv_iconst (pc := 1179) (v := nI 1) S.1 S.2.1 dL_law_1179 (by decide) ?_
    refine lv_goto (pc := 1180) (tgt := 1184) S.1 S.2.1 dL_law_1180 (by decide) ?_
    refine lv_istore (pc := 1184) (lv' := [(14, .int (nI 1)), (13, .int (nI z9)), (12, .int (nI cn)), (11, .int (nI y9)), (10, .int (nI hw)), (9, .int (nI x9)), (8, .int (nI k)), (7, .int (nI 1)), (6, .ref (az 13)), (5, .ref (az 12)), (4, .ref (az 11)), (3, .ref (az 10)), (2, .ref (az 9)), (1, .ref (az 0)), (0, .ref b)]) S.1 S.2.1 dL_law_1184 hl (by decide) rfl (fun ls hl => ?_)
    refine lv_aload_n (pc := 1186) S.1 S.2.1 dL_law_1186 rfl (lv_at hl 13 rfl) ?_
    refine lv_aload_n (pc := 1187) S.1 S.2.1 dL_law_1187 rfl (lv_at hl 12 rfl) ?_
    refine lv_iload (pc := 1188) S.1 S.2.1 dL_law_1188 (lv_at hl 1 rfl) ?_
    refine lv_iconst (pc := 1190) (v := nI 2) S.1 S.2.1 dL_law_1190 (by decide) ?_
    refine lv_irem (pc := 1191) S.1 S.2.1 dL_law_1191 (by decide) ?_
    refine hv_ti (y := nI (z9 % 2)) (pk_rem (by omega) (by omega) (by omega)) ?_
    by_cases hz2 : z9 % 2 = 0
    · skip
      refine hv_if_ne (pc := 1192) (tgt := 1201) (a := z9 % 2) S.1 S.2.1 (by omega) dL_law_1192 (by decide) (fun c9 => absurd c9 (by omega)) (fun c_10 => ?_)
      refine lv_ldc2 (pc := 1195) (v := Int64.ofNat 31370666387792744) S.1 S.2.1 S.2.2.2.1 (S.2.2.2.2 _ tw_917) dL_law_1195 ?_
      refine lv_goto (pc := 1198) (tgt := 1204) S.1 S.2.1 dL_law_1198 (by decide) ?_
      refine hv_tv (y := .long (Int64.ofNat (wdN 9))) rfl ?_
      refine hv_call (pc := 1204) (va_runS (As := [.ref (az 0), .ref (az 9), .long (Int64.ofNat (wdN 9))]) (rest := []) S (l_types l hfl D cA ga φ H.size az k tk tm tg sc ar w ez o 9 hY hI hT h200 (by decide)) (va_cwS 3 S.2.2.2.2 (gS tw_900 tw_901 tw_0 tw_902) rfl rfl rfl (by decide +kernel) ⟨Nat.le_of_ble_eq_true rfl, Nat.le_of_ble_eq_true rfl⟩) (pre0_S hH hK hX hS hA) rfl rfl hl.1 rfl (lv_room (Nat.le_of_ble_eq_true rfl)) dL_law_1204 ⟨Nat.le_trans (show _ ≤ 600000 by omega) (Nat.le_of_ble_eq_true rfl), Nat.le_trans (show _ ≤ 7000000 by omega) (Nat.le_of_ble_eq_true rfl)⟩) hS (af_le hH hS hA) (fun v_11 φ_12 H locs hw_v_11 hH hS => ?_)
      obtain ⟨rfl, k9, km, kg, hY1, hL1⟩ := hw_v_11
      have hT1 := TY.ofl (show 9 < 11 by decide) (by decide) hL1
      have hI1 := hI.m5 k9
      have hm1 := hI1.lm
      have hm0 := (hI.m5 0).lm
      refine hv_if_eq (pc := 1207) (tgt := 1249) (a := 1) S.1 S.2.1 (by omega) dL_law_1207 (by decide) (fun c9 => absurd c9 (by omega)) (fun c_13 => ?_)
      refine lv_aload_n (pc := 1210) S.1 S.2.1 dL_law_1210 rfl (lv_at hl 13 rfl) ?_
      refine lv_bipush (pc := 1211) (v := nI 7) S.1 S.2.1 dL_law_1211 (by decide) ?_
      refine lv_iload (pc := 1213) S.1 S.2.1 dL_law_1213 (lv_at hl 2 rfl) ?_
      refine lv_iconst (pc := 1215) (v := nI 0) S.1 S.2.1 dL_law_1215 (by decide) ?_
      refine lv_iconst (pc := 1216) (v := nI 0) S.1 S.2.1 dL_law_1216 (by decide) ?_
      refine hv_call (pc := 1217) (vx_runSW (As := [.ref (az 0), .int (nI 7), .int (nI cn), .int (nI 0), .int (nI 0)]) (rest := []) S (ax_trim_2 l hfl D cA ga φ_12 H.size az k k9 km kg sc ar w ez (va_up o 0 (va_up (o 0) 5 k9)) (va_up o 0 (va_up (o 0) 5 k9)) (nI cn) (nI 0) (nI 0) hY1 hI1 hT1 h200 (trimX_2 hcn3 (by omega) (by omega))) (vx_cwSW 5 S.2.2.2.2 (gSW tw_261 tw_262 tw_0 tw_263) rfl rfl rfl (by decide +kernel) ⟨Nat.le_of_ble_eq_true rfl, Nat.le_of_ble_eq_true rfl⟩) (pre0_S hH hK hX hS hA) rfl rfl hl.1 rfl (lv_room (Nat.le_of_ble_eq_true rfl)) dL_law_1217 ⟨Nat.le_trans (show _ ≤ 600000 by omega) (Nat.le_of_ble_eq_true rfl), Nat.le_trans (show _ ≤ 7000000 by omega) (Nat.le_of_ble_eq_true rfl)⟩) hS (af_le hH hS hA) (fun v_14 φ_15 H locs hw_v_14 hH hS => ?_)
      obtain ⟨rfl, hqv_14⟩ := hw_v_14
      rw [hqv_14] at hH
      refine lv_iload (pc := 1220) S.1 S.2.1 dL_law_1220 (lv_at hl 0 rfl) ?_
      refine hv_if_eq (pc := 1222) (tgt := 1230) (a := 1) S.1 S.2.1 (by omega) dL_law_1222 (by decide) (fun c9 => absurd c9 (by omega)) (fun c_16 => ?_)
      refine lv_ldc (pc := 1225) (v := (-16830000 : Int32)) S.1 S.2.1 S.2.2.2.1 (S.2.2.2.2 _ tw_887) dL_law_1225 ?_
      refine lv_goto (pc := 1227) (tgt := 1242) S.1 S.2.1 dL_law_1227 (by decide) ?_
      refine lv_icmp_ne (pc := 1242) (tgt := 1249) S.1 S.2.1 dL_law_1242 (by decide) (fun c9 => absurd c9 (fun h9 => h9 rfl)) (fun c_17 => ?_)
      refine lv_iconst (pc := 1245) (v := nI 1) S.1 S.2.1 dL_law_1245 (by decide) ?_
      refine lv_goto (pc := 1246) (tgt := 1250) S.1 S.2.1 dL_law_1246 (by decide) ?_
      refine lv_istore (pc := 1250) (lv' := [(7, .int (nI 1)), (14, .int (nI 1)), (13, .int (nI z9)), (12, .int (nI cn)), (11, .int (nI y9)), (10, .int (nI hw)), (9, .int (nI x9)), (8, .int (nI k)), (6, .ref (az 13)), (5, .ref (az 12)), (4, .ref (az 11)), (3, .ref (az 10)), (2, .ref (az 9)), (1, .ref (az 0)), (0, .ref b)]) S.1 S.2.1 dL_law_1250 hl (by decide) rfl (fun ls hl => ?_)
      refine lv_aload_n (pc := 1252) S.1 S.2.1 dL_law_1252 rfl (lv_at hl 12 rfl) ?_
      refine lv_iconst (pc := 1253) (v := nI 5) S.1 S.2.1 dL_law_1253 (by decide) ?_
      refine lv_iload (pc := 1254) S.1 S.2.1 dL_law_1254 (lv_at hl 1 rfl) ?_
      refine hv_if_eq (pc := 1256) (tgt := 1265) (a := 1) S.1 S.2.1 (by omega) dL_law_1256 (by decide) (fun c9 => absurd c9 (by omega)) (fun c_18 => ?_)
      refine lv_aload_n (pc := 1259) S.1 S.2.1 dL_law_1259 rfl (lv_at hl 12 rfl) ?_
      refine lv_iconst (pc := 1260) (v := nI 5) S.1 S.2.1 dL_law_1260 (by decide) ?_
      refine hv_iald (pc := 1261) S hK hH 1 (hY1.a0) rfl (vp_in_nI (show 5 < 6 by omega) (by omega)) dL_law_1261 ?_
      refine hv_ti (y := nI (((va_up o 0 (va_up (o 0) 5 k9)) 0) 5)) (hv_ld (by omega)) ?_
      refine hv_ti (y := nI k9) (rfl) ?_
      refine lv_goto (pc := 1262) (tgt := 1266) S.1 S.2.1 dL_law_1262 (by decide) ?_
      refine hv_iast (pc := 1266) S hK hH hS 1 (hY1.a0) rfl (vp_in_nI (show 5 < 6 by omega) (by omega)) dL_law_1266 (fun H locs hH hS => ?_)
      rw [hv_upd (by omega)] at hH
      replace hH := nup (e := .inl (cA 1, 6, .inl (fun j => nI ((va_up ((va_up o 0 (va_up (o 0) 5 k9)) 0) 5 k9) j)))) hH
      obtain ⟨φ_20, hφ_20, fa_φ_20, fr_φ_20, hH⟩ := hH
      have hY_19 := hY1.s0 5 k9
      rw [← hφ_20] at hY_19
      rw [up_up] at hY_19
      refine lv_aload_n (pc := 1267) S.1 S.2.1 dL_law_1267 rfl (lv_at hl 11 rfl) ?_
      refine lv_iconst (pc := 1268) (v := nI 4) S.1 S.2.1 dL_law_1268 (by decide) ?_
      refine lv_iload (pc := 1269) S.1 S.2.1 dL_law_1269 (lv_at hl 3 rfl) ?_
      refine lv_imul (pc := 1271) S.1 S.2.1 dL_law_1271 ?_
      refine hv_ti (y := nI (4 * cn)) (pk_mul _ _) ?_
      refine lv_iconst (pc := 1272) (v := nI 3) S.1 S.2.1 dL_law_1272 (by decide) ?_
      refine lv_iadd (pc := 1273) S.1 S.2.1 dL_law_1273 ?_
      refine hv_ti (y := nI ((4 * cn) + 3)) (nI_add _ _) ?_
      refine lv_iload (pc := 1274) S.1 S.2.1 dL_law_1274 (lv_at hl 1 rfl) ?_
      refine hv_if_ne (pc := 1276) (tgt := 1286) (a := 1) S.1 S.2.1 (by omega) dL_law_1276 (by decide) (fun c_21 => ?_) (fun c9 => absurd c9 (by omega))
      refine lv_iconst (pc := 1286) (v := nI 1) S.1 S.2.1 dL_law_1286 (by decide) ?_
      refine lv_goto (pc := 1287) (tgt := 1291) S.1 S.2.1 dL_law_1287 (by decide) ?_
      refine hv_iast (pc := 1291) S hK hH hS 1 (hY_19.a1) rfl (vp_in_nI (show 4 * cn + 3 < 48 by omega) (by omega)) dL_law_1291 (fun H locs hH hS => ?_)
      rw [hv_upd (by omega)] at hH
      replace hH := nup (e := .inl (cA 1, 48, .inl (fun j => nI ((va_up ((va_up o 0 (va_up (o 0) 5 k9)) 1) (4 * cn + 3) 1) j)))) hH
      obtain ⟨φ_23, hφ_23, fa_φ_23, fr_φ_23, hH⟩ := hH
      have hY_22 := hY_19.s1 (4 * cn + 3) 1
      rw [← hφ_23] at hY_22
      rw [up_id (o := va_up o 0 (va_up (o 0) 5 k9)) (k := 1) (j := 4 * cn + 3) (v := 1) (hlc.2.2.trans h91)] at hY_22
      refine lv_goto (pc := 1292) (tgt := 1489) S.1 S.2.1 dL_law_1292 (by decide) ?_
      refine W.widen (k := cells + 130) (n := slots + 800) (by omega) (by omega) ?_
      exact kk _ _ _ ⟨k9, km, kg, sc, ar, w, ez, va_up o 0 (va_up (o 0) 5 k9), _, hY_22, hI1.up, hT1, rfl, hH⟩ hS (lv_sub hl [4, 6, 7, 0, 8, 9, 10, 11, 12, 13, 14] rfl)
    · skip
      refine hv_if_ne (pc := 1192) (tgt := 1201) (a := z9 % 2) S.1 S.2.1 (by omega) dL_law_1192 (by decide) (fun c_24 => ?_) (fun c9 => absurd c9 (by omega))
      refine lv_ldc2 (pc := 1201) (v := Int64.ofNat 1685414763) S.1 S.2.1 S.2.2.2.1 (S.2.2.2.2 _ tw_918) dL_law_1201 ?_
      refine hv_tv (y := .long (Int64.ofNat (wdN 10))) rfl ?_
      refine hv_call (pc := 1204) (va_runS (As := [.ref (az 0), .ref (az 9), .long (Int64.ofNat (wdN 10))]) (rest := []) S (l_types l hfl D cA ga φ H.size az k tk tm tg sc ar w ez o 10 hY hI hT h200 (by decide)) (va_cwS 3 S.2.2.2.2 (gS tw_900 tw_901 tw_0 tw_902) rfl rfl rfl (by decide +kernel) ⟨Nat.le_of_ble_eq_true rfl, Nat.le_of_ble_eq_true rfl⟩) (pre0_S hH hK hX hS hA) rfl rfl hl.1 rfl (lv_room (Nat.le_of_ble_eq_true rfl)) dL_law_1204 ⟨Nat.le_trans (show _ ≤ 600000 by omega) (Nat.le_of_ble_eq_true rfl), Nat.le_trans (show _ ≤ 7000000 by omega) (Nat.le_of_ble_eq_true rfl)⟩) hS (af_le hH hS hA) (fun v_25 φ_26 H locs hw_v_25 hH hS => ?_)
      obtain ⟨rfl, k9, km, kg, hY1, hL1⟩ := hw_v_25
      have hT1 := TY.ofl (show 10 < 11 by decide) (by decide) hL1
      have hI1 := hI.m5 k9
      have hm1 := hI1.lm
      have hm0 := (hI.m5 0).lm
      refine hv_if_eq (pc := 1207) (tgt := 1249) (a := 1) S.1 S.2.1 (by omega) dL_law_1207 (by decide) (fun c9 => absurd c9 (by omega)) (fun c_27 => ?_)
      refine lv_aload_n (pc := 1210) S.1 S.2.1 dL_law_1210 rfl (lv_at hl 13 rfl) ?_
      refine lv_bipush (pc := 1211) (v := nI 7) S.1 S.2.1 dL_law_1211 (by decide) ?_
      refine lv_iload (pc := 1213) S.1 S.2.1 dL_law_1213 (lv_at hl 2 rfl) ?_
      refine lv_iconst (pc := 1215) (v := nI 0) S.1 S.2.1 dL_law_1215 (by decide) ?_
      refine lv_iconst (pc := 1216) (v := nI 0) S.1 S.2.1 dL_law_1216 (by decide) ?_
      refine hv_call (pc := 1217) (vx_runSW (As := [.ref (az 0), .int (nI 7), .int (nI cn), .int (nI 0), .int (nI 0)]) (rest := []) S (ax_trim_2 l hfl D cA ga φ_26 H.size az k k9 km kg sc ar w ez (va_up o 0 (va_up (o 0) 5 k9)) (va_up o 0 (va_up (o 0) 5 k9)) (nI cn) (nI 0) (nI 0) hY1 hI1 hT1 h200 (trimX_2 hcn3 (by omega) (by omega))) (vx_cwSW 5 S.2.2.2.2 (gSW tw_261 tw_262 tw_0 tw_263) rfl rfl rfl (by decide +kernel) ⟨Nat.le_of_ble_eq_true rfl, Nat.le_of_ble_eq_true rfl⟩) (pre0_S hH hK hX hS hA) rfl rfl hl.1 rfl (lv_room (Nat.le_of_ble_eq_true rfl)) dL_law_1217 ⟨Nat.le_trans (show _ ≤ 600000 by omega) (Nat.le_of_ble_eq_true rfl), Nat.le_trans (show _ ≤ 7000000 by omega) (Nat.le_of_ble_eq_true rfl)⟩) hS (af_le hH hS hA) (fun v_28 φ_29 H locs hw_v_28 hH hS => ?_)
      obtain ⟨rfl, hqv_28⟩ := hw_v_28
      rw [hqv_28] at hH
      refine lv_iload (pc := 1220) S.1 S.2.1 dL_law_1220 (lv_at hl 0 rfl) ?_
      refine hv_if_eq (pc := 1222) (tgt := 1230) (a := 1) S.1 S.2.1 (by omega) dL_law_1222 (by decide) (fun c9 => absurd c9 (by omega)) (fun c_30 => ?_)
      refine lv_ldc (pc := 1225) (v := (-16830000 : Int32)) S.1 S.2.1 S.2.2.2.1 (S.2.2.2.2 _ tw_887) dL_law_1225 ?_
      refine lv_goto (pc := 1227) (tgt := 1242) S.1 S.2.1 dL_law_1227 (by decide) ?_
      refine lv_icmp_ne (pc := 1242) (tgt := 1249) S.1 S.2.1 dL_law_1242 (by decide) (fun c9 => absurd c9 (fun h9 => h9 rfl)) (fun c_31 => ?_)
      refine lv_iconst (pc := 1245) (v := nI 1) S.1 S.2.1 dL_law_1245 (by decide) ?_
      refine lv_goto (pc := 1246) (tgt := 1250) S.1 S.2.1 dL_law_1246 (by decide) ?_
      refine lv_istore (pc := 1250) (lv' := [(7, .int (nI 1)), (14, .int (nI 1)), (13, .int (nI z9)), (12, .int (nI cn)), (11, .int (nI y9)), (10, .int (nI hw)), (9, .int (nI x9)), (8, .int (nI k)), (6, .ref (az 13)), (5, .ref (az 12)), (4, .ref (az 11)), (3, .ref (az 10)), (2, .ref (az 9)), (1, .ref (az 0)), (0, .ref b)]) S.1 S.2.1 dL_law_1250 hl (by decide) rfl (fun ls hl => ?_)
      refine lv_aload_n (pc := 1252) S.1 S.2.1 dL_law_1252 rfl (lv_at hl 12 rfl) ?_
      refine lv_iconst (pc := 1253) (v := nI 5) S.1 S.2.1 dL_law_1253 (by decide) ?_
      refine lv_iload (pc := 1254) S.1 S.2.1 dL_law_1254 (lv_at hl 1 rfl) ?_
      refine hv_if_eq (pc := 1256) (tgt := 1265) (a := 1) S.1 S.2.1 (by omega) dL_law_1256 (by decide) (fun c9 => absurd c9 (by omega)) (fun c_32 => ?_)
      refine lv_aload_n (pc := 1259) S.1 S.2.1 dL_law_1259 rfl (lv_at hl 12 rfl) ?_
      refine lv_iconst (pc := 1260) (v := nI 5) S.1 S.2.1 dL_law_1260 (by decide) ?_
      refine hv_iald (pc := 1261) S hK hH 1 (hY1.a0) rfl (vp_in_nI (show 5 < 6 by omega) (by omega)) dL_law_1261 ?_
      refine hv_ti (y := nI (((va_up o 0 (va_up (o 0) 5 k9)) 0) 5)) (hv_ld (by omega)) ?_
      refine hv_ti (y := nI k9) (rfl) ?_
      refine lv_goto (pc := 1262) (tgt := 1266) S.1 S.2.1 dL_law_1262 (by decide) ?_
      refine hv_iast (pc := 1266) S hK hH hS 1 (hY1.a0) rfl (vp_in_nI (show 5 < 6 by omega) (by omega)) dL_law_1266 (fun H locs hH hS => ?_)
      rw [hv_upd (by omega)] at hH
      replace hH := nup (e := .inl (cA 1, 6, .inl (fun j => nI ((va_up ((va_up o 0 (va_up (o 0) 5 k9)) 0) 5 k9) j)))) hH
      obtain ⟨φ_34, hφ_34, fa_φ_34, fr_φ_34, hH⟩ := hH
      have hY_33 := hY1.s0 5 k9
      rw [← hφ_34] at hY_33
      rw [up_up] at hY_33
      refine lv_aload_n (pc := 1267) S.1 S.2.1 dL_law_1267 rfl (lv_at hl 11 rfl) ?_
      refine lv_iconst (pc := 1268) (v := nI 4) S.1 S.2.1 dL_law_1268 (by decide) ?_
      refine lv_iload (pc := 1269) S.1 S.2.1 dL_law_1269 (lv_at hl 3 rfl) ?_
      refine lv_imul (pc := 1271) S.1 S.2.1 dL_law_1271 ?_
      refine hv_ti (y := nI (4 * cn)) (pk_mul _ _) ?_
      refine lv_iconst (pc := 1272) (v := nI 3) S.1 S.2.1 dL_law_1272 (by decide) ?_
      refine lv_iadd (pc := 1273) S.1 S.2.1 dL_law_1273 ?_
      refine hv_ti (y := nI ((4 * cn) + 3)) (nI_add _ _) ?_
      refine lv_iload (pc := 1274) S.1 S.2.1 dL_law_1274 (lv_at hl 1 rfl) ?_
      refine hv_if_ne (pc := 1276) (tgt := 1286) (a := 1) S.1 S.2.1 (by omega) dL_law_1276 (by decide) (fun c_35 => ?_) (fun c9 => absurd c9 (by omega))
      refine lv_iconst (pc := 1286) (v := nI 1) S.1 S.2.1 dL_law_1286 (by decide) ?_
      refine lv_goto (pc := 1287) (tgt := 1291) S.1 S.2.1 dL_law_1287 (by decide) ?_
      refine hv_iast (pc := 1291) S hK hH hS 1 (hY_33.a1) rfl (vp_in_nI (show 4 * cn + 3 < 48 by omega) (by omega)) dL_law_1291 (fun H locs hH hS => ?_)
      rw [hv_upd (by omega)] at hH
      replace hH := nup (e := .inl (cA 1, 48, .inl (fun j => nI ((va_up ((va_up o 0 (va_up (o 0) 5 k9)) 1) (4 * cn + 3) 1) j)))) hH
      obtain ⟨φ_37, hφ_37, fa_φ_37, fr_φ_37, hH⟩ := hH
      have hY_36 := hY_33.s1 (4 * cn + 3) 1
      rw [← hφ_37] at hY_36
      rw [up_id (o := va_up o 0 (va_up (o 0) 5 k9)) (k := 1) (j := 4 * cn + 3) (v := 1) (hlc.2.2.trans h91)] at hY_36
      refine lv_goto (pc := 1292) (tgt := 1489) S.1 S.2.1 dL_law_1292 (by decide) ?_
      refine W.widen (k := cells + 130) (n := slots + 800) (by omega) (by omega) ?_
      exact kk _ _ _ ⟨k9, km, kg, sc, ar, w, ez, va_up o 0 (va_up (o 0) 5 k9), _, hY_36, hI1.up, hT1, rfl, hH⟩ hS (lv_sub hl [4, 6, 7, 0, 8, 9, 10, 11, 12, 13, 14] rfl)
  · skip
    refine hv_icmp_ne (pc := 1176) (tgt := 1183) (a := ar 9 cn) (b := 1) S.1 S.2.1 (by omega) (by omega) dL_law_1176 (by decide) (fun c_38 => ?_) (fun c9 => absurd c9 (by omega))
    refine lv_iconst (pc := 1183) (v := nI 0) S.1 S.2.1 dL_law_1183 (by decide) ?_
    refine lv_istore (pc := 1184) (lv' := [(14, .int (nI 0)), (13, .int (nI z9)), (12, .int (nI cn)), (11, .int (nI y9)), (10, .int (nI hw)), (9, .int (nI x9)), (8, .int (nI k)), (7, .int (nI 1)), (6, .ref (az 13)), (5, .ref (az 12)), (4, .ref (az 11)), (3, .ref (az 10)), (2, .ref (az 9)), (1, .ref (az 0)), (0, .ref b)]) S.1 S.2.1 dL_law_1184 hl (by decide) rfl (fun ls hl => ?_)
    refine lv_aload_n (pc := 1186) S.1 S.2.1 dL_law_1186 rfl (lv_at hl 13 rfl) ?_
    refine lv_aload_n (pc := 1187) S.1 S.2.1 dL_law_1187 rfl (lv_at hl 12 rfl) ?_
    refine lv_iload (pc := 1188) S.1 S.2.1 dL_law_1188 (lv_at hl 1 rfl) ?_
    refine lv_iconst (pc := 1190) (v := nI 2) S.1 S.2.1 dL_law_1190 (by decide) ?_
    refine lv_irem (pc := 1191) S.1 S.2.1 dL_law_1191 (by decide) ?_
    refine hv_ti (y := nI (z9 % 2)) (pk_rem (by omega) (by omega) (by omega)) ?_
    by_cases hz2 : z9 % 2 = 0
    · skip
      refine hv_if_ne (pc := 1192) (tgt := 1201) (a := z9 % 2) S.1 S.2.1 (by omega) dL_law_1192 (by decide) (fun c9 => absurd c9 (by omega)) (fun c_39 => ?_)
      refine lv_ldc2 (pc := 1195) (v := Int64.ofNat 31370666387792744) S.1 S.2.1 S.2.2.2.1 (S.2.2.2.2 _ tw_917) dL_law_1195 ?_
      refine lv_goto (pc := 1198) (tgt := 1204) S.1 S.2.1 dL_law_1198 (by decide) ?_
      refine hv_tv (y := .long (Int64.ofNat (wdN 9))) rfl ?_
      refine hv_call (pc := 1204) (va_runS (As := [.ref (az 0), .ref (az 9), .long (Int64.ofNat (wdN 9))]) (rest := []) S (l_types l hfl D cA ga φ H.size az k tk tm tg sc ar w ez o 9 hY hI hT h200 (by decide)) (va_cwS 3 S.2.2.2.2 (gS tw_900 tw_901 tw_0 tw_902) rfl rfl rfl (by decide +kernel) ⟨Nat.le_of_ble_eq_true rfl, Nat.le_of_ble_eq_true rfl⟩) (pre0_S hH hK hX hS hA) rfl rfl hl.1 rfl (lv_room (Nat.le_of_ble_eq_true rfl)) dL_law_1204 ⟨Nat.le_trans (show _ ≤ 600000 by omega) (Nat.le_of_ble_eq_true rfl), Nat.le_trans (show _ ≤ 7000000 by omega) (Nat.le_of_ble_eq_true rfl)⟩) hS (af_le hH hS hA) (fun v_40 φ_41 H locs hw_v_40 hH hS => ?_)
      obtain ⟨rfl, k9, km, kg, hY1, hL1⟩ := hw_v_40
      have hT1 := TY.ofl (show 9 < 11 by decide) (by decide) hL1
      have hI1 := hI.m5 k9
      have hm1 := hI1.lm
      have hm0 := (hI.m5 0).lm
      refine hv_if_eq (pc := 1207) (tgt := 1249) (a := 1) S.1 S.2.1 (by omega) dL_law_1207 (by decide) (fun c9 => absurd c9 (by omega)) (fun c_42 => ?_)
      refine lv_aload_n (pc := 1210) S.1 S.2.1 dL_law_1210 rfl (lv_at hl 13 rfl) ?_
      refine lv_bipush (pc := 1211) (v := nI 7) S.1 S.2.1 dL_law_1211 (by decide) ?_
      refine lv_iload (pc := 1213) S.1 S.2.1 dL_law_1213 (lv_at hl 2 rfl) ?_
      refine lv_iconst (pc := 1215) (v := nI 0) S.1 S.2.1 dL_law_1215 (by decide) ?_
      refine lv_iconst (pc := 1216) (v := nI 0) S.1 S.2.1 dL_law_1216 (by decide) ?_
      refine hv_call (pc := 1217) (vx_runSW (As := [.ref (az 0), .int (nI 7), .int (nI cn), .int (nI 0), .int (nI 0)]) (rest := []) S (as_trim l hfl D cA ga φ_41 H.size az k k9 km kg sc ar w ez (va_up o 0 (va_up (o 0) 5 k9)) (va_up o 0 (va_up (o 0) 5 k9)) cn hY1 hI1 hT1 h200 hcn3 (by omega)) (vx_cwSW 5 S.2.2.2.2 (gSW tw_261 tw_262 tw_0 tw_263) rfl rfl rfl (by decide +kernel) ⟨Nat.le_of_ble_eq_true rfl, Nat.le_of_ble_eq_true rfl⟩) (pre0_S hH hK hX hS hA) rfl rfl hl.1 rfl (lv_room (Nat.le_of_ble_eq_true rfl)) dL_law_1217 ⟨Nat.le_trans (show _ ≤ 600000 by omega) (Nat.le_of_ble_eq_true rfl), Nat.le_trans (show _ ≤ 7000000 by omega) (Nat.le_of_ble_eq_true rfl)⟩) hS (af_le hH hS hA) (fun v_43 φ_44 H locs hw_v_43 hH hS => ?_)
      rw [tr_9 (by omega) hL1] at hw_v_43
      obtain ⟨rfl, hY2⟩ := hw_v_43
      refine lv_iload (pc := 1220) S.1 S.2.1 dL_law_1220 (lv_at hl 0 rfl) ?_
      refine hv_if_eq (pc := 1222) (tgt := 1230) (a := 0) S.1 S.2.1 (by omega) dL_law_1222 (by decide) (fun c_45 => ?_) (fun c9 => absurd c9 (by omega))
      refine lv_iload (pc := 1230) S.1 S.2.1 dL_law_1230 (lv_at hl 1 rfl) ?_
      refine lv_iconst (pc := 1232) (v := nI 2) S.1 S.2.1 dL_law_1232 (by decide) ?_
      refine lv_irem (pc := 1233) S.1 S.2.1 dL_law_1233 (by decide) ?_
      refine hv_ti (y := nI (z9 % 2)) (pk_rem (by omega) (by omega) (by omega)) ?_
      refine hv_if_ne (pc := 1234) (tgt := 1241) (a := z9 % 2) S.1 S.2.1 (by omega) dL_law_1234 (by decide) (fun c9 => absurd c9 (by omega)) (fun c_46 => ?_)
      refine lv_iconst (pc := 1237) (v := nI 1) S.1 S.2.1 dL_law_1237 (by decide) ?_
      refine lv_goto (pc := 1238) (tgt := 1242) S.1 S.2.1 dL_law_1238 (by decide) ?_
      refine hv_icmp_ne (pc := 1242) (tgt := 1249) (a := 1) (b := 1) S.1 S.2.1 (by omega) (by omega) dL_law_1242 (by decide) (fun c9 => absurd c9 (by omega)) (fun c_47 => ?_)
      refine lv_iconst (pc := 1245) (v := nI 1) S.1 S.2.1 dL_law_1245 (by decide) ?_
      refine lv_goto (pc := 1246) (tgt := 1250) S.1 S.2.1 dL_law_1246 (by decide) ?_
      refine lv_istore (pc := 1250) (lv' := [(7, .int (nI 1)), (14, .int (nI 0)), (13, .int (nI z9)), (12, .int (nI cn)), (11, .int (nI y9)), (10, .int (nI hw)), (9, .int (nI x9)), (8, .int (nI k)), (6, .ref (az 13)), (5, .ref (az 12)), (4, .ref (az 11)), (3, .ref (az 10)), (2, .ref (az 9)), (1, .ref (az 0)), (0, .ref b)]) S.1 S.2.1 dL_law_1250 hl (by decide) rfl (fun ls hl => ?_)
      refine lv_aload_n (pc := 1252) S.1 S.2.1 dL_law_1252 rfl (lv_at hl 12 rfl) ?_
      refine lv_iconst (pc := 1253) (v := nI 5) S.1 S.2.1 dL_law_1253 (by decide) ?_
      refine lv_iload (pc := 1254) S.1 S.2.1 dL_law_1254 (lv_at hl 1 rfl) ?_
      refine hv_if_eq (pc := 1256) (tgt := 1265) (a := 0) S.1 S.2.1 (by omega) dL_law_1256 (by decide) (fun c_48 => ?_) (fun c9 => absurd c9 (by omega))
      refine lv_iconst (pc := 1265) (v := nI 0) S.1 S.2.1 dL_law_1265 (by decide) ?_
      refine hv_iast (pc := 1266) S hK hH hS 1 (hY2.a0) rfl (vp_in_nI (show 5 < 6 by omega) (by omega)) dL_law_1266 (fun H locs hH hS => ?_)
      rw [hv_upd (by omega)] at hH
      replace hH := nup (e := .inl (cA 1, 6, .inl (fun j => nI ((va_up ((va_up o 0 (va_up (o 0) 5 k9)) 0) 5 0) j)))) hH
      obtain ⟨φ_50, hφ_50, fa_φ_50, fr_φ_50, hH⟩ := hH
      have hY_49 := hY2.s0 5 0
      rw [← hφ_50] at hY_49
      rw [up_up] at hY_49
      refine lv_aload_n (pc := 1267) S.1 S.2.1 dL_law_1267 rfl (lv_at hl 11 rfl) ?_
      refine lv_iconst (pc := 1268) (v := nI 4) S.1 S.2.1 dL_law_1268 (by decide) ?_
      refine lv_iload (pc := 1269) S.1 S.2.1 dL_law_1269 (lv_at hl 3 rfl) ?_
      refine lv_imul (pc := 1271) S.1 S.2.1 dL_law_1271 ?_
      refine hv_ti (y := nI (4 * cn)) (pk_mul _ _) ?_
      refine lv_iconst (pc := 1272) (v := nI 3) S.1 S.2.1 dL_law_1272 (by decide) ?_
      refine lv_iadd (pc := 1273) S.1 S.2.1 dL_law_1273 ?_
      refine hv_ti (y := nI ((4 * cn) + 3)) (nI_add _ _) ?_
      refine lv_iload (pc := 1274) S.1 S.2.1 dL_law_1274 (lv_at hl 1 rfl) ?_
      refine hv_if_ne (pc := 1276) (tgt := 1286) (a := 0) S.1 S.2.1 (by omega) dL_law_1276 (by decide) (fun c9 => absurd c9 (by omega)) (fun c_51 => ?_)
      refine lv_iload (pc := 1279) S.1 S.2.1 dL_law_1279 (lv_at hl 2 rfl) ?_
      refine lv_iconst (pc := 1281) (v := nI 2) S.1 S.2.1 dL_law_1281 (by decide) ?_
      refine lv_irem (pc := 1282) S.1 S.2.1 dL_law_1282 (by decide) ?_
      refine hv_ti (y := nI (z9 % 2)) (pk_rem (by omega) (by omega) (by omega)) ?_
      refine hv_if_ne (pc := 1283) (tgt := 1290) (a := z9 % 2) S.1 S.2.1 (by omega) dL_law_1283 (by decide) (fun c9 => absurd c9 (by omega)) (fun c_52 => ?_)
      refine lv_iconst (pc := 1286) (v := nI 1) S.1 S.2.1 dL_law_1286 (by decide) ?_
      refine lv_goto (pc := 1287) (tgt := 1291) S.1 S.2.1 dL_law_1287 (by decide) ?_
      refine hv_iast (pc := 1291) S hK hH hS 1 (hY_49.a1) rfl (vp_in_nI (show 4 * cn + 3 < 48 by omega) (by omega)) dL_law_1291 (fun H locs hH hS => ?_)
      rw [hv_upd (by omega)] at hH
      replace hH := nup (e := .inl (cA 1, 48, .inl (fun j => nI ((va_up ((va_up o 0 (va_up (o 0) 5 0)) 1) (4 * cn + 3) 1) j)))) hH
      obtain ⟨φ_54, hφ_54, fa_φ_54, fr_φ_54, hH⟩ := hH
      have hY_53 := hY_49.s1 (4 * cn + 3) 1
      rw [← hφ_54] at hY_53
      refine lv_goto (pc := 1292) (tgt := 1489) S.1 S.2.1 dL_law_1292 (by decide) ?_
      refine W.widen (k := cells + 130) (n := slots + 800) (by omega) (by omega) ?_
      exact kk _ _ _ ⟨0, _, kg, sc, va_up ar 9 (va_up (ar 9) cn 1), w, ez, _, _, hY_53, (hI.m5 0).trim hcn3 (by decide), TY.nil _, rfl, hH⟩ hS (lv_sub hl [4, 6, 7, 0, 8, 9, 10, 11, 12, 13, 14] rfl)
    · skip
      refine hv_if_ne (pc := 1192) (tgt := 1201) (a := z9 % 2) S.1 S.2.1 (by omega) dL_law_1192 (by decide) (fun c_55 => ?_) (fun c9 => absurd c9 (by omega))
      refine lv_ldc2 (pc := 1201) (v := Int64.ofNat 1685414763) S.1 S.2.1 S.2.2.2.1 (S.2.2.2.2 _ tw_918) dL_law_1201 ?_
      refine hv_tv (y := .long (Int64.ofNat (wdN 10))) rfl ?_
      refine hv_call (pc := 1204) (va_runS (As := [.ref (az 0), .ref (az 9), .long (Int64.ofNat (wdN 10))]) (rest := []) S (l_types l hfl D cA ga φ H.size az k tk tm tg sc ar w ez o 10 hY hI hT h200 (by decide)) (va_cwS 3 S.2.2.2.2 (gS tw_900 tw_901 tw_0 tw_902) rfl rfl rfl (by decide +kernel) ⟨Nat.le_of_ble_eq_true rfl, Nat.le_of_ble_eq_true rfl⟩) (pre0_S hH hK hX hS hA) rfl rfl hl.1 rfl (lv_room (Nat.le_of_ble_eq_true rfl)) dL_law_1204 ⟨Nat.le_trans (show _ ≤ 600000 by omega) (Nat.le_of_ble_eq_true rfl), Nat.le_trans (show _ ≤ 7000000 by omega) (Nat.le_of_ble_eq_true rfl)⟩) hS (af_le hH hS hA) (fun v_56 φ_57 H locs hw_v_56 hH hS => ?_)
      obtain ⟨rfl, k9, km, kg, hY1, hL1⟩ := hw_v_56
      have hT1 := TY.ofl (show 10 < 11 by decide) (by decide) hL1
      have hI1 := hI.m5 k9
      have hm1 := hI1.lm
      have hm0 := (hI.m5 0).lm
      refine hv_if_eq (pc := 1207) (tgt := 1249) (a := 1) S.1 S.2.1 (by omega) dL_law_1207 (by decide) (fun c9 => absurd c9 (by omega)) (fun c_58 => ?_)
      refine lv_aload_n (pc := 1210) S.1 S.2.1 dL_law_1210 rfl (lv_at hl 13 rfl) ?_
      refine lv_bipush (pc := 1211) (v := nI 7) S.1 S.2.1 dL_law_1211 (by decide) ?_
      refine lv_iload (pc := 1213) S.1 S.2.1 dL_law_1213 (lv_at hl 2 rfl) ?_
      refine lv_iconst (pc := 1215) (v := nI 0) S.1 S.2.1 dL_law_1215 (by decide) ?_
      refine lv_iconst (pc := 1216) (v := nI 0) S.1 S.2.1 dL_law_1216 (by decide) ?_
      refine hv_call (pc := 1217) (vx_runSW (As := [.ref (az 0), .int (nI 7), .int (nI cn), .int (nI 0), .int (nI 0)]) (rest := []) S (as_trim l hfl D cA ga φ_57 H.size az k k9 km kg sc ar w ez (va_up o 0 (va_up (o 0) 5 k9)) (va_up o 0 (va_up (o 0) 5 k9)) cn hY1 hI1 hT1 h200 hcn3 (by omega)) (vx_cwSW 5 S.2.2.2.2 (gSW tw_261 tw_262 tw_0 tw_263) rfl rfl rfl (by decide +kernel) ⟨Nat.le_of_ble_eq_true rfl, Nat.le_of_ble_eq_true rfl⟩) (pre0_S hH hK hX hS hA) rfl rfl hl.1 rfl (lv_room (Nat.le_of_ble_eq_true rfl)) dL_law_1217 ⟨Nat.le_trans (show _ ≤ 600000 by omega) (Nat.le_of_ble_eq_true rfl), Nat.le_trans (show _ ≤ 7000000 by omega) (Nat.le_of_ble_eq_true rfl)⟩) hS (af_le hH hS hA) (fun v_59 φ_60 H locs hw_v_59 hH hS => ?_)
      rw [tr_10 hL1] at hw_v_59
      obtain ⟨rfl, hY2⟩ := hw_v_59
      refine lv_iload (pc := 1220) S.1 S.2.1 dL_law_1220 (lv_at hl 0 rfl) ?_
      refine hv_if_eq (pc := 1222) (tgt := 1230) (a := 0) S.1 S.2.1 (by omega) dL_law_1222 (by decide) (fun c_61 => ?_) (fun c9 => absurd c9 (by omega))
      refine lv_iload (pc := 1230) S.1 S.2.1 dL_law_1230 (lv_at hl 1 rfl) ?_
      refine lv_iconst (pc := 1232) (v := nI 2) S.1 S.2.1 dL_law_1232 (by decide) ?_
      refine lv_irem (pc := 1233) S.1 S.2.1 dL_law_1233 (by decide) ?_
      refine hv_ti (y := nI (z9 % 2)) (pk_rem (by omega) (by omega) (by omega)) ?_
      refine hv_if_ne (pc := 1234) (tgt := 1241) (a := z9 % 2) S.1 S.2.1 (by omega) dL_law_1234 (by decide) (fun c_62 => ?_) (fun c9 => absurd c9 (by omega))
      refine lv_iconst (pc := 1241) (v := nI 0) S.1 S.2.1 dL_law_1241 (by decide) ?_
      refine hv_icmp_ne (pc := 1242) (tgt := 1249) (a := 0) (b := 0) S.1 S.2.1 (by omega) (by omega) dL_law_1242 (by decide) (fun c9 => absurd c9 (by omega)) (fun c_63 => ?_)
      refine lv_iconst (pc := 1245) (v := nI 1) S.1 S.2.1 dL_law_1245 (by decide) ?_
      refine lv_goto (pc := 1246) (tgt := 1250) S.1 S.2.1 dL_law_1246 (by decide) ?_
      refine lv_istore (pc := 1250) (lv' := [(7, .int (nI 1)), (14, .int (nI 0)), (13, .int (nI z9)), (12, .int (nI cn)), (11, .int (nI y9)), (10, .int (nI hw)), (9, .int (nI x9)), (8, .int (nI k)), (6, .ref (az 13)), (5, .ref (az 12)), (4, .ref (az 11)), (3, .ref (az 10)), (2, .ref (az 9)), (1, .ref (az 0)), (0, .ref b)]) S.1 S.2.1 dL_law_1250 hl (by decide) rfl (fun ls hl => ?_)
      refine lv_aload_n (pc := 1252) S.1 S.2.1 dL_law_1252 rfl (lv_at hl 12 rfl) ?_
      refine lv_iconst (pc := 1253) (v := nI 5) S.1 S.2.1 dL_law_1253 (by decide) ?_
      refine lv_iload (pc := 1254) S.1 S.2.1 dL_law_1254 (lv_at hl 1 rfl) ?_
      refine hv_if_eq (pc := 1256) (tgt := 1265) (a := 0) S.1 S.2.1 (by omega) dL_law_1256 (by decide) (fun c_64 => ?_) (fun c9 => absurd c9 (by omega))
      refine lv_iconst (pc := 1265) (v := nI 0) S.1 S.2.1 dL_law_1265 (by decide) ?_
      refine hv_iast (pc := 1266) S hK hH hS 1 (hY2.a0) rfl (vp_in_nI (show 5 < 6 by omega) (by omega)) dL_law_1266 (fun H locs hH hS => ?_)
      rw [hv_upd (by omega)] at hH
      replace hH := nup (e := .inl (cA 1, 6, .inl (fun j => nI ((va_up ((va_up o 0 (va_up (o 0) 5 k9)) 0) 5 0) j)))) hH
      obtain ⟨φ_66, hφ_66, fa_φ_66, fr_φ_66, hH⟩ := hH
      have hY_65 := hY2.s0 5 0
      rw [← hφ_66] at hY_65
      rw [up_up] at hY_65
      refine lv_aload_n (pc := 1267) S.1 S.2.1 dL_law_1267 rfl (lv_at hl 11 rfl) ?_
      refine lv_iconst (pc := 1268) (v := nI 4) S.1 S.2.1 dL_law_1268 (by decide) ?_
      refine lv_iload (pc := 1269) S.1 S.2.1 dL_law_1269 (lv_at hl 3 rfl) ?_
      refine lv_imul (pc := 1271) S.1 S.2.1 dL_law_1271 ?_
      refine hv_ti (y := nI (4 * cn)) (pk_mul _ _) ?_
      refine lv_iconst (pc := 1272) (v := nI 3) S.1 S.2.1 dL_law_1272 (by decide) ?_
      refine lv_iadd (pc := 1273) S.1 S.2.1 dL_law_1273 ?_
      refine hv_ti (y := nI ((4 * cn) + 3)) (nI_add _ _) ?_
      refine lv_iload (pc := 1274) S.1 S.2.1 dL_law_1274 (lv_at hl 1 rfl) ?_
      refine hv_if_ne (pc := 1276) (tgt := 1286) (a := 0) S.1 S.2.1 (by omega) dL_law_1276 (by decide) (fun c9 => absurd c9 (by omega)) (fun c_67 => ?_)
      refine lv_iload (pc := 1279) S.1 S.2.1 dL_law_1279 (lv_at hl 2 rfl) ?_
      refine lv_iconst (pc := 1281) (v := nI 2) S.1 S.2.1 dL_law_1281 (by decide) ?_
      refine lv_irem (pc := 1282) S.1 S.2.1 dL_law_1282 (by decide) ?_
      refine hv_ti (y := nI (z9 % 2)) (pk_rem (by omega) (by omega) (by omega)) ?_
      refine hv_if_ne (pc := 1283) (tgt := 1290) (a := z9 % 2) S.1 S.2.1 (by omega) dL_law_1283 (by decide) (fun c_68 => ?_) (fun c9 => absurd c9 (by omega))
      refine lv_iconst (pc := 1290) (v := nI 0) S.1 S.2.1 dL_law_1290 (by decide) ?_
      refine hv_iast (pc := 1291) S hK hH hS 1 (hY_65.a1) rfl (vp_in_nI (show 4 * cn + 3 < 48 by omega) (by omega)) dL_law_1291 (fun H locs hH hS => ?_)
      rw [hv_upd (by omega)] at hH
      replace hH := nup (e := .inl (cA 1, 48, .inl (fun j => nI ((va_up ((va_up o 0 (va_up (o 0) 5 0)) 1) (4 * cn + 3) 0) j)))) hH
      obtain ⟨φ_70, hφ_70, fa_φ_70, fr_φ_70, hH⟩ := hH
      have hY_69 := hY_65.s1 (4 * cn + 3) 0
      rw [← hφ_70] at hY_69
      refine lv_goto (pc := 1292) (tgt := 1489) S.1 S.2.1 dL_law_1292 (by decide) ?_
      refine W.widen (k := cells + 130) (n := slots + 800) (by omega) (by omega) ?_
      exact kk _ _ _ ⟨0, _, kg, sc, va_up ar 9 (va_up (ar 9) cn 0), w, ez, _, _, hY_69, (hI.m5 0).trim hcn3 (by decide), TY.nil _, rfl, hH⟩ hS (lv_sub hl [4, 6, 7, 0, 8, 9, 10, 11, 12, 13, 14] rfl)
set_option maxHeartbeats 4000000 in
set_option maxRecDepth 100000 in
/-- days go by -/
theorem law_pass (l : Launch) (hfl : l.stackTraces = false) {p : Program} {e : Env} {s : State} {m : MethodId} {below : List Frame} {meth : Method} {c : Code} {b : Nat} {D : va_G} {cA : Nat → ClassId} {ga : Nat → Nat → Nat} {Q : State → Prop} (S : CallFix p m c code 19 s #[.ref b] Wc RL) (hK : va_K D vwCl (tysL cA) s) (hX : Sx ga (fun q => s.heap.size ≤ q) s s.heap) {k x9 hw y9 cn z9 cells slots : Nat} {H : Heap} {locs : List Loc} {ls : Array Slot} {az : Nat → Nat} {tk tm : Nat} {tg sc : Nat → Nat} {ar : Nat → Nat → Nat} {w : Nat → Nat → Nat → Nat} {ez o : Nat → Nat → Nat} {φ : hpM} (hk : k < 130) (hc : cells ≤ 500000) (hs : slots ≤ 5000000) (hz9 : z9 < 2 ^ 27) (hw34 : hw < 34)
    (hY : YW cA ga az tk tm tg sc ar w ez o φ) (hI : LI k sc ar w ez o) (hT : TY tk tg) (h5 : o 0 5 = tk) (hH : hp D (fun q => s.heap.size ≤ q) φ H) (hS : va_S (fun q => s.heap.size ≤ q) s.heap H locs) (hcn : 0 < sc 3 → cn < sc 3) (hl : lv_has ls 19 [(13, .int (nI z9)), (12, .int (nI cn)), (11, .int (nI y9)), (10, .int (nI hw)), (9, .int (nI x9)), (8, .int (nI k)), (7, .int (nI 1)), (6, .ref (az 13)), (5, .ref (az 12)), (4, .ref (az 11)), (3, .ref (az 10)), (2, .ref (az 9)), (1, .ref (az 0)), (0, .ref b)])
    (kk : ∀ (H1 : Heap) (locs1 : List Loc) (ls1 : Array Slot), WLD cA ga D (fun q => s.heap.size ≤ q) az (k + 1) H1 → va_S (fun q => s.heap.size ≤ q) s.heap H1 locs1 → lv_has ls1 19 [(11, .int (nI y9)), (9, .int (nI x9)), (8, .int (nI k)), (7, .int (nI 1)), (6, .ref (az 13)), (5, .ref (az 12)), (4, .ref (az 11)), (3, .ref (az 10)), (2, .ref (az 9)), (1, .ref (az 0)), (0, .ref b)] → W p l e room_1 s m #[.ref b] below meth c H1 locs1 (cells + 130) (slots + 800) Q (F0 m 1489 ls1 [])) (h : hw = 26) :
    W p l e room_1 s m #[.ref b] below meth c H locs cells slots Q (F0 m 201 ls []) := by
  have hA : ∀ q, s.heap.size ≤ q → (fun q => s.heap.size ≤ q) q := fun _ h => h
  have hl1 := hI.l1
  have hm := hI.lm
  have h200 : k ≤ 200 := by omega
  have hk7 := hT.1
  refine lv_iload (pc := 201) S.1 S.2.1 dL_law_201 (lv_at hl 3 rfl) ?_
  refine lv_iconst (pc := 203) (v := nI 3) S.1 S.2.1 dL_law_203 (by decide) ?_
  refine hv_icmp_ge (pc := 204) (tgt := 389) (a := hw) (b := 3) S.1 S.2.1 (by omega) (by omega) dL_law_204 (by decide) (fun c_1 => ?_) (fun c9 => absurd c9 (by omega))
  refine lv_iload (pc := 389) S.1 S.2.1 dL_law_389 (lv_at hl 3 rfl) ?_
  refine lv_bipush (pc := 391) (v := nI 7) S.1 S.2.1 dL_law_391 (by decide) ?_
  refine hv_icmp_ge (pc := 393) (tgt := 546) (a := hw) (b := 7) S.1 S.2.1 (by omega) (by omega) dL_law_393 (by decide) (fun c_2 => ?_) (fun c9 => absurd c9 (by omega))
  refine lv_iload (pc := 546) S.1 S.2.1 dL_law_546 (lv_at hl 3 rfl) ?_
  refine lv_bipush (pc := 548) (v := nI 9) S.1 S.2.1 dL_law_548 (by decide) ?_
  refine hv_icmp_ge (pc := 550) (tgt := 610) (a := hw) (b := 9) S.1 S.2.1 (by omega) (by omega) dL_law_550 (by decide) (fun c_3 => ?_) (fun c9 => absurd c9 (by omega))
  refine lv_iload (pc := 610) S.1 S.2.1 dL_law_610 (lv_at hl 3 rfl) ?_
  refine lv_bipush (pc := 612) (v := nI 11) S.1 S.2.1 dL_law_612 (by decide) ?_
  refine hv_icmp_ge (pc := 614) (tgt := 726) (a := hw) (b := 11) S.1 S.2.1 (by omega) (by omega) dL_law_614 (by decide) (fun c_4 => ?_) (fun c9 => absurd c9 (by omega))
  refine lv_iload (pc := 726) S.1 S.2.1 dL_law_726 (lv_at hl 3 rfl) ?_
  refine lv_bipush (pc := 728) (v := nI 21) S.1 S.2.1 dL_law_728 (by decide) ?_
  refine hv_icmp_ge (pc := 730) (tgt := 908) (a := hw) (b := 21) S.1 S.2.1 (by omega) (by omega) dL_law_730 (by decide) (fun c_5 => ?_) (fun c9 => absurd c9 (by omega))
  refine lv_iload (pc := 908) S.1 S.2.1 dL_law_908 (lv_at hl 3 rfl) ?_
  refine lv_bipush (pc := 910) (v := nI 25) S.1 S.2.1 dL_law_910 (by decide) ?_
  refine hv_icmp_ge (pc := 912) (tgt := 1154) (a := hw) (b := 25) S.1 S.2.1 (by omega) (by omega) dL_law_912 (by decide) (fun c_6 => ?_) (fun c9 => absurd c9 (by omega))
  refine lv_iload (pc := 1154) S.1 S.2.1 dL_law_1154 (lv_at hl 3 rfl) ?_
  refine lv_bipush (pc := 1156) (v := nI 25) S.1 S.2.1 dL_law_1156 (by decide) ?_
  refine hv_icmp_ne (pc := 1158) (tgt := 1295) (a := hw) (b := 25) S.1 S.2.1 (by omega) (by omega) dL_law_1158 (by decide) (fun c_7 => ?_) (fun c9 => absurd c9 (by omega))
  refine lv_iload (pc := 1295) S.1 S.2.1 dL_law_1295 (lv_at hl 3 rfl) ?_
  refine lv_bipush (pc := 1297) (v := nI 26) S.1 S.2.1 dL_law_1297 (by decide) ?_
  refine hv_icmp_ne (pc := 1299) (tgt := 1370) (a := hw) (b := 26) S.1 S.2.1 (by omega) (by omega) dL_law_1299 (by decide) (fun c9 => absurd c9 (by omega)) (fun c_8 => ?_)
  refine lv_iconst (pc := 1302) (v := nI 1) S.1 S.2.1 dL_law_1302 (by decide) ?_
  refine lv_iload (pc := 1303) S.1 S.2.1 dL_law_1303 (lv_at hl 0 rfl) ?_
  refine lv_bipush (pc := 1305) (v := nI 30) S.1 S.2.1 dL_law_1305 (by decide) ?_
  refine lv_irem (pc := 1307) S.1 S.2.1 dL_law_1307 (by decide) ?_
  refine hv_ti (y := nI (z9 % 30)) (pk_rem (by omega) (by omega) (by omega)) ?_
  refine lv_iadd (pc := 1308) S.1 S.2.1 dL_law_1308 ?_
  refine hv_ti (y := nI (1 + (z9 % 30))) (nI_add _ _) ?_
  obtain ⟨D9, hD9⟩ : ∃ D9 : Nat, D9 = 1 + (z9 % 30) := ⟨_, rfl⟩
  refine hv_ti (y := nI D9) (by rw [hD9]) ?_
  have hbD9 : 1 ≤ D9 ∧ D9 ≤ 30 := by omega
  have hd := hI.l9.1
  refine lv_istore (pc := 1309) (lv' := [(14, .int (nI D9)), (13, .int (nI z9)), (12, .int (nI cn)), (11, .int (nI y9)), (10, .int (nI hw)), (9, .int (nI x9)), (8, .int (nI k)), (7, .int (nI 1)), (6, .ref (az 13)), (5, .ref (az 12)), (4, .ref (az 11)), (3, .ref (az 10)), (2, .ref (az 9)), (1, .ref (az 0)), (0, .ref b)]) S.1 S.2.1 dL_law_1309 hl (by decide) rfl (fun ls hl => ?_)
  refine lv_aload_n (pc := 1311) S.1 S.2.1 dL_law_1311 rfl (lv_at hl 12 rfl) ?_
  refine lv_iconst (pc := 1312) (v := nI 4) S.1 S.2.1 dL_law_1312 (by decide) ?_
  refine lv_dup2_11 (pc := 1313) S.1 S.2.1 dL_law_1313 rfl rfl ?_
  refine hv_iald (pc := 1314) S hK hH 1 (hY.a0) rfl (vp_in_nI (show 4 < 6 by omega) (by omega)) dL_law_1314 ?_
  refine hv_ti (y := nI ((o 0) 4)) (hv_ld (by omega)) ?_
  refine hv_ti (y := nI (sc 6)) (congrArg nI hm.2.2.2.2.1) ?_
  refine lv_iload (pc := 1315) S.1 S.2.1 dL_law_1315 (lv_at hl 0 rfl) ?_
  refine lv_iadd (pc := 1317) S.1 S.2.1 dL_law_1317 ?_
  refine hv_ti (y := nI ((sc 6) + D9)) (nI_add _ _) ?_
  refine hv_iast (pc := 1318) S hK hH hS 1 (hY.a0) rfl (vp_in_nI (show 4 < 6 by omega) (by omega)) dL_law_1318 (fun H locs hH hS => ?_)
  rw [hv_upd (by omega)] at hH
  replace hH := nup (e := .inl (cA 1, 6, .inl (fun j => nI ((va_up (o 0) 4 (sc 6 + D9)) j)))) hH
  obtain ⟨φ_10, hφ_10, fa_φ_10, fr_φ_10, hH⟩ := hH
  have hY_9 := hY.s0 4 (sc 6 + D9)
  rw [← hφ_10] at hY_9
  refine lv_aload_n (pc := 1319) S.1 S.2.1 dL_law_1319 rfl (lv_at hl 13 rfl) ?_
  refine lv_bipush (pc := 1320) (v := nI 8) S.1 S.2.1 dL_law_1320 (by decide) ?_
  refine lv_iload (pc := 1322) S.1 S.2.1 dL_law_1322 (lv_at hl 0 rfl) ?_
  refine lv_iconst (pc := 1324) (v := nI 0) S.1 S.2.1 dL_law_1324 (by decide) ?_
  refine lv_iconst (pc := 1325) (v := nI 0) S.1 S.2.1 dL_law_1325 (by decide) ?_
  refine hv_call (pc := 1326) (vx_runSW (As := [.ref (az 0), .int (nI 8), .int (nI D9), .int (nI 0), .int (nI 0)]) (rest := []) S (as_pass l hfl D cA ga φ_10 H.size az k tk tm tg sc ar w ez (va_up o 0 (va_up (o 0) 4 (sc 6 + D9))) o D9 hY_9 hI hT h200 hbD9.1 hbD9.2) (vx_cwSW 5 S.2.2.2.2 (gSW tw_261 tw_262 tw_0 tw_263) rfl rfl rfl (by decide +kernel) ⟨Nat.le_of_ble_eq_true rfl, Nat.le_of_ble_eq_true rfl⟩) (pre0_S hH hK hX hS hA) rfl rfl hl.1 rfl (lv_room (Nat.le_of_ble_eq_true rfl)) dL_law_1326 ⟨Nat.le_trans (show _ ≤ 600000 by omega) (Nat.le_of_ble_eq_true rfl), Nat.le_trans (show _ ≤ 7000000 by omega) (Nat.le_of_ble_eq_true rfl)⟩) hS (af_le hH hS hA) (fun v_11 φ_12 H locs hw_v_11 hH hS => ?_)
  obtain ⟨rfl, hY2⟩ := hw_v_11
  refine lv_aload_n (pc := 1329) S.1 S.2.1 dL_law_1329 rfl (lv_at hl 12 rfl) ?_
  refine lv_iconst (pc := 1330) (v := nI 4) S.1 S.2.1 dL_law_1330 (by decide) ?_
  refine hv_iald (pc := 1331) S hK hH 1 (hY2.a0) rfl (vp_in_nI (show 4 < 6 by omega) (by omega)) dL_law_1331 ?_
  refine hv_ti (y := nI (((va_up o 0 (va_up (o 0) 4 (sc 6 + D9))) 0) 4)) (hv_ld (by omega)) ?_
  refine hv_ti (y := nI (sc 6 + D9)) (rfl) ?_
  refine lv_bipush (pc := 1332) (v := nI 10) S.1 S.2.1 dL_law_1332 (by decide) ?_
  refine lv_idiv (pc := 1334) S.1 S.2.1 dL_law_1334 (by decide) ?_
  refine hv_ti (y := nI ((sc 6 + D9) / 10)) (pk_div (by omega) (by omega) (by omega)) ?_
  refine hv_icmp_ne (pc := 1335) (tgt := 1342) (a := (sc 6 + D9) / 10) (b := (sc 6 + D9) / 10) S.1 S.2.1 (by omega) (by omega) dL_law_1335 (by decide) (fun c9 => absurd c9 (by omega)) (fun c_13 => ?_)
  refine lv_iconst (pc := 1338) (v := nI 1) S.1 S.2.1 dL_law_1338 (by decide) ?_
  refine lv_goto (pc := 1339) (tgt := 1343) S.1 S.2.1 dL_law_1339 (by decide) ?_
  refine lv_istore (pc := 1343) (lv' := [(7, .int (nI 1)), (14, .int (nI D9)), (13, .int (nI z9)), (12, .int (nI cn)), (11, .int (nI y9)), (10, .int (nI hw)), (9, .int (nI x9)), (8, .int (nI k)), (6, .ref (az 13)), (5, .ref (az 12)), (4, .ref (az 11)), (3, .ref (az 10)), (2, .ref (az 9)), (1, .ref (az 0)), (0, .ref b)]) S.1 S.2.1 dL_law_1343 hl (by decide) rfl (fun ls hl => ?_)
  refine lv_iconst (pc := 1345) (v := nI 0) S.1 S.2.1 dL_law_1345 (by decide) ?_
  refine lv_istore (pc := 1346) (lv' := [(15, .int (nI 0)), (7, .int (nI 1)), (14, .int (nI D9)), (13, .int (nI z9)), (12, .int (nI cn)), (11, .int (nI y9)), (10, .int (nI hw)), (9, .int (nI x9)), (8, .int (nI k)), (6, .ref (az 13)), (5, .ref (az 12)), (4, .ref (az 11)), (3, .ref (az 10)), (2, .ref (az 9)), (1, .ref (az 0)), (0, .ref b)]) S.1 S.2.1 dL_law_1346 hl (by decide) rfl (fun ls hl => ?_)
  refine lv_iload (pc := 1348) S.1 S.2.1 dL_law_1348 (lv_at hl 0 rfl) ?_
  refine lv_bipush (pc := 1350) (v := nI 6) S.1 S.2.1 dL_law_1350 (by decide) ?_
  refine hv_icmp_ge (pc := 1352) (tgt := 1367) (a := 0) (b := 6) S.1 S.2.1 (by omega) (by omega) dL_law_1352 (by decide) (fun c9 => absurd c9 (by omega)) (fun c_14 => ?_)
  refine lv_aload (pc := 1355) S.1 S.2.1 dL_law_1355 (lv_at hl 10 rfl) ?_
  refine lv_iload (pc := 1357) S.1 S.2.1 dL_law_1357 (lv_at hl 0 rfl) ?_
  refine lv_iconst (pc := 1359) (v := nI 0) S.1 S.2.1 dL_law_1359 (by decide) ?_
  refine hv_iast (pc := 1360) S hK hH hS 1 (hY2.a3) rfl (vp_in_nI (show 0 < 6 by omega) (by omega)) dL_law_1360 (fun H locs hH hS => ?_)
  rw [hv_upd (by omega)] at hH
  replace hH := nup (e := .inl (cA 1, 6, .inl (fun j => nI ((va_up ((va_up o 0 (va_up (o 0) 4 (sc 6 + D9))) 3) 0 0) j)))) hH
  obtain ⟨φ_16, hφ_16, fa_φ_16, fr_φ_16, hH⟩ := hH
  have hY_15 := hY2.s3 0 0
  rw [← hφ_16] at hY_15
  refine lv_iinc (pc := 1361) (v := nI (0 + 1)) (lv' := [(15, .int (nI (0 + 1))), (7, .int (nI 1)), (14, .int (nI D9)), (13, .int (nI z9)), (12, .int (nI cn)), (11, .int (nI y9)), (10, .int (nI hw)), (9, .int (nI x9)), (8, .int (nI k)), (6, .ref (az 13)), (5, .ref (az 12)), (4, .ref (az 11)), (3, .ref (az 10)), (2, .ref (az 9)), (1, .ref (az 0)), (0, .ref b)]) S.1 S.2.1 dL_law_1361 hl (k := 0) rfl (by first | rfl | exact nI_add _ _) (by decide) rfl (fun ls hl => ?_)
  refine lv_goto (pc := 1364) (tgt := 1348) S.1 S.2.1 dL_law_1364 (by decide) ?_
  refine lv_iload (pc := 1348) S.1 S.2.1 dL_law_1348 (lv_at hl 0 rfl) ?_
  refine lv_bipush (pc := 1350) (v := nI 6) S.1 S.2.1 dL_law_1350 (by decide) ?_
  refine hv_icmp_ge (pc := 1352) (tgt := 1367) (a := 0 + 1) (b := 6) S.1 S.2.1 (by omega) (by omega) dL_law_1352 (by decide) (fun c9 => absurd c9 (by omega)) (fun c_17 => ?_)
  refine lv_aload (pc := 1355) S.1 S.2.1 dL_law_1355 (lv_at hl 10 rfl) ?_
  refine lv_iload (pc := 1357) S.1 S.2.1 dL_law_1357 (lv_at hl 0 rfl) ?_
  refine lv_iconst (pc := 1359) (v := nI 0) S.1 S.2.1 dL_law_1359 (by decide) ?_
  refine hv_iast (pc := 1360) S hK hH hS 1 (hY_15.a3) rfl (vp_in_nI (show 0 + 1 < 6 by omega) (by omega)) dL_law_1360 (fun H locs hH hS => ?_)
  rw [hv_upd (by omega)] at hH
  replace hH := nup (e := .inl (cA 1, 6, .inl (fun j => nI ((va_up ((va_up (va_up o 0 (va_up (o 0) 4 (sc 6 + D9))) 3 (va_up ((va_up o 0 (va_up (o 0) 4 (sc 6 + D9))) 3) 0 0)) 3) (0 + 1) 0) j)))) hH
  obtain ⟨φ_19, hφ_19, fa_φ_19, fr_φ_19, hH⟩ := hH
  have hY_18 := hY_15.s3 (0 + 1) 0
  rw [← hφ_19] at hY_18
  rw [upk] at hY_18
  refine lv_iinc (pc := 1361) (v := nI (0 + 1 + 1)) (lv' := [(15, .int (nI (0 + 1 + 1))), (7, .int (nI 1)), (14, .int (nI D9)), (13, .int (nI z9)), (12, .int (nI cn)), (11, .int (nI y9)), (10, .int (nI hw)), (9, .int (nI x9)), (8, .int (nI k)), (6, .ref (az 13)), (5, .ref (az 12)), (4, .ref (az 11)), (3, .ref (az 10)), (2, .ref (az 9)), (1, .ref (az 0)), (0, .ref b)]) S.1 S.2.1 dL_law_1361 hl (k := 0) rfl (by first | rfl | exact nI_add _ _) (by decide) rfl (fun ls hl => ?_)
  refine lv_goto (pc := 1364) (tgt := 1348) S.1 S.2.1 dL_law_1364 (by decide) ?_
  refine lv_iload (pc := 1348) S.1 S.2.1 dL_law_1348 (lv_at hl 0 rfl) ?_
  refine lv_bipush (pc := 1350) (v := nI 6) S.1 S.2.1 dL_law_1350 (by decide) ?_
  refine hv_icmp_ge (pc := 1352) (tgt := 1367) (a := 0 + 1 + 1) (b := 6) S.1 S.2.1 (by omega) (by omega) dL_law_1352 (by decide) (fun c9 => absurd c9 (by omega)) (fun c_20 => ?_)
  refine lv_aload (pc := 1355) S.1 S.2.1 dL_law_1355 (lv_at hl 10 rfl) ?_
  refine lv_iload (pc := 1357) S.1 S.2.1 dL_law_1357 (lv_at hl 0 rfl) ?_
  refine lv_iconst (pc := 1359) (v := nI 0) S.1 S.2.1 dL_law_1359 (by decide) ?_
  refine hv_iast (pc := 1360) S hK hH hS 1 (hY_18.a3) rfl (vp_in_nI (show 0 + 1 + 1 < 6 by omega) (by omega)) dL_law_1360 (fun H locs hH hS => ?_)
  rw [hv_upd (by omega)] at hH
  replace hH := nup (e := .inl (cA 1, 6, .inl (fun j => nI ((va_up ((va_up (va_up o 0 (va_up (o 0) 4 (sc 6 + D9))) 3 (va_up (va_up ((va_up o 0 (va_up (o 0) 4 (sc 6 + D9))) 3) 0 0) (0 + 1) 0)) 3) (0 + 1 + 1) 0) j)))) hH
  obtain ⟨φ_22, hφ_22, fa_φ_22, fr_φ_22, hH⟩ := hH
  have hY_21 := hY_18.s3 (0 + 1 + 1) 0
  rw [← hφ_22] at hY_21
  rw [upk] at hY_21
  refine lv_iinc (pc := 1361) (v := nI (0 + 1 + 1 + 1)) (lv' := [(15, .int (nI (0 + 1 + 1 + 1))), (7, .int (nI 1)), (14, .int (nI D9)), (13, .int (nI z9)), (12, .int (nI cn)), (11, .int (nI y9)), (10, .int (nI hw)), (9, .int (nI x9)), (8, .int (nI k)), (6, .ref (az 13)), (5, .ref (az 12)), (4, .ref (az 11)), (3, .ref (az 10)), (2, .ref (az 9)), (1, .ref (az 0)), (0, .ref b)]) S.1 S.2.1 dL_law_1361 hl (k := 0) rfl (by first | rfl | exact nI_add _ _) (by decide) rfl (fun ls hl => ?_)
  refine lv_goto (pc := 1364) (tgt := 1348) S.1 S.2.1 dL_law_1364 (by decide) ?_
  refine lv_iload (pc := 1348) S.1 S.2.1 dL_law_1348 (lv_at hl 0 rfl) ?_
  refine lv_bipush (pc := 1350) (v := nI 6) S.1 S.2.1 dL_law_1350 (by decide) ?_
  refine hv_icmp_ge (pc := 1352) (tgt := 1367) (a := 0 + 1 + 1 + 1) (b := 6) S.1 S.2.1 (by omega) (by omega) dL_law_1352 (by decide) (fun c9 => absurd c9 (by omega)) (fun c_23 => ?_)
  refine lv_aload (pc := 1355) S.1 S.2.1 dL_law_1355 (lv_at hl 10 rfl) ?_
  refine lv_iload (pc := 1357) S.1 S.2.1 dL_law_1357 (lv_at hl 0 rfl) ?_
  refine lv_iconst (pc := 1359) (v := nI 0) S.1 S.2.1 dL_law_1359 (by decide) ?_
  refine hv_iast (pc := 1360) S hK hH hS 1 (hY_21.a3) rfl (vp_in_nI (show 0 + 1 + 1 + 1 < 6 by omega) (by omega)) dL_law_1360 (fun H locs hH hS => ?_)
  rw [hv_upd (by omega)] at hH
  replace hH := nup (e := .inl (cA 1, 6, .inl (fun j => nI ((va_up ((va_up (va_up o 0 (va_up (o 0) 4 (sc 6 + D9))) 3 (va_up (va_up (va_up ((va_up o 0 (va_up (o 0) 4 (sc 6 + D9))) 3) 0 0) (0 + 1) 0) (0 + 1 + 1) 0)) 3) (0 + 1 + 1 + 1) 0) j)))) hH
  obtain ⟨φ_25, hφ_25, fa_φ_25, fr_φ_25, hH⟩ := hH
  have hY_24 := hY_21.s3 (0 + 1 + 1 + 1) 0
  rw [← hφ_25] at hY_24
  rw [upk] at hY_24
  refine lv_iinc (pc := 1361) (v := nI (0 + 1 + 1 + 1 + 1)) (lv' := [(15, .int (nI (0 + 1 + 1 + 1 + 1))), (7, .int (nI 1)), (14, .int (nI D9)), (13, .int (nI z9)), (12, .int (nI cn)), (11, .int (nI y9)), (10, .int (nI hw)), (9, .int (nI x9)), (8, .int (nI k)), (6, .ref (az 13)), (5, .ref (az 12)), (4, .ref (az 11)), (3, .ref (az 10)), (2, .ref (az 9)), (1, .ref (az 0)), (0, .ref b)]) S.1 S.2.1 dL_law_1361 hl (k := 0) rfl (by first | rfl | exact nI_add _ _) (by decide) rfl (fun ls hl => ?_)
  refine lv_goto (pc := 1364) (tgt := 1348) S.1 S.2.1 dL_law_1364 (by decide) ?_
  refine lv_iload (pc := 1348) S.1 S.2.1 dL_law_1348 (lv_at hl 0 rfl) ?_
  refine lv_bipush (pc := 1350) (v := nI 6) S.1 S.2.1 dL_law_1350 (by decide) ?_
  refine hv_icmp_ge (pc := 1352) (tgt := 1367) (a := 0 + 1 + 1 + 1 + 1) (b := 6) S.1 S.2.1 (by omega) (by omega) dL_law_1352 (by decide) (fun c9 => absurd c9 (by omega)) (fun c_26 => ?_)
  refine lv_aload (pc := 1355) S.1 S.2.1 dL_law_1355 (lv_at hl 10 rfl) ?_
  refine lv_iload (pc := 1357) S.1 S.2.1 dL_law_1357 (lv_at hl 0 rfl) ?_
  refine lv_iconst (pc := 1359) (v := nI 0) S.1 S.2.1 dL_law_1359 (by decide) ?_
  refine hv_iast (pc := 1360) S hK hH hS 1 (hY_24.a3) rfl (vp_in_nI (show 0 + 1 + 1 + 1 + 1 < 6 by omega) (by omega)) dL_law_1360 (fun H locs hH hS => ?_)
  rw [hv_upd (by omega)] at hH
  replace hH := nup (e := .inl (cA 1, 6, .inl (fun j => nI ((va_up ((va_up (va_up o 0 (va_up (o 0) 4 (sc 6 + D9))) 3 (va_up (va_up (va_up (va_up ((va_up o 0 (va_up (o 0) 4 (sc 6 + D9))) 3) 0 0) (0 + 1) 0) (0 + 1 + 1) 0) (0 + 1 + 1 + 1) 0)) 3) (0 + 1 + 1 + 1 + 1) 0) j)))) hH
  obtain ⟨φ_28, hφ_28, fa_φ_28, fr_φ_28, hH⟩ := hH
  have hY_27 := hY_24.s3 (0 + 1 + 1 + 1 + 1) 0
  rw [← hφ_28] at hY_27
  rw [upk] at hY_27
  refine lv_iinc (pc := 1361) (v := nI (0 + 1 + 1 + 1 + 1 + 1)) (lv' := [(15, .int (nI (0 + 1 + 1 + 1 + 1 + 1))), (7, .int (nI 1)), (14, .int (nI D9)), (13, .int (nI z9)), (12, .int (nI cn)), (11, .int (nI y9)), (10, .int (nI hw)), (9, .int (nI x9)), (8, .int (nI k)), (6, .ref (az 13)), (5, .ref (az 12)), (4, .ref (az 11)), (3, .ref (az 10)), (2, .ref (az 9)), (1, .ref (az 0)), (0, .ref b)]) S.1 S.2.1 dL_law_1361 hl (k := 0) rfl (by first | rfl | exact nI_add _ _) (by decide) rfl (fun ls hl => ?_)
  refine lv_goto (pc := 1364) (tgt := 1348) S.1 S.2.1 dL_law_1364 (by decide) ?_
  refine lv_iload (pc := 1348) S.1 S.2.1 dL_law_1348 (lv_at hl 0 rfl) ?_
  refine lv_bipush (pc := 1350) (v := nI 6) S.1 S.2.1 dL_law_1350 (by decide) ?_
  refine hv_icmp_ge (pc := 1352) (tgt := 1367) (a := 0 + 1 + 1 + 1 + 1 + 1) (b := 6) S.1 S.2.1 (by omega) (by omega) dL_law_1352 (by decide) (fun c9 => absurd c9 (by omega)) (fun c_29 => ?_)
  refine lv_aload (pc := 1355) S.1 S.2.1 dL_law_1355 (lv_at hl 10 rfl) ?_
  refine lv_iload (pc := 1357) S.1 S.2.1 dL_law_1357 (lv_at hl 0 rfl) ?_
  refine lv_iconst (pc := 1359) (v := nI 0) S.1 S.2.1 dL_law_1359 (by decide) ?_
  refine hv_iast (pc := 1360) S hK hH hS 1 (hY_27.a3) rfl (vp_in_nI (show 0 + 1 + 1 + 1 + 1 + 1 < 6 by omega) (by omega)) dL_law_1360 (fun H locs hH hS => ?_)
  rw [hv_upd (by omega)] at hH
  replace hH := nup (e := .inl (cA 1, 6, .inl (fun j => nI ((va_up ((va_up (va_up o 0 (va_up (o 0) 4 (sc 6 + D9))) 3 (va_up (va_up (va_up (va_up (va_up ((va_up o 0 (va_up (o 0) 4 (sc 6 + D9))) 3) 0 0) (0 + 1) 0) (0 + 1 + 1) 0) (0 + 1 + 1 + 1) 0) (0 + 1 + 1 + 1 + 1) 0)) 3) (0 + 1 + 1 + 1 + 1 + 1) 0) j)))) hH
  obtain ⟨φ_31, hφ_31, fa_φ_31, fr_φ_31, hH⟩ := hH
  have hY_30 := hY_27.s3 (0 + 1 + 1 + 1 + 1 + 1) 0
  rw [← hφ_31] at hY_30
  rw [upk] at hY_30
  refine lv_iinc (pc := 1361) (v := nI (0 + 1 + 1 + 1 + 1 + 1 + 1)) (lv' := [(15, .int (nI (0 + 1 + 1 + 1 + 1 + 1 + 1))), (7, .int (nI 1)), (14, .int (nI D9)), (13, .int (nI z9)), (12, .int (nI cn)), (11, .int (nI y9)), (10, .int (nI hw)), (9, .int (nI x9)), (8, .int (nI k)), (6, .ref (az 13)), (5, .ref (az 12)), (4, .ref (az 11)), (3, .ref (az 10)), (2, .ref (az 9)), (1, .ref (az 0)), (0, .ref b)]) S.1 S.2.1 dL_law_1361 hl (k := 0) rfl (by first | rfl | exact nI_add _ _) (by decide) rfl (fun ls hl => ?_)
  refine lv_goto (pc := 1364) (tgt := 1348) S.1 S.2.1 dL_law_1364 (by decide) ?_
  refine lv_iload (pc := 1348) S.1 S.2.1 dL_law_1348 (lv_at hl 0 rfl) ?_
  refine lv_bipush (pc := 1350) (v := nI 6) S.1 S.2.1 dL_law_1350 (by decide) ?_
  refine hv_icmp_ge (pc := 1352) (tgt := 1367) (a := 0 + 1 + 1 + 1 + 1 + 1 + 1) (b := 6) S.1 S.2.1 (by omega) (by omega) dL_law_1352 (by decide) (fun c_32 => ?_) (fun c9 => absurd c9 (by omega))
  have hg : ∀ i, (va_up (va_up (va_up (va_up (va_up (va_up ((va_up o 0 (va_up (o 0) 4 (sc 6 + D9))) 3) 0 0) (0 + 1) 0) (0 + 1 + 1) 0) (0 + 1 + 1 + 1) 0) (0 + 1 + 1 + 1 + 1) 0) (0 + 1 + 1 + 1 + 1 + 1) 0) i = if i < 6 then 0 else o 3 i := fun i => by
    by_cases hi : i < 6
    · rw [if_pos hi]
      rcases (show i = 0 ∨ i = 1 ∨ i = 2 ∨ i = 3 ∨ i = 4 ∨ i = 5 by omega) with rfl | rfl | rfl | rfl | rfl | rfl <;> rfl
    · rw [if_neg hi, va_up_ne _ _ (by omega), va_up_ne _ _ (by omega), va_up_ne _ _ (by omega), va_up_ne _ _ (by omega), va_up_ne _ _ (by omega), va_up_ne _ _ (by omega)]
      rfl
  refine lv_goto (pc := 1367) (tgt := 1489) S.1 S.2.1 dL_law_1367 (by decide) ?_
  refine W.widen (k := cells + 130) (n := slots + 800) (by omega) (by omega) ?_
  exact kk _ _ _ ⟨tk, tm, tg, va_up sc 6 (sc 6 + D9), _, w, ez, _, _, hY_30, hI.pass hbD9.2 hg, hT, h5, hH⟩ hS (lv_sub hl [5, 7, 8, 1, 9, 10, 11, 12, 13, 14, 15] rfl)
set_option maxHeartbeats 4000000 in
set_option maxRecDepth 100000 in
/-- straw is counted -/
theorem law_counted (l : Launch) (hfl : l.stackTraces = false) {p : Program} {e : Env} {s : State} {m : MethodId} {below : List Frame} {meth : Method} {c : Code} {b : Nat} {D : va_G} {cA : Nat → ClassId} {ga : Nat → Nat → Nat} {Q : State → Prop} (S : CallFix p m c code 19 s #[.ref b] Wc RL) (hK : va_K D vwCl (tysL cA) s) (hX : Sx ga (fun q => s.heap.size ≤ q) s s.heap) {k x9 hw y9 cn z9 cells slots : Nat} {H : Heap} {locs : List Loc} {ls : Array Slot} {az : Nat → Nat} {tk tm : Nat} {tg sc : Nat → Nat} {ar : Nat → Nat → Nat} {w : Nat → Nat → Nat → Nat} {ez o : Nat → Nat → Nat} {φ : hpM} (hk : k < 130) (hc : cells ≤ 500000) (hs : slots ≤ 5000000) (hz9 : z9 < 2 ^ 27) (hw34 : hw < 34)
    (hY : YW cA ga az tk tm tg sc ar w ez o φ) (hI : LI k sc ar w ez o) (hT : TY tk tg) (h5 : o 0 5 = tk) (hH : hp D (fun q => s.heap.size ≤ q) φ H) (hS : va_S (fun q => s.heap.size ≤ q) s.heap H locs) (hcn : 0 < sc 3 → cn < sc 3) (hl : lv_has ls 19 [(13, .int (nI z9)), (12, .int (nI cn)), (11, .int (nI y9)), (10, .int (nI hw)), (9, .int (nI x9)), (8, .int (nI k)), (7, .int (nI 1)), (6, .ref (az 13)), (5, .ref (az 12)), (4, .ref (az 11)), (3, .ref (az 10)), (2, .ref (az 9)), (1, .ref (az 0)), (0, .ref b)])
    (kk : ∀ (H1 : Heap) (locs1 : List Loc) (ls1 : Array Slot), WLD cA ga D (fun q => s.heap.size ≤ q) az (k + 1) H1 → va_S (fun q => s.heap.size ≤ q) s.heap H1 locs1 → lv_has ls1 19 [(11, .int (nI y9)), (9, .int (nI x9)), (8, .int (nI k)), (7, .int (nI 1)), (6, .ref (az 13)), (5, .ref (az 12)), (4, .ref (az 11)), (3, .ref (az 10)), (2, .ref (az 9)), (1, .ref (az 0)), (0, .ref b)] → W p l e room_1 s m #[.ref b] below meth c H1 locs1 (cells + 130) (slots + 800) Q (F0 m 1489 ls1 [])) (h : 27 ≤ hw ∧ hw < 30) :
    W p l e room_1 s m #[.ref b] below meth c H locs cells slots Q (F0 m 201 ls []) := by
  have hA : ∀ q, s.heap.size ≤ q → (fun q => s.heap.size ≤ q) q := fun _ h => h
  have hl1 := hI.l1
  have hm := hI.lm
  have h200 : k ≤ 200 := by omega
  have hk7 := hT.1
  refine lv_iload (pc := 201) S.1 S.2.1 dL_law_201 (lv_at hl 3 rfl) ?_
  refine lv_iconst (pc := 203) (v := nI 3) S.1 S.2.1 dL_law_203 (by decide) ?_
  refine hv_icmp_ge (pc := 204) (tgt := 389) (a := hw) (b := 3) S.1 S.2.1 (by omega) (by omega) dL_law_204 (by decide) (fun c_1 => ?_) (fun c9 => absurd c9 (by omega))
  refine lv_iload (pc := 389) S.1 S.2.1 dL_law_389 (lv_at hl 3 rfl) ?_
  refine lv_bipush (pc := 391) (v := nI 7) S.1 S.2.1 dL_law_391 (by decide) ?_
  refine hv_icmp_ge (pc := 393) (tgt := 546) (a := hw) (b := 7) S.1 S.2.1 (by omega) (by omega) dL_law_393 (by decide) (fun c_2 => ?_) (fun c9 => absurd c9 (by omega))
  refine lv_iload (pc := 546) S.1 S.2.1 dL_law_546 (lv_at hl 3 rfl) ?_
  refine lv_bipush (pc := 548) (v := nI 9) S.1 S.2.1 dL_law_548 (by decide) ?_
  refine hv_icmp_ge (pc := 550) (tgt := 610) (a := hw) (b := 9) S.1 S.2.1 (by omega) (by omega) dL_law_550 (by decide) (fun c_3 => ?_) (fun c9 => absurd c9 (by omega))
  refine lv_iload (pc := 610) S.1 S.2.1 dL_law_610 (lv_at hl 3 rfl) ?_
  refine lv_bipush (pc := 612) (v := nI 11) S.1 S.2.1 dL_law_612 (by decide) ?_
  refine hv_icmp_ge (pc := 614) (tgt := 726) (a := hw) (b := 11) S.1 S.2.1 (by omega) (by omega) dL_law_614 (by decide) (fun c_4 => ?_) (fun c9 => absurd c9 (by omega))
  refine lv_iload (pc := 726) S.1 S.2.1 dL_law_726 (lv_at hl 3 rfl) ?_
  refine lv_bipush (pc := 728) (v := nI 21) S.1 S.2.1 dL_law_728 (by decide) ?_
  refine hv_icmp_ge (pc := 730) (tgt := 908) (a := hw) (b := 21) S.1 S.2.1 (by omega) (by omega) dL_law_730 (by decide) (fun c_5 => ?_) (fun c9 => absurd c9 (by omega))
  refine lv_iload (pc := 908) S.1 S.2.1 dL_law_908 (lv_at hl 3 rfl) ?_
  refine lv_bipush (pc := 910) (v := nI 25) S.1 S.2.1 dL_law_910 (by decide) ?_
  refine hv_icmp_ge (pc := 912) (tgt := 1154) (a := hw) (b := 25) S.1 S.2.1 (by omega) (by omega) dL_law_912 (by decide) (fun c_6 => ?_) (fun c9 => absurd c9 (by omega))
  refine lv_iload (pc := 1154) S.1 S.2.1 dL_law_1154 (lv_at hl 3 rfl) ?_
  refine lv_bipush (pc := 1156) (v := nI 25) S.1 S.2.1 dL_law_1156 (by decide) ?_
  refine hv_icmp_ne (pc := 1158) (tgt := 1295) (a := hw) (b := 25) S.1 S.2.1 (by omega) (by omega) dL_law_1158 (by decide) (fun c_7 => ?_) (fun c9 => absurd c9 (by omega))
  refine lv_iload (pc := 1295) S.1 S.2.1 dL_law_1295 (lv_at hl 3 rfl) ?_
  refine lv_bipush (pc := 1297) (v := nI 26) S.1 S.2.1 dL_law_1297 (by decide) ?_
  refine hv_icmp_ne (pc := 1299) (tgt := 1370) (a := hw) (b := 26) S.1 S.2.1 (by omega) (by omega) dL_law_1299 (by decide) (fun c_8 => ?_) (fun c9 => absurd c9 (by omega))
  refine lv_iload (pc := 1370) S.1 S.2.1 dL_law_1370 (lv_at hl 3 rfl) ?_
  refine lv_bipush (pc := 1372) (v := nI 30) S.1 S.2.1 dL_law_1372 (by decide) ?_
  refine hv_icmp_ge (pc := 1374) (tgt := 1396) (a := hw) (b := 30) S.1 S.2.1 (by omega) (by omega) dL_law_1374 (by decide) (fun c9 => absurd c9 (by omega)) (fun c_9 => ?_)
  refine lv_iload (pc := 1377) S.1 S.2.1 dL_law_1377 (lv_at hl 3 rfl) ?_
  refine lv_bipush (pc := 1379) (v := nI 26) S.1 S.2.1 dL_law_1379 (by decide) ?_
  refine hv_icmp_le (pc := 1381) (tgt := 1396) (a := hw) (b := 26) S.1 S.2.1 (by omega) (by omega) dL_law_1381 (by decide) (fun c9 => absurd c9 (by omega)) (fun c_10 => ?_)
  refine lv_aload_n (pc := 1384) S.1 S.2.1 dL_law_1384 rfl (lv_at hl 12 rfl) ?_
  refine lv_aload_n (pc := 1385) S.1 S.2.1 dL_law_1385 rfl (lv_at hl 11 rfl) ?_
  refine lv_iload (pc := 1386) S.1 S.2.1 dL_law_1386 (lv_at hl 0 rfl) ?_
  refine hv_call (pc := 1388) (va_runS (As := [.ref (az 0), .ref (az 9), .int (nI z9)]) (rest := []) S (l_isCounted l hfl D cA ga φ H.size az k tk tm tg sc ar w ez o z9 hY hI hT h200 (by omega)) (va_cwS 3 S.2.2.2.2 (gS tw_904 tw_905 tw_0 tw_906) rfl rfl rfl (by decide +kernel) ⟨Nat.le_of_ble_eq_true rfl, Nat.le_of_ble_eq_true rfl⟩) (pre0_S hH hK hX hS hA) rfl rfl hl.1 rfl (lv_room (Nat.le_of_ble_eq_true rfl)) dL_law_1388 ⟨Nat.le_trans (show _ ≤ 600000 by omega) (Nat.le_of_ble_eq_true rfl), Nat.le_trans (show _ ≤ 7000000 by omega) (Nat.le_of_ble_eq_true rfl)⟩) hS (af_le hH hS hA) (fun v_11 φ_12 H locs hw_v_11 hH hS => ?_)
  obtain ⟨rfl, km, kg, hY2⟩ := hw_v_11
  refine lv_istore (pc := 1391) (lv' := [(7, .int (nI 1)), (13, .int (nI z9)), (12, .int (nI cn)), (11, .int (nI y9)), (10, .int (nI hw)), (9, .int (nI x9)), (8, .int (nI k)), (6, .ref (az 13)), (5, .ref (az 12)), (4, .ref (az 11)), (3, .ref (az 10)), (2, .ref (az 9)), (1, .ref (az 0)), (0, .ref b)]) S.1 S.2.1 dL_law_1391 hl (by decide) rfl (fun ls hl => ?_)
  refine lv_goto (pc := 1393) (tgt := 1489) S.1 S.2.1 dL_law_1393 (by decide) ?_
  refine W.widen (k := cells + 130) (n := slots + 800) (by omega) (by omega) ?_
  exact kk _ _ _ ⟨0, km, kg, sc, ar, w, ez, _, _, hY2, (hI.m5 0).up, TY.nil _, rfl, hH⟩ hS (lv_sub hl [3, 5, 6, 0, 7, 8, 9, 10, 11, 12, 13] rfl)
set_option maxHeartbeats 4000000 in
set_option maxRecDepth 100000 in
/-- a radius is measured -/
theorem law_measure (l : Launch) (hfl : l.stackTraces = false) {p : Program} {e : Env} {s : State} {m : MethodId} {below : List Frame} {meth : Method} {c : Code} {b : Nat} {D : va_G} {cA : Nat → ClassId} {ga : Nat → Nat → Nat} {Q : State → Prop} (S : CallFix p m c code 19 s #[.ref b] Wc RL) (hK : va_K D vwCl (tysL cA) s) (hX : Sx ga (fun q => s.heap.size ≤ q) s s.heap) {k x9 hw y9 cn z9 cells slots : Nat} {H : Heap} {locs : List Loc} {ls : Array Slot} {az : Nat → Nat} {tk tm : Nat} {tg sc : Nat → Nat} {ar : Nat → Nat → Nat} {w : Nat → Nat → Nat → Nat} {ez o : Nat → Nat → Nat} {φ : hpM} (hk : k < 130) (hc : cells ≤ 500000) (hs : slots ≤ 5000000) (hz9 : z9 < 2 ^ 27) (hw34 : hw < 34)
    (hY : YW cA ga az tk tm tg sc ar w ez o φ) (hI : LI k sc ar w ez o) (hT : TY tk tg) (h5 : o 0 5 = tk) (hH : hp D (fun q => s.heap.size ≤ q) φ H) (hS : va_S (fun q => s.heap.size ≤ q) s.heap H locs) (hcn : 0 < sc 3 → cn < sc 3) (hl : lv_has ls 19 [(13, .int (nI z9)), (12, .int (nI cn)), (11, .int (nI y9)), (10, .int (nI hw)), (9, .int (nI x9)), (8, .int (nI k)), (7, .int (nI 1)), (6, .ref (az 13)), (5, .ref (az 12)), (4, .ref (az 11)), (3, .ref (az 10)), (2, .ref (az 9)), (1, .ref (az 0)), (0, .ref b)])
    (kk : ∀ (H1 : Heap) (locs1 : List Loc) (ls1 : Array Slot), WLD cA ga D (fun q => s.heap.size ≤ q) az (k + 1) H1 → va_S (fun q => s.heap.size ≤ q) s.heap H1 locs1 → lv_has ls1 19 [(11, .int (nI y9)), (9, .int (nI x9)), (8, .int (nI k)), (7, .int (nI 1)), (6, .ref (az 13)), (5, .ref (az 12)), (4, .ref (az 11)), (3, .ref (az 10)), (2, .ref (az 9)), (1, .ref (az 0)), (0, .ref b)] → W p l e room_1 s m #[.ref b] below meth c H1 locs1 (cells + 130) (slots + 800) Q (F0 m 1489 ls1 [])) (h : 30 ≤ hw) :
    W p l e room_1 s m #[.ref b] below meth c H locs cells slots Q (F0 m 201 ls []) := by
  have hA : ∀ q, s.heap.size ≤ q → (fun q => s.heap.size ≤ q) q := fun _ h => h
  have hl1 := hI.l1
  have hm := hI.lm
  have h200 : k ≤ 200 := by omega
  have hk7 := hT.1
  refine lv_iload (pc := 201) S.1 S.2.1 dL_law_201 (lv_at hl 3 rfl) ?_
  refine lv_iconst (pc := 203) (v := nI 3) S.1 S.2.1 dL_law_203 (by decide) ?_
  refine hv_icmp_ge (pc := 204) (tgt := 389) (a := hw) (b := 3) S.1 S.2.1 (by omega) (by omega) dL_law_204 (by decide) (fun c_1 => ?_) (fun c9 => absurd c9 (by omega))
  refine lv_iload (pc := 389) S.1 S.2.1 dL_law_389 (lv_at hl 3 rfl) ?_
  refine lv_bipush (pc := 391) (v := nI 7) S.1 S.2.1 dL_law_391 (by decide) ?_
  refine hv_icmp_ge (pc := 393) (tgt := 546) (a := hw) (b := 7) S.1 S.2.1 (by omega) (by omega) dL_law_393 (by decide) (fun c_2 => ?_) (fun c9 => absurd c9 (by omega))
  refine lv_iload (pc := 546) S.1 S.2.1 dL_law_546 (lv_at hl 3 rfl) ?_
  refine lv_bipush (pc := 548) (v := nI 9) S.1 S.2.1 dL_law_548 (by decide) ?_
  refine hv_icmp_ge (pc := 550) (tgt := 610) (a := hw) (b := 9) S.1 S.2.1 (by omega) (by omega) dL_law_550 (by decide) (fun c_3 => ?_) (fun c9 => absurd c9 (by omega))
  refine lv_iload (pc := 610) S.1 S.2.1 dL_law_610 (lv_at hl 3 rfl) ?_
  refine lv_bipush (pc := 612) (v := nI 11) S.1 S.2.1 dL_law_612 (by decide) ?_
  refine hv_icmp_ge (pc := 614) (tgt := 726) (a := hw) (b := 11) S.1 S.2.1 (by omega) (by omega) dL_law_614 (by decide) (fun c_4 => ?_) (fun c9 => absurd c9 (by omega))
  refine lv_iload (pc := 726) S.1 S.2.1 dL_law_726 (lv_at hl 3 rfl) ?_
  refine lv_bipush (pc := 728) (v := nI 21) S.1 S.2.1 dL_law_728 (by decide) ?_
  refine hv_icmp_ge (pc := 730) (tgt := 908) (a := hw) (b := 21) S.1 S.2.1 (by omega) (by omega) dL_law_730 (by decide) (fun c_5 => ?_) (fun c9 => absurd c9 (by omega))
  refine lv_iload (pc := 908) S.1 S.2.1 dL_law_908 (lv_at hl 3 rfl) ?_
  refine lv_bipush (pc := 910) (v := nI 25) S.1 S.2.1 dL_law_910 (by decide) ?_
  refine hv_icmp_ge (pc := 912) (tgt := 1154) (a := hw) (b := 25) S.1 S.2.1 (by omega) (by omega) dL_law_912 (by decide) (fun c_6 => ?_) (fun c9 => absurd c9 (by omega))
  refine lv_iload (pc := 1154) S.1 S.2.1 dL_law_1154 (lv_at hl 3 rfl) ?_
  refine lv_bipush (pc := 1156) (v := nI 25) S.1 S.2.1 dL_law_1156 (by decide) ?_
  refine hv_icmp_ne (pc := 1158) (tgt := 1295) (a := hw) (b := 25) S.1 S.2.1 (by omega) (by omega) dL_law_1158 (by decide) (fun c_7 => ?_) (fun c9 => absurd c9 (by omega))
  refine lv_iload (pc := 1295) S.1 S.2.1 dL_law_1295 (lv_at hl 3 rfl) ?_
  refine lv_bipush (pc := 1297) (v := nI 26) S.1 S.2.1 dL_law_1297 (by decide) ?_
  refine hv_icmp_ne (pc := 1299) (tgt := 1370) (a := hw) (b := 26) S.1 S.2.1 (by omega) (by omega) dL_law_1299 (by decide) (fun c_8 => ?_) (fun c9 => absurd c9 (by omega))
  refine lv_iload (pc := 1370) S.1 S.2.1 dL_law_1370 (lv_at hl 3 rfl) ?_
  refine lv_bipush (pc := 1372) (v := nI 30) S.1 S.2.1 dL_law_1372 (by decide) ?_
  refine hv_icmp_ge (pc := 1374) (tgt := 1396) (a := hw) (b := 30) S.1 S.2.1 (by omega) (by omega) dL_law_1374 (by decide) (fun c_9 => ?_) (fun c9 => absurd c9 (by omega))
  refine lv_iload (pc := 1396) S.1 S.2.1 dL_law_1396 (lv_at hl 3 rfl) ?_
  refine lv_bipush (pc := 1398) (v := nI 29) S.1 S.2.1 dL_law_1398 (by decide) ?_
  refine hv_icmp_le (pc := 1400) (tgt := 1489) (a := hw) (b := 29) S.1 S.2.1 (by omega) (by omega) dL_law_1400 (by decide) (fun c9 => absurd c9 (by omega)) (fun c_10 => ?_)
  refine lv_aload (pc := 1403) S.1 S.2.1 dL_law_1403 (lv_at hl 7 rfl) ?_
  refine lv_bipush (pc := 1405) (v := nI 8) S.1 S.2.1 dL_law_1405 (by decide) ?_
  refine lv_dup2_11 (pc := 1407) S.1 S.2.1 dL_law_1407 rfl rfl ?_
  refine hv_iald (pc := 1408) S hK hH 1 (hY.a4) rfl (vp_in_nI (show 8 < 9 by omega) (by omega)) dL_law_1408 ?_
  refine hv_ti (y := nI ((o 4) 8)) (hv_ld (by omega)) ?_
  refine hv_ti (y := nI (o 4 8)) (rfl) ?_
  refine lv_iload (pc := 1409) S.1 S.2.1 dL_law_1409 (lv_at hl 0 rfl) ?_
  refine lv_bipush (pc := 1411) (v := nI 8) S.1 S.2.1 dL_law_1411 (by decide) ?_
  refine lv_idiv (pc := 1413) S.1 S.2.1 dL_law_1413 (by decide) ?_
  refine hv_ti (y := nI (z9 / 8)) (pk_div (by omega) (by omega) (by omega)) ?_
  refine lv_sipush (pc := 1414) (v := nI 201) S.1 S.2.1 dL_law_1414 (by decide) ?_
  refine lv_irem (pc := 1417) S.1 S.2.1 dL_law_1417 (by decide) ?_
  refine hv_ti (y := nI ((z9 / 8) % 201)) (pk_rem (by omega) (by omega) (by omega)) ?_
  obtain ⟨A9, hA9⟩ : ∃ A9 : Nat, A9 = (z9 / 8) % 201 := ⟨_, rfl⟩
  refine hv_ti (y := nI A9) (by rw [hA9]) ?_
  have hbA9 : A9 ≤ 200 := by omega
  refine lv_aload (pc := 1418) S.1 S.2.1 dL_law_1418 (lv_at hl 7 rfl) ?_
  refine lv_iload (pc := 1420) S.1 S.2.1 dL_law_1420 (lv_at hl 0 rfl) ?_
  refine lv_bipush (pc := 1422) (v := nI 8) S.1 S.2.1 dL_law_1422 (by decide) ?_
  refine lv_irem (pc := 1424) S.1 S.2.1 dL_law_1424 (by decide) ?_
  refine hv_ti (y := nI (z9 % 8)) (pk_rem (by omega) (by omega) (by omega)) ?_
  obtain ⟨J9, hJ9⟩ : ∃ J9 : Nat, J9 = z9 % 8 := ⟨_, rfl⟩
  refine hv_ti (y := nI J9) (by rw [hJ9]) ?_
  have hbJ9 : J9 < 8 := by omega
  have hr8 := hI.r8
  have hrj : o 4 J9 ≤ o 4 8 := by rw [hI.lr.2, hI.lr.1 J9 hbJ9]; exact smN_one hbJ9
  have hrj2 : o 4 J9 ≤ 200 := by rw [hI.lr.1 J9 hbJ9]; exact hI.l8 J9
  refine hv_iald (pc := 1425) S hK hH 1 (hY.a4) rfl (vp_in_nI (show J9 < 9 by omega) (by omega)) dL_law_1425 ?_
  refine hv_ti (y := nI ((o 4) J9)) (hv_ld (by omega)) ?_
  refine hv_ti (y := nI (o 4 J9)) (rfl) ?_
  refine lv_isub (pc := 1426) S.1 S.2.1 dL_law_1426 ?_
  refine lv_iadd (pc := 1427) S.1 S.2.1 dL_law_1427 ?_
  refine hv_ti (y := nI (o 4 8 + A9 - o 4 J9)) (adsub hrj) ?_
  refine hv_iast (pc := 1428) S hK hH hS 1 (hY.a4) rfl (vp_in_nI (show 8 < 9 by omega) (by omega)) dL_law_1428 (fun H locs hH hS => ?_)
  rw [hv_upd (by omega)] at hH
  replace hH := nup (e := .inl (cA 1, 9, .inl (fun j => nI ((va_up (o 4) 8 (o 4 8 + A9 - o 4 J9)) j)))) hH
  obtain ⟨φ_12, hφ_12, fa_φ_12, fr_φ_12, hH⟩ := hH
  have hY_11 := hY.s4 8 (o 4 8 + A9 - o 4 J9)
  rw [← hφ_12] at hY_11
  refine lv_aload (pc := 1429) S.1 S.2.1 dL_law_1429 (lv_at hl 7 rfl) ?_
  refine lv_iload (pc := 1431) S.1 S.2.1 dL_law_1431 (lv_at hl 0 rfl) ?_
  refine lv_bipush (pc := 1433) (v := nI 8) S.1 S.2.1 dL_law_1433 (by decide) ?_
  refine lv_irem (pc := 1435) S.1 S.2.1 dL_law_1435 (by decide) ?_
  refine hv_ti (y := nI (z9 % 8)) (pk_rem (by omega) (by omega) (by omega)) ?_
  refine hv_ti (y := nI J9) (by rw [hJ9]) ?_
  refine lv_iload (pc := 1436) S.1 S.2.1 dL_law_1436 (lv_at hl 0 rfl) ?_
  refine lv_bipush (pc := 1438) (v := nI 8) S.1 S.2.1 dL_law_1438 (by decide) ?_
  refine lv_idiv (pc := 1440) S.1 S.2.1 dL_law_1440 (by decide) ?_
  refine hv_ti (y := nI (z9 / 8)) (pk_div (by omega) (by omega) (by omega)) ?_
  refine lv_sipush (pc := 1441) (v := nI 201) S.1 S.2.1 dL_law_1441 (by decide) ?_
  refine lv_irem (pc := 1444) S.1 S.2.1 dL_law_1444 (by decide) ?_
  refine hv_ti (y := nI ((z9 / 8) % 201)) (pk_rem (by omega) (by omega) (by omega)) ?_
  refine hv_ti (y := nI A9) (by rw [hA9]) ?_
  refine hv_iast (pc := 1445) S hK hH hS 1 (hY_11.a4) rfl (vp_in_nI (show J9 < 9 by omega) (by omega)) dL_law_1445 (fun H locs hH hS => ?_)
  rw [hv_upd (by omega)] at hH
  replace hH := nup (e := .inl (cA 1, 9, .inl (fun j => nI ((va_up ((va_up o 4 (va_up (o 4) 8 (o 4 8 + A9 - o 4 J9))) 4) J9 A9) j)))) hH
  obtain ⟨φ_14, hφ_14, fa_φ_14, fr_φ_14, hH⟩ := hH
  have hY_13 := hY_11.s4 J9 A9
  rw [← hφ_14] at hY_13
  rw [upk] at hY_13
  refine lv_aload_n (pc := 1446) S.1 S.2.1 dL_law_1446 rfl (lv_at hl 12 rfl) ?_
  refine lv_bipush (pc := 1447) (v := nI 15) S.1 S.2.1 dL_law_1447 (by decide) ?_
  refine lv_iload (pc := 1449) S.1 S.2.1 dL_law_1449 (lv_at hl 0 rfl) ?_
  refine lv_bipush (pc := 1451) (v := nI 8) S.1 S.2.1 dL_law_1451 (by decide) ?_
  refine lv_irem (pc := 1453) S.1 S.2.1 dL_law_1453 (by decide) ?_
  refine hv_ti (y := nI (z9 % 8)) (pk_rem (by omega) (by omega) (by omega)) ?_
  refine hv_ti (y := nI J9) (by rw [hJ9]) ?_
  refine lv_aload (pc := 1454) S.1 S.2.1 dL_law_1454 (lv_at hl 7 rfl) ?_
  refine lv_iload (pc := 1456) S.1 S.2.1 dL_law_1456 (lv_at hl 0 rfl) ?_
  refine lv_bipush (pc := 1458) (v := nI 8) S.1 S.2.1 dL_law_1458 (by decide) ?_
  refine lv_irem (pc := 1460) S.1 S.2.1 dL_law_1460 (by decide) ?_
  refine hv_ti (y := nI (z9 % 8)) (pk_rem (by omega) (by omega) (by omega)) ?_
  refine hv_ti (y := nI J9) (by rw [hJ9]) ?_
  refine hv_iald (pc := 1461) S hK hH 1 (hY_13.a4) rfl (vp_in_nI (show J9 < 9 by omega) (by omega)) dL_law_1461 ?_
  refine hv_ti (y := nI (((va_up o 4 (va_up (va_up (o 4) 8 (o 4 8 + A9 - o 4 J9)) J9 A9)) 4) J9)) (hv_ld (by omega)) ?_
  refine hv_ti (y := nI A9) (congrArg nI (va_up_self (va_up (o 4) 8 (o 4 8 + A9 - o 4 J9)) J9 A9)) ?_
  refine lv_iconst (pc := 1462) (v := nI 0) S.1 S.2.1 dL_law_1462 (by decide) ?_
  refine hv_call (pc := 1463) (vx_runSW (As := [.ref (az 0), .int (nI 15), .int (nI J9), .int (nI A9), .int (nI 0)]) (rest := []) S (as_measure l hfl D cA ga φ_14 H.size az k tk tm tg sc ar w ez (va_up o 4 (va_up (va_up (o 4) 8 (o 4 8 + A9 - o 4 J9)) J9 A9)) o J9 A9 hY_13 hI hT h200 hbJ9 hbA9) (vx_cwSW 5 S.2.2.2.2 (gSW tw_261 tw_262 tw_0 tw_263) rfl rfl rfl (by decide +kernel) ⟨Nat.le_of_ble_eq_true rfl, Nat.le_of_ble_eq_true rfl⟩) (pre0_S hH hK hX hS hA) rfl rfl hl.1 rfl (lv_room (Nat.le_of_ble_eq_true rfl)) dL_law_1463 ⟨Nat.le_trans (show _ ≤ 600000 by omega) (Nat.le_of_ble_eq_true rfl), Nat.le_trans (show _ ≤ 7000000 by omega) (Nat.le_of_ble_eq_true rfl)⟩) hS (af_le hH hS hA) (fun v_15 φ_16 H locs hw_v_15 hH hS => ?_)
  obtain ⟨rfl, hY2⟩ := hw_v_15
  have hS9 : smN (va_up (ar 14) J9 A9) 8 = o 4 8 + A9 - o 4 J9 := by have h9 := smN_up (f := ar 14) (k := J9) (v := A9) 8 hbJ9; rw [hI.lr.2, hI.lr.1 J9 hbJ9]; omega
  refine hv_ti (y := nI ((o 4 8 + A9 - o 4 J9) * 785 / 1000)) (by rw [hS9]) ?_
  refine lv_aload (pc := 1466) S.1 S.2.1 dL_law_1466 (lv_at hl 7 rfl) ?_
  refine lv_bipush (pc := 1468) (v := nI 8) S.1 S.2.1 dL_law_1468 (by decide) ?_
  refine hv_iald (pc := 1470) S hK hH 1 (hY2.a4) rfl (vp_in_nI (show 8 < 9 by omega) (by omega)) dL_law_1470 ?_
  refine hv_ti (y := nI (((va_up o 4 (va_up (va_up (o 4) 8 (o 4 8 + A9 - o 4 J9)) J9 A9)) 4) 8)) (hv_ld (by omega)) ?_
  refine hv_ti (y := nI (o 4 8 + A9 - o 4 J9)) (congrArg nI ((va_up_ne (va_up (o 4) 8 (o 4 8 + A9 - o 4 J9)) A9 (show 8 ≠ J9 by omega)).trans (va_up_self (o 4) 8 (o 4 8 + A9 - o 4 J9)))) ?_
  refine lv_sipush (pc := 1471) (v := nI 785) S.1 S.2.1 dL_law_1471 (by decide) ?_
  refine lv_imul (pc := 1474) S.1 S.2.1 dL_law_1474 ?_
  refine hv_ti (y := nI ((o 4 8 + A9 - o 4 J9) * 785)) (pk_mul _ _) ?_
  refine lv_sipush (pc := 1475) (v := nI 1000) S.1 S.2.1 dL_law_1475 (by decide) ?_
  refine lv_idiv (pc := 1478) S.1 S.2.1 dL_law_1478 (by decide) ?_
  refine hv_ti (y := nI (((o 4 8 + A9 - o 4 J9) * 785) / 1000)) (pk_div (by omega) (by omega) (by omega)) ?_
  refine hv_icmp_ne (pc := 1479) (tgt := 1486) (a := (o 4 8 + A9 - o 4 J9) * 785 / 1000) (b := ((o 4 8 + A9 - o 4 J9) * 785) / 1000) S.1 S.2.1 (by omega) (by omega) dL_law_1479 (by decide) (fun c9 => absurd c9 (by omega)) (fun c_17 => ?_)
  refine lv_iconst (pc := 1482) (v := nI 1) S.1 S.2.1 dL_law_1482 (by decide) ?_
  refine lv_goto (pc := 1483) (tgt := 1487) S.1 S.2.1 dL_law_1483 (by decide) ?_
  refine lv_istore (pc := 1487) (lv' := [(7, .int (nI 1)), (13, .int (nI z9)), (12, .int (nI cn)), (11, .int (nI y9)), (10, .int (nI hw)), (9, .int (nI x9)), (8, .int (nI k)), (6, .ref (az 13)), (5, .ref (az 12)), (4, .ref (az 11)), (3, .ref (az 10)), (2, .ref (az 9)), (1, .ref (az 0)), (0, .ref b)]) S.1 S.2.1 dL_law_1487 hl (by decide) rfl (fun ls hl => ?_)
  refine W.widen (k := cells + 130) (n := slots + 800) (by omega) (by omega) ?_
  exact kk _ _ _ ⟨tk, tm, tg, sc, _, w, ez, va_up o 4 (va_up (va_up (o 4) 8 (o 4 8 + A9 - o 4 J9)) J9 A9), _, hY2, hI.measure hbJ9 hbA9, hT, h5, hH⟩ hS (lv_sub hl [3, 5, 6, 0, 7, 8, 9, 10, 11, 12, 13] rfl)
set_option maxHeartbeats 4000000 in
set_option maxRecDepth 100000 in
/-- nothing is done -/
theorem law_none (l : Launch) (hfl : l.stackTraces = false) {p : Program} {e : Env} {s : State} {m : MethodId} {below : List Frame} {meth : Method} {c : Code} {b : Nat} {D : va_G} {cA : Nat → ClassId} {ga : Nat → Nat → Nat} {Q : State → Prop} (S : CallFix p m c code 19 s #[.ref b] Wc RL) (hK : va_K D vwCl (tysL cA) s) (hX : Sx ga (fun q => s.heap.size ≤ q) s s.heap) {k x9 hw y9 cn z9 cells slots : Nat} {H : Heap} {locs : List Loc} {ls : Array Slot} {az : Nat → Nat} {tk tm : Nat} {tg sc : Nat → Nat} {ar : Nat → Nat → Nat} {w : Nat → Nat → Nat → Nat} {ez o : Nat → Nat → Nat} {φ : hpM} (hk : k < 130) (hc : cells ≤ 500000) (hs : slots ≤ 5000000) (hz9 : z9 < 2 ^ 27) (hw34 : hw < 34)
    (hY : YW cA ga az tk tm tg sc ar w ez o φ) (hI : LI k sc ar w ez o) (hT : TY tk tg) (h5 : o 0 5 = tk) (hH : hp D (fun q => s.heap.size ≤ q) φ H) (hS : va_S (fun q => s.heap.size ≤ q) s.heap H locs) (hcn : 0 < sc 3 → cn < sc 3) (hl : lv_has ls 19 [(13, .int (nI z9)), (12, .int (nI cn)), (11, .int (nI y9)), (10, .int (nI hw)), (9, .int (nI x9)), (8, .int (nI k)), (7, .int (nI 1)), (6, .ref (az 13)), (5, .ref (az 12)), (4, .ref (az 11)), (3, .ref (az 10)), (2, .ref (az 9)), (1, .ref (az 0)), (0, .ref b)])
    (kk : ∀ (H1 : Heap) (locs1 : List Loc) (ls1 : Array Slot), WLD cA ga D (fun q => s.heap.size ≤ q) az (k + 1) H1 → va_S (fun q => s.heap.size ≤ q) s.heap H1 locs1 → lv_has ls1 19 [(11, .int (nI y9)), (9, .int (nI x9)), (8, .int (nI k)), (7, .int (nI 1)), (6, .ref (az 13)), (5, .ref (az 12)), (4, .ref (az 11)), (3, .ref (az 10)), (2, .ref (az 9)), (1, .ref (az 0)), (0, .ref b)] → W p l e room_1 s m #[.ref b] below meth c H1 locs1 (cells + 130) (slots + 800) Q (F0 m 1489 ls1 [])) (h : (11 ≤ hw ∧ hw < 21 ∧ (sc 3 = 0 ∨ sc 5 = 0)) ∨ (21 ≤ hw ∧ hw < 25 ∧ (sc 3 = 0 ∨ sc 4 = 0)) ∨ (hw = 25 ∧ sc 3 = 0)) :
    W p l e room_1 s m #[.ref b] below meth c H locs cells slots Q (F0 m 201 ls []) := by
  have hA : ∀ q, s.heap.size ≤ q → (fun q => s.heap.size ≤ q) q := fun _ h => h
  have hl1 := hI.l1
  have hm := hI.lm
  have h200 : k ≤ 200 := by omega
  have hk7 := hT.1
  refine lv_iload (pc := 201) S.1 S.2.1 dL_law_201 (lv_at hl 3 rfl) ?_
  refine lv_iconst (pc := 203) (v := nI 3) S.1 S.2.1 dL_law_203 (by decide) ?_
  refine hv_icmp_ge (pc := 204) (tgt := 389) (a := hw) (b := 3) S.1 S.2.1 (by omega) (by omega) dL_law_204 (by decide) (fun c_1 => ?_) (fun c9 => absurd c9 (by omega))
  refine lv_iload (pc := 389) S.1 S.2.1 dL_law_389 (lv_at hl 3 rfl) ?_
  refine lv_bipush (pc := 391) (v := nI 7) S.1 S.2.1 dL_law_391 (by decide) ?_
  refine hv_icmp_ge (pc := 393) (tgt := 546) (a := hw) (b := 7) S.1 S.2.1 (by omega) (by omega) dL_law_393 (by decide) (fun c_2 => ?_) (fun c9 => absurd c9 (by omega))
  refine lv_iload (pc := 546) S.1 S.2.1 dL_law_546 (lv_at hl 3 rfl) ?_
  refine lv_bipush (pc := 548) (v := nI 9) S.1 S.2.1 dL_law_548 (by decide) ?_
  refine hv_icmp_ge (pc := 550) (tgt := 610) (a := hw) (b := 9) S.1 S.2.1 (by omega) (by omega) dL_law_550 (by decide) (fun c_3 => ?_) (fun c9 => absurd c9 (by omega))
  refine lv_iload (pc := 610) S.1 S.2.1 dL_law_610 (lv_at hl 3 rfl) ?_
  refine lv_bipush (pc := 612) (v := nI 11) S.1 S.2.1 dL_law_612 (by decide) ?_
  refine hv_icmp_ge (pc := 614) (tgt := 726) (a := hw) (b := 11) S.1 S.2.1 (by omega) (by omega) dL_law_614 (by decide) (fun c_4 => ?_) (fun c9 => absurd c9 (by omega))
  refine lv_iload (pc := 726) S.1 S.2.1 dL_law_726 (lv_at hl 3 rfl) ?_
  refine lv_bipush (pc := 728) (v := nI 21) S.1 S.2.1 dL_law_728 (by decide) ?_
  by_cases h21 : hw < 21
  · skip
    refine hv_icmp_ge (pc := 730) (tgt := 908) (a := hw) (b := 21) S.1 S.2.1 (by omega) (by omega) dL_law_730 (by decide) (fun c9 => absurd c9 (by omega)) (fun c_5 => ?_)
    refine lv_aload_n (pc := 733) S.1 S.2.1 dL_law_733 rfl (lv_at hl 11 rfl) ?_
    refine lv_iconst (pc := 734) (v := nI 1) S.1 S.2.1 dL_law_734 (by decide) ?_
    refine hv_iald (pc := 735) S hK hH 1 (hY.a0) rfl (vp_in_nI (show 1 < 6 by omega) (by omega)) dL_law_735 ?_
    refine hv_ti (y := nI ((o 0) 1)) (hv_ld (by omega)) ?_
    refine hv_ti (y := nI (sc 3)) (congrArg nI hm.2.1) ?_
    by_cases h3 : sc 3 = 0
    · skip
      refine hv_if_le (pc := 736) (tgt := 908) (a := sc 3) S.1 S.2.1 (by omega) dL_law_736 (by decide) (fun c_6 => ?_) (fun c9 => absurd c9 (by omega))
      refine lv_iload (pc := 908) S.1 S.2.1 dL_law_908 (lv_at hl 3 rfl) ?_
      refine lv_bipush (pc := 910) (v := nI 25) S.1 S.2.1 dL_law_910 (by decide) ?_
      refine hv_icmp_ge (pc := 912) (tgt := 1154) (a := hw) (b := 25) S.1 S.2.1 (by omega) (by omega) dL_law_912 (by decide) (fun c9 => absurd c9 (by omega)) (fun c_7 => ?_)
      refine lv_iload (pc := 915) S.1 S.2.1 dL_law_915 (lv_at hl 3 rfl) ?_
      refine lv_bipush (pc := 917) (v := nI 20) S.1 S.2.1 dL_law_917 (by decide) ?_
      refine hv_icmp_le (pc := 919) (tgt := 1154) (a := hw) (b := 20) S.1 S.2.1 (by omega) (by omega) dL_law_919 (by decide) (fun c_8 => ?_) (fun c9 => absurd c9 (by omega))
      refine lv_iload (pc := 1154) S.1 S.2.1 dL_law_1154 (lv_at hl 3 rfl) ?_
      refine lv_bipush (pc := 1156) (v := nI 25) S.1 S.2.1 dL_law_1156 (by decide) ?_
      refine hv_icmp_ne (pc := 1158) (tgt := 1295) (a := hw) (b := 25) S.1 S.2.1 (by omega) (by omega) dL_law_1158 (by decide) (fun c_9 => ?_) (fun c9 => absurd c9 (by omega))
      refine lv_iload (pc := 1295) S.1 S.2.1 dL_law_1295 (lv_at hl 3 rfl) ?_
      refine lv_bipush (pc := 1297) (v := nI 26) S.1 S.2.1 dL_law_1297 (by decide) ?_
      refine hv_icmp_ne (pc := 1299) (tgt := 1370) (a := hw) (b := 26) S.1 S.2.1 (by omega) (by omega) dL_law_1299 (by decide) (fun c_10 => ?_) (fun c9 => absurd c9 (by omega))
      refine lv_iload (pc := 1370) S.1 S.2.1 dL_law_1370 (lv_at hl 3 rfl) ?_
      refine lv_bipush (pc := 1372) (v := nI 30) S.1 S.2.1 dL_law_1372 (by decide) ?_
      refine hv_icmp_ge (pc := 1374) (tgt := 1396) (a := hw) (b := 30) S.1 S.2.1 (by omega) (by omega) dL_law_1374 (by decide) (fun c9 => absurd c9 (by omega)) (fun c_11 => ?_)
      refine lv_iload (pc := 1377) S.1 S.2.1 dL_law_1377 (lv_at hl 3 rfl) ?_
      refine lv_bipush (pc := 1379) (v := nI 26) S.1 S.2.1 dL_law_1379 (by decide) ?_
      refine hv_icmp_le (pc := 1381) (tgt := 1396) (a := hw) (b := 26) S.1 S.2.1 (by omega) (by omega) dL_law_1381 (by decide) (fun c_12 => ?_) (fun c9 => absurd c9 (by omega))
      refine lv_iload (pc := 1396) S.1 S.2.1 dL_law_1396 (lv_at hl 3 rfl) ?_
      refine lv_bipush (pc := 1398) (v := nI 29) S.1 S.2.1 dL_law_1398 (by decide) ?_
      refine hv_icmp_le (pc := 1400) (tgt := 1489) (a := hw) (b := 29) S.1 S.2.1 (by omega) (by omega) dL_law_1400 (by decide) (fun c_13 => ?_) (fun c9 => absurd c9 (by omega))
      refine W.widen (k := cells + 130) (n := slots + 800) (by omega) (by omega) ?_
      exact kk _ _ _ ⟨tk, tm, tg, sc, ar, w, ez, o, _, hY, hI.up, hT, h5, hH⟩ hS (lv_sub hl [2, 4, 5, 6, 7, 8, 9, 10, 11, 12, 13] rfl)
    · skip
      refine hv_if_le (pc := 736) (tgt := 908) (a := sc 3) S.1 S.2.1 (by omega) dL_law_736 (by decide) (fun c9 => absurd c9 (by omega)) (fun c_14 => ?_)
      refine lv_aload_n (pc := 739) S.1 S.2.1 dL_law_739 rfl (lv_at hl 11 rfl) ?_
      refine lv_iconst (pc := 740) (v := nI 3) S.1 S.2.1 dL_law_740 (by decide) ?_
      refine hv_iald (pc := 741) S hK hH 1 (hY.a0) rfl (vp_in_nI (show 3 < 6 by omega) (by omega)) dL_law_741 ?_
      refine hv_ti (y := nI ((o 0) 3)) (hv_ld (by omega)) ?_
      refine hv_ti (y := nI (sc 5)) (congrArg nI hm.2.2.2.1) ?_
      refine hv_if_le (pc := 742) (tgt := 908) (a := sc 5) S.1 S.2.1 (by omega) dL_law_742 (by decide) (fun c_15 => ?_) (fun c9 => absurd c9 (by omega))
      refine lv_iload (pc := 908) S.1 S.2.1 dL_law_908 (lv_at hl 3 rfl) ?_
      refine lv_bipush (pc := 910) (v := nI 25) S.1 S.2.1 dL_law_910 (by decide) ?_
      refine hv_icmp_ge (pc := 912) (tgt := 1154) (a := hw) (b := 25) S.1 S.2.1 (by omega) (by omega) dL_law_912 (by decide) (fun c9 => absurd c9 (by omega)) (fun c_16 => ?_)
      refine lv_iload (pc := 915) S.1 S.2.1 dL_law_915 (lv_at hl 3 rfl) ?_
      refine lv_bipush (pc := 917) (v := nI 20) S.1 S.2.1 dL_law_917 (by decide) ?_
      refine hv_icmp_le (pc := 919) (tgt := 1154) (a := hw) (b := 20) S.1 S.2.1 (by omega) (by omega) dL_law_919 (by decide) (fun c_17 => ?_) (fun c9 => absurd c9 (by omega))
      refine lv_iload (pc := 1154) S.1 S.2.1 dL_law_1154 (lv_at hl 3 rfl) ?_
      refine lv_bipush (pc := 1156) (v := nI 25) S.1 S.2.1 dL_law_1156 (by decide) ?_
      refine hv_icmp_ne (pc := 1158) (tgt := 1295) (a := hw) (b := 25) S.1 S.2.1 (by omega) (by omega) dL_law_1158 (by decide) (fun c_18 => ?_) (fun c9 => absurd c9 (by omega))
      refine lv_iload (pc := 1295) S.1 S.2.1 dL_law_1295 (lv_at hl 3 rfl) ?_
      refine lv_bipush (pc := 1297) (v := nI 26) S.1 S.2.1 dL_law_1297 (by decide) ?_
      refine hv_icmp_ne (pc := 1299) (tgt := 1370) (a := hw) (b := 26) S.1 S.2.1 (by omega) (by omega) dL_law_1299 (by decide) (fun c_19 => ?_) (fun c9 => absurd c9 (by omega))
      refine lv_iload (pc := 1370) S.1 S.2.1 dL_law_1370 (lv_at hl 3 rfl) ?_
      refine lv_bipush (pc := 1372) (v := nI 30) S.1 S.2.1 dL_law_1372 (by decide) ?_
      refine hv_icmp_ge (pc := 1374) (tgt := 1396) (a := hw) (b := 30) S.1 S.2.1 (by omega) (by omega) dL_law_1374 (by decide) (fun c9 => absurd c9 (by omega)) (fun c_20 => ?_)
      refine lv_iload (pc := 1377) S.1 S.2.1 dL_law_1377 (lv_at hl 3 rfl) ?_
      refine lv_bipush (pc := 1379) (v := nI 26) S.1 S.2.1 dL_law_1379 (by decide) ?_
      refine hv_icmp_le (pc := 1381) (tgt := 1396) (a := hw) (b := 26) S.1 S.2.1 (by omega) (by omega) dL_law_1381 (by decide) (fun c_21 => ?_) (fun c9 => absurd c9 (by omega))
      refine lv_iload (pc := 1396) S.1 S.2.1 dL_law_1396 (lv_at hl 3 rfl) ?_
      refine lv_bipush (pc := 1398) (v := nI 29) S.1 S.2.1 dL_law_1398 (by decide) ?_
      refine hv_icmp_le (pc := 1400) (tgt := 1489) (a := hw) (b := 29) S.1 S.2.1 (by omega) (by omega) dL_law_1400 (by decide) (fun c_22 => ?_) (fun c9 => absurd c9 (by omega))
      refine W.widen (k := cells + 130) (n := slots + 800) (by omega) (by omega) ?_
      exact kk _ _ _ ⟨tk, tm, tg, sc, ar, w, ez, o, _, hY, hI.up, hT, h5, hH⟩ hS (lv_sub hl [2, 4, 5, 6, 7, 8, 9, 10, 11, 12, 13] rfl)
  · skip
    refine hv_icmp_ge (pc := 730) (tgt := 908) (a := hw) (b := 21) S.1 S.2.1 (by omega) (by omega) dL_law_730 (by decide) (fun c_23 => ?_) (fun c9 => absurd c9 (by omega))
    refine lv_iload (pc := 908) S.1 S.2.1 dL_law_908 (lv_at hl 3 rfl) ?_
    refine lv_bipush (pc := 910) (v := nI 25) S.1 S.2.1 dL_law_910 (by decide) ?_
    by_cases h25 : hw < 25
    · skip
      refine hv_icmp_ge (pc := 912) (tgt := 1154) (a := hw) (b := 25) S.1 S.2.1 (by omega) (by omega) dL_law_912 (by decide) (fun c9 => absurd c9 (by omega)) (fun c_24 => ?_)
      refine lv_iload (pc := 915) S.1 S.2.1 dL_law_915 (lv_at hl 3 rfl) ?_
      refine lv_bipush (pc := 917) (v := nI 20) S.1 S.2.1 dL_law_917 (by decide) ?_
      refine hv_icmp_le (pc := 919) (tgt := 1154) (a := hw) (b := 20) S.1 S.2.1 (by omega) (by omega) dL_law_919 (by decide) (fun c9 => absurd c9 (by omega)) (fun c_25 => ?_)
      refine lv_aload_n (pc := 922) S.1 S.2.1 dL_law_922 rfl (lv_at hl 11 rfl) ?_
      refine lv_iconst (pc := 923) (v := nI 1) S.1 S.2.1 dL_law_923 (by decide) ?_
      refine hv_iald (pc := 924) S hK hH 1 (hY.a0) rfl (vp_in_nI (show 1 < 6 by omega) (by omega)) dL_law_924 ?_
      refine hv_ti (y := nI ((o 0) 1)) (hv_ld (by omega)) ?_
      refine hv_ti (y := nI (sc 3)) (congrArg nI hm.2.1) ?_
      by_cases h3 : sc 3 = 0
      · skip
        refine hv_if_le (pc := 925) (tgt := 1154) (a := sc 3) S.1 S.2.1 (by omega) dL_law_925 (by decide) (fun c_26 => ?_) (fun c9 => absurd c9 (by omega))
        refine lv_iload (pc := 1154) S.1 S.2.1 dL_law_1154 (lv_at hl 3 rfl) ?_
        refine lv_bipush (pc := 1156) (v := nI 25) S.1 S.2.1 dL_law_1156 (by decide) ?_
        refine hv_icmp_ne (pc := 1158) (tgt := 1295) (a := hw) (b := 25) S.1 S.2.1 (by omega) (by omega) dL_law_1158 (by decide) (fun c_27 => ?_) (fun c9 => absurd c9 (by omega))
        refine lv_iload (pc := 1295) S.1 S.2.1 dL_law_1295 (lv_at hl 3 rfl) ?_
        refine lv_bipush (pc := 1297) (v := nI 26) S.1 S.2.1 dL_law_1297 (by decide) ?_
        refine hv_icmp_ne (pc := 1299) (tgt := 1370) (a := hw) (b := 26) S.1 S.2.1 (by omega) (by omega) dL_law_1299 (by decide) (fun c_28 => ?_) (fun c9 => absurd c9 (by omega))
        refine lv_iload (pc := 1370) S.1 S.2.1 dL_law_1370 (lv_at hl 3 rfl) ?_
        refine lv_bipush (pc := 1372) (v := nI 30) S.1 S.2.1 dL_law_1372 (by decide) ?_
        refine hv_icmp_ge (pc := 1374) (tgt := 1396) (a := hw) (b := 30) S.1 S.2.1 (by omega) (by omega) dL_law_1374 (by decide) (fun c9 => absurd c9 (by omega)) (fun c_29 => ?_)
        refine lv_iload (pc := 1377) S.1 S.2.1 dL_law_1377 (lv_at hl 3 rfl) ?_
        refine lv_bipush (pc := 1379) (v := nI 26) S.1 S.2.1 dL_law_1379 (by decide) ?_
        refine hv_icmp_le (pc := 1381) (tgt := 1396) (a := hw) (b := 26) S.1 S.2.1 (by omega) (by omega) dL_law_1381 (by decide) (fun c_30 => ?_) (fun c9 => absurd c9 (by omega))
        refine lv_iload (pc := 1396) S.1 S.2.1 dL_law_1396 (lv_at hl 3 rfl) ?_
        refine lv_bipush (pc := 1398) (v := nI 29) S.1 S.2.1 dL_law_1398 (by decide) ?_
        refine hv_icmp_le (pc := 1400) (tgt := 1489) (a := hw) (b := 29) S.1 S.2.1 (by omega) (by omega) dL_law_1400 (by decide) (fun c_31 => ?_) (fun c9 => absurd c9 (by omega))
        refine W.widen (k := cells + 130) (n := slots + 800) (by omega) (by omega) ?_
        exact kk _ _ _ ⟨tk, tm, tg, sc, ar, w, ez, o, _, hY, hI.up, hT, h5, hH⟩ hS (lv_sub hl [2, 4, 5, 6, 7, 8, 9, 10, 11, 12, 13] rfl)
      · skip
        refine hv_if_le (pc := 925) (tgt := 1154) (a := sc 3) S.1 S.2.1 (by omega) dL_law_925 (by decide) (fun c9 => absurd c9 (by omega)) (fun c_32 => ?_)
        refine lv_aload_n (pc := 928) S.1 S.2.1 dL_law_928 rfl (lv_at hl 11 rfl) ?_
        refine lv_iconst (pc := 929) (v := nI 2) S.1 S.2.1 dL_law_929 (by decide) ?_
        refine hv_iald (pc := 930) S hK hH 1 (hY.a0) rfl (vp_in_nI (show 2 < 6 by omega) (by omega)) dL_law_930 ?_
        refine hv_ti (y := nI ((o 0) 2)) (hv_ld (by omega)) ?_
        refine hv_ti (y := nI (sc 4)) (congrArg nI hm.2.2.1) ?_
        refine hv_if_le (pc := 931) (tgt := 1154) (a := sc 4) S.1 S.2.1 (by omega) dL_law_931 (by decide) (fun c_33 => ?_) (fun c9 => absurd c9 (by omega))
        refine lv_iload (pc := 1154) S.1 S.2.1 dL_law_1154 (lv_at hl 3 rfl) ?_
        refine lv_bipush (pc := 1156) (v := nI 25) S.1 S.2.1 dL_law_1156 (by decide) ?_
        refine hv_icmp_ne (pc := 1158) (tgt := 1295) (a := hw) (b := 25) S.1 S.2.1 (by omega) (by omega) dL_law_1158 (by decide) (fun c_34 => ?_) (fun c9 => absurd c9 (by omega))
        refine lv_iload (pc := 1295) S.1 S.2.1 dL_law_1295 (lv_at hl 3 rfl) ?_
        refine lv_bipush (pc := 1297) (v := nI 26) S.1 S.2.1 dL_law_1297 (by decide) ?_
        refine hv_icmp_ne (pc := 1299) (tgt := 1370) (a := hw) (b := 26) S.1 S.2.1 (by omega) (by omega) dL_law_1299 (by decide) (fun c_35 => ?_) (fun c9 => absurd c9 (by omega))
        refine lv_iload (pc := 1370) S.1 S.2.1 dL_law_1370 (lv_at hl 3 rfl) ?_
        refine lv_bipush (pc := 1372) (v := nI 30) S.1 S.2.1 dL_law_1372 (by decide) ?_
        refine hv_icmp_ge (pc := 1374) (tgt := 1396) (a := hw) (b := 30) S.1 S.2.1 (by omega) (by omega) dL_law_1374 (by decide) (fun c9 => absurd c9 (by omega)) (fun c_36 => ?_)
        refine lv_iload (pc := 1377) S.1 S.2.1 dL_law_1377 (lv_at hl 3 rfl) ?_
        refine lv_bipush (pc := 1379) (v := nI 26) S.1 S.2.1 dL_law_1379 (by decide) ?_
        refine hv_icmp_le (pc := 1381) (tgt := 1396) (a := hw) (b := 26) S.1 S.2.1 (by omega) (by omega) dL_law_1381 (by decide) (fun c_37 => ?_) (fun c9 => absurd c9 (by omega))
        refine lv_iload (pc := 1396) S.1 S.2.1 dL_law_1396 (lv_at hl 3 rfl) ?_
        refine lv_bipush (pc := 1398) (v := nI 29) S.1 S.2.1 dL_law_1398 (by decide) ?_
        refine hv_icmp_le (pc := 1400) (tgt := 1489) (a := hw) (b := 29) S.1 S.2.1 (by omega) (by omega) dL_law_1400 (by decide) (fun c_38 => ?_) (fun c9 => absurd c9 (by omega))
        refine W.widen (k := cells + 130) (n := slots + 800) (by omega) (by omega) ?_
        exact kk _ _ _ ⟨tk, tm, tg, sc, ar, w, ez, o, _, hY, hI.up, hT, h5, hH⟩ hS (lv_sub hl [2, 4, 5, 6, 7, 8, 9, 10, 11, 12, 13] rfl)
    · skip
      refine hv_icmp_ge (pc := 912) (tgt := 1154) (a := hw) (b := 25) S.1 S.2.1 (by omega) (by omega) dL_law_912 (by decide) (fun c_39 => ?_) (fun c9 => absurd c9 (by omega))
      refine lv_iload (pc := 1154) S.1 S.2.1 dL_law_1154 (lv_at hl 3 rfl) ?_
      refine lv_bipush (pc := 1156) (v := nI 25) S.1 S.2.1 dL_law_1156 (by decide) ?_
      refine hv_icmp_ne (pc := 1158) (tgt := 1295) (a := hw) (b := 25) S.1 S.2.1 (by omega) (by omega) dL_law_1158 (by decide) (fun c9 => absurd c9 (by omega)) (fun c_40 => ?_)
      refine lv_aload_n (pc := 1161) S.1 S.2.1 dL_law_1161 rfl (lv_at hl 11 rfl) ?_
      refine lv_iconst (pc := 1162) (v := nI 1) S.1 S.2.1 dL_law_1162 (by decide) ?_
      refine hv_iald (pc := 1163) S hK hH 1 (hY.a0) rfl (vp_in_nI (show 1 < 6 by omega) (by omega)) dL_law_1163 ?_
      refine hv_ti (y := nI ((o 0) 1)) (hv_ld (by omega)) ?_
      refine hv_ti (y := nI (sc 3)) (congrArg nI hm.2.1) ?_
      refine hv_if_le (pc := 1164) (tgt := 1295) (a := sc 3) S.1 S.2.1 (by omega) dL_law_1164 (by decide) (fun c_41 => ?_) (fun c9 => absurd c9 (by omega))
      refine lv_iload (pc := 1295) S.1 S.2.1 dL_law_1295 (lv_at hl 3 rfl) ?_
      refine lv_bipush (pc := 1297) (v := nI 26) S.1 S.2.1 dL_law_1297 (by decide) ?_
      refine hv_icmp_ne (pc := 1299) (tgt := 1370) (a := hw) (b := 26) S.1 S.2.1 (by omega) (by omega) dL_law_1299 (by decide) (fun c_42 => ?_) (fun c9 => absurd c9 (by omega))
      refine lv_iload (pc := 1370) S.1 S.2.1 dL_law_1370 (lv_at hl 3 rfl) ?_
      refine lv_bipush (pc := 1372) (v := nI 30) S.1 S.2.1 dL_law_1372 (by decide) ?_
      refine hv_icmp_ge (pc := 1374) (tgt := 1396) (a := hw) (b := 30) S.1 S.2.1 (by omega) (by omega) dL_law_1374 (by decide) (fun c9 => absurd c9 (by omega)) (fun c_43 => ?_)
      refine lv_iload (pc := 1377) S.1 S.2.1 dL_law_1377 (lv_at hl 3 rfl) ?_
      refine lv_bipush (pc := 1379) (v := nI 26) S.1 S.2.1 dL_law_1379 (by decide) ?_
      refine hv_icmp_le (pc := 1381) (tgt := 1396) (a := hw) (b := 26) S.1 S.2.1 (by omega) (by omega) dL_law_1381 (by decide) (fun c_44 => ?_) (fun c9 => absurd c9 (by omega))
      refine lv_iload (pc := 1396) S.1 S.2.1 dL_law_1396 (lv_at hl 3 rfl) ?_
      refine lv_bipush (pc := 1398) (v := nI 29) S.1 S.2.1 dL_law_1398 (by decide) ?_
      refine hv_icmp_le (pc := 1400) (tgt := 1489) (a := hw) (b := 29) S.1 S.2.1 (by omega) (by omega) dL_law_1400 (by decide) (fun c_45 => ?_) (fun c9 => absurd c9 (by omega))
      refine W.widen (k := cells + 130) (n := slots + 800) (by omega) (by omega) ?_
      exact kk _ _ _ ⟨tk, tm, tg, sc, ar, w, ez, o, _, hY, hI.up, hT, h5, hH⟩ hS (lv_sub hl [2, 4, 5, 6, 7, 8, 9, 10, 11, 12, 13] rfl)
