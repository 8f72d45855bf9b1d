/-- the three hindrances, band by band -/
def thF (a : Nat → Nat) : Nat → Nat
  | 0 => 0
  | i + 1 => if thF a i = 0 ∧ ¬ a i < 40 then 0 else 1
def tnF (k : Nat) (w b : Nat → Nat) : Nat → Nat
  | 0 => 0
  | i + 1 => if tnF k w b i = 0 ∧ ¬ (w i < b i ∧ fStr k < 100 * (b i - w i) / w i) then 0 else 1
def wiF (k : Nat) (w b : Nat → Nat) : Nat → Nat
  | 0 => 0
  | i + 1 => if wiF k w b i = 0 ∧ ¬ (b i < w i ∧ b i < shA k (w i)) then 0 else 1
def mhR (k : Nat) (a w b : Nat → Nat) : Nat := if thF a 6 = 0 then (if tnF k w b 6 = 0 then (if wiF k w b 6 = 0 then 0 else 3) else 2) else 1
theorem thF_le (a : Nat → Nat) (i : Nat) : thF a i ≤ 1 := by
  cases i with
  | zero => exact Nat.zero_le _
  | succ i => simp only [thF]; split <;> omega
theorem tnF_le (k : Nat) (w b : Nat → Nat) (i : Nat) : tnF k w b i ≤ 1 := by
  cases i with
  | zero => exact Nat.zero_le _
  | succ i => simp only [tnF]; split <;> omega
theorem wiF_le (k : Nat) (w b : Nat → Nat) (i : Nat) : wiF k w b i ≤ 1 := by
  cases i with
  | zero => exact Nat.zero_le _
  | succ i => simp only [wiF]; split <;> omega
theorem mhR_le (k : Nat) (a w b : Nat → Nat) : mhR k a w b ≤ 3 := by
  unfold mhR
  split
  · split
    · split <;> omega
    · omega
  · omega
set_option maxHeartbeats 4000000 in
set_option maxRecDepth 100000 in
/-- hinders(cone, block) -/
theorem c_m_hinders (l : Launch) (D : va_G) (cA : Nat → ClassId) (ga : Nat → Nat → Nat) (φ : hpM) (sz : Nat) (q : Nat → Nat) (sc : Nat → Nat) (ar : Nat → Nat → Nat) (x1 z1 : Nat) (hm : MP cA q sc ar φ) (hq : ∀ i j, i < 15 → j < 15 → q i = q j → i = j) (hnc : sc 3 ≤ 12) (hwb : ∀ i, i < 6 * sc 3 → (0 < ar 4 i ∧ ar 4 i ≤ 1200) ∧ (0 < ar 5 i ∧ ar 5 i ≤ 60) ∧ ar 6 i ≤ 500) (hx : x1 < sc 3) (hz : z1 < 8) (h3x : ar 3 x1 < 4) (hb10 : 300 ≤ ar 10 z1 ∧ ar 10 z1 ≤ 700) (hb11 : 1 ≤ ar 11 z1 ∧ ar 11 z1 ≤ 6) : hM l yX9_hinders cX9_hinders 11 (some .int) { frames := 9, cells := 0, slots := 0, locals := 260 } [.ref (q 0), .int (nI x1), .int (nI z1)] D cA ga φ sz (fun v φ' => v = some (.int (nI (mhR (ar 3 x1) (fun j => ar 6 (6 * x1 + j) * 100000 / (ar 4 (6 * x1 + j) * ar 5 (6 * x1 + j))) (fun j => ar 4 (6 * x1 + j)) (bW (ar 10 z1) (ar 11 z1))))) ∧ φ' = φ) 0 0 := by
  refine hM.of (by decide) (Nat.le_of_ble_eq_true rfl) rfl ?_
  intro p e s m args below meth c ls H locs S hr hlocks hnm hsz hHz hH hK hX hS hA hl
  obtain ⟨f0, f1, f2, f3, f4, f5, f6, f7, f8, f9, f10, f11, f12, f13, f14⟩ := hm
  refine lv_iconst (pc := 0) (v := nI 0) S.1 S.2.1 dX9_hinders_0 (by decide) ?_
  refine lv_istore_n (pc := 1) (lv' := [(3, .int (nI 0)), (0, .ref (q 0)), (1, .int (nI x1)), (2, .int (nI z1))]) S.1 S.2.1 dX9_hinders_1 rfl hl (by decide) rfl (fun ls hl => ?_)
  refine lv_iconst (pc := 2) (v := nI 0) S.1 S.2.1 dX9_hinders_2 (by decide) ?_
  refine lv_istore (pc := 3) (lv' := [(4, .int (nI 0)), (3, .int (nI 0)), (0, .ref (q 0)), (1, .int (nI x1)), (2, .int (nI z1))]) S.1 S.2.1 dX9_hinders_3 hl (by decide) rfl (fun ls hl => ?_)
  refine lv_iconst (pc := 5) (v := nI 0) S.1 S.2.1 dX9_hinders_5 (by decide) ?_
  refine lv_istore (pc := 6) (lv' := [(5, .int (nI 0)), (4, .int (nI 0)), (3, .int (nI 0)), (0, .ref (q 0)), (1, .int (nI x1)), (2, .int (nI z1))]) S.1 S.2.1 dX9_hinders_6 hl (by decide) rfl (fun ls hl => ?_)
  refine lv_aload_n (pc := 8) S.1 S.2.1 dX9_hinders_8 rfl (lv_at hl 3 rfl) ?_
  refine hv_get (pc := 9) (C := RX9) (T := TX9) (N := 22) (ref := RX9) S uwX9 hK hH f0 rfl 6 (by decide) tw_951 (fun _ h9 => h9) rfl dX9_hinders_9 ?_
  refine lv_iload_n (pc := 12) S.1 S.2.1 dX9_hinders_12 rfl (lv_at hl 4 rfl) ?_
  refine hv_iald (pc := 13) S hK hH 1 f3 rfl (vp_in_nI (by omega) (by omega)) dX9_hinders_13 ?_
  refine hv_ti (y := nI ((ar 3) x1)) (hv_ld (by omega)) ?_
  refine lv_istore (pc := 14) (lv' := [(6, .int (nI ((ar 3) x1))), (5, .int (nI 0)), (4, .int (nI 0)), (3, .int (nI 0)), (0, .ref (q 0)), (1, .int (nI x1)), (2, .int (nI z1))]) S.1 S.2.1 dX9_hinders_14 hl (by decide) rfl (fun ls hl => ?_)
  refine lv_iconst (pc := 16) (v := nI 0) S.1 S.2.1 dX9_hinders_16 (by decide) ?_
  refine lv_istore (pc := 17) (lv' := [(7, .int (nI 0)), (6, .int (nI ((ar 3) x1))), (5, .int (nI 0)), (4, .int (nI 0)), (3, .int (nI 0)), (0, .ref (q 0)), (1, .int (nI x1)), (2, .int (nI z1))]) S.1 S.2.1 dX9_hinders_17 hl (by decide) rfl (fun ls hl => ?_)
  have hg : ∃ (n i t3 t4 t5 : Nat), (i + n = 6 ∧ t3 = thF (fun j => ar 6 (6 * x1 + j) * 100000 / (ar 4 (6 * x1 + j) * ar 5 (6 * x1 + j))) i ∧ t4 = tnF (ar 3 x1) (fun j => ar 4 (6 * x1 + j)) (bW (ar 10 z1) (ar 11 z1)) i ∧ t5 = wiF (ar 3 x1) (fun j => ar 4 (6 * x1 + j)) (bW (ar 10 z1) (ar 11 z1)) i) ∧ lv_has ls 11 [(0, .ref (q 0)), (1, .int (nI x1)), (2, .int (nI z1)), (3, .int (nI t3)), (4, .int (nI t4)), (5, .int (nI t5)), (6, .int (nI (ar 3 x1))), (7, .int (nI i))] := ⟨6, 0, 0, 0, 0, ⟨rfl, rfl, rfl, rfl⟩, lv_sub hl [5, 6, 7, 4, 3, 2, 1, 0] rfl⟩
  clear hl
  try clear hHz
  obtain ⟨n, i, t3, t4, t5, hi, hl⟩ := hg
  induction n generalizing ls H locs i t3 t4 t5 with
  | zero =>
    obtain ⟨hi, e3, e4, e5⟩ := hi
    obtain rfl : i = 6 := by omega
    have b3 : t3 ≤ 1 := by rw [e3]; exact thF_le ..
    have b4 : t4 ≤ 1 := by rw [e4]; exact tnF_le ..
    have b5 : t5 ≤ 1 := by rw [e5]; exact wiF_le ..
    refine lv_iload (pc := 19) S.1 S.2.1 dX9_hinders_19 (lv_at hl 7 rfl) ?_
    refine lv_bipush (pc := 21) (v := nI 6) S.1 S.2.1 dX9_hinders_21 (by decide) ?_
    refine hv_icmp_ge (pc := 23) (tgt := 152) (a := 6) (b := 6) S.1 S.2.1 (by omega) (by omega) dX9_hinders_23 (by decide) (fun c_1 => ?_) (fun c_1 => ?_)
    · skip
      refine lv_iload_n (pc := 152) S.1 S.2.1 dX9_hinders_152 rfl (lv_at hl 3 rfl) ?_
      refine hv_if_eq (pc := 153) (tgt := 160) (a := t3) S.1 S.2.1 (by omega) dX9_hinders_153 (by decide) (fun c_2 => ?_) (fun c_2 => ?_)
      · skip
        refine lv_iload (pc := 160) S.1 S.2.1 dX9_hinders_160 (lv_at hl 4 rfl) ?_
        refine hv_if_eq (pc := 162) (tgt := 169) (a := t4) S.1 S.2.1 (by omega) dX9_hinders_162 (by decide) (fun c_3 => ?_) (fun c_3 => ?_)
        · skip
          refine lv_iload (pc := 169) S.1 S.2.1 dX9_hinders_169 (lv_at hl 5 rfl) ?_
          refine hv_if_eq (pc := 171) (tgt := 178) (a := t5) S.1 S.2.1 (by omega) dX9_hinders_171 (by decide) (fun c_4 => ?_) (fun c_4 => ?_)
          · skip
            refine lv_iconst (pc := 178) (v := nI 0) S.1 S.2.1 dX9_hinders_178 (by decide) ?_
            exact hv_ret (pc := 179) (v := nI 0) S hr rfl hlocks hH hS (⟨by rw [mhR, if_pos (by omega), if_pos (by omega), if_pos (by omega)], rfl⟩) (Nat.le_of_ble_eq_true rfl) (Nat.le_of_ble_eq_true rfl) dX9_hinders_179
          · skip
            refine lv_iconst (pc := 174) (v := nI 3) S.1 S.2.1 dX9_hinders_174 (by decide) ?_
            refine lv_goto (pc := 175) (tgt := 179) S.1 S.2.1 dX9_hinders_175 (by decide) ?_
            exact hv_ret (pc := 179) (v := nI 3) S hr rfl hlocks hH hS (⟨by rw [mhR, if_pos (by omega), if_pos (by omega), if_neg (by omega)], rfl⟩) (Nat.le_of_ble_eq_true rfl) (Nat.le_of_ble_eq_true rfl) dX9_hinders_179
        · skip
          refine lv_iconst (pc := 165) (v := nI 2) S.1 S.2.1 dX9_hinders_165 (by decide) ?_
          refine lv_goto (pc := 166) (tgt := 179) S.1 S.2.1 dX9_hinders_166 (by decide) ?_
          exact hv_ret (pc := 179) (v := nI 2) S hr rfl hlocks hH hS (⟨by rw [mhR, if_pos (by omega), if_neg (by omega)], rfl⟩) (Nat.le_of_ble_eq_true rfl) (Nat.le_of_ble_eq_true rfl) dX9_hinders_179
      · skip
        refine lv_iconst (pc := 156) (v := nI 1) S.1 S.2.1 dX9_hinders_156 (by decide) ?_
        refine lv_goto (pc := 157) (tgt := 179) S.1 S.2.1 dX9_hinders_157 (by decide) ?_
        exact hv_ret (pc := 179) (v := nI 1) S hr rfl hlocks hH hS (⟨by rw [mhR, if_neg (by omega)], rfl⟩) (Nat.le_of_ble_eq_true rfl) (Nat.le_of_ble_eq_true rfl) dX9_hinders_179
    · skip
      exact absurd c_1 (by omega)
  | succ n ih =>
    obtain ⟨hi, e3, e4, e5⟩ := hi
    have b3 : t3 ≤ 1 := by rw [e3]; exact thF_le ..
    have b4 : t4 ≤ 1 := by rw [e4]; exact tnF_le ..
    have b5 : t5 ≤ 1 := by rw [e5]; exact wiF_le ..
    obtain ⟨hw4, hw5, hw6⟩ := hwb (6 * x1 + i) (by omega)
    have hbw := bW_le (a := ar 10 z1) (d := ar 11 z1) (b := i) hb10.2
    have hsl := shA_le (ar 3 x1) (ar 4 (6 * x1 + i))
    have hfs := fStr_le (ar 3 x1)
    have hfc := fAcr_le (ar 3 x1)
    have htk : ar 6 (6 * x1 + i) * 100000 / (ar 4 (6 * x1 + i) * ar 5 (6 * x1 + i)) ≤ ar 6 (6 * x1 + i) * 100000 := Nat.div_le_self _ _
    have htn : 100 * (bW (ar 10 z1) (ar 11 z1) i - ar 4 (6 * x1 + i)) / ar 4 (6 * x1 + i) ≤ 100 * (bW (ar 10 z1) (ar 11 z1) i - ar 4 (6 * x1 + i)) := Nat.div_le_self _ _
    refine lv_iload (pc := 19) S.1 S.2.1 dX9_hinders_19 (lv_at hl 7 rfl) ?_
    refine lv_bipush (pc := 21) (v := nI 6) S.1 S.2.1 dX9_hinders_21 (by decide) ?_
    refine hv_icmp_ge (pc := 23) (tgt := 152) (a := i) (b := 6) S.1 S.2.1 (by omega) (by omega) dX9_hinders_23 (by decide) (fun c_5 => ?_) (fun c_5 => ?_)
    · skip
      exact absurd c_5 (by omega)
    · skip
      refine lv_bipush (pc := 26) (v := nI 6) S.1 S.2.1 dX9_hinders_26 (by decide) ?_
      refine lv_iload_n (pc := 28) S.1 S.2.1 dX9_hinders_28 rfl (lv_at hl 1 rfl) ?_
      refine lv_imul (pc := 29) S.1 S.2.1 dX9_hinders_29 ?_
      refine hv_ti (y := nI (6 * x1)) (pk_mul _ _) ?_
      refine lv_iload (pc := 30) S.1 S.2.1 dX9_hinders_30 (lv_at hl 7 rfl) ?_
      refine lv_iadd (pc := 32) S.1 S.2.1 dX9_hinders_32 ?_
      refine hv_ti (y := nI ((6 * x1) + i)) (nI_add _ _) ?_
      refine lv_istore (pc := 33) (lv' := [(8, .int (nI ((6 * x1) + i))), (0, .ref (q 0)), (1, .int (nI x1)), (2, .int (nI z1)), (3, .int (nI t3)), (4, .int (nI t4)), (5, .int (nI t5)), (6, .int (nI (ar 3 x1))), (7, .int (nI i))]) S.1 S.2.1 dX9_hinders_33 hl (by decide) rfl (fun ls hl => ?_)
      refine lv_aload_n (pc := 35) S.1 S.2.1 dX9_hinders_35 rfl (lv_at hl 1 rfl) ?_
      refine hv_get (pc := 36) (C := RX9) (T := TX9) (N := 22) (ref := RX9) S uwX9 hK hH f0 rfl 7 (by decide) tw_952 (fun _ h9 => h9) rfl dX9_hinders_36 ?_
      refine lv_iload (pc := 39) S.1 S.2.1 dX9_hinders_39 (lv_at hl 0 rfl) ?_
      refine hv_iald (pc := 41) S hK hH 1 f4 rfl (vp_in_nI (by omega) (by omega)) dX9_hinders_41 ?_
      refine hv_ti (y := nI ((ar 4) ((6 * x1) + i))) (hv_ld (by omega)) ?_
      refine lv_istore (pc := 42) (lv' := [(9, .int (nI ((ar 4) ((6 * x1) + i)))), (8, .int (nI ((6 * x1) + i))), (0, .ref (q 0)), (1, .int (nI x1)), (2, .int (nI z1)), (3, .int (nI t3)), (4, .int (nI t4)), (5, .int (nI t5)), (6, .int (nI (ar 3 x1))), (7, .int (nI i))]) S.1 S.2.1 dX9_hinders_42 hl (by decide) rfl (fun ls hl => ?_)
      refine lv_aload_n (pc := 44) S.1 S.2.1 dX9_hinders_44 rfl (lv_at hl 2 rfl) ?_
      refine lv_iload_n (pc := 45) S.1 S.2.1 dX9_hinders_45 rfl (lv_at hl 4 rfl) ?_
      refine lv_iload (pc := 46) S.1 S.2.1 dX9_hinders_46 (lv_at hl 9 rfl) ?_
      refine hv_call (pc := 48) (va_runV (As := [.int (nI z1), .int (nI i)]) (rest := []) S (c_m_blockAt l D cA ga φ H.size q sc ar z1 i ⟨f0, f1, f2, f3, f4, f5, f6, f7, f8, f9, f10, f11, f12, f13, f14⟩ hq (by omega) (by omega) hb10 hb11) (cwV 2 S.2.2.2.2 (gV tw_1085 tw_1087 sw_37 tw_7 tw_1088) rfl rfl rfl (by decide +kernel) ⟨Nat.le_of_ble_eq_true rfl, Nat.le_of_ble_eq_true rfl⟩) (pre0_V hH hK hX hS hA (hH.recv hK f0 rfl)) rfl rfl hl.1 rfl (lv_room (Nat.le_of_ble_eq_true rfl)) dX9_hinders_48 ⟨Nat.le_of_ble_eq_true rfl, Nat.le_of_ble_eq_true rfl⟩) hS (af_le hH hS hA) (fun v_6 φ_7 H locs hw_v_6 hH hS => ?_)
      obtain ⟨rfl, hqv_6⟩ := hw_v_6
      rw [hqv_6] at hH
      refine lv_istore (pc := 51) (lv' := [(10, .int (nI (bW (ar 10 z1) (ar 11 z1) i))), (9, .int (nI ((ar 4) ((6 * x1) + i)))), (8, .int (nI ((6 * x1) + i))), (0, .ref (q 0)), (1, .int (nI x1)), (2, .int (nI z1)), (3, .int (nI t3)), (4, .int (nI t4)), (5, .int (nI t5)), (6, .int (nI (ar 3 x1))), (7, .int (nI i))]) S.1 S.2.1 dX9_hinders_51 hl (by decide) rfl (fun ls hl => ?_)
      refine lv_iload_n (pc := 53) S.1 S.2.1 dX9_hinders_53 rfl (lv_at hl 6 rfl) ?_
      refine hv_if_ne (pc := 54) (tgt := 68) (a := t3) S.1 S.2.1 (by omega) dX9_hinders_54 (by decide) (fun c_8 => ?_) (fun c_8 => ?_)
      · skip
        refine lv_iconst (pc := 68) (v := nI 1) S.1 S.2.1 dX9_hinders_68 (by decide) ?_
        refine lv_goto (pc := 69) (tgt := 73) S.1 S.2.1 dX9_hinders_69 (by decide) ?_
        have g3 : 1 = thF (fun j => ar 6 (6 * x1 + j) * 100000 / (ar 4 (6 * x1 + j) * ar 5 (6 * x1 + j))) (i + 1) := by simp only [thF]; rw [if_neg (by omega)]
        refine lv_istore_n (pc := 73) (lv' := [(3, .int (nI 1)), (10, .int (nI (bW (ar 10 z1) (ar 11 z1) i))), (9, .int (nI ((ar 4) ((6 * x1) + i)))), (8, .int (nI ((6 * x1) + i))), (0, .ref (q 0)), (1, .int (nI x1)), (2, .int (nI z1)), (4, .int (nI t4)), (5, .int (nI t5)), (6, .int (nI (ar 3 x1))), (7, .int (nI i))]) S.1 S.2.1 dX9_hinders_73 rfl hl (by decide) rfl (fun ls hl => ?_)
        refine lv_iload (pc := 74) S.1 S.2.1 dX9_hinders_74 (lv_at hl 7 rfl) ?_
        refine hv_if_ne (pc := 76) (tgt := 105) (a := t4) S.1 S.2.1 (by omega) dX9_hinders_76 (by decide) (fun c_9 => ?_) (fun c_9 => ?_)
        · skip
          refine lv_iconst (pc := 105) (v := nI 1) S.1 S.2.1 dX9_hinders_105 (by decide) ?_
          refine lv_goto (pc := 106) (tgt := 110) S.1 S.2.1 dX9_hinders_106 (by decide) ?_
          have g4 : 1 = tnF (ar 3 x1) (fun j => ar 4 (6 * x1 + j)) (bW (ar 10 z1) (ar 11 z1)) (i + 1) := by simp only [tnF]; rw [if_neg (by omega)]
          refine lv_istore (pc := 110) (lv' := [(4, .int (nI 1)), (3, .int (nI 1)), (10, .int (nI (bW (ar 10 z1) (ar 11 z1) i))), (9, .int (nI ((ar 4) ((6 * x1) + i)))), (8, .int (nI ((6 * x1) + i))), (0, .ref (q 0)), (1, .int (nI x1)), (2, .int (nI z1)), (5, .int (nI t5)), (6, .int (nI (ar 3 x1))), (7, .int (nI i))]) S.1 S.2.1 dX9_hinders_110 hl (by decide) rfl (fun ls hl => ?_)
          refine lv_iload (pc := 112) S.1 S.2.1 dX9_hinders_112 (lv_at hl 8 rfl) ?_
          refine hv_if_ne (pc := 114) (tgt := 139) (a := t5) S.1 S.2.1 (by omega) dX9_hinders_114 (by decide) (fun c_10 => ?_) (fun c_10 => ?_)
          · skip
            refine lv_iconst (pc := 139) (v := nI 1) S.1 S.2.1 dX9_hinders_139 (by decide) ?_
            refine lv_goto (pc := 140) (tgt := 144) S.1 S.2.1 dX9_hinders_140 (by decide) ?_
            have g5 : 1 = wiF (ar 3 x1) (fun j => ar 4 (6 * x1 + j)) (bW (ar 10 z1) (ar 11 z1)) (i + 1) := by simp only [wiF]; rw [if_neg (by omega)]
            refine lv_istore (pc := 144) (lv' := [(5, .int (nI 1)), (4, .int (nI 1)), (3, .int (nI 1)), (10, .int (nI (bW (ar 10 z1) (ar 11 z1) i))), (9, .int (nI ((ar 4) ((6 * x1) + i)))), (8, .int (nI ((6 * x1) + i))), (0, .ref (q 0)), (1, .int (nI x1)), (2, .int (nI z1)), (6, .int (nI (ar 3 x1))), (7, .int (nI i))]) S.1 S.2.1 dX9_hinders_144 hl (by decide) rfl (fun ls hl => ?_)
            refine lv_iinc (pc := 146) (v := nI (i + 1)) (lv' := [(7, .int (nI (i + 1))), (5, .int (nI 1)), (4, .int (nI 1)), (3, .int (nI 1)), (10, .int (nI (bW (ar 10 z1) (ar 11 z1) i))), (9, .int (nI ((ar 4) ((6 * x1) + i)))), (8, .int (nI ((6 * x1) + i))), (0, .ref (q 0)), (1, .int (nI x1)), (2, .int (nI z1)), (6, .int (nI (ar 3 x1)))]) S.1 S.2.1 dX9_hinders_146 hl (k := 10) rfl (by first | rfl | exact nI_add _ _) (by decide) rfl (fun ls hl => ?_)
            refine lv_goto (pc := 149) (tgt := 19) S.1 S.2.1 dX9_hinders_149 (by decide) ?_
            have hi2 : (i + 1) + n = 6 ∧ (1) = thF (fun j => ar 6 (6 * x1 + j) * 100000 / (ar 4 (6 * x1 + j) * ar 5 (6 * x1 + j))) (i + 1) ∧ (1) = tnF (ar 3 x1) (fun j => ar 4 (6 * x1 + j)) (bW (ar 10 z1) (ar 11 z1)) (i + 1) ∧ (1) = wiF (ar 3 x1) (fun j => ar 4 (6 * x1 + j)) (bW (ar 10 z1) (ar 11 z1)) (i + 1) := ⟨by omega, g3, g4, g5⟩
            have hl2 : lv_has ls 11 [(0, .ref (q 0)), (1, .int (nI x1)), (2, .int (nI z1)), (3, .int (nI (1))), (4, .int (nI (1))), (5, .int (nI (1))), (6, .int (nI (ar 3 x1))), (7, .int (nI (i + 1)))] := lv_sub hl [7, 8, 9, 3, 2, 1, 10, 0] rfl
            apply ih (i := i + 1) (t3 := 1) (t4 := 1) (t5 := 1) <;> assumption
          · skip
            refine lv_iload (pc := 117) S.1 S.2.1 dX9_hinders_117 (lv_at hl 2 rfl) ?_
            refine lv_iload (pc := 119) S.1 S.2.1 dX9_hinders_119 (lv_at hl 3 rfl) ?_
            refine hv_icmp_ge (pc := 121) (tgt := 143) (a := bW (ar 10 z1) (ar 11 z1) i) (b := (ar 4) ((6 * x1) + i)) S.1 S.2.1 (by omega) (by omega) dX9_hinders_121 (by decide) (fun c_11 => ?_) (fun c_11 => ?_)
            · skip
              refine lv_iconst (pc := 143) (v := nI 0) S.1 S.2.1 dX9_hinders_143 (by decide) ?_
              have g5 : 0 = wiF (ar 3 x1) (fun j => ar 4 (6 * x1 + j)) (bW (ar 10 z1) (ar 11 z1)) (i + 1) := by simp only [wiF]; rw [if_pos ⟨by omega, by omega⟩]
              refine lv_istore (pc := 144) (lv' := [(5, .int (nI 0)), (4, .int (nI 1)), (3, .int (nI 1)), (10, .int (nI (bW (ar 10 z1) (ar 11 z1) i))), (9, .int (nI ((ar 4) ((6 * x1) + i)))), (8, .int (nI ((6 * x1) + i))), (0, .ref (q 0)), (1, .int (nI x1)), (2, .int (nI z1)), (6, .int (nI (ar 3 x1))), (7, .int (nI i))]) S.1 S.2.1 dX9_hinders_144 hl (by decide) rfl (fun ls hl => ?_)
              refine lv_iinc (pc := 146) (v := nI (i + 1)) (lv' := [(7, .int (nI (i + 1))), (5, .int (nI 0)), (4, .int (nI 1)), (3, .int (nI 1)), (10, .int (nI (bW (ar 10 z1) (ar 11 z1) i))), (9, .int (nI ((ar 4) ((6 * x1) + i)))), (8, .int (nI ((6 * x1) + i))), (0, .ref (q 0)), (1, .int (nI x1)), (2, .int (nI z1)), (6, .int (nI (ar 3 x1)))]) S.1 S.2.1 dX9_hinders_146 hl (k := 10) rfl (by first | rfl | exact nI_add _ _) (by decide) rfl (fun ls hl => ?_)
              refine lv_goto (pc := 149) (tgt := 19) S.1 S.2.1 dX9_hinders_149 (by decide) ?_
              have hi2 : (i + 1) + n = 6 ∧ (1) = thF (fun j => ar 6 (6 * x1 + j) * 100000 / (ar 4 (6 * x1 + j) * ar 5 (6 * x1 + j))) (i + 1) ∧ (1) = tnF (ar 3 x1) (fun j => ar 4 (6 * x1 + j)) (bW (ar 10 z1) (ar 11 z1)) (i + 1) ∧ (0) = wiF (ar 3 x1) (fun j => ar 4 (6 * x1 + j)) (bW (ar 10 z1) (ar 11 z1)) (i + 1) := ⟨by omega, g3, g4, g5⟩
              have hl2 : lv_has ls 11 [(0, .ref (q 0)), (1, .int (nI x1)), (2, .int (nI z1)), (3, .int (nI (1))), (4, .int (nI (1))), (5, .int (nI (0))), (6, .int (nI (ar 3 x1))), (7, .int (nI (i + 1)))] := lv_sub hl [7, 8, 9, 3, 2, 1, 10, 0] rfl
              apply ih (i := i + 1) (t3 := 1) (t4 := 1) (t5 := 0) <;> assumption
            · skip
              refine lv_iload (pc := 124) S.1 S.2.1 dX9_hinders_124 (lv_at hl 3 rfl) ?_
              refine lv_iload (pc := 126) S.1 S.2.1 dX9_hinders_126 (lv_at hl 9 rfl) ?_
              refine hv_call (pc := 128) (va_runS (As := [.int (nI (ar 3 x1))]) (rest := [.int (nI ((ar 4) ((6 * x1) + i)))]) S (c_m_across l D cA ga φ H.size (ar 3 x1) h3x) (va_cwS 1 S.2.2.2.2 (gS tw_1064 tw_1065 tw_7 tw_1066) rfl rfl rfl (by decide +kernel) ⟨Nat.le_of_ble_eq_true rfl, Nat.le_of_ble_eq_true rfl⟩) (pre0_S hH hK hX hS hA) rfl rfl hl.1 rfl (lv_room (Nat.le_of_ble_eq_true rfl)) dX9_hinders_128 ⟨Nat.le_of_ble_eq_true rfl, Nat.le_of_ble_eq_true rfl⟩) hS (af_le hH hS hA) (fun v_12 φ_13 H locs hw_v_12 hH hS => ?_)
              obtain ⟨rfl, hqv_12⟩ := hw_v_12
              rw [hqv_12] at hH
              refine hv_call (pc := 131) (va_runS (As := [.int (nI ((ar 4) ((6 * x1) + i))), .int (nI (fAcr (ar 3 x1)))]) (rest := []) S (c_m_shrunk l D cA ga φ H.size (ar 4 (6 * x1 + i)) (fAcr (ar 3 x1)) (by omega) (by omega)) (va_cwS 2 S.2.2.2.2 (gS tw_1067 tw_1068 tw_7 tw_1069) rfl rfl rfl (by decide +kernel) ⟨Nat.le_of_ble_eq_true rfl, Nat.le_of_ble_eq_true rfl⟩) (pre0_S hH hK hX hS hA) rfl rfl hl.1 rfl (lv_room (Nat.le_of_ble_eq_true rfl)) dX9_hinders_131 ⟨Nat.le_of_ble_eq_true rfl, Nat.le_of_ble_eq_true rfl⟩) hS (af_le hH hS hA) (fun v_14 φ_15 H locs hw_v_14 hH hS => ?_)
              obtain ⟨rfl, hqv_14⟩ := hw_v_14
              rw [hqv_14] at hH
              refine hv_ti (y := nI (shA (ar 3 x1) (ar 4 (6 * x1 + i)))) (rfl) ?_
              refine lv_iload (pc := 134) S.1 S.2.1 dX9_hinders_134 (lv_at hl 2 rfl) ?_
              refine hv_icmp_le (pc := 136) (tgt := 143) (a := shA (ar 3 x1) (ar 4 (6 * x1 + i))) (b := bW (ar 10 z1) (ar 11 z1) i) S.1 S.2.1 (by omega) (by omega) dX9_hinders_136 (by decide) (fun c_16 => ?_) (fun c_16 => ?_)
              · skip
                refine lv_iconst (pc := 143) (v := nI 0) S.1 S.2.1 dX9_hinders_143 (by decide) ?_
                have g5 : 0 = wiF (ar 3 x1) (fun j => ar 4 (6 * x1 + j)) (bW (ar 10 z1) (ar 11 z1)) (i + 1) := by simp only [wiF]; rw [if_pos ⟨by omega, by omega⟩]
                refine lv_istore (pc := 144) (lv' := [(5, .int (nI 0)), (4, .int (nI 1)), (3, .int (nI 1)), (10, .int (nI (bW (ar 10 z1) (ar 11 z1) i))), (9, .int (nI ((ar 4) ((6 * x1) + i)))), (8, .int (nI ((6 * x1) + i))), (0, .ref (q 0)), (1, .int (nI x1)), (2, .int (nI z1)), (6, .int (nI (ar 3 x1))), (7, .int (nI i))]) S.1 S.2.1 dX9_hinders_144 hl (by decide) rfl (fun ls hl => ?_)
                refine lv_iinc (pc := 146) (v := nI (i + 1)) (lv' := [(7, .int (nI (i + 1))), (5, .int (nI 0)), (4, .int (nI 1)), (3, .int (nI 1)), (10, .int (nI (bW (ar 10 z1) (ar 11 z1) i))), (9, .int (nI ((ar 4) ((6 * x1) + i)))), (8, .int (nI ((6 * x1) + i))), (0, .ref (q 0)), (1, .int (nI x1)), (2, .int (nI z1)), (6, .int (nI (ar 3 x1)))]) S.1 S.2.1 dX9_hinders_146 hl (k := 10) rfl (by first | rfl | exact nI_add _ _) (by decide) rfl (fun ls hl => ?_)
                refine lv_goto (pc := 149) (tgt := 19) S.1 S.2.1 dX9_hinders_149 (by decide) ?_
                have hi2 : (i + 1) + n = 6 ∧ (1) = thF (fun j => ar 6 (6 * x1 + j) * 100000 / (ar 4 (6 * x1 + j) * ar 5 (6 * x1 + j))) (i + 1) ∧ (1) = tnF (ar 3 x1) (fun j => ar 4 (6 * x1 + j)) (bW (ar 10 z1) (ar 11 z1)) (i + 1) ∧ (0) = wiF (ar 3 x1) (fun j => ar 4 (6 * x1 + j)) (bW (ar 10 z1) (ar 11 z1)) (i + 1) := ⟨by omega, g3, g4, g5⟩
                have hl2 : lv_has ls 11 [(0, .ref (q 0)), (1, .int (nI x1)), (2, .int (nI z1)), (3, .int (nI (1))), (4, .int (nI (1))), (5, .int (nI (0))), (6, .int (nI (ar 3 x1))), (7, .int (nI (i + 1)))] := lv_sub hl [7, 8, 9, 3, 2, 1, 10, 0] rfl
                apply ih (i := i + 1) (t3 := 1) (t4 := 1) (t5 := 0) <;> assumption
              · skip
                refine lv_iconst (pc := 139) (v := nI 1) S.1 S.2.1 dX9_hinders_139 (by decide) ?_
                refine lv_goto (pc := 140) (tgt := 144) S.1 S.2.1 dX9_hinders_140 (by decide) ?_
                have g5 : 1 = wiF (ar 3 x1) (fun j => ar 4 (6 * x1 + j)) (bW (ar 10 z1) (ar 11 z1)) (i + 1) := by simp only [wiF]; rw [if_neg (by omega)]
                refine lv_istore (pc := 144) (lv' := [(5, .int (nI 1)), (4, .int (nI 1)), (3, .int (nI 1)), (10, .int (nI (bW (ar 10 z1) (ar 11 z1) i))), (9, .int (nI ((ar 4) ((6 * x1) + i)))), (8, .int (nI ((6 * x1) + i))), (0, .ref (q 0)), (1, .int (nI x1)), (2, .int (nI z1)), (6, .int (nI (ar 3 x1))), (7, .int (nI i))]) S.1 S.2.1 dX9_hinders_144 hl (by decide) rfl (fun ls hl => ?_)
                refine lv_iinc (pc := 146) (v := nI (i + 1)) (lv' := [(7, .int (nI (i + 1))), (5, .int (nI 1)), (4, .int (nI 1)), (3, .int (nI 1)), (10, .int (nI (bW (ar 10 z1) (ar 11 z1) i))), (9, .int (nI ((ar 4) ((6 * x1) + i)))), (8, .int (nI ((6 * x1) + i))), (0, .ref (q 0)), (1, .int (nI x1)), (2, .int (nI z1)), (6, .int (nI (ar 3 x1)))]) S.1 S.2.1 dX9_hinders_146 hl (k := 10) rfl (by first | rfl | exact nI_add _ _) (by decide) rfl (fun ls hl => ?_)
                refine lv_goto (pc := 149) (tgt := 19) S.1 S.2.1 dX9_hinders_149 (by decide) ?_
                have hi2 : (i + 1) + n = 6 ∧ (1) = thF (fun j => ar 6 (6 * x1 + j) * 100000 / (ar 4 (6 * x1 + j) * ar 5 (6 * x1 + j))) (i + 1) ∧ (1) = tnF (ar 3 x1) (fun j => ar 4 (6 * x1 + j)) (bW (ar 10 z1) (ar 11 z1)) (i + 1) ∧ (1) = wiF (ar 3 x1) (fun j => ar 4 (6 * x1 + j)) (bW (ar 10 z1) (ar 11 z1)) (i + 1) := ⟨by omega, g3, g4, g5⟩
                have hl2 : lv_has ls 11 [(0, .ref (q 0)), (1, .int (nI x1)), (2, .int (nI z1)), (3, .int (nI (1))), (4, .int (nI (1))), (5, .int (nI (1))), (6, .int (nI (ar 3 x1))), (7, .int (nI (i + 1)))] := lv_sub hl [7, 8, 9, 3, 2, 1, 10, 0] rfl
                apply ih (i := i + 1) (t3 := 1) (t4 := 1) (t5 := 1) <;> assumption
        · skip
          refine lv_iload (pc := 79) S.1 S.2.1 dX9_hinders_79 (lv_at hl 1 rfl) ?_
          refine lv_iload (pc := 81) S.1 S.2.1 dX9_hinders_81 (lv_at hl 2 rfl) ?_
          refine hv_icmp_le (pc := 83) (tgt := 109) (a := bW (ar 10 z1) (ar 11 z1) i) (b := (ar 4) ((6 * x1) + i)) S.1 S.2.1 (by omega) (by omega) dX9_hinders_83 (by decide) (fun c_17 => ?_) (fun c_17 => ?_)
          · skip
            refine lv_iconst (pc := 109) (v := nI 0) S.1 S.2.1 dX9_hinders_109 (by decide) ?_
            have g4 : 0 = tnF (ar 3 x1) (fun j => ar 4 (6 * x1 + j)) (bW (ar 10 z1) (ar 11 z1)) (i + 1) := by simp only [tnF]; rw [if_pos ⟨by omega, by omega⟩]
            refine lv_istore (pc := 110) (lv' := [(4, .int (nI 0)), (3, .int (nI 1)), (10, .int (nI (bW (ar 10 z1) (ar 11 z1) i))), (9, .int (nI ((ar 4) ((6 * x1) + i)))), (8, .int (nI ((6 * x1) + i))), (0, .ref (q 0)), (1, .int (nI x1)), (2, .int (nI z1)), (5, .int (nI t5)), (6, .int (nI (ar 3 x1))), (7, .int (nI i))]) S.1 S.2.1 dX9_hinders_110 hl (by decide) rfl (fun ls hl => ?_)
            refine lv_iload (pc := 112) S.1 S.2.1 dX9_hinders_112 (lv_at hl 8 rfl) ?_
            refine hv_if_ne (pc := 114) (tgt := 139) (a := t5) S.1 S.2.1 (by omega) dX9_hinders_114 (by decide) (fun c_18 => ?_) (fun c_18 => ?_)
            · skip
              refine lv_iconst (pc := 139) (v := nI 1) S.1 S.2.1 dX9_hinders_139 (by decide) ?_
              refine lv_goto (pc := 140) (tgt := 144) S.1 S.2.1 dX9_hinders_140 (by decide) ?_
              have g5 : 1 = wiF (ar 3 x1) (fun j => ar 4 (6 * x1 + j)) (bW (ar 10 z1) (ar 11 z1)) (i + 1) := by simp only [wiF]; rw [if_neg (by omega)]
              refine lv_istore (pc := 144) (lv' := [(5, .int (nI 1)), (4, .int (nI 0)), (3, .int (nI 1)), (10, .int (nI (bW (ar 10 z1) (ar 11 z1) i))), (9, .int (nI ((ar 4) ((6 * x1) + i)))), (8, .int (nI ((6 * x1) + i))), (0, .ref (q 0)), (1, .int (nI x1)), (2, .int (nI z1)), (6, .int (nI (ar 3 x1))), (7, .int (nI i))]) S.1 S.2.1 dX9_hinders_144 hl (by decide) rfl (fun ls hl => ?_)
              refine lv_iinc (pc := 146) (v := nI (i + 1)) (lv' := [(7, .int (nI (i + 1))), (5, .int (nI 1)), (4, .int (nI 0)), (3, .int (nI 1)), (10, .int (nI (bW (ar 10 z1) (ar 11 z1) i))), (9, .int (nI ((ar 4) ((6 * x1) + i)))), (8, .int (nI ((6 * x1) + i))), (0, .ref (q 0)), (1, .int (nI x1)), (2, .int (nI z1)), (6, .int (nI (ar 3 x1)))]) S.1 S.2.1 dX9_hinders_146 hl (k := 10) rfl (by first | rfl | exact nI_add _ _) (by decide) rfl (fun ls hl => ?_)
              refine lv_goto (pc := 149) (tgt := 19) S.1 S.2.1 dX9_hinders_149 (by decide) ?_
              have hi2 : (i + 1) + n = 6 ∧ (1) = thF (fun j => ar 6 (6 * x1 + j) * 100000 / (ar 4 (6 * x1 + j) * ar 5 (6 * x1 + j))) (i + 1) ∧ (0) = tnF (ar 3 x1) (fun j => ar 4 (6 * x1 + j)) (bW (ar 10 z1) (ar 11 z1)) (i + 1) ∧ (1) = wiF (ar 3 x1) (fun j => ar 4 (6 * x1 + j)) (bW (ar 10 z1) (ar 11 z1)) (i + 1) := ⟨by omega, g3, g4, g5⟩
              have hl2 : lv_has ls 11 [(0, .ref (q 0)), (1, .int (nI x1)), (2, .int (nI z1)), (3, .int (nI (1))), (4, .int (nI (0))), (5, .int (nI (1))), (6, .int (nI (ar 3 x1))), (7, .int (nI (i + 1)))] := lv_sub hl [7, 8, 9, 3, 2, 1, 10, 0] rfl
              apply ih (i := i + 1) (t3 := 1) (t4 := 0) (t5 := 1) <;> assumption
            · skip
              refine lv_iload (pc := 117) S.1 S.2.1 dX9_hinders_117 (lv_at hl 2 rfl) ?_
              refine lv_iload (pc := 119) S.1 S.2.1 dX9_hinders_119 (lv_at hl 3 rfl) ?_
              refine hv_icmp_ge (pc := 121) (tgt := 143) (a := bW (ar 10 z1) (ar 11 z1) i) (b := (ar 4) ((6 * x1) + i)) S.1 S.2.1 (by omega) (by omega) dX9_hinders_121 (by decide) (fun c_19 => ?_) (fun c_19 => ?_)
              · skip
                refine lv_iconst (pc := 143) (v := nI 0) S.1 S.2.1 dX9_hinders_143 (by decide) ?_
                have g5 : 0 = wiF (ar 3 x1) (fun j => ar 4 (6 * x1 + j)) (bW (ar 10 z1) (ar 11 z1)) (i + 1) := by simp only [wiF]; rw [if_pos ⟨by omega, by omega⟩]
                refine lv_istore (pc := 144) (lv' := [(5, .int (nI 0)), (4, .int (nI 0)), (3, .int (nI 1)), (10, .int (nI (bW (ar 10 z1) (ar 11 z1) i))), (9, .int (nI ((ar 4) ((6 * x1) + i)))), (8, .int (nI ((6 * x1) + i))), (0, .ref (q 0)), (1, .int (nI x1)), (2, .int (nI z1)), (6, .int (nI (ar 3 x1))), (7, .int (nI i))]) S.1 S.2.1 dX9_hinders_144 hl (by decide) rfl (fun ls hl => ?_)
                refine lv_iinc (pc := 146) (v := nI (i + 1)) (lv' := [(7, .int (nI (i + 1))), (5, .int (nI 0)), (4, .int (nI 0)), (3, .int (nI 1)), (10, .int (nI (bW (ar 10 z1) (ar 11 z1) i))), (9, .int (nI ((ar 4) ((6 * x1) + i)))), (8, .int (nI ((6 * x1) + i))), (0, .ref (q 0)), (1, .int (nI x1)), (2, .int (nI z1)), (6, .int (nI (ar 3 x1)))]) S.1 S.2.1 dX9_hinders_146 hl (k := 10) rfl (by first | rfl | exact nI_add _ _) (by decide) rfl (fun ls hl => ?_)
                refine lv_goto (pc := 149) (tgt := 19) S.1 S.2.1 dX9_hinders_149 (by decide) ?_
                have hi2 : (i + 1) + n = 6 ∧ (1) = thF (fun j => ar 6 (6 * x1 + j) * 100000 / (ar 4 (6 * x1 + j) * ar 5 (6 * x1 + j))) (i + 1) ∧ (0) = tnF (ar 3 x1) (fun j => ar 4 (6 * x1 + j)) (bW (ar 10 z1) (ar 11 z1)) (i + 1) ∧ (0) = wiF (ar 3 x1) (fun j => ar 4 (6 * x1 + j)) (bW (ar 10 z1) (ar 11 z1)) (i + 1) := ⟨by omega, g3, g4, g5⟩
                have hl2 : lv_has ls 11 [(0, .ref (q 0)), (1, .int (nI x1)), (2, .int (nI z1)), (3, .int (nI (1))), (4, .int (nI (0))), (5, .int (nI (0))), (6, .int (nI (ar 3 x1))), (7, .int (nI (i + 1)))] := lv_sub hl [7, 8, 9, 3, 2, 1, 10, 0] rfl
                apply ih (i := i + 1) (t3 := 1) (t4 := 0) (t5 := 0) <;> assumption
              · skip
                refine lv_iload (pc := 124) S.1 S.2.1 dX9_hinders_124 (lv_at hl 3 rfl) ?_
                refine lv_iload (pc := 126) S.1 S.2.1 dX9_hinders_126 (lv_at hl 9 rfl) ?_
                refine hv_call (pc := 128) (va_runS (As := [.int (nI (ar 3 x1))]) (rest := [.int (nI ((ar 4) ((6 * x1) + i)))]) S (c_m_across l D cA ga φ H.size (ar 3 x1) h3x) (va_cwS 1 S.2.2.2.2 (gS tw_1064 tw_1065 tw_7 tw_1066) rfl rfl rfl (by decide +kernel) ⟨Nat.le_of_ble_eq_true rfl, Nat.le_of_ble_eq_true rfl⟩) (pre0_S hH hK hX hS hA) rfl rfl hl.1 rfl (lv_room (Nat.le_of_ble_eq_true rfl)) dX9_hinders_128 ⟨Nat.le_of_ble_eq_true rfl, Nat.le_of_ble_eq_true rfl⟩) hS (af_le hH hS hA) (fun v_20 φ_21 H locs hw_v_20 hH hS => ?_)
                obtain ⟨rfl, hqv_20⟩ := hw_v_20
                rw [hqv_20] at hH
                refine hv_call (pc := 131) (va_runS (As := [.int (nI ((ar 4) ((6 * x1) + i))), .int (nI (fAcr (ar 3 x1)))]) (rest := []) S (c_m_shrunk l D cA ga φ H.size (ar 4 (6 * x1 + i)) (fAcr (ar 3 x1)) (by omega) (by omega)) (va_cwS 2 S.2.2.2.2 (gS tw_1067 tw_1068 tw_7 tw_1069) rfl rfl rfl (by decide +kernel) ⟨Nat.le_of_ble_eq_true rfl, Nat.le_of_ble_eq_true rfl⟩) (pre0_S hH hK hX hS hA) rfl rfl hl.1 rfl (lv_room (Nat.le_of_ble_eq_true rfl)) dX9_hinders_131 ⟨Nat.le_of_ble_eq_true rfl, Nat.le_of_ble_eq_true rfl⟩) hS (af_le hH hS hA) (fun v_22 φ_23 H locs hw_v_22 hH hS => ?_)
                obtain ⟨rfl, hqv_22⟩ := hw_v_22
                rw [hqv_22] at hH
                refine hv_ti (y := nI (shA (ar 3 x1) (ar 4 (6 * x1 + i)))) (rfl) ?_
                refine lv_iload (pc := 134) S.1 S.2.1 dX9_hinders_134 (lv_at hl 2 rfl) ?_
                refine hv_icmp_le (pc := 136) (tgt := 143) (a := shA (ar 3 x1) (ar 4 (6 * x1 + i))) (b := bW (ar 10 z1) (ar 11 z1) i) S.1 S.2.1 (by omega) (by omega) dX9_hinders_136 (by decide) (fun c_24 => ?_) (fun c_24 => ?_)
                · skip
                  refine lv_iconst (pc := 143) (v := nI 0) S.1 S.2.1 dX9_hinders_143 (by decide) ?_
                  have g5 : 0 = wiF (ar 3 x1) (fun j => ar 4 (6 * x1 + j)) (bW (ar 10 z1) (ar 11 z1)) (i + 1) := by simp only [wiF]; rw [if_pos ⟨by omega, by omega⟩]
                  refine lv_istore (pc := 144) (lv' := [(5, .int (nI 0)), (4, .int (nI 0)), (3, .int (nI 1)), (10, .int (nI (bW (ar 10 z1) (ar 11 z1) i))), (9, .int (nI ((ar 4) ((6 * x1) + i)))), (8, .int (nI ((6 * x1) + i))), (0, .ref (q 0)), (1, .int (nI x1)), (2, .int (nI z1)), (6, .int (nI (ar 3 x1))), (7, .int (nI i))]) S.1 S.2.1 dX9_hinders_144 hl (by decide) rfl (fun ls hl => ?_)
                  refine lv_iinc (pc := 146) (v := nI (i + 1)) (lv' := [(7, .int (nI (i + 1))), (5, .int (nI 0)), (4, .int (nI 0)), (3, .int (nI 1)), (10, .int (nI (bW (ar 10 z1) (ar 11 z1) i))), (9, .int (nI ((ar 4) ((6 * x1) + i)))), (8, .int (nI ((6 * x1) + i))), (0, .ref (q 0)), (1, .int (nI x1)), (2, .int (nI z1)), (6, .int (nI (ar 3 x1)))]) S.1 S.2.1 dX9_hinders_146 hl (k := 10) rfl (by first | rfl | exact nI_add _ _) (by decide) rfl (fun ls hl => ?_)
                  refine lv_goto (pc := 149) (tgt := 19) S.1 S.2.1 dX9_hinders_149 (by decide) ?_
                  have hi2 : (i + 1) + n = 6 ∧ (1) = thF (fun j => ar 6 (6 * x1 + j) * 100000 / (ar 4 (6 * x1 + j) * ar 5 (6 * x1 + j))) (i + 1) ∧ (0) = tnF (ar 3 x1) (fun j => ar 4 (6 * x1 + j)) (bW (ar 10 z1) (ar 11 z1)) (i + 1) ∧ (0) = wiF (ar 3 x1) (fun j => ar 4 (6 * x1 + j)) (bW (ar 10 z1) (ar 11 z1)) (i + 1) := ⟨by omega, g3, g4, g5⟩
                  have hl2 : lv_has ls 11 [(0, .ref (q 0)), (1, .int (nI x1)), (2, .int (nI z1)), (3, .int (nI (1))), (4, .int (nI (0))), (5, .int (nI (0))), (6, .int (nI (ar 3 x1))), (7, .int (nI (i + 1)))] := lv_sub hl [7, 8, 9, 3, 2, 1, 10, 0] rfl
                  apply ih (i := i + 1) (t3 := 1) (t4 := 0) (t5 := 0) <;> assumption
                · skip
                  refine lv_iconst (pc := 139) (v := nI 1) S.1 S.2.1 dX9_hinders_139 (by decide) ?_
                  refine lv_goto (pc := 140) (tgt := 144) S.1 S.2.1 dX9_hinders_140 (by decide) ?_
                  have g5 : 1 = wiF (ar 3 x1) (fun j => ar 4 (6 * x1 + j)) (bW (ar 10 z1) (ar 11 z1)) (i + 1) := by simp only [wiF]; rw [if_neg (by omega)]
                  refine lv_istore (pc := 144) (lv' := [(5, .int (nI 1)), (4, .int (nI 0)), (3, .int (nI 1)), (10, .int (nI (bW (ar 10 z1) (ar 11 z1) i))), (9, .int (nI ((ar 4) ((6 * x1) + i)))), (8, .int (nI ((6 * x1) + i))), (0, .ref (q 0)), (1, .int (nI x1)), (2, .int (nI z1)), (6, .int (nI (ar 3 x1))), (7, .int (nI i))]) S.1 S.2.1 dX9_hinders_144 hl (by decide) rfl (fun ls hl => ?_)
                  refine lv_iinc (pc := 146) (v := nI (i + 1)) (lv' := [(7, .int (nI (i + 1))), (5, .int (nI 1)), (4, .int (nI 0)), (3, .int (nI 1)), (10, .int (nI (bW (ar 10 z1) (ar 11 z1) i))), (9, .int (nI ((ar 4) ((6 * x1) + i)))), (8, .int (nI ((6 * x1) + i))), (0, .ref (q 0)), (1, .int (nI x1)), (2, .int (nI z1)), (6, .int (nI (ar 3 x1)))]) S.1 S.2.1 dX9_hinders_146 hl (k := 10) rfl (by first | rfl | exact nI_add _ _) (by decide) rfl (fun ls hl => ?_)
                  refine lv_goto (pc := 149) (tgt := 19) S.1 S.2.1 dX9_hinders_149 (by decide) ?_
                  have hi2 : (i + 1) + n = 6 ∧ (1) = thF (fun j => ar 6 (6 * x1 + j) * 100000 / (ar 4 (6 * x1 + j) * ar 5 (6 * x1 + j))) (i + 1) ∧ (0) = tnF (ar 3 x1) (fun j => ar 4 (6 * x1 + j)) (bW (ar 10 z1) (ar 11 z1)) (i + 1) ∧ (1) = wiF (ar 3 x1) (fun j => ar 4 (6 * x1 + j)) (bW (ar 10 z1) (ar 11 z1)) (i + 1) := ⟨by omega, g3, g4, g5⟩
                  have hl2 : lv_has ls 11 [(0, .ref (q 0)), (1, .int (nI x1)), (2, .int (nI z1)), (3, .int (nI (1))), (4, .int (nI (0))), (5, .int (nI (1))), (6, .int (nI (ar 3 x1))), (7, .int (nI (i + 1)))] := lv_sub hl [7, 8, 9, 3, 2, 1, 10, 0] rfl
                  apply ih (i := i + 1) (t3 := 1) (t4 := 0) (t5 := 1) <;> assumption
          · skip
            have hne : ¬ nI (ar 4 (6 * x1 + i)) = 0 := nI_ne0 hw4.1 (by omega)
            refine lv_bipush (pc := 86) (v := nI 100) S.1 S.2.1 dX9_hinders_86 (by decide) ?_
            refine lv_iload (pc := 88) S.1 S.2.1 dX9_hinders_88 (lv_at hl 1 rfl) ?_
            refine lv_iload (pc := 90) S.1 S.2.1 dX9_hinders_90 (lv_at hl 2 rfl) ?_
            refine lv_isub (pc := 92) S.1 S.2.1 dX9_hinders_92 ?_
            refine hv_ti (y := nI ((bW (ar 10 z1) (ar 11 z1) i) - ((ar 4) ((6 * x1) + i)))) (pk_sub (by omega)) ?_
            refine lv_imul (pc := 93) S.1 S.2.1 dX9_hinders_93 ?_
            refine hv_ti (y := nI (100 * ((bW (ar 10 z1) (ar 11 z1) i) - ((ar 4) ((6 * x1) + i))))) (pk_mul _ _) ?_
            refine lv_iload (pc := 94) S.1 S.2.1 dX9_hinders_94 (lv_at hl 2 rfl) ?_
            refine lv_idiv (pc := 96) S.1 S.2.1 dX9_hinders_96 (by assumption) ?_
            refine hv_ti (y := nI (100 * (bW (ar 10 z1) (ar 11 z1) i - ar 4 (6 * x1 + i)) / ar 4 (6 * x1 + i))) (pk_div (by omega) hw4.1 (by omega)) ?_
            refine lv_iload (pc := 97) S.1 S.2.1 dX9_hinders_97 (lv_at hl 9 rfl) ?_
            refine hv_call (pc := 99) (va_runS (As := [.int (nI (ar 3 x1))]) (rest := [.int (nI (100 * (bW (ar 10 z1) (ar 11 z1) i - ar 4 (6 * x1 + i)) / ar 4 (6 * x1 + i)))]) S (c_m_strain l D cA ga φ H.size (ar 3 x1) h3x) (va_cwS 1 S.2.2.2.2 (gS tw_1094 tw_1095 tw_7 tw_1096) rfl rfl rfl (by decide +kernel) ⟨Nat.le_of_ble_eq_true rfl, Nat.le_of_ble_eq_true rfl⟩) (pre0_S hH hK hX hS hA) rfl rfl hl.1 rfl (lv_room (Nat.le_of_ble_eq_true rfl)) dX9_hinders_99 ⟨Nat.le_of_ble_eq_true rfl, Nat.le_of_ble_eq_true rfl⟩) hS (af_le hH hS hA) (fun v_25 φ_26 H locs hw_v_25 hH hS => ?_)
            obtain ⟨rfl, hqv_25⟩ := hw_v_25
            rw [hqv_25] at hH
            refine hv_icmp_le (pc := 102) (tgt := 109) (a := 100 * (bW (ar 10 z1) (ar 11 z1) i - ar 4 (6 * x1 + i)) / ar 4 (6 * x1 + i)) (b := fStr (ar 3 x1)) S.1 S.2.1 (by omega) (by omega) dX9_hinders_102 (by decide) (fun c_27 => ?_) (fun c_27 => ?_)
            · skip
              refine lv_iconst (pc := 109) (v := nI 0) S.1 S.2.1 dX9_hinders_109 (by decide) ?_
              have g4 : 0 = tnF (ar 3 x1) (fun j => ar 4 (6 * x1 + j)) (bW (ar 10 z1) (ar 11 z1)) (i + 1) := by simp only [tnF]; rw [if_pos ⟨by omega, by omega⟩]
              refine lv_istore (pc := 110) (lv' := [(4, .int (nI 0)), (3, .int (nI 1)), (10, .int (nI (bW (ar 10 z1) (ar 11 z1) i))), (9, .int (nI ((ar 4) ((6 * x1) + i)))), (8, .int (nI ((6 * x1) + i))), (0, .ref (q 0)), (1, .int (nI x1)), (2, .int (nI z1)), (5, .int (nI t5)), (6, .int (nI (ar 3 x1))), (7, .int (nI i))]) S.1 S.2.1 dX9_hinders_110 hl (by decide) rfl (fun ls hl => ?_)
              refine lv_iload (pc := 112) S.1 S.2.1 dX9_hinders_112 (lv_at hl 8 rfl) ?_
              refine hv_if_ne (pc := 114) (tgt := 139) (a := t5) S.1 S.2.1 (by omega) dX9_hinders_114 (by decide) (fun c_28 => ?_) (fun c_28 => ?_)
              · skip
                refine lv_iconst (pc := 139) (v := nI 1) S.1 S.2.1 dX9_hinders_139 (by decide) ?_
                refine lv_goto (pc := 140) (tgt := 144) S.1 S.2.1 dX9_hinders_140 (by decide) ?_
                have g5 : 1 = wiF (ar 3 x1) (fun j => ar 4 (6 * x1 + j)) (bW (ar 10 z1) (ar 11 z1)) (i + 1) := by simp only [wiF]; rw [if_neg (by omega)]
                refine lv_istore (pc := 144) (lv' := [(5, .int (nI 1)), (4, .int (nI 0)), (3, .int (nI 1)), (10, .int (nI (bW (ar 10 z1) (ar 11 z1) i))), (9, .int (nI ((ar 4) ((6 * x1) + i)))), (8, .int (nI ((6 * x1) + i))), (0, .ref (q 0)), (1, .int (nI x1)), (2, .int (nI z1)), (6, .int (nI (ar 3 x1))), (7, .int (nI i))]) S.1 S.2.1 dX9_hinders_144 hl (by decide) rfl (fun ls hl => ?_)
                refine lv_iinc (pc := 146) (v := nI (i + 1)) (lv' := [(7, .int (nI (i + 1))), (5, .int (nI 1)), (4, .int (nI 0)), (3, .int (nI 1)), (10, .int (nI (bW (ar 10 z1) (ar 11 z1) i))), (9, .int (nI ((ar 4) ((6 * x1) + i)))), (8, .int (nI ((6 * x1) + i))), (0, .ref (q 0)), (1, .int (nI x1)), (2, .int (nI z1)), (6, .int (nI (ar 3 x1)))]) S.1 S.2.1 dX9_hinders_146 hl (k := 10) rfl (by first | rfl | exact nI_add _ _) (by decide) rfl (fun ls hl => ?_)
                refine lv_goto (pc := 149) (tgt := 19) S.1 S.2.1 dX9_hinders_149 (by decide) ?_
                have hi2 : (i + 1) + n = 6 ∧ (1) = thF (fun j => ar 6 (6 * x1 + j) * 100000 / (ar 4 (6 * x1 + j) * ar 5 (6 * x1 + j))) (i + 1) ∧ (0) = tnF (ar 3 x1) (fun j => ar 4 (6 * x1 + j)) (bW (ar 10 z1) (ar 11 z1)) (i + 1) ∧ (1) = wiF (ar 3 x1) (fun j => ar 4 (6 * x1 + j)) (bW (ar 10 z1) (ar 11 z1)) (i + 1) := ⟨by omega, g3, g4, g5⟩
                have hl2 : lv_has ls 11 [(0, .ref (q 0)), (1, .int (nI x1)), (2, .int (nI z1)), (3, .int (nI (1))), (4, .int (nI (0))), (5, .int (nI (1))), (6, .int (nI (ar 3 x1))), (7, .int (nI (i + 1)))] := lv_sub hl [7, 8, 9, 3, 2, 1, 10, 0] rfl
                apply ih (i := i + 1) (t3 := 1) (t4 := 0) (t5 := 1) <;> assumption
              · skip
                refine lv_iload (pc := 117) S.1 S.2.1 dX9_hinders_117 (lv_at hl 2 rfl) ?_
                refine lv_iload (pc := 119) S.1 S.2.1 dX9_hinders_119 (lv_at hl 3 rfl) ?_
                refine hv_icmp_ge (pc := 121) (tgt := 143) (a := bW (ar 10 z1) (ar 11 z1) i) (b := (ar 4) ((6 * x1) + i)) S.1 S.2.1 (by omega) (by omega) dX9_hinders_121 (by decide) (fun c_29 => ?_) (fun c_29 => ?_)
                · skip
                  refine lv_iconst (pc := 143) (v := nI 0) S.1 S.2.1 dX9_hinders_143 (by decide) ?_
                  have g5 : 0 = wiF (ar 3 x1) (fun j => ar 4 (6 * x1 + j)) (bW (ar 10 z1) (ar 11 z1)) (i + 1) := by simp only [wiF]; rw [if_pos ⟨by omega, by omega⟩]
                  refine lv_istore (pc := 144) (lv' := [(5, .int (nI 0)), (4, .int (nI 0)), (3, .int (nI 1)), (10, .int (nI (bW (ar 10 z1) (ar 11 z1) i))), (9, .int (nI ((ar 4) ((6 * x1) + i)))), (8, .int (nI ((6 * x1) + i))), (0, .ref (q 0)), (1, .int (nI x1)), (2, .int (nI z1)), (6, .int (nI (ar 3 x1))), (7, .int (nI i))]) S.1 S.2.1 dX9_hinders_144 hl (by decide) rfl (fun ls hl => ?_)
                  refine lv_iinc (pc := 146) (v := nI (i + 1)) (lv' := [(7, .int (nI (i + 1))), (5, .int (nI 0)), (4, .int (nI 0)), (3, .int (nI 1)), (10, .int (nI (bW (ar 10 z1) (ar 11 z1) i))), (9, .int (nI ((ar 4) ((6 * x1) + i)))), (8, .int (nI ((6 * x1) + i))), (0, .ref (q 0)), (1, .int (nI x1)), (2, .int (nI z1)), (6, .int (nI (ar 3 x1)))]) S.1 S.2.1 dX9_hinders_146 hl (k := 10) rfl (by first | rfl | exact nI_add _ _) (by decide) rfl (fun ls hl => ?_)
                  refine lv_goto (pc := 149) (tgt := 19) S.1 S.2.1 dX9_hinders_149 (by decide) ?_
                  have hi2 : (i + 1) + n = 6 ∧ (1) = thF (fun j => ar 6 (6 * x1 + j) * 100000 / (ar 4 (6 * x1 + j) * ar 5 (6 * x1 + j))) (i + 1) ∧ (0) = tnF (ar 3 x1) (fun j => ar 4 (6 * x1 + j)) (bW (ar 10 z1) (ar 11 z1)) (i + 1) ∧ (0) = wiF (ar 3 x1) (fun j => ar 4 (6 * x1 + j)) (bW (ar 10 z1) (ar 11 z1)) (i + 1) := ⟨by omega, g3, g4, g5⟩
                  have hl2 : lv_has ls 11 [(0, .ref (q 0)), (1, .int (nI x1)), (2, .int (nI z1)), (3, .int (nI (1))), (4, .int (nI (0))), (5, .int (nI (0))), (6, .int (nI (ar 3 x1))), (7, .int (nI (i + 1)))] := lv_sub hl [7, 8, 9, 3, 2, 1, 10, 0] rfl
                  apply ih (i := i + 1) (t3 := 1) (t4 := 0) (t5 := 0) <;> assumption
                · skip
                  refine lv_iload (pc := 124) S.1 S.2.1 dX9_hinders_124 (lv_at hl 3 rfl) ?_
                  refine lv_iload (pc := 126) S.1 S.2.1 dX9_hinders_126 (lv_at hl 9 rfl) ?_
                  refine hv_call (pc := 128) (va_runS (As := [.int (nI (ar 3 x1))]) (rest := [.int (nI ((ar 4) ((6 * x1) + i)))]) S (c_m_across l D cA ga φ H.size (ar 3 x1) h3x) (va_cwS 1 S.2.2.2.2 (gS tw_1064 tw_1065 tw_7 tw_1066) rfl rfl rfl (by decide +kernel) ⟨Nat.le_of_ble_eq_true rfl, Nat.le_of_ble_eq_true rfl⟩) (pre0_S hH hK hX hS hA) rfl rfl hl.1 rfl (lv_room (Nat.le_of_ble_eq_true rfl)) dX9_hinders_128 ⟨Nat.le_of_ble_eq_true rfl, Nat.le_of_ble_eq_true rfl⟩) hS (af_le hH hS hA) (fun v_30 φ_31 H locs hw_v_30 hH hS => ?_)
                  obtain ⟨rfl, hqv_30⟩ := hw_v_30
                  rw [hqv_30] at hH
                  refine hv_call (pc := 131) (va_runS (As := [.int (nI ((ar 4) ((6 * x1) + i))), .int (nI (fAcr (ar 3 x1)))]) (rest := []) S (c_m_shrunk l D cA ga φ H.size (ar 4 (6 * x1 + i)) (fAcr (ar 3 x1)) (by omega) (by omega)) (va_cwS 2 S.2.2.2.2 (gS tw_1067 tw_1068 tw_7 tw_1069) rfl rfl rfl (by decide +kernel) ⟨Nat.le_of_ble_eq_true rfl, Nat.le_of_ble_eq_true rfl⟩) (pre0_S hH hK hX hS hA) rfl rfl hl.1 rfl (lv_room (Nat.le_of_ble_eq_true rfl)) dX9_hinders_131 ⟨Nat.le_of_ble_eq_true rfl, Nat.le_of_ble_eq_true rfl⟩) hS (af_le hH hS hA) (fun v_32 φ_33 H locs hw_v_32 hH hS => ?_)
                  obtain ⟨rfl, hqv_32⟩ := hw_v_32
                  rw [hqv_32] at hH
                  refine hv_ti (y := nI (shA (ar 3 x1) (ar 4 (6 * x1 + i)))) (rfl) ?_
                  refine lv_iload (pc := 134) S.1 S.2.1 dX9_hinders_134 (lv_at hl 2 rfl) ?_
                  refine hv_icmp_le (pc := 136) (tgt := 143) (a := shA (ar 3 x1) (ar 4 (6 * x1 + i))) (b := bW (ar 10 z1) (ar 11 z1) i) S.1 S.2.1 (by omega) (by omega) dX9_hinders_136 (by decide) (fun c_34 => ?_) (fun c_34 => ?_)
                  · skip
                    refine lv_iconst (pc := 143) (v := nI 0) S.1 S.2.1 dX9_hinders_143 (by decide) ?_
                    have g5 : 0 = wiF (ar 3 x1) (fun j => ar 4 (6 * x1 + j)) (bW (ar 10 z1) (ar 11 z1)) (i + 1) := by simp only [wiF]; rw [if_pos ⟨by omega, by omega⟩]
                    refine lv_istore (pc := 144) (lv' := [(5, .int (nI 0)), (4, .int (nI 0)), (3, .int (nI 1)), (10, .int (nI (bW (ar 10 z1) (ar 11 z1) i))), (9, .int (nI ((ar 4) ((6 * x1) + i)))), (8, .int (nI ((6 * x1) + i))), (0, .ref (q 0)), (1, .int (nI x1)), (2, .int (nI z1)), (6, .int (nI (ar 3 x1))), (7, .int (nI i))]) S.1 S.2.1 dX9_hinders_144 hl (by decide) rfl (fun ls hl => ?_)
                    refine lv_iinc (pc := 146) (v := nI (i + 1)) (lv' := [(7, .int (nI (i + 1))), (5, .int (nI 0)), (4, .int (nI 0)), (3, .int (nI 1)), (10, .int (nI (bW (ar 10 z1) (ar 11 z1) i))), (9, .int (nI ((ar 4) ((6 * x1) + i)))), (8, .int (nI ((6 * x1) + i))), (0, .ref (q 0)), (1, .int (nI x1)), (2, .int (nI z1)), (6, .int (nI (ar 3 x1)))]) S.1 S.2.1 dX9_hinders_146 hl (k := 10) rfl (by first | rfl | exact nI_add _ _) (by decide) rfl (fun ls hl => ?_)
                    refine lv_goto (pc := 149) (tgt := 19) S.1 S.2.1 dX9_hinders_149 (by decide) ?_
                    have hi2 : (i + 1) + n = 6 ∧ (1) = thF (fun j => ar 6 (6 * x1 + j) * 100000 / (ar 4 (6 * x1 + j) * ar 5 (6 * x1 + j))) (i + 1) ∧ (0) = tnF (ar 3 x1) (fun j => ar 4 (6 * x1 + j)) (bW (ar 10 z1) (ar 11 z1)) (i + 1) ∧ (0) = wiF (ar 3 x1) (fun j => ar 4 (6 * x1 + j)) (bW (ar 10 z1) (ar 11 z1)) (i + 1) := ⟨by omega, g3, g4, g5⟩
                    have hl2 : lv_has ls 11 [(0, .ref (q 0)), (1, .int (nI x1)), (2, .int (nI z1)), (3, .int (nI (1))), (4, .int (nI (0))), (5, .int (nI (0))), (6, .int (nI (ar 3 x1))), (7, .int (nI (i + 1)))] := lv_sub hl [7, 8, 9, 3, 2, 1, 10, 0] rfl
                    apply ih (i := i + 1) (t3 := 1) (t4 := 0) (t5 := 0) <;> assumption
                  · skip
                    refine lv_iconst (pc := 139) (v := nI 1) S.1 S.2.1 dX9_hinders_139 (by decide) ?_
                    refine lv_goto (pc := 140) (tgt := 144) S.1 S.2.1 dX9_hinders_140 (by decide) ?_
                    have g5 : 1 = wiF (ar 3 x1) (fun j => ar 4 (6 * x1 + j)) (bW (ar 10 z1) (ar 11 z1)) (i + 1) := by simp only [wiF]; rw [if_neg (by omega)]
                    refine lv_istore (pc := 144) (lv' := [(5, .int (nI 1)), (4, .int (nI 0)), (3, .int (nI 1)), (10, .int (nI (bW (ar 10 z1) (ar 11 z1) i))), (9, .int (nI ((ar 4) ((6 * x1) + i)))), (8, .int (nI ((6 * x1) + i))), (0, .ref (q 0)), (1, .int (nI x1)), (2, .int (nI z1)), (6, .int (nI (ar 3 x1))), (7, .int (nI i))]) S.1 S.2.1 dX9_hinders_144 hl (by decide) rfl (fun ls hl => ?_)
                    refine lv_iinc (pc := 146) (v := nI (i + 1)) (lv' := [(7, .int (nI (i + 1))), (5, .int (nI 1)), (4, .int (nI 0)), (3, .int (nI 1)), (10, .int (nI (bW (ar 10 z1) (ar 11 z1) i))), (9, .int (nI ((ar 4) ((6 * x1) + i)))), (8, .int (nI ((6 * x1) + i))), (0, .ref (q 0)), (1, .int (nI x1)), (2, .int (nI z1)), (6, .int (nI (ar 3 x1)))]) S.1 S.2.1 dX9_hinders_146 hl (k := 10) rfl (by first | rfl | exact nI_add _ _) (by decide) rfl (fun ls hl => ?_)
                    refine lv_goto (pc := 149) (tgt := 19) S.1 S.2.1 dX9_hinders_149 (by decide) ?_
                    have hi2 : (i + 1) + n = 6 ∧ (1) = thF (fun j => ar 6 (6 * x1 + j) * 100000 / (ar 4 (6 * x1 + j) * ar 5 (6 * x1 + j))) (i + 1) ∧ (0) = tnF (ar 3 x1) (fun j => ar 4 (6 * x1 + j)) (bW (ar 10 z1) (ar 11 z1)) (i + 1) ∧ (1) = wiF (ar 3 x1) (fun j => ar 4 (6 * x1 + j)) (bW (ar 10 z1) (ar 11 z1)) (i + 1) := ⟨by omega, g3, g4, g5⟩
                    have hl2 : lv_has ls 11 [(0, .ref (q 0)), (1, .int (nI x1)), (2, .int (nI z1)), (3, .int (nI (1))), (4, .int (nI (0))), (5, .int (nI (1))), (6, .int (nI (ar 3 x1))), (7, .int (nI (i + 1)))] := lv_sub hl [7, 8, 9, 3, 2, 1, 10, 0] rfl
                    apply ih (i := i + 1) (t3 := 1) (t4 := 0) (t5 := 1) <;> assumption
            · skip
              refine lv_iconst (pc := 105) (v := nI 1) S.1 S.2.1 dX9_hinders_105 (by decide) ?_
              refine lv_goto (pc := 106) (tgt := 110) S.1 S.2.1 dX9_hinders_106 (by decide) ?_
              have g4 : 1 = tnF (ar 3 x1) (fun j => ar 4 (6 * x1 + j)) (bW (ar 10 z1) (ar 11 z1)) (i + 1) := by simp only [tnF]; rw [if_neg (by omega)]
              refine lv_istore (pc := 110) (lv' := [(4, .int (nI 1)), (3, .int (nI 1)), (10, .int (nI (bW (ar 10 z1) (ar 11 z1) i))), (9, .int (nI ((ar 4) ((6 * x1) + i)))), (8, .int (nI ((6 * x1) + i))), (0, .ref (q 0)), (1, .int (nI x1)), (2, .int (nI z1)), (5, .int (nI t5)), (6, .int (nI (ar 3 x1))), (7, .int (nI i))]) S.1 S.2.1 dX9_hinders_110 hl (by decide) rfl (fun ls hl => ?_)
              refine lv_iload (pc := 112) S.1 S.2.1 dX9_hinders_112 (lv_at hl 8 rfl) ?_
              refine hv_if_ne (pc := 114) (tgt := 139) (a := t5) S.1 S.2.1 (by omega) dX9_hinders_114 (by decide) (fun c_35 => ?_) (fun c_35 => ?_)
              · skip
                refine lv_iconst (pc := 139) (v := nI 1) S.1 S.2.1 dX9_hinders_139 (by decide) ?_
                refine lv_goto (pc := 140) (tgt := 144) S.1 S.2.1 dX9_hinders_140 (by decide) ?_
                have g5 : 1 = wiF (ar 3 x1) (fun j => ar 4 (6 * x1 + j)) (bW (ar 10 z1) (ar 11 z1)) (i + 1) := by simp only [wiF]; rw [if_neg (by omega)]
                refine lv_istore (pc := 144) (lv' := [(5, .int (nI 1)), (4, .int (nI 1)), (3, .int (nI 1)), (10, .int (nI (bW (ar 10 z1) (ar 11 z1) i))), (9, .int (nI ((ar 4) ((6 * x1) + i)))), (8, .int (nI ((6 * x1) + i))), (0, .ref (q 0)), (1, .int (nI x1)), (2, .int (nI z1)), (6, .int (nI (ar 3 x1))), (7, .int (nI i))]) S.1 S.2.1 dX9_hinders_144 hl (by decide) rfl (fun ls hl => ?_)
                refine lv_iinc (pc := 146) (v := nI (i + 1)) (lv' := [(7, .int (nI (i + 1))), (5, .int (nI 1)), (4, .int (nI 1)), (3, .int (nI 1)), (10, .int (nI (bW (ar 10 z1) (ar 11 z1) i))), (9, .int (nI ((ar 4) ((6 * x1) + i)))), (8, .int (nI ((6 * x1) + i))), (0, .ref (q 0)), (1, .int (nI x1)), (2, .int (nI z1)), (6, .int (nI (ar 3 x1)))]) S.1 S.2.1 dX9_hinders_146 hl (k := 10) rfl (by first | rfl | exact nI_add _ _) (by decide) rfl (fun ls hl => ?_)
                refine lv_goto (pc := 149) (tgt := 19) S.1 S.2.1 dX9_hinders_149 (by decide) ?_
                have hi2 : (i + 1) + n = 6 ∧ (1) = thF (fun j => ar 6 (6 * x1 + j) * 100000 / (ar 4 (6 * x1 + j) * ar 5 (6 * x1 + j))) (i + 1) ∧ (1) = tnF (ar 3 x1) (fun j => ar 4 (6 * x1 + j)) (bW (ar 10 z1) (ar 11 z1)) (i + 1) ∧ (1) = wiF (ar 3 x1) (fun j => ar 4 (6 * x1 + j)) (bW (ar 10 z1) (ar 11 z1)) (i + 1) := ⟨by omega, g3, g4, g5⟩
                have hl2 : lv_has ls 11 [(0, .ref (q 0)), (1, .int (nI x1)), (2, .int (nI z1)), (3, .int (nI (1))), (4, .int (nI (1))), (5, .int (nI (1))), (6, .int (nI (ar 3 x1))), (7, .int (nI (i + 1)))] := lv_sub hl [7, 8, 9, 3, 2, 1, 10, 0] rfl
                apply ih (i := i + 1) (t3 := 1) (t4 := 1) (t5 := 1) <;> assumption
              · skip
                refine lv_iload (pc := 117) S.1 S.2.1 dX9_hinders_117 (lv_at hl 2 rfl) ?_
                refine lv_iload (pc := 119) S.1 S.2.1 dX9_hinders_119 (lv_at hl 3 rfl) ?_
                refine hv_icmp_ge (pc := 121) (tgt := 143) (a := bW (ar 10 z1) (ar 11 z1) i) (b := (ar 4) ((6 * x1) + i)) S.1 S.2.1 (by omega) (by omega) dX9_hinders_121 (by decide) (fun c_36 => ?_) (fun c_36 => ?_)
                · skip
                  refine lv_iconst (pc := 143) (v := nI 0) S.1 S.2.1 dX9_hinders_143 (by decide) ?_
                  have g5 : 0 = wiF (ar 3 x1) (fun j => ar 4 (6 * x1 + j)) (bW (ar 10 z1) (ar 11 z1)) (i + 1) := by simp only [wiF]; rw [if_pos ⟨by omega, by omega⟩]
                  refine lv_istore (pc := 144) (lv' := [(5, .int (nI 0)), (4, .int (nI 1)), (3, .int (nI 1)), (10, .int (nI (bW (ar 10 z1) (ar 11 z1) i))), (9, .int (nI ((ar 4) ((6 * x1) + i)))), (8, .int (nI ((6 * x1) + i))), (0, .ref (q 0)), (1, .int (nI x1)), (2, .int (nI z1)), (6, .int (nI (ar 3 x1))), (7, .int (nI i))]) S.1 S.2.1 dX9_hinders_144 hl (by decide) rfl (fun ls hl => ?_)
                  refine lv_iinc (pc := 146) (v := nI (i + 1)) (lv' := [(7, .int (nI (i + 1))), (5, .int (nI 0)), (4, .int (nI 1)), (3, .int (nI 1)), (10, .int (nI (bW (ar 10 z1) (ar 11 z1) i))), (9, .int (nI ((ar 4) ((6 * x1) + i)))), (8, .int (nI ((6 * x1) + i))), (0, .ref (q 0)), (1, .int (nI x1)), (2, .int (nI z1)), (6, .int (nI (ar 3 x1)))]) S.1 S.2.1 dX9_hinders_146 hl (k := 10) rfl (by first | rfl | exact nI_add _ _) (by decide) rfl (fun ls hl => ?_)
                  refine lv_goto (pc := 149) (tgt := 19) S.1 S.2.1 dX9_hinders_149 (by decide) ?_
                  have hi2 : (i + 1) + n = 6 ∧ (1) = thF (fun j => ar 6 (6 * x1 + j) * 100000 / (ar 4 (6 * x1 + j) * ar 5 (6 * x1 + j))) (i + 1) ∧ (1) = tnF (ar 3 x1) (fun j => ar 4 (6 * x1 + j)) (bW (ar 10 z1) (ar 11 z1)) (i + 1) ∧ (0) = wiF (ar 3 x1) (fun j => ar 4 (6 * x1 + j)) (bW (ar 10 z1) (ar 11 z1)) (i + 1) := ⟨by omega, g3, g4, g5⟩
                  have hl2 : lv_has ls 11 [(0, .ref (q 0)), (1, .int (nI x1)), (2, .int (nI z1)), (3, .int (nI (1))), (4, .int (nI (1))), (5, .int (nI (0))), (6, .int (nI (ar 3 x1))), (7, .int (nI (i + 1)))] := lv_sub hl [7, 8, 9, 3, 2, 1, 10, 0] rfl
                  apply ih (i := i + 1) (t3 := 1) (t4 := 1) (t5 := 0) <;> assumption
                · skip
                  refine lv_iload (pc := 124) S.1 S.2.1 dX9_hinders_124 (lv_at hl 3 rfl) ?_
                  refine lv_iload (pc := 126) S.1 S.2.1 dX9_hinders_126 (lv_at hl 9 rfl) ?_
                  refine hv_call (pc := 128) (va_runS (As := [.int (nI (ar 3 x1))]) (rest := [.int (nI ((ar 4) ((6 * x1) + i)))]) S (c_m_across l D cA ga φ H.size (ar 3 x1) h3x) (va_cwS 1 S.2.2.2.2 (gS tw_1064 tw_1065 tw_7 tw_1066) rfl rfl rfl (by decide +kernel) ⟨Nat.le_of_ble_eq_true rfl, Nat.le_of_ble_eq_true rfl⟩) (pre0_S hH hK hX hS hA) rfl rfl hl.1 rfl (lv_room (Nat.le_of_ble_eq_true rfl)) dX9_hinders_128 ⟨Nat.le_of_ble_eq_true rfl, Nat.le_of_ble_eq_true rfl⟩) hS (af_le hH hS hA) (fun v_37 φ_38 H locs hw_v_37 hH hS => ?_)
                  obtain ⟨rfl, hqv_37⟩ := hw_v_37
                  rw [hqv_37] at hH
                  refine hv_call (pc := 131) (va_runS (As := [.int (nI ((ar 4) ((6 * x1) + i))), .int (nI (fAcr (ar 3 x1)))]) (rest := []) S (c_m_shrunk l D cA ga φ H.size (ar 4 (6 * x1 + i)) (fAcr (ar 3 x1)) (by omega) (by omega)) (va_cwS 2 S.2.2.2.2 (gS tw_1067 tw_1068 tw_7 tw_1069) rfl rfl rfl (by decide +kernel) ⟨Nat.le_of_ble_eq_true rfl, Nat.le_of_ble_eq_true rfl⟩) (pre0_S hH hK hX hS hA) rfl rfl hl.1 rfl (lv_room (Nat.le_of_ble_eq_true rfl)) dX9_hinders_131 ⟨Nat.le_of_ble_eq_true rfl, Nat.le_of_ble_eq_true rfl⟩) hS (af_le hH hS hA) (fun v_39 φ_40 H locs hw_v_39 hH hS => ?_)
                  obtain ⟨rfl, hqv_39⟩ := hw_v_39
                  rw [hqv_39] at hH
                  refine hv_ti (y := nI (shA (ar 3 x1) (ar 4 (6 * x1 + i)))) (rfl) ?_
                  refine lv_iload (pc := 134) S.1 S.2.1 dX9_hinders_134 (lv_at hl 2 rfl) ?_
                  refine hv_icmp_le (pc := 136) (tgt := 143) (a := shA (ar 3 x1) (ar 4 (6 * x1 + i))) (b := bW (ar 10 z1) (ar 11 z1) i) S.1 S.2.1 (by omega) (by omega) dX9_hinders_136 (by decide) (fun c_41 => ?_) (fun c_41 => ?_)
                  · skip
                    refine lv_iconst (pc := 143) (v := nI 0) S.1 S.2.1 dX9_hinders_143 (by decide) ?_
                    have g5 : 0 = wiF (ar 3 x1) (fun j => ar 4 (6 * x1 + j)) (bW (ar 10 z1) (ar 11 z1)) (i + 1) := by simp only [wiF]; rw [if_pos ⟨by omega, by omega⟩]
                    refine lv_istore (pc := 144) (lv' := [(5, .int (nI 0)), (4, .int (nI 1)), (3, .int (nI 1)), (10, .int (nI (bW (ar 10 z1) (ar 11 z1) i))), (9, .int (nI ((ar 4) ((6 * x1) + i)))), (8, .int (nI ((6 * x1) + i))), (0, .ref (q 0)), (1, .int (nI x1)), (2, .int (nI z1)), (6, .int (nI (ar 3 x1))), (7, .int (nI i))]) S.1 S.2.1 dX9_hinders_144 hl (by decide) rfl (fun ls hl => ?_)
                    refine lv_iinc (pc := 146) (v := nI (i + 1)) (lv' := [(7, .int (nI (i + 1))), (5, .int (nI 0)), (4, .int (nI 1)), (3, .int (nI 1)), (10, .int (nI (bW (ar 10 z1) (ar 11 z1) i))), (9, .int (nI ((ar 4) ((6 * x1) + i)))), (8, .int (nI ((6 * x1) + i))), (0, .ref (q 0)), (1, .int (nI x1)), (2, .int (nI z1)), (6, .int (nI (ar 3 x1)))]) S.1 S.2.1 dX9_hinders_146 hl (k := 10) rfl (by first | rfl | exact nI_add _ _) (by decide) rfl (fun ls hl => ?_)
                    refine lv_goto (pc := 149) (tgt := 19) S.1 S.2.1 dX9_hinders_149 (by decide) ?_
                    have hi2 : (i + 1) + n = 6 ∧ (1) = thF (fun j => ar 6 (6 * x1 + j) * 100000 / (ar 4 (6 * x1 + j) * ar 5 (6 * x1 + j))) (i + 1) ∧ (1) = tnF (ar 3 x1) (fun j => ar 4 (6 * x1 + j)) (bW (ar 10 z1) (ar 11 z1)) (i + 1) ∧ (0) = wiF (ar 3 x1) (fun j => ar 4 (6 * x1 + j)) (bW (ar 10 z1) (ar 11 z1)) (i + 1) := ⟨by omega, g3, g4, g5⟩
                    have hl2 : lv_has ls 11 [(0, .ref (q 0)), (1, .int (nI x1)), (2, .int (nI z1)), (3, .int (nI (1))), (4, .int (nI (1))), (5, .int (nI (0))), (6, .int (nI (ar 3 x1))), (7, .int (nI (i + 1)))] := lv_sub hl [7, 8, 9, 3, 2, 1, 10, 0] rfl
                    apply ih (i := i + 1) (t3 := 1) (t4 := 1) (t5 := 0) <;> assumption
                  · skip
                    refine lv_iconst (pc := 139) (v := nI 1) S.1 S.2.1 dX9_hinders_139 (by decide) ?_
                    refine lv_goto (pc := 140) (tgt := 144) S.1 S.2.1 dX9_hinders_140 (by decide) ?_
                    have g5 : 1 = wiF (ar 3 x1) (fun j => ar 4 (6 * x1 + j)) (bW (ar 10 z1) (ar 11 z1)) (i + 1) := by simp only [wiF]; rw [if_neg (by omega)]
                    refine lv_istore (pc := 144) (lv' := [(5, .int (nI 1)), (4, .int (nI 1)), (3, .int (nI 1)), (10, .int (nI (bW (ar 10 z1) (ar 11 z1) i))), (9, .int (nI ((ar 4) ((6 * x1) + i)))), (8, .int (nI ((6 * x1) + i))), (0, .ref (q 0)), (1, .int (nI x1)), (2, .int (nI z1)), (6, .int (nI (ar 3 x1))), (7, .int (nI i))]) S.1 S.2.1 dX9_hinders_144 hl (by decide) rfl (fun ls hl => ?_)
                    refine lv_iinc (pc := 146) (v := nI (i + 1)) (lv' := [(7, .int (nI (i + 1))), (5, .int (nI 1)), (4, .int (nI 1)), (3, .int (nI 1)), (10, .int (nI (bW (ar 10 z1) (ar 11 z1) i))), (9, .int (nI ((ar 4) ((6 * x1) + i)))), (8, .int (nI ((6 * x1) + i))), (0, .ref (q 0)), (1, .int (nI x1)), (2, .int (nI z1)), (6, .int (nI (ar 3 x1)))]) S.1 S.2.1 dX9_hinders_146 hl (k := 10) rfl (by first | rfl | exact nI_add _ _) (by decide) rfl (fun ls hl => ?_)
                    refine lv_goto (pc := 149) (tgt := 19) S.1 S.2.1 dX9_hinders_149 (by decide) ?_
                    have hi2 : (i + 1) + n = 6 ∧ (1) = thF (fun j => ar 6 (6 * x1 + j) * 100000 / (ar 4 (6 * x1 + j) * ar 5 (6 * x1 + j))) (i + 1) ∧ (1) = tnF (ar 3 x1) (fun j => ar 4 (6 * x1 + j)) (bW (ar 10 z1) (ar 11 z1)) (i + 1) ∧ (1) = wiF (ar 3 x1) (fun j => ar 4 (6 * x1 + j)) (bW (ar 10 z1) (ar 11 z1)) (i + 1) := ⟨by omega, g3, g4, g5⟩
                    have hl2 : lv_has ls 11 [(0, .ref (q 0)), (1, .int (nI x1)), (2, .int (nI z1)), (3, .int (nI (1))), (4, .int (nI (1))), (5, .int (nI (1))), (6, .int (nI (ar 3 x1))), (7, .int (nI (i + 1)))] := lv_sub hl [7, 8, 9, 3, 2, 1, 10, 0] rfl
                    apply ih (i := i + 1) (t3 := 1) (t4 := 1) (t5 := 1) <;> assumption
      · skip
        refine lv_aload_n (pc := 57) S.1 S.2.1 dX9_hinders_57 rfl (lv_at hl 3 rfl) ?_
        refine lv_iload (pc := 58) S.1 S.2.1 dX9_hinders_58 (lv_at hl 2 rfl) ?_
        refine hv_call (pc := 60) (va_runV (As := [.int (nI ((6 * x1) + i))]) (rest := []) S (c_m_thick l D cA ga φ H.size q sc ar (6 * x1 + i) ⟨f0, f1, f2, f3, f4, f5, f6, f7, f8, f9, f10, f11, f12, f13, f14⟩ hq (by omega) hw4 hw5 hw6) (cwV 1 S.2.2.2.2 (gV tw_1089 tw_1091 sw_38 tw_7 tw_1092) rfl rfl rfl (by decide +kernel) ⟨Nat.le_of_ble_eq_true rfl, Nat.le_of_ble_eq_true rfl⟩) (pre0_V hH hK hX hS hA (hH.recv hK f0 rfl)) rfl rfl hl.1 rfl (lv_room (Nat.le_of_ble_eq_true rfl)) dX9_hinders_60 ⟨Nat.le_of_ble_eq_true rfl, Nat.le_of_ble_eq_true rfl⟩) hS (af_le hH hS hA) (fun v_42 φ_43 H locs hw_v_42 hH hS => ?_)
        obtain ⟨rfl, hqv_42⟩ := hw_v_42
        rw [hqv_42] at hH
        refine lv_bipush (pc := 63) (v := nI 40) S.1 S.2.1 dX9_hinders_63 (by decide) ?_
        refine hv_icmp_ge (pc := 65) (tgt := 72) (a := ar 6 (6 * x1 + i) * 100000 / (ar 4 (6 * x1 + i) * ar 5 (6 * x1 + i))) (b := 40) S.1 S.2.1 (by omega) (by omega) dX9_hinders_65 (by decide) (fun c_44 => ?_) (fun c_44 => ?_)
        · skip
          refine lv_iconst (pc := 72) (v := nI 0) S.1 S.2.1 dX9_hinders_72 (by decide) ?_
          have g3 : 0 = thF (fun j => ar 6 (6 * x1 + j) * 100000 / (ar 4 (6 * x1 + j) * ar 5 (6 * x1 + j))) (i + 1) := by simp only [thF]; rw [if_pos ⟨by omega, by omega⟩]
          refine lv_istore_n (pc := 73) (lv' := [(3, .int (nI 0)), (10, .int (nI (bW (ar 10 z1) (ar 11 z1) i))), (9, .int (nI ((ar 4) ((6 * x1) + i)))), (8, .int (nI ((6 * x1) + i))), (0, .ref (q 0)), (1, .int (nI x1)), (2, .int (nI z1)), (4, .int (nI t4)), (5, .int (nI t5)), (6, .int (nI (ar 3 x1))), (7, .int (nI i))]) S.1 S.2.1 dX9_hinders_73 rfl hl (by decide) rfl (fun ls hl => ?_)
          refine lv_iload (pc := 74) S.1 S.2.1 dX9_hinders_74 (lv_at hl 7 rfl) ?_
          refine hv_if_ne (pc := 76) (tgt := 105) (a := t4) S.1 S.2.1 (by omega) dX9_hinders_76 (by decide) (fun c_45 => ?_) (fun c_45 => ?_)
          · skip
            refine lv_iconst (pc := 105) (v := nI 1) S.1 S.2.1 dX9_hinders_105 (by decide) ?_
            refine lv_goto (pc := 106) (tgt := 110) S.1 S.2.1 dX9_hinders_106 (by decide) ?_
            have g4 : 1 = tnF (ar 3 x1) (fun j => ar 4 (6 * x1 + j)) (bW (ar 10 z1) (ar 11 z1)) (i + 1) := by simp only [tnF]; rw [if_neg (by omega)]
            refine lv_istore (pc := 110) (lv' := [(4, .int (nI 1)), (3, .int (nI 0)), (10, .int (nI (bW (ar 10 z1) (ar 11 z1) i))), (9, .int (nI ((ar 4) ((6 * x1) + i)))), (8, .int (nI ((6 * x1) + i))), (0, .ref (q 0)), (1, .int (nI x1)), (2, .int (nI z1)), (5, .int (nI t5)), (6, .int (nI (ar 3 x1))), (7, .int (nI i))]) S.1 S.2.1 dX9_hinders_110 hl (by decide) rfl (fun ls hl => ?_)
            refine lv_iload (pc := 112) S.1 S.2.1 dX9_hinders_112 (lv_at hl 8 rfl) ?_
            refine hv_if_ne (pc := 114) (tgt := 139) (a := t5) S.1 S.2.1 (by omega) dX9_hinders_114 (by decide) (fun c_46 => ?_) (fun c_46 => ?_)
            · skip
              refine lv_iconst (pc := 139) (v := nI 1) S.1 S.2.1 dX9_hinders_139 (by decide) ?_
              refine lv_goto (pc := 140) (tgt := 144) S.1 S.2.1 dX9_hinders_140 (by decide) ?_
              have g5 : 1 = wiF (ar 3 x1) (fun j => ar 4 (6 * x1 + j)) (bW (ar 10 z1) (ar 11 z1)) (i + 1) := by simp only [wiF]; rw [if_neg (by omega)]
              refine lv_istore (pc := 144) (lv' := [(5, .int (nI 1)), (4, .int (nI 1)), (3, .int (nI 0)), (10, .int (nI (bW (ar 10 z1) (ar 11 z1) i))), (9, .int (nI ((ar 4) ((6 * x1) + i)))), (8, .int (nI ((6 * x1) + i))), (0, .ref (q 0)), (1, .int (nI x1)), (2, .int (nI z1)), (6, .int (nI (ar 3 x1))), (7, .int (nI i))]) S.1 S.2.1 dX9_hinders_144 hl (by decide) rfl (fun ls hl => ?_)
              refine lv_iinc (pc := 146) (v := nI (i + 1)) (lv' := [(7, .int (nI (i + 1))), (5, .int (nI 1)), (4, .int (nI 1)), (3, .int (nI 0)), (10, .int (nI (bW (ar 10 z1) (ar 11 z1) i))), (9, .int (nI ((ar 4) ((6 * x1) + i)))), (8, .int (nI ((6 * x1) + i))), (0, .ref (q 0)), (1, .int (nI x1)), (2, .int (nI z1)), (6, .int (nI (ar 3 x1)))]) S.1 S.2.1 dX9_hinders_146 hl (k := 10) rfl (by first | rfl | exact nI_add _ _) (by decide) rfl (fun ls hl => ?_)
              refine lv_goto (pc := 149) (tgt := 19) S.1 S.2.1 dX9_hinders_149 (by decide) ?_
              have hi2 : (i + 1) + n = 6 ∧ (0) = thF (fun j => ar 6 (6 * x1 + j) * 100000 / (ar 4 (6 * x1 + j) * ar 5 (6 * x1 + j))) (i + 1) ∧ (1) = tnF (ar 3 x1) (fun j => ar 4 (6 * x1 + j)) (bW (ar 10 z1) (ar 11 z1)) (i + 1) ∧ (1) = wiF (ar 3 x1) (fun j => ar 4 (6 * x1 + j)) (bW (ar 10 z1) (ar 11 z1)) (i + 1) := ⟨by omega, g3, g4, g5⟩
              have hl2 : lv_has ls 11 [(0, .ref (q 0)), (1, .int (nI x1)), (2, .int (nI z1)), (3, .int (nI (0))), (4, .int (nI (1))), (5, .int (nI (1))), (6, .int (nI (ar 3 x1))), (7, .int (nI (i + 1)))] := lv_sub hl [7, 8, 9, 3, 2, 1, 10, 0] rfl
              apply ih (i := i + 1) (t3 := 0) (t4 := 1) (t5 := 1) <;> assumption
            · skip
              refine lv_iload (pc := 117) S.1 S.2.1 dX9_hinders_117 (lv_at hl 2 rfl) ?_
              refine lv_iload (pc := 119) S.1 S.2.1 dX9_hinders_119 (lv_at hl 3 rfl) ?_
              refine hv_icmp_ge (pc := 121) (tgt := 143) (a := bW (ar 10 z1) (ar 11 z1) i) (b := (ar 4) ((6 * x1) + i)) S.1 S.2.1 (by omega) (by omega) dX9_hinders_121 (by decide) (fun c_47 => ?_) (fun c_47 => ?_)
              · skip
                refine lv_iconst (pc := 143) (v := nI 0) S.1 S.2.1 dX9_hinders_143 (by decide) ?_
                have g5 : 0 = wiF (ar 3 x1) (fun j => ar 4 (6 * x1 + j)) (bW (ar 10 z1) (ar 11 z1)) (i + 1) := by simp only [wiF]; rw [if_pos ⟨by omega, by omega⟩]
                refine lv_istore (pc := 144) (lv' := [(5, .int (nI 0)), (4, .int (nI 1)), (3, .int (nI 0)), (10, .int (nI (bW (ar 10 z1) (ar 11 z1) i))), (9, .int (nI ((ar 4) ((6 * x1) + i)))), (8, .int (nI ((6 * x1) + i))), (0, .ref (q 0)), (1, .int (nI x1)), (2, .int (nI z1)), (6, .int (nI (ar 3 x1))), (7, .int (nI i))]) S.1 S.2.1 dX9_hinders_144 hl (by decide) rfl (fun ls hl => ?_)
                refine lv_iinc (pc := 146) (v := nI (i + 1)) (lv' := [(7, .int (nI (i + 1))), (5, .int (nI 0)), (4, .int (nI 1)), (3, .int (nI 0)), (10, .int (nI (bW (ar 10 z1) (ar 11 z1) i))), (9, .int (nI ((ar 4) ((6 * x1) + i)))), (8, .int (nI ((6 * x1) + i))), (0, .ref (q 0)), (1, .int (nI x1)), (2, .int (nI z1)), (6, .int (nI (ar 3 x1)))]) S.1 S.2.1 dX9_hinders_146 hl (k := 10) rfl (by first | rfl | exact nI_add _ _) (by decide) rfl (fun ls hl => ?_)
                refine lv_goto (pc := 149) (tgt := 19) S.1 S.2.1 dX9_hinders_149 (by decide) ?_
                have hi2 : (i + 1) + n = 6 ∧ (0) = thF (fun j => ar 6 (6 * x1 + j) * 100000 / (ar 4 (6 * x1 + j) * ar 5 (6 * x1 + j))) (i + 1) ∧ (1) = tnF (ar 3 x1) (fun j => ar 4 (6 * x1 + j)) (bW (ar 10 z1) (ar 11 z1)) (i + 1) ∧ (0) = wiF (ar 3 x1) (fun j => ar 4 (6 * x1 + j)) (bW (ar 10 z1) (ar 11 z1)) (i + 1) := ⟨by omega, g3, g4, g5⟩
                have hl2 : lv_has ls 11 [(0, .ref (q 0)), (1, .int (nI x1)), (2, .int (nI z1)), (3, .int (nI (0))), (4, .int (nI (1))), (5, .int (nI (0))), (6, .int (nI (ar 3 x1))), (7, .int (nI (i + 1)))] := lv_sub hl [7, 8, 9, 3, 2, 1, 10, 0] rfl
                apply ih (i := i + 1) (t3 := 0) (t4 := 1) (t5 := 0) <;> assumption
              · skip
                refine lv_iload (pc := 124) S.1 S.2.1 dX9_hinders_124 (lv_at hl 3 rfl) ?_
                refine lv_iload (pc := 126) S.1 S.2.1 dX9_hinders_126 (lv_at hl 9 rfl) ?_
                refine hv_call (pc := 128) (va_runS (As := [.int (nI (ar 3 x1))]) (rest := [.int (nI ((ar 4) ((6 * x1) + i)))]) S (c_m_across l D cA ga φ H.size (ar 3 x1) h3x) (va_cwS 1 S.2.2.2.2 (gS tw_1064 tw_1065 tw_7 tw_1066) rfl rfl rfl (by decide +kernel) ⟨Nat.le_of_ble_eq_true rfl, Nat.le_of_ble_eq_true rfl⟩) (pre0_S hH hK hX hS hA) rfl rfl hl.1 rfl (lv_room (Nat.le_of_ble_eq_true rfl)) dX9_hinders_128 ⟨Nat.le_of_ble_eq_true rfl, Nat.le_of_ble_eq_true rfl⟩) hS (af_le hH hS hA) (fun v_48 φ_49 H locs hw_v_48 hH hS => ?_)
                obtain ⟨rfl, hqv_48⟩ := hw_v_48
                rw [hqv_48] at hH
                refine hv_call (pc := 131) (va_runS (As := [.int (nI ((ar 4) ((6 * x1) + i))), .int (nI (fAcr (ar 3 x1)))]) (rest := []) S (c_m_shrunk l D cA ga φ H.size (ar 4 (6 * x1 + i)) (fAcr (ar 3 x1)) (by omega) (by omega)) (va_cwS 2 S.2.2.2.2 (gS tw_1067 tw_1068 tw_7 tw_1069) rfl rfl rfl (by decide +kernel) ⟨Nat.le_of_ble_eq_true rfl, Nat.le_of_ble_eq_true rfl⟩) (pre0_S hH hK hX hS hA) rfl rfl hl.1 rfl (lv_room (Nat.le_of_ble_eq_true rfl)) dX9_hinders_131 ⟨Nat.le_of_ble_eq_true rfl, Nat.le_of_ble_eq_true rfl⟩) hS (af_le hH hS hA) (fun v_50 φ_51 H locs hw_v_50 hH hS => ?_)
                obtain ⟨rfl, hqv_50⟩ := hw_v_50
                rw [hqv_50] at hH
                refine hv_ti (y := nI (shA (ar 3 x1) (ar 4 (6 * x1 + i)))) (rfl) ?_
                refine lv_iload (pc := 134) S.1 S.2.1 dX9_hinders_134 (lv_at hl 2 rfl) ?_
                refine hv_icmp_le (pc := 136) (tgt := 143) (a := shA (ar 3 x1) (ar 4 (6 * x1 + i))) (b := bW (ar 10 z1) (ar 11 z1) i) S.1 S.2.1 (by omega) (by omega) dX9_hinders_136 (by decide) (fun c_52 => ?_) (fun c_52 => ?_)
                · skip
                  refine lv_iconst (pc := 143) (v := nI 0) S.1 S.2.1 dX9_hinders_143 (by decide) ?_
                  have g5 : 0 = wiF (ar 3 x1) (fun j => ar 4 (6 * x1 + j)) (bW (ar 10 z1) (ar 11 z1)) (i + 1) := by simp only [wiF]; rw [if_pos ⟨by omega, by omega⟩]
                  refine lv_istore (pc := 144) (lv' := [(5, .int (nI 0)), (4, .int (nI 1)), (3, .int (nI 0)), (10, .int (nI (bW (ar 10 z1) (ar 11 z1) i))), (9, .int (nI ((ar 4) ((6 * x1) + i)))), (8, .int (nI ((6 * x1) + i))), (0, .ref (q 0)), (1, .int (nI x1)), (2, .int (nI z1)), (6, .int (nI (ar 3 x1))), (7, .int (nI i))]) S.1 S.2.1 dX9_hinders_144 hl (by decide) rfl (fun ls hl => ?_)
                  refine lv_iinc (pc := 146) (v := nI (i + 1)) (lv' := [(7, .int (nI (i + 1))), (5, .int (nI 0)), (4, .int (nI 1)), (3, .int (nI 0)), (10, .int (nI (bW (ar 10 z1) (ar 11 z1) i))), (9, .int (nI ((ar 4) ((6 * x1) + i)))), (8, .int (nI ((6 * x1) + i))), (0, .ref (q 0)), (1, .int (nI x1)), (2, .int (nI z1)), (6, .int (nI (ar 3 x1)))]) S.1 S.2.1 dX9_hinders_146 hl (k := 10) rfl (by first | rfl | exact nI_add _ _) (by decide) rfl (fun ls hl => ?_)
                  refine lv_goto (pc := 149) (tgt := 19) S.1 S.2.1 dX9_hinders_149 (by decide) ?_
                  have hi2 : (i + 1) + n = 6 ∧ (0) = thF (fun j => ar 6 (6 * x1 + j) * 100000 / (ar 4 (6 * x1 + j) * ar 5 (6 * x1 + j))) (i + 1) ∧ (1) = tnF (ar 3 x1) (fun j => ar 4 (6 * x1 + j)) (bW (ar 10 z1) (ar 11 z1)) (i + 1) ∧ (0) = wiF (ar 3 x1) (fun j => ar 4 (6 * x1 + j)) (bW (ar 10 z1) (ar 11 z1)) (i + 1) := ⟨by omega, g3, g4, g5⟩
                  have hl2 : lv_has ls 11 [(0, .ref (q 0)), (1, .int (nI x1)), (2, .int (nI z1)), (3, .int (nI (0))), (4, .int (nI (1))), (5, .int (nI (0))), (6, .int (nI (ar 3 x1))), (7, .int (nI (i + 1)))] := lv_sub hl [7, 8, 9, 3, 2, 1, 10, 0] rfl
                  apply ih (i := i + 1) (t3 := 0) (t4 := 1) (t5 := 0) <;> assumption
                · skip
                  refine lv_iconst (pc := 139) (v := nI 1) S.1 S.2.1 dX9_hinders_139 (by decide) ?_
                  refine lv_goto (pc := 140) (tgt := 144) S.1 S.2.1 dX9_hinders_140 (by decide) ?_
                  have g5 : 1 = wiF (ar 3 x1) (fun j => ar 4 (6 * x1 + j)) (bW (ar 10 z1) (ar 11 z1)) (i + 1) := by simp only [wiF]; rw [if_neg (by omega)]
                  refine lv_istore (pc := 144) (lv' := [(5, .int (nI 1)), (4, .int (nI 1)), (3, .int (nI 0)), (10, .int (nI (bW (ar 10 z1) (ar 11 z1) i))), (9, .int (nI ((ar 4) ((6 * x1) + i)))), (8, .int (nI ((6 * x1) + i))), (0, .ref (q 0)), (1, .int (nI x1)), (2, .int (nI z1)), (6, .int (nI (ar 3 x1))), (7, .int (nI i))]) S.1 S.2.1 dX9_hinders_144 hl (by decide) rfl (fun ls hl => ?_)
                  refine lv_iinc (pc := 146) (v := nI (i + 1)) (lv' := [(7, .int (nI (i + 1))), (5, .int (nI 1)), (4, .int (nI 1)), (3, .int (nI 0)), (10, .int (nI (bW (ar 10 z1) (ar 11 z1) i))), (9, .int (nI ((ar 4) ((6 * x1) + i)))), (8, .int (nI ((6 * x1) + i))), (0, .ref (q 0)), (1, .int (nI x1)), (2, .int (nI z1)), (6, .int (nI (ar 3 x1)))]) S.1 S.2.1 dX9_hinders_146 hl (k := 10) rfl (by first | rfl | exact nI_add _ _) (by decide) rfl (fun ls hl => ?_)
                  refine lv_goto (pc := 149) (tgt := 19) S.1 S.2.1 dX9_hinders_149 (by decide) ?_
                  have hi2 : (i + 1) + n = 6 ∧ (0) = thF (fun j => ar 6 (6 * x1 + j) * 100000 / (ar 4 (6 * x1 + j) * ar 5 (6 * x1 + j))) (i + 1) ∧ (1) = tnF (ar 3 x1) (fun j => ar 4 (6 * x1 + j)) (bW (ar 10 z1) (ar 11 z1)) (i + 1) ∧ (1) = wiF (ar 3 x1) (fun j => ar 4 (6 * x1 + j)) (bW (ar 10 z1) (ar 11 z1)) (i + 1) := ⟨by omega, g3, g4, g5⟩
                  have hl2 : lv_has ls 11 [(0, .ref (q 0)), (1, .int (nI x1)), (2, .int (nI z1)), (3, .int (nI (0))), (4, .int (nI (1))), (5, .int (nI (1))), (6, .int (nI (ar 3 x1))), (7, .int (nI (i + 1)))] := lv_sub hl [7, 8, 9, 3, 2, 1, 10, 0] rfl
                  apply ih (i := i + 1) (t3 := 0) (t4 := 1) (t5 := 1) <;> assumption
          · skip
            refine lv_iload (pc := 79) S.1 S.2.1 dX9_hinders_79 (lv_at hl 1 rfl) ?_
            refine lv_iload (pc := 81) S.1 S.2.1 dX9_hinders_81 (lv_at hl 2 rfl) ?_
            refine hv_icmp_le (pc := 83) (tgt := 109) (a := bW (ar 10 z1) (ar 11 z1) i) (b := (ar 4) ((6 * x1) + i)) S.1 S.2.1 (by omega) (by omega) dX9_hinders_83 (by decide) (fun c_53 => ?_) (fun c_53 => ?_)
            · skip
              refine lv_iconst (pc := 109) (v := nI 0) S.1 S.2.1 dX9_hinders_109 (by decide) ?_
              have g4 : 0 = tnF (ar 3 x1) (fun j => ar 4 (6 * x1 + j)) (bW (ar 10 z1) (ar 11 z1)) (i + 1) := by simp only [tnF]; rw [if_pos ⟨by omega, by omega⟩]
              refine lv_istore (pc := 110) (lv' := [(4, .int (nI 0)), (3, .int (nI 0)), (10, .int (nI (bW (ar 10 z1) (ar 11 z1) i))), (9, .int (nI ((ar 4) ((6 * x1) + i)))), (8, .int (nI ((6 * x1) + i))), (0, .ref (q 0)), (1, .int (nI x1)), (2, .int (nI z1)), (5, .int (nI t5)), (6, .int (nI (ar 3 x1))), (7, .int (nI i))]) S.1 S.2.1 dX9_hinders_110 hl (by decide) rfl (fun ls hl => ?_)
              refine lv_iload (pc := 112) S.1 S.2.1 dX9_hinders_112 (lv_at hl 8 rfl) ?_
              refine hv_if_ne (pc := 114) (tgt := 139) (a := t5) S.1 S.2.1 (by omega) dX9_hinders_114 (by decide) (fun c_54 => ?_) (fun c_54 => ?_)
              · skip
                refine lv_iconst (pc := 139) (v := nI 1) S.1 S.2.1 dX9_hinders_139 (by decide) ?_
                refine lv_goto (pc := 140) (tgt := 144) S.1 S.2.1 dX9_hinders_140 (by decide) ?_
                have g5 : 1 = wiF (ar 3 x1) (fun j => ar 4 (6 * x1 + j)) (bW (ar 10 z1) (ar 11 z1)) (i + 1) := by simp only [wiF]; rw [if_neg (by omega)]
                refine lv_istore (pc := 144) (lv' := [(5, .int (nI 1)), (4, .int (nI 0)), (3, .int (nI 0)), (10, .int (nI (bW (ar 10 z1) (ar 11 z1) i))), (9, .int (nI ((ar 4) ((6 * x1) + i)))), (8, .int (nI ((6 * x1) + i))), (0, .ref (q 0)), (1, .int (nI x1)), (2, .int (nI z1)), (6, .int (nI (ar 3 x1))), (7, .int (nI i))]) S.1 S.2.1 dX9_hinders_144 hl (by decide) rfl (fun ls hl => ?_)
                refine lv_iinc (pc := 146) (v := nI (i + 1)) (lv' := [(7, .int (nI (i + 1))), (5, .int (nI 1)), (4, .int (nI 0)), (3, .int (nI 0)), (10, .int (nI (bW (ar 10 z1) (ar 11 z1) i))), (9, .int (nI ((ar 4) ((6 * x1) + i)))), (8, .int (nI ((6 * x1) + i))), (0, .ref (q 0)), (1, .int (nI x1)), (2, .int (nI z1)), (6, .int (nI (ar 3 x1)))]) S.1 S.2.1 dX9_hinders_146 hl (k := 10) rfl (by first | rfl | exact nI_add _ _) (by decide) rfl (fun ls hl => ?_)
                refine lv_goto (pc := 149) (tgt := 19) S.1 S.2.1 dX9_hinders_149 (by decide) ?_
                have hi2 : (i + 1) + n = 6 ∧ (0) = thF (fun j => ar 6 (6 * x1 + j) * 100000 / (ar 4 (6 * x1 + j) * ar 5 (6 * x1 + j))) (i + 1) ∧ (0) = tnF (ar 3 x1) (fun j => ar 4 (6 * x1 + j)) (bW (ar 10 z1) (ar 11 z1)) (i + 1) ∧ (1) = wiF (ar 3 x1) (fun j => ar 4 (6 * x1 + j)) (bW (ar 10 z1) (ar 11 z1)) (i + 1) := ⟨by omega, g3, g4, g5⟩
                have hl2 : lv_has ls 11 [(0, .ref (q 0)), (1, .int (nI x1)), (2, .int (nI z1)), (3, .int (nI (0))), (4, .int (nI (0))), (5, .int (nI (1))), (6, .int (nI (ar 3 x1))), (7, .int (nI (i + 1)))] := lv_sub hl [7, 8, 9, 3, 2, 1, 10, 0] rfl
                apply ih (i := i + 1) (t3 := 0) (t4 := 0) (t5 := 1) <;> assumption
              · skip
                refine lv_iload (pc := 117) S.1 S.2.1 dX9_hinders_117 (lv_at hl 2 rfl) ?_
                refine lv_iload (pc := 119) S.1 S.2.1 dX9_hinders_119 (lv_at hl 3 rfl) ?_
                refine hv_icmp_ge (pc := 121) (tgt := 143) (a := bW (ar 10 z1) (ar 11 z1) i) (b := (ar 4) ((6 * x1) + i)) S.1 S.2.1 (by omega) (by omega) dX9_hinders_121 (by decide) (fun c_55 => ?_) (fun c_55 => ?_)
                · skip
                  refine lv_iconst (pc := 143) (v := nI 0) S.1 S.2.1 dX9_hinders_143 (by decide) ?_
                  have g5 : 0 = wiF (ar 3 x1) (fun j => ar 4 (6 * x1 + j)) (bW (ar 10 z1) (ar 11 z1)) (i + 1) := by simp only [wiF]; rw [if_pos ⟨by omega, by omega⟩]
                  refine lv_istore (pc := 144) (lv' := [(5, .int (nI 0)), (4, .int (nI 0)), (3, .int (nI 0)), (10, .int (nI (bW (ar 10 z1) (ar 11 z1) i))), (9, .int (nI ((ar 4) ((6 * x1) + i)))), (8, .int (nI ((6 * x1) + i))), (0, .ref (q 0)), (1, .int (nI x1)), (2, .int (nI z1)), (6, .int (nI (ar 3 x1))), (7, .int (nI i))]) S.1 S.2.1 dX9_hinders_144 hl (by decide) rfl (fun ls hl => ?_)
                  refine lv_iinc (pc := 146) (v := nI (i + 1)) (lv' := [(7, .int (nI (i + 1))), (5, .int (nI 0)), (4, .int (nI 0)), (3, .int (nI 0)), (10, .int (nI (bW (ar 10 z1) (ar 11 z1) i))), (9, .int (nI ((ar 4) ((6 * x1) + i)))), (8, .int (nI ((6 * x1) + i))), (0, .ref (q 0)), (1, .int (nI x1)), (2, .int (nI z1)), (6, .int (nI (ar 3 x1)))]) S.1 S.2.1 dX9_hinders_146 hl (k := 10) rfl (by first | rfl | exact nI_add _ _) (by decide) rfl (fun ls hl => ?_)
                  refine lv_goto (pc := 149) (tgt := 19) S.1 S.2.1 dX9_hinders_149 (by decide) ?_
                  have hi2 : (i + 1) + n = 6 ∧ (0) = thF (fun j => ar 6 (6 * x1 + j) * 100000 / (ar 4 (6 * x1 + j) * ar 5 (6 * x1 + j))) (i + 1) ∧ (0) = tnF (ar 3 x1) (fun j => ar 4 (6 * x1 + j)) (bW (ar 10 z1) (ar 11 z1)) (i + 1) ∧ (0) = wiF (ar 3 x1) (fun j => ar 4 (6 * x1 + j)) (bW (ar 10 z1) (ar 11 z1)) (i + 1) := ⟨by omega, g3, g4, g5⟩
                  have hl2 : lv_has ls 11 [(0, .ref (q 0)), (1, .int (nI x1)), (2, .int (nI z1)), (3, .int (nI (0))), (4, .int (nI (0))), (5, .int (nI (0))), (6, .int (nI (ar 3 x1))), (7, .int (nI (i + 1)))] := lv_sub hl [7, 8, 9, 3, 2, 1, 10, 0] rfl
                  apply ih (i := i + 1) (t3 := 0) (t4 := 0) (t5 := 0) <;> assumption
                · skip
                  refine lv_iload (pc := 124) S.1 S.2.1 dX9_hinders_124 (lv_at hl 3 rfl) ?_
                  refine lv_iload (pc := 126) S.1 S.2.1 dX9_hinders_126 (lv_at hl 9 rfl) ?_
                  refine hv_call (pc := 128) (va_runS (As := [.int (nI (ar 3 x1))]) (rest := [.int (nI ((ar 4) ((6 * x1) + i)))]) S (c_m_across l D cA ga φ H.size (ar 3 x1) h3x) (va_cwS 1 S.2.2.2.2 (gS tw_1064 tw_1065 tw_7 tw_1066) rfl rfl rfl (by decide +kernel) ⟨Nat.le_of_ble_eq_true rfl, Nat.le_of_ble_eq_true rfl⟩) (pre0_S hH hK hX hS hA) rfl rfl hl.1 rfl (lv_room (Nat.le_of_ble_eq_true rfl)) dX9_hinders_128 ⟨Nat.le_of_ble_eq_true rfl, Nat.le_of_ble_eq_true rfl⟩) hS (af_le hH hS hA) (fun v_56 φ_57 H locs hw_v_56 hH hS => ?_)
                  obtain ⟨rfl, hqv_56⟩ := hw_v_56
                  rw [hqv_56] at hH
                  refine hv_call (pc := 131) (va_runS (As := [.int (nI ((ar 4) ((6 * x1) + i))), .int (nI (fAcr (ar 3 x1)))]) (rest := []) S (c_m_shrunk l D cA ga φ H.size (ar 4 (6 * x1 + i)) (fAcr (ar 3 x1)) (by omega) (by omega)) (va_cwS 2 S.2.2.2.2 (gS tw_1067 tw_1068 tw_7 tw_1069) rfl rfl rfl (by decide +kernel) ⟨Nat.le_of_ble_eq_true rfl, Nat.le_of_ble_eq_true rfl⟩) (pre0_S hH hK hX hS hA) rfl rfl hl.1 rfl (lv_room (Nat.le_of_ble_eq_true rfl)) dX9_hinders_131 ⟨Nat.le_of_ble_eq_true rfl, Nat.le_of_ble_eq_true rfl⟩) hS (af_le hH hS hA) (fun v_58 φ_59 H locs hw_v_58 hH hS => ?_)
                  obtain ⟨rfl, hqv_58⟩ := hw_v_58
                  rw [hqv_58] at hH
                  refine hv_ti (y := nI (shA (ar 3 x1) (ar 4 (6 * x1 + i)))) (rfl) ?_
                  refine lv_iload (pc := 134) S.1 S.2.1 dX9_hinders_134 (lv_at hl 2 rfl) ?_
                  refine hv_icmp_le (pc := 136) (tgt := 143) (a := shA (ar 3 x1) (ar 4 (6 * x1 + i))) (b := bW (ar 10 z1) (ar 11 z1) i) S.1 S.2.1 (by omega) (by omega) dX9_hinders_136 (by decide) (fun c_60 => ?_) (fun c_60 => ?_)
                  · skip
                    refine lv_iconst (pc := 143) (v := nI 0) S.1 S.2.1 dX9_hinders_143 (by decide) ?_
                    have g5 : 0 = wiF (ar 3 x1) (fun j => ar 4 (6 * x1 + j)) (bW (ar 10 z1) (ar 11 z1)) (i + 1) := by simp only [wiF]; rw [if_pos ⟨by omega, by omega⟩]
                    refine lv_istore (pc := 144) (lv' := [(5, .int (nI 0)), (4, .int (nI 0)), (3, .int (nI 0)), (10, .int (nI (bW (ar 10 z1) (ar 11 z1) i))), (9, .int (nI ((ar 4) ((6 * x1) + i)))), (8, .int (nI ((6 * x1) + i))), (0, .ref (q 0)), (1, .int (nI x1)), (2, .int (nI z1)), (6, .int (nI (ar 3 x1))), (7, .int (nI i))]) S.1 S.2.1 dX9_hinders_144 hl (by decide) rfl (fun ls hl => ?_)
                    refine lv_iinc (pc := 146) (v := nI (i + 1)) (lv' := [(7, .int (nI (i + 1))), (5, .int (nI 0)), (4, .int (nI 0)), (3, .int (nI 0)), (10, .int (nI (bW (ar 10 z1) (ar 11 z1) i))), (9, .int (nI ((ar 4) ((6 * x1) + i)))), (8, .int (nI ((6 * x1) + i))), (0, .ref (q 0)), (1, .int (nI x1)), (2, .int (nI z1)), (6, .int (nI (ar 3 x1)))]) S.1 S.2.1 dX9_hinders_146 hl (k := 10) rfl (by first | rfl | exact nI_add _ _) (by decide) rfl (fun ls hl => ?_)
                    refine lv_goto (pc := 149) (tgt := 19) S.1 S.2.1 dX9_hinders_149 (by decide) ?_
                    have hi2 : (i + 1) + n = 6 ∧ (0) = thF (fun j => ar 6 (6 * x1 + j) * 100000 / (ar 4 (6 * x1 + j) * ar 5 (6 * x1 + j))) (i + 1) ∧ (0) = tnF (ar 3 x1) (fun j => ar 4 (6 * x1 + j)) (bW (ar 10 z1) (ar 11 z1)) (i + 1) ∧ (0) = wiF (ar 3 x1) (fun j => ar 4 (6 * x1 + j)) (bW (ar 10 z1) (ar 11 z1)) (i + 1) := ⟨by omega, g3, g4, g5⟩
                    have hl2 : lv_has ls 11 [(0, .ref (q 0)), (1, .int (nI x1)), (2, .int (nI z1)), (3, .int (nI (0))), (4, .int (nI (0))), (5, .int (nI (0))), (6, .int (nI (ar 3 x1))), (7, .int (nI (i + 1)))] := lv_sub hl [7, 8, 9, 3, 2, 1, 10, 0] rfl
                    apply ih (i := i + 1) (t3 := 0) (t4 := 0) (t5 := 0) <;> assumption
                  · skip
                    refine lv_iconst (pc := 139) (v := nI 1) S.1 S.2.1 dX9_hinders_139 (by decide) ?_
                    refine lv_goto (pc := 140) (tgt := 144) S.1 S.2.1 dX9_hinders_140 (by decide) ?_
                    have g5 : 1 = wiF (ar 3 x1) (fun j => ar 4 (6 * x1 + j)) (bW (ar 10 z1) (ar 11 z1)) (i + 1) := by simp only [wiF]; rw [if_neg (by omega)]
                    refine lv_istore (pc := 144) (lv' := [(5, .int (nI 1)), (4, .int (nI 0)), (3, .int (nI 0)), (10, .int (nI (bW (ar 10 z1) (ar 11 z1) i))), (9, .int (nI ((ar 4) ((6 * x1) + i)))), (8, .int (nI ((6 * x1) + i))), (0, .ref (q 0)), (1, .int (nI x1)), (2, .int (nI z1)), (6, .int (nI (ar 3 x1))), (7, .int (nI i))]) S.1 S.2.1 dX9_hinders_144 hl (by decide) rfl (fun ls hl => ?_)
                    refine lv_iinc (pc := 146) (v := nI (i + 1)) (lv' := [(7, .int (nI (i + 1))), (5, .int (nI 1)), (4, .int (nI 0)), (3, .int (nI 0)), (10, .int (nI (bW (ar 10 z1) (ar 11 z1) i))), (9, .int (nI ((ar 4) ((6 * x1) + i)))), (8, .int (nI ((6 * x1) + i))), (0, .ref (q 0)), (1, .int (nI x1)), (2, .int (nI z1)), (6, .int (nI (ar 3 x1)))]) S.1 S.2.1 dX9_hinders_146 hl (k := 10) rfl (by first | rfl | exact nI_add _ _) (by decide) rfl (fun ls hl => ?_)
                    refine lv_goto (pc := 149) (tgt := 19) S.1 S.2.1 dX9_hinders_149 (by decide) ?_
                    have hi2 : (i + 1) + n = 6 ∧ (0) = thF (fun j => ar 6 (6 * x1 + j) * 100000 / (ar 4 (6 * x1 + j) * ar 5 (6 * x1 + j))) (i + 1) ∧ (0) = tnF (ar 3 x1) (fun j => ar 4 (6 * x1 + j)) (bW (ar 10 z1) (ar 11 z1)) (i + 1) ∧ (1) = wiF (ar 3 x1) (fun j => ar 4 (6 * x1 + j)) (bW (ar 10 z1) (ar 11 z1)) (i + 1) := ⟨by omega, g3, g4, g5⟩
                    have hl2 : lv_has ls 11 [(0, .ref (q 0)), (1, .int (nI x1)), (2, .int (nI z1)), (3, .int (nI (0))), (4, .int (nI (0))), (5, .int (nI (1))), (6, .int (nI (ar 3 x1))), (7, .int (nI (i + 1)))] := lv_sub hl [7, 8, 9, 3, 2, 1, 10, 0] rfl
                    apply ih (i := i + 1) (t3 := 0) (t4 := 0) (t5 := 1) <;> assumption
            · skip
              have hne : ¬ nI (ar 4 (6 * x1 + i)) = 0 := nI_ne0 hw4.1 (by omega)
              refine lv_bipush (pc := 86) (v := nI 100) S.1 S.2.1 dX9_hinders_86 (by decide) ?_
              refine lv_iload (pc := 88) S.1 S.2.1 dX9_hinders_88 (lv_at hl 1 rfl) ?_
              refine lv_iload (pc := 90) S.1 S.2.1 dX9_hinders_90 (lv_at hl 2 rfl) ?_
              refine lv_isub (pc := 92) S.1 S.2.1 dX9_hinders_92 ?_
              refine hv_ti (y := nI ((bW (ar 10 z1) (ar 11 z1) i) - ((ar 4) ((6 * x1) + i)))) (pk_sub (by omega)) ?_
              refine lv_imul (pc := 93) S.1 S.2.1 dX9_hinders_93 ?_
              refine hv_ti (y := nI (100 * ((bW (ar 10 z1) (ar 11 z1) i) - ((ar 4) ((6 * x1) + i))))) (pk_mul _ _) ?_
              refine lv_iload (pc := 94) S.1 S.2.1 dX9_hinders_94 (lv_at hl 2 rfl) ?_
              refine lv_idiv (pc := 96) S.1 S.2.1 dX9_hinders_96 (by assumption) ?_
              refine hv_ti (y := nI (100 * (bW (ar 10 z1) (ar 11 z1) i - ar 4 (6 * x1 + i)) / ar 4 (6 * x1 + i))) (pk_div (by omega) hw4.1 (by omega)) ?_
              refine lv_iload (pc := 97) S.1 S.2.1 dX9_hinders_97 (lv_at hl 9 rfl) ?_
              refine hv_call (pc := 99) (va_runS (As := [.int (nI (ar 3 x1))]) (rest := [.int (nI (100 * (bW (ar 10 z1) (ar 11 z1) i - ar 4 (6 * x1 + i)) / ar 4 (6 * x1 + i)))]) S (c_m_strain l D cA ga φ H.size (ar 3 x1) h3x) (va_cwS 1 S.2.2.2.2 (gS tw_1094 tw_1095 tw_7 tw_1096) rfl rfl rfl (by decide +kernel) ⟨Nat.le_of_ble_eq_true rfl, Nat.le_of_ble_eq_true rfl⟩) (pre0_S hH hK hX hS hA) rfl rfl hl.1 rfl (lv_room (Nat.le_of_ble_eq_true rfl)) dX9_hinders_99 ⟨Nat.le_of_ble_eq_true rfl, Nat.le_of_ble_eq_true rfl⟩) hS (af_le hH hS hA) (fun v_61 φ_62 H locs hw_v_61 hH hS => ?_)
              obtain ⟨rfl, hqv_61⟩ := hw_v_61
              rw [hqv_61] at hH
              refine hv_icmp_le (pc := 102) (tgt := 109) (a := 100 * (bW (ar 10 z1) (ar 11 z1) i - ar 4 (6 * x1 + i)) / ar 4 (6 * x1 + i)) (b := fStr (ar 3 x1)) S.1 S.2.1 (by omega) (by omega) dX9_hinders_102 (by decide) (fun c_63 => ?_) (fun c_63 => ?_)
              · skip
                refine lv_iconst (pc := 109) (v := nI 0) S.1 S.2.1 dX9_hinders_109 (by decide) ?_
                have g4 : 0 = tnF (ar 3 x1) (fun j => ar 4 (6 * x1 + j)) (bW (ar 10 z1) (ar 11 z1)) (i + 1) := by simp only [tnF]; rw [if_pos ⟨by omega, by omega⟩]
                refine lv_istore (pc := 110) (lv' := [(4, .int (nI 0)), (3, .int (nI 0)), (10, .int (nI (bW (ar 10 z1) (ar 11 z1) i))), (9, .int (nI ((ar 4) ((6 * x1) + i)))), (8, .int (nI ((6 * x1) + i))), (0, .ref (q 0)), (1, .int (nI x1)), (2, .int (nI z1)), (5, .int (nI t5)), (6, .int (nI (ar 3 x1))), (7, .int (nI i))]) S.1 S.2.1 dX9_hinders_110 hl (by decide) rfl (fun ls hl => ?_)
                refine lv_iload (pc := 112) S.1 S.2.1 dX9_hinders_112 (lv_at hl 8 rfl) ?_
                refine hv_if_ne (pc := 114) (tgt := 139) (a := t5) S.1 S.2.1 (by omega) dX9_hinders_114 (by decide) (fun c_64 => ?_) (fun c_64 => ?_)
                · skip
                  refine lv_iconst (pc := 139) (v := nI 1) S.1 S.2.1 dX9_hinders_139 (by decide) ?_
                  refine lv_goto (pc := 140) (tgt := 144) S.1 S.2.1 dX9_hinders_140 (by decide) ?_
                  have g5 : 1 = wiF (ar 3 x1) (fun j => ar 4 (6 * x1 + j)) (bW (ar 10 z1) (ar 11 z1)) (i + 1) := by simp only [wiF]; rw [if_neg (by omega)]
                  refine lv_istore (pc := 144) (lv' := [(5, .int (nI 1)), (4, .int (nI 0)), (3, .int (nI 0)), (10, .int (nI (bW (ar 10 z1) (ar 11 z1) i))), (9, .int (nI ((ar 4) ((6 * x1) + i)))), (8, .int (nI ((6 * x1) + i))), (0, .ref (q 0)), (1, .int (nI x1)), (2, .int (nI z1)), (6, .int (nI (ar 3 x1))), (7, .int (nI i))]) S.1 S.2.1 dX9_hinders_144 hl (by decide) rfl (fun ls hl => ?_)
                  refine lv_iinc (pc := 146) (v := nI (i + 1)) (lv' := [(7, .int (nI (i + 1))), (5, .int (nI 1)), (4, .int (nI 0)), (3, .int (nI 0)), (10, .int (nI (bW (ar 10 z1) (ar 11 z1) i))), (9, .int (nI ((ar 4) ((6 * x1) + i)))), (8, .int (nI ((6 * x1) + i))), (0, .ref (q 0)), (1, .int (nI x1)), (2, .int (nI z1)), (6, .int (nI (ar 3 x1)))]) S.1 S.2.1 dX9_hinders_146 hl (k := 10) rfl (by first | rfl | exact nI_add _ _) (by decide) rfl (fun ls hl => ?_)
                  refine lv_goto (pc := 149) (tgt := 19) S.1 S.2.1 dX9_hinders_149 (by decide) ?_
                  have hi2 : (i + 1) + n = 6 ∧ (0) = thF (fun j => ar 6 (6 * x1 + j) * 100000 / (ar 4 (6 * x1 + j) * ar 5 (6 * x1 + j))) (i + 1) ∧ (0) = tnF (ar 3 x1) (fun j => ar 4 (6 * x1 + j)) (bW (ar 10 z1) (ar 11 z1)) (i + 1) ∧ (1) = wiF (ar 3 x1) (fun j => ar 4 (6 * x1 + j)) (bW (ar 10 z1) (ar 11 z1)) (i + 1) := ⟨by omega, g3, g4, g5⟩
                  have hl2 : lv_has ls 11 [(0, .ref (q 0)), (1, .int (nI x1)), (2, .int (nI z1)), (3, .int (nI (0))), (4, .int (nI (0))), (5, .int (nI (1))), (6, .int (nI (ar 3 x1))), (7, .int (nI (i + 1)))] := lv_sub hl [7, 8, 9, 3, 2, 1, 10, 0] rfl
                  apply ih (i := i + 1) (t3 := 0) (t4 := 0) (t5 := 1) <;> assumption
                · skip
                  refine lv_iload (pc := 117) S.1 S.2.1 dX9_hinders_117 (lv_at hl 2 rfl) ?_
                  refine lv_iload (pc := 119) S.1 S.2.1 dX9_hinders_119 (lv_at hl 3 rfl) ?_
                  refine hv_icmp_ge (pc := 121) (tgt := 143) (a := bW (ar 10 z1) (ar 11 z1) i) (b := (ar 4) ((6 * x1) + i)) S.1 S.2.1 (by omega) (by omega) dX9_hinders_121 (by decide) (fun c_65 => ?_) (fun c_65 => ?_)
                  · skip
                    refine lv_iconst (pc := 143) (v := nI 0) S.1 S.2.1 dX9_hinders_143 (by decide) ?_
                    have g5 : 0 = wiF (ar 3 x1) (fun j => ar 4 (6 * x1 + j)) (bW (ar 10 z1) (ar 11 z1)) (i + 1) := by simp only [wiF]; rw [if_pos ⟨by omega, by omega⟩]
                    refine lv_istore (pc := 144) (lv' := [(5, .int (nI 0)), (4, .int (nI 0)), (3, .int (nI 0)), (10, .int (nI (bW (ar 10 z1) (ar 11 z1) i))), (9, .int (nI ((ar 4) ((6 * x1) + i)))), (8, .int (nI ((6 * x1) + i))), (0, .ref (q 0)), (1, .int (nI x1)), (2, .int (nI z1)), (6, .int (nI (ar 3 x1))), (7, .int (nI i))]) S.1 S.2.1 dX9_hinders_144 hl (by decide) rfl (fun ls hl => ?_)
                    refine lv_iinc (pc := 146) (v := nI (i + 1)) (lv' := [(7, .int (nI (i + 1))), (5, .int (nI 0)), (4, .int (nI 0)), (3, .int (nI 0)), (10, .int (nI (bW (ar 10 z1) (ar 11 z1) i))), (9, .int (nI ((ar 4) ((6 * x1) + i)))), (8, .int (nI ((6 * x1) + i))), (0, .ref (q 0)), (1, .int (nI x1)), (2, .int (nI z1)), (6, .int (nI (ar 3 x1)))]) S.1 S.2.1 dX9_hinders_146 hl (k := 10) rfl (by first | rfl | exact nI_add _ _) (by decide) rfl (fun ls hl => ?_)
                    refine lv_goto (pc := 149) (tgt := 19) S.1 S.2.1 dX9_hinders_149 (by decide) ?_
                    have hi2 : (i + 1) + n = 6 ∧ (0) = thF (fun j => ar 6 (6 * x1 + j) * 100000 / (ar 4 (6 * x1 + j) * ar 5 (6 * x1 + j))) (i + 1) ∧ (0) = tnF (ar 3 x1) (fun j => ar 4 (6 * x1 + j)) (bW (ar 10 z1) (ar 11 z1)) (i + 1) ∧ (0) = wiF (ar 3 x1) (fun j => ar 4 (6 * x1 + j)) (bW (ar 10 z1) (ar 11 z1)) (i + 1) := ⟨by omega, g3, g4, g5⟩
                    have hl2 : lv_has ls 11 [(0, .ref (q 0)), (1, .int (nI x1)), (2, .int (nI z1)), (3, .int (nI (0))), (4, .int (nI (0))), (5, .int (nI (0))), (6, .int (nI (ar 3 x1))), (7, .int (nI (i + 1)))] := lv_sub hl [7, 8, 9, 3, 2, 1, 10, 0] rfl
                    apply ih (i := i + 1) (t3 := 0) (t4 := 0) (t5 := 0) <;> assumption
                  · skip
                    refine lv_iload (pc := 124) S.1 S.2.1 dX9_hinders_124 (lv_at hl 3 rfl) ?_
                    refine lv_iload (pc := 126) S.1 S.2.1 dX9_hinders_126 (lv_at hl 9 rfl) ?_
                    refine hv_call (pc := 128) (va_runS (As := [.int (nI (ar 3 x1))]) (rest := [.int (nI ((ar 4) ((6 * x1) + i)))]) S (c_m_across l D cA ga φ H.size (ar 3 x1) h3x) (va_cwS 1 S.2.2.2.2 (gS tw_1064 tw_1065 tw_7 tw_1066) rfl rfl rfl (by decide +kernel) ⟨Nat.le_of_ble_eq_true rfl, Nat.le_of_ble_eq_true rfl⟩) (pre0_S hH hK hX hS hA) rfl rfl hl.1 rfl (lv_room (Nat.le_of_ble_eq_true rfl)) dX9_hinders_128 ⟨Nat.le_of_ble_eq_true rfl, Nat.le_of_ble_eq_true rfl⟩) hS (af_le hH hS hA) (fun v_66 φ_67 H locs hw_v_66 hH hS => ?_)
                    obtain ⟨rfl, hqv_66⟩ := hw_v_66
                    rw [hqv_66] at hH
                    refine hv_call (pc := 131) (va_runS (As := [.int (nI ((ar 4) ((6 * x1) + i))), .int (nI (fAcr (ar 3 x1)))]) (rest := []) S (c_m_shrunk l D cA ga φ H.size (ar 4 (6 * x1 + i)) (fAcr (ar 3 x1)) (by omega) (by omega)) (va_cwS 2 S.2.2.2.2 (gS tw_1067 tw_1068 tw_7 tw_1069) rfl rfl rfl (by decide +kernel) ⟨Nat.le_of_ble_eq_true rfl, Nat.le_of_ble_eq_true rfl⟩) (pre0_S hH hK hX hS hA) rfl rfl hl.1 rfl (lv_room (Nat.le_of_ble_eq_true rfl)) dX9_hinders_131 ⟨Nat.le_of_ble_eq_true rfl, Nat.le_of_ble_eq_true rfl⟩) hS (af_le hH hS hA) (fun v_68 φ_69 H locs hw_v_68 hH hS => ?_)
                    obtain ⟨rfl, hqv_68⟩ := hw_v_68
                    rw [hqv_68] at hH
                    refine hv_ti (y := nI (shA (ar 3 x1) (ar 4 (6 * x1 + i)))) (rfl) ?_
                    refine lv_iload (pc := 134) S.1 S.2.1 dX9_hinders_134 (lv_at hl 2 rfl) ?_
                    refine hv_icmp_le (pc := 136) (tgt := 143) (a := shA (ar 3 x1) (ar 4 (6 * x1 + i))) (b := bW (ar 10 z1) (ar 11 z1) i) S.1 S.2.1 (by omega) (by omega) dX9_hinders_136 (by decide) (fun c_70 => ?_) (fun c_70 => ?_)
                    · skip
                      refine lv_iconst (pc := 143) (v := nI 0) S.1 S.2.1 dX9_hinders_143 (by decide) ?_
                      have g5 : 0 = wiF (ar 3 x1) (fun j => ar 4 (6 * x1 + j)) (bW (ar 10 z1) (ar 11 z1)) (i + 1) := by simp only [wiF]; rw [if_pos ⟨by omega, by omega⟩]
                      refine lv_istore (pc := 144) (lv' := [(5, .int (nI 0)), (4, .int (nI 0)), (3, .int (nI 0)), (10, .int (nI (bW (ar 10 z1) (ar 11 z1) i))), (9, .int (nI ((ar 4) ((6 * x1) + i)))), (8, .int (nI ((6 * x1) + i))), (0, .ref (q 0)), (1, .int (nI x1)), (2, .int (nI z1)), (6, .int (nI (ar 3 x1))), (7, .int (nI i))]) S.1 S.2.1 dX9_hinders_144 hl (by decide) rfl (fun ls hl => ?_)
                      refine lv_iinc (pc := 146) (v := nI (i + 1)) (lv' := [(7, .int (nI (i + 1))), (5, .int (nI 0)), (4, .int (nI 0)), (3, .int (nI 0)), (10, .int (nI (bW (ar 10 z1) (ar 11 z1) i))), (9, .int (nI ((ar 4) ((6 * x1) + i)))), (8, .int (nI ((6 * x1) + i))), (0, .ref (q 0)), (1, .int (nI x1)), (2, .int (nI z1)), (6, .int (nI (ar 3 x1)))]) S.1 S.2.1 dX9_hinders_146 hl (k := 10) rfl (by first | rfl | exact nI_add _ _) (by decide) rfl (fun ls hl => ?_)
                      refine lv_goto (pc := 149) (tgt := 19) S.1 S.2.1 dX9_hinders_149 (by decide) ?_
                      have hi2 : (i + 1) + n = 6 ∧ (0) = thF (fun j => ar 6 (6 * x1 + j) * 100000 / (ar 4 (6 * x1 + j) * ar 5 (6 * x1 + j))) (i + 1) ∧ (0) = tnF (ar 3 x1) (fun j => ar 4 (6 * x1 + j)) (bW (ar 10 z1) (ar 11 z1)) (i + 1) ∧ (0) = wiF (ar 3 x1) (fun j => ar 4 (6 * x1 + j)) (bW (ar 10 z1) (ar 11 z1)) (i + 1) := ⟨by omega, g3, g4, g5⟩
                      have hl2 : lv_has ls 11 [(0, .ref (q 0)), (1, .int (nI x1)), (2, .int (nI z1)), (3, .int (nI (0))), (4, .int (nI (0))), (5, .int (nI (0))), (6, .int (nI (ar 3 x1))), (7, .int (nI (i + 1)))] := lv_sub hl [7, 8, 9, 3, 2, 1, 10, 0] rfl
                      apply ih (i := i + 1) (t3 := 0) (t4 := 0) (t5 := 0) <;> assumption
                    · skip
                      refine lv_iconst (pc := 139) (v := nI 1) S.1 S.2.1 dX9_hinders_139 (by decide) ?_
                      refine lv_goto (pc := 140) (tgt := 144) S.1 S.2.1 dX9_hinders_140 (by decide) ?_
                      have g5 : 1 = wiF (ar 3 x1) (fun j => ar 4 (6 * x1 + j)) (bW (ar 10 z1) (ar 11 z1)) (i + 1) := by simp only [wiF]; rw [if_neg (by omega)]
                      refine lv_istore (pc := 144) (lv' := [(5, .int (nI 1)), (4, .int (nI 0)), (3, .int (nI 0)), (10, .int (nI (bW (ar 10 z1) (ar 11 z1) i))), (9, .int (nI ((ar 4) ((6 * x1) + i)))), (8, .int (nI ((6 * x1) + i))), (0, .ref (q 0)), (1, .int (nI x1)), (2, .int (nI z1)), (6, .int (nI (ar 3 x1))), (7, .int (nI i))]) S.1 S.2.1 dX9_hinders_144 hl (by decide) rfl (fun ls hl => ?_)
                      refine lv_iinc (pc := 146) (v := nI (i + 1)) (lv' := [(7, .int (nI (i + 1))), (5, .int (nI 1)), (4, .int (nI 0)), (3, .int (nI 0)), (10, .int (nI (bW (ar 10 z1) (ar 11 z1) i))), (9, .int (nI ((ar 4) ((6 * x1) + i)))), (8, .int (nI ((6 * x1) + i))), (0, .ref (q 0)), (1, .int (nI x1)), (2, .int (nI z1)), (6, .int (nI (ar 3 x1)))]) S.1 S.2.1 dX9_hinders_146 hl (k := 10) rfl (by first | rfl | exact nI_add _ _) (by decide) rfl (fun ls hl => ?_)
                      refine lv_goto (pc := 149) (tgt := 19) S.1 S.2.1 dX9_hinders_149 (by decide) ?_
                      have hi2 : (i + 1) + n = 6 ∧ (0) = thF (fun j => ar 6 (6 * x1 + j) * 100000 / (ar 4 (6 * x1 + j) * ar 5 (6 * x1 + j))) (i + 1) ∧ (0) = tnF (ar 3 x1) (fun j => ar 4 (6 * x1 + j)) (bW (ar 10 z1) (ar 11 z1)) (i + 1) ∧ (1) = wiF (ar 3 x1) (fun j => ar 4 (6 * x1 + j)) (bW (ar 10 z1) (ar 11 z1)) (i + 1) := ⟨by omega, g3, g4, g5⟩
                      have hl2 : lv_has ls 11 [(0, .ref (q 0)), (1, .int (nI x1)), (2, .int (nI z1)), (3, .int (nI (0))), (4, .int (nI (0))), (5, .int (nI (1))), (6, .int (nI (ar 3 x1))), (7, .int (nI (i + 1)))] := lv_sub hl [7, 8, 9, 3, 2, 1, 10, 0] rfl
                      apply ih (i := i + 1) (t3 := 0) (t4 := 0) (t5 := 1) <;> assumption
              · skip
                refine lv_iconst (pc := 105) (v := nI 1) S.1 S.2.1 dX9_hinders_105 (by decide) ?_
                refine lv_goto (pc := 106) (tgt := 110) S.1 S.2.1 dX9_hinders_106 (by decide) ?_
                have g4 : 1 = tnF (ar 3 x1) (fun j => ar 4 (6 * x1 + j)) (bW (ar 10 z1) (ar 11 z1)) (i + 1) := by simp only [tnF]; rw [if_neg (by omega)]
                refine lv_istore (pc := 110) (lv' := [(4, .int (nI 1)), (3, .int (nI 0)), (10, .int (nI (bW (ar 10 z1) (ar 11 z1) i))), (9, .int (nI ((ar 4) ((6 * x1) + i)))), (8, .int (nI ((6 * x1) + i))), (0, .ref (q 0)), (1, .int (nI x1)), (2, .int (nI z1)), (5, .int (nI t5)), (6, .int (nI (ar 3 x1))), (7, .int (nI i))]) S.1 S.2.1 dX9_hinders_110 hl (by decide) rfl (fun ls hl => ?_)
                refine lv_iload (pc := 112) S.1 S.2.1 dX9_hinders_112 (lv_at hl 8 rfl) ?_
                refine hv_if_ne (pc := 114) (tgt := 139) (a := t5) S.1 S.2.1 (by omega) dX9_hinders_114 (by decide) (fun c_71 => ?_) (fun c_71 => ?_)
                · skip
                  refine lv_iconst (pc := 139) (v := nI 1) S.1 S.2.1 dX9_hinders_139 (by decide) ?_
                  refine lv_goto (pc := 140) (tgt := 144) S.1 S.2.1 dX9_hinders_140 (by decide) ?_
                  have g5 : 1 = wiF (ar 3 x1) (fun j => ar 4 (6 * x1 + j)) (bW (ar 10 z1) (ar 11 z1)) (i + 1) := by simp only [wiF]; rw [if_neg (by omega)]
                  refine lv_istore (pc := 144) (lv' := [(5, .int (nI 1)), (4, .int (nI 1)), (3, .int (nI 0)), (10, .int (nI (bW (ar 10 z1) (ar 11 z1) i))), (9, .int (nI ((ar 4) ((6 * x1) + i)))), (8, .int (nI ((6 * x1) + i))), (0, .ref (q 0)), (1, .int (nI x1)), (2, .int (nI z1)), (6, .int (nI (ar 3 x1))), (7, .int (nI i))]) S.1 S.2.1 dX9_hinders_144 hl (by decide) rfl (fun ls hl => ?_)
                  refine lv_iinc (pc := 146) (v := nI (i + 1)) (lv' := [(7, .int (nI (i + 1))), (5, .int (nI 1)), (4, .int (nI 1)), (3, .int (nI 0)), (10, .int (nI (bW (ar 10 z1) (ar 11 z1) i))), (9, .int (nI ((ar 4) ((6 * x1) + i)))), (8, .int (nI ((6 * x1) + i))), (0, .ref (q 0)), (1, .int (nI x1)), (2, .int (nI z1)), (6, .int (nI (ar 3 x1)))]) S.1 S.2.1 dX9_hinders_146 hl (k := 10) rfl (by first | rfl | exact nI_add _ _) (by decide) rfl (fun ls hl => ?_)
                  refine lv_goto (pc := 149) (tgt := 19) S.1 S.2.1 dX9_hinders_149 (by decide) ?_
                  have hi2 : (i + 1) + n = 6 ∧ (0) = thF (fun j => ar 6 (6 * x1 + j) * 100000 / (ar 4 (6 * x1 + j) * ar 5 (6 * x1 + j))) (i + 1) ∧ (1) = tnF (ar 3 x1) (fun j => ar 4 (6 * x1 + j)) (bW (ar 10 z1) (ar 11 z1)) (i + 1) ∧ (1) = wiF (ar 3 x1) (fun j => ar 4 (6 * x1 + j)) (bW (ar 10 z1) (ar 11 z1)) (i + 1) := ⟨by omega, g3, g4, g5⟩
                  have hl2 : lv_has ls 11 [(0, .ref (q 0)), (1, .int (nI x1)), (2, .int (nI z1)), (3, .int (nI (0))), (4, .int (nI (1))), (5, .int (nI (1))), (6, .int (nI (ar 3 x1))), (7, .int (nI (i + 1)))] := lv_sub hl [7, 8, 9, 3, 2, 1, 10, 0] rfl
                  apply ih (i := i + 1) (t3 := 0) (t4 := 1) (t5 := 1) <;> assumption
                · skip
                  refine lv_iload (pc := 117) S.1 S.2.1 dX9_hinders_117 (lv_at hl 2 rfl) ?_
                  refine lv_iload (pc := 119) S.1 S.2.1 dX9_hinders_119 (lv_at hl 3 rfl) ?_
                  refine hv_icmp_ge (pc := 121) (tgt := 143) (a := bW (ar 10 z1) (ar 11 z1) i) (b := (ar 4) ((6 * x1) + i)) S.1 S.2.1 (by omega) (by omega) dX9_hinders_121 (by decide) (fun c_72 => ?_) (fun c_72 => ?_)
                  · skip
                    refine lv_iconst (pc := 143) (v := nI 0) S.1 S.2.1 dX9_hinders_143 (by decide) ?_
                    have g5 : 0 = wiF (ar 3 x1) (fun j => ar 4 (6 * x1 + j)) (bW (ar 10 z1) (ar 11 z1)) (i + 1) := by simp only [wiF]; rw [if_pos ⟨by omega, by omega⟩]
                    refine lv_istore (pc := 144) (lv' := [(5, .int (nI 0)), (4, .int (nI 1)), (3, .int (nI 0)), (10, .int (nI (bW (ar 10 z1) (ar 11 z1) i))), (9, .int (nI ((ar 4) ((6 * x1) + i)))), (8, .int (nI ((6 * x1) + i))), (0, .ref (q 0)), (1, .int (nI x1)), (2, .int (nI z1)), (6, .int (nI (ar 3 x1))), (7, .int (nI i))]) S.1 S.2.1 dX9_hinders_144 hl (by decide) rfl (fun ls hl => ?_)
                    refine lv_iinc (pc := 146) (v := nI (i + 1)) (lv' := [(7, .int (nI (i + 1))), (5, .int (nI 0)), (4, .int (nI 1)), (3, .int (nI 0)), (10, .int (nI (bW (ar 10 z1) (ar 11 z1) i))), (9, .int (nI ((ar 4) ((6 * x1) + i)))), (8, .int (nI ((6 * x1) + i))), (0, .ref (q 0)), (1, .int (nI x1)), (2, .int (nI z1)), (6, .int (nI (ar 3 x1)))]) S.1 S.2.1 dX9_hinders_146 hl (k := 10) rfl (by first | rfl | exact nI_add _ _) (by decide) rfl (fun ls hl => ?_)
                    refine lv_goto (pc := 149) (tgt := 19) S.1 S.2.1 dX9_hinders_149 (by decide) ?_
                    have hi2 : (i + 1) + n = 6 ∧ (0) = thF (fun j => ar 6 (6 * x1 + j) * 100000 / (ar 4 (6 * x1 + j) * ar 5 (6 * x1 + j))) (i + 1) ∧ (1) = tnF (ar 3 x1) (fun j => ar 4 (6 * x1 + j)) (bW (ar 10 z1) (ar 11 z1)) (i + 1) ∧ (0) = wiF (ar 3 x1) (fun j => ar 4 (6 * x1 + j)) (bW (ar 10 z1) (ar 11 z1)) (i + 1) := ⟨by omega, g3, g4, g5⟩
                    have hl2 : lv_has ls 11 [(0, .ref (q 0)), (1, .int (nI x1)), (2, .int (nI z1)), (3, .int (nI (0))), (4, .int (nI (1))), (5, .int (nI (0))), (6, .int (nI (ar 3 x1))), (7, .int (nI (i + 1)))] := lv_sub hl [7, 8, 9, 3, 2, 1, 10, 0] rfl
                    apply ih (i := i + 1) (t3 := 0) (t4 := 1) (t5 := 0) <;> assumption
                  · skip
                    refine lv_iload (pc := 124) S.1 S.2.1 dX9_hinders_124 (lv_at hl 3 rfl) ?_
                    refine lv_iload (pc := 126) S.1 S.2.1 dX9_hinders_126 (lv_at hl 9 rfl) ?_
                    refine hv_call (pc := 128) (va_runS (As := [.int (nI (ar 3 x1))]) (rest := [.int (nI ((ar 4) ((6 * x1) + i)))]) S (c_m_across l D cA ga φ H.size (ar 3 x1) h3x) (va_cwS 1 S.2.2.2.2 (gS tw_1064 tw_1065 tw_7 tw_1066) rfl rfl rfl (by decide +kernel) ⟨Nat.le_of_ble_eq_true rfl, Nat.le_of_ble_eq_true rfl⟩) (pre0_S hH hK hX hS hA) rfl rfl hl.1 rfl (lv_room (Nat.le_of_ble_eq_true rfl)) dX9_hinders_128 ⟨Nat.le_of_ble_eq_true rfl, Nat.le_of_ble_eq_true rfl⟩) hS (af_le hH hS hA) (fun v_73 φ_74 H locs hw_v_73 hH hS => ?_)
                    obtain ⟨rfl, hqv_73⟩ := hw_v_73
                    rw [hqv_73] at hH
                    refine hv_call (pc := 131) (va_runS (As := [.int (nI ((ar 4) ((6 * x1) + i))), .int (nI (fAcr (ar 3 x1)))]) (rest := []) S (c_m_shrunk l D cA ga φ H.size (ar 4 (6 * x1 + i)) (fAcr (ar 3 x1)) (by omega) (by omega)) (va_cwS 2 S.2.2.2.2 (gS tw_1067 tw_1068 tw_7 tw_1069) rfl rfl rfl (by decide +kernel) ⟨Nat.le_of_ble_eq_true rfl, Nat.le_of_ble_eq_true rfl⟩) (pre0_S hH hK hX hS hA) rfl rfl hl.1 rfl (lv_room (Nat.le_of_ble_eq_true rfl)) dX9_hinders_131 ⟨Nat.le_of_ble_eq_true rfl, Nat.le_of_ble_eq_true rfl⟩) hS (af_le hH hS hA) (fun v_75 φ_76 H locs hw_v_75 hH hS => ?_)
                    obtain ⟨rfl, hqv_75⟩ := hw_v_75
                    rw [hqv_75] at hH
                    refine hv_ti (y := nI (shA (ar 3 x1) (ar 4 (6 * x1 + i)))) (rfl) ?_
                    refine lv_iload (pc := 134) S.1 S.2.1 dX9_hinders_134 (lv_at hl 2 rfl) ?_
                    refine hv_icmp_le (pc := 136) (tgt := 143) (a := shA (ar 3 x1) (ar 4 (6 * x1 + i))) (b := bW (ar 10 z1) (ar 11 z1) i) S.1 S.2.1 (by omega) (by omega) dX9_hinders_136 (by decide) (fun c_77 => ?_) (fun c_77 => ?_)
                    · skip
                      refine lv_iconst (pc := 143) (v := nI 0) S.1 S.2.1 dX9_hinders_143 (by decide) ?_
                      have g5 : 0 = wiF (ar 3 x1) (fun j => ar 4 (6 * x1 + j)) (bW (ar 10 z1) (ar 11 z1)) (i + 1) := by simp only [wiF]; rw [if_pos ⟨by omega, by omega⟩]
                      refine lv_istore (pc := 144) (lv' := [(5, .int (nI 0)), (4, .int (nI 1)), (3, .int (nI 0)), (10, .int (nI (bW (ar 10 z1) (ar 11 z1) i))), (9, .int (nI ((ar 4) ((6 * x1) + i)))), (8, .int (nI ((6 * x1) + i))), (0, .ref (q 0)), (1, .int (nI x1)), (2, .int (nI z1)), (6, .int (nI (ar 3 x1))), (7, .int (nI i))]) S.1 S.2.1 dX9_hinders_144 hl (by decide) rfl (fun ls hl => ?_)
                      refine lv_iinc (pc := 146) (v := nI (i + 1)) (lv' := [(7, .int (nI (i + 1))), (5, .int (nI 0)), (4, .int (nI 1)), (3, .int (nI 0)), (10, .int (nI (bW (ar 10 z1) (ar 11 z1) i))), (9, .int (nI ((ar 4) ((6 * x1) + i)))), (8, .int (nI ((6 * x1) + i))), (0, .ref (q 0)), (1, .int (nI x1)), (2, .int (nI z1)), (6, .int (nI (ar 3 x1)))]) S.1 S.2.1 dX9_hinders_146 hl (k := 10) rfl (by first | rfl | exact nI_add _ _) (by decide) rfl (fun ls hl => ?_)
                      refine lv_goto (pc := 149) (tgt := 19) S.1 S.2.1 dX9_hinders_149 (by decide) ?_
                      have hi2 : (i + 1) + n = 6 ∧ (0) = thF (fun j => ar 6 (6 * x1 + j) * 100000 / (ar 4 (6 * x1 + j) * ar 5 (6 * x1 + j))) (i + 1) ∧ (1) = tnF (ar 3 x1) (fun j => ar 4 (6 * x1 + j)) (bW (ar 10 z1) (ar 11 z1)) (i + 1) ∧ (0) = wiF (ar 3 x1) (fun j => ar 4 (6 * x1 + j)) (bW (ar 10 z1) (ar 11 z1)) (i + 1) := ⟨by omega, g3, g4, g5⟩
                      have hl2 : lv_has ls 11 [(0, .ref (q 0)), (1, .int (nI x1)), (2, .int (nI z1)), (3, .int (nI (0))), (4, .int (nI (1))), (5, .int (nI (0))), (6, .int (nI (ar 3 x1))), (7, .int (nI (i + 1)))] := lv_sub hl [7, 8, 9, 3, 2, 1, 10, 0] rfl
                      apply ih (i := i + 1) (t3 := 0) (t4 := 1) (t5 := 0) <;> assumption
                    · skip
                      refine lv_iconst (pc := 139) (v := nI 1) S.1 S.2.1 dX9_hinders_139 (by decide) ?_
                      refine lv_goto (pc := 140) (tgt := 144) S.1 S.2.1 dX9_hinders_140 (by decide) ?_
                      have g5 : 1 = wiF (ar 3 x1) (fun j => ar 4 (6 * x1 + j)) (bW (ar 10 z1) (ar 11 z1)) (i + 1) := by simp only [wiF]; rw [if_neg (by omega)]
                      refine lv_istore (pc := 144) (lv' := [(5, .int (nI 1)), (4, .int (nI 1)), (3, .int (nI 0)), (10, .int (nI (bW (ar 10 z1) (ar 11 z1) i))), (9, .int (nI ((ar 4) ((6 * x1) + i)))), (8, .int (nI ((6 * x1) + i))), (0, .ref (q 0)), (1, .int (nI x1)), (2, .int (nI z1)), (6, .int (nI (ar 3 x1))), (7, .int (nI i))]) S.1 S.2.1 dX9_hinders_144 hl (by decide) rfl (fun ls hl => ?_)
                      refine lv_iinc (pc := 146) (v := nI (i + 1)) (lv' := [(7, .int (nI (i + 1))), (5, .int (nI 1)), (4, .int (nI 1)), (3, .int (nI 0)), (10, .int (nI (bW (ar 10 z1) (ar 11 z1) i))), (9, .int (nI ((ar 4) ((6 * x1) + i)))), (8, .int (nI ((6 * x1) + i))), (0, .ref (q 0)), (1, .int (nI x1)), (2, .int (nI z1)), (6, .int (nI (ar 3 x1)))]) S.1 S.2.1 dX9_hinders_146 hl (k := 10) rfl (by first | rfl | exact nI_add _ _) (by decide) rfl (fun ls hl => ?_)
                      refine lv_goto (pc := 149) (tgt := 19) S.1 S.2.1 dX9_hinders_149 (by decide) ?_
                      have hi2 : (i + 1) + n = 6 ∧ (0) = thF (fun j => ar 6 (6 * x1 + j) * 100000 / (ar 4 (6 * x1 + j) * ar 5 (6 * x1 + j))) (i + 1) ∧ (1) = tnF (ar 3 x1) (fun j => ar 4 (6 * x1 + j)) (bW (ar 10 z1) (ar 11 z1)) (i + 1) ∧ (1) = wiF (ar 3 x1) (fun j => ar 4 (6 * x1 + j)) (bW (ar 10 z1) (ar 11 z1)) (i + 1) := ⟨by omega, g3, g4, g5⟩
                      have hl2 : lv_has ls 11 [(0, .ref (q 0)), (1, .int (nI x1)), (2, .int (nI z1)), (3, .int (nI (0))), (4, .int (nI (1))), (5, .int (nI (1))), (6, .int (nI (ar 3 x1))), (7, .int (nI (i + 1)))] := lv_sub hl [7, 8, 9, 3, 2, 1, 10, 0] rfl
                      apply ih (i := i + 1) (t3 := 0) (t4 := 1) (t5 := 1) <;> assumption
        · skip
          refine lv_iconst (pc := 68) (v := nI 1) S.1 S.2.1 dX9_hinders_68 (by decide) ?_
          refine lv_goto (pc := 69) (tgt := 73) S.1 S.2.1 dX9_hinders_69 (by decide) ?_
          have g3 : 1 = thF (fun j => ar 6 (6 * x1 + j) * 100000 / (ar 4 (6 * x1 + j) * ar 5 (6 * x1 + j))) (i + 1) := by simp only [thF]; rw [if_neg (by omega)]
          refine lv_istore_n (pc := 73) (lv' := [(3, .int (nI 1)), (10, .int (nI (bW (ar 10 z1) (ar 11 z1) i))), (9, .int (nI ((ar 4) ((6 * x1) + i)))), (8, .int (nI ((6 * x1) + i))), (0, .ref (q 0)), (1, .int (nI x1)), (2, .int (nI z1)), (4, .int (nI t4)), (5, .int (nI t5)), (6, .int (nI (ar 3 x1))), (7, .int (nI i))]) S.1 S.2.1 dX9_hinders_73 rfl hl (by decide) rfl (fun ls hl => ?_)
          refine lv_iload (pc := 74) S.1 S.2.1 dX9_hinders_74 (lv_at hl 7 rfl) ?_
          refine hv_if_ne (pc := 76) (tgt := 105) (a := t4) S.1 S.2.1 (by omega) dX9_hinders_76 (by decide) (fun c_78 => ?_) (fun c_78 => ?_)
          · skip
            refine lv_iconst (pc := 105) (v := nI 1) S.1 S.2.1 dX9_hinders_105 (by decide) ?_
            refine lv_goto (pc := 106) (tgt := 110) S.1 S.2.1 dX9_hinders_106 (by decide) ?_
            have g4 : 1 = tnF (ar 3 x1) (fun j => ar 4 (6 * x1 + j)) (bW (ar 10 z1) (ar 11 z1)) (i + 1) := by simp only [tnF]; rw [if_neg (by omega)]
            refine lv_istore (pc := 110) (lv' := [(4, .int (nI 1)), (3, .int (nI 1)), (10, .int (nI (bW (ar 10 z1) (ar 11 z1) i))), (9, .int (nI ((ar 4) ((6 * x1) + i)))), (8, .int (nI ((6 * x1) + i))), (0, .ref (q 0)), (1, .int (nI x1)), (2, .int (nI z1)), (5, .int (nI t5)), (6, .int (nI (ar 3 x1))), (7, .int (nI i))]) S.1 S.2.1 dX9_hinders_110 hl (by decide) rfl (fun ls hl => ?_)
            refine lv_iload (pc := 112) S.1 S.2.1 dX9_hinders_112 (lv_at hl 8 rfl) ?_
            refine hv_if_ne (pc := 114) (tgt := 139) (a := t5) S.1 S.2.1 (by omega) dX9_hinders_114 (by decide) (fun c_79 => ?_) (fun c_79 => ?_)
            · skip
              refine lv_iconst (pc := 139) (v := nI 1) S.1 S.2.1 dX9_hinders_139 (by decide) ?_
              refine lv_goto (pc := 140) (tgt := 144) S.1 S.2.1 dX9_hinders_140 (by decide) ?_
              have g5 : 1 = wiF (ar 3 x1) (fun j => ar 4 (6 * x1 + j)) (bW (ar 10 z1) (ar 11 z1)) (i + 1) := by simp only [wiF]; rw [if_neg (by omega)]
              refine lv_istore (pc := 144) (lv' := [(5, .int (nI 1)), (4, .int (nI 1)), (3, .int (nI 1)), (10, .int (nI (bW (ar 10 z1) (ar 11 z1) i))), (9, .int (nI ((ar 4) ((6 * x1) + i)))), (8, .int (nI ((6 * x1) + i))), (0, .ref (q 0)), (1, .int (nI x1)), (2, .int (nI z1)), (6, .int (nI (ar 3 x1))), (7, .int (nI i))]) S.1 S.2.1 dX9_hinders_144 hl (by decide) rfl (fun ls hl => ?_)
              refine lv_iinc (pc := 146) (v := nI (i + 1)) (lv' := [(7, .int (nI (i + 1))), (5, .int (nI 1)), (4, .int (nI 1)), (3, .int (nI 1)), (10, .int (nI (bW (ar 10 z1) (ar 11 z1) i))), (9, .int (nI ((ar 4) ((6 * x1) + i)))), (8, .int (nI ((6 * x1) + i))), (0, .ref (q 0)), (1, .int (nI x1)), (2, .int (nI z1)), (6, .int (nI (ar 3 x1)))]) S.1 S.2.1 dX9_hinders_146 hl (k := 10) rfl (by first | rfl | exact nI_add _ _) (by decide) rfl (fun ls hl => ?_)
              refine lv_goto (pc := 149) (tgt := 19) S.1 S.2.1 dX9_hinders_149 (by decide) ?_
              have hi2 : (i + 1) + n = 6 ∧ (1) = thF (fun j => ar 6 (6 * x1 + j) * 100000 / (ar 4 (6 * x1 + j) * ar 5 (6 * x1 + j))) (i + 1) ∧ (1) = tnF (ar 3 x1) (fun j => ar 4 (6 * x1 + j)) (bW (ar 10 z1) (ar 11 z1)) (i + 1) ∧ (1) = wiF (ar 3 x1) (fun j => ar 4 (6 * x1 + j)) (bW (ar 10 z1) (ar 11 z1)) (i + 1) := ⟨by omega, g3, g4, g5⟩
              have hl2 : lv_has ls 11 [(0, .ref (q 0)), (1, .int (nI x1)), (2, .int (nI z1)), (3, .int (nI (1))), (4, .int (nI (1))), (5, .int (nI (1))), (6, .int (nI (ar 3 x1))), (7, .int (nI (i + 1)))] := lv_sub hl [7, 8, 9, 3, 2, 1, 10, 0] rfl
              apply ih (i := i + 1) (t3 := 1) (t4 := 1) (t5 := 1) <;> assumption
            · skip
              refine lv_iload (pc := 117) S.1 S.2.1 dX9_hinders_117 (lv_at hl 2 rfl) ?_
              refine lv_iload (pc := 119) S.1 S.2.1 dX9_hinders_119 (lv_at hl 3 rfl) ?_
              refine hv_icmp_ge (pc := 121) (tgt := 143) (a := bW (ar 10 z1) (ar 11 z1) i) (b := (ar 4) ((6 * x1) + i)) S.1 S.2.1 (by omega) (by omega) dX9_hinders_121 (by decide) (fun c_80 => ?_) (fun c_80 => ?_)
              · skip
                refine lv_iconst (pc := 143) (v := nI 0) S.1 S.2.1 dX9_hinders_143 (by decide) ?_
                have g5 : 0 = wiF (ar 3 x1) (fun j => ar 4 (6 * x1 + j)) (bW (ar 10 z1) (ar 11 z1)) (i + 1) := by simp only [wiF]; rw [if_pos ⟨by omega, by omega⟩]
                refine lv_istore (pc := 144) (lv' := [(5, .int (nI 0)), (4, .int (nI 1)), (3, .int (nI 1)), (10, .int (nI (bW (ar 10 z1) (ar 11 z1) i))), (9, .int (nI ((ar 4) ((6 * x1) + i)))), (8, .int (nI ((6 * x1) + i))), (0, .ref (q 0)), (1, .int (nI x1)), (2, .int (nI z1)), (6, .int (nI (ar 3 x1))), (7, .int (nI i))]) S.1 S.2.1 dX9_hinders_144 hl (by decide) rfl (fun ls hl => ?_)
                refine lv_iinc (pc := 146) (v := nI (i + 1)) (lv' := [(7, .int (nI (i + 1))), (5, .int (nI 0)), (4, .int (nI 1)), (3, .int (nI 1)), (10, .int (nI (bW (ar 10 z1) (ar 11 z1) i))), (9, .int (nI ((ar 4) ((6 * x1) + i)))), (8, .int (nI ((6 * x1) + i))), (0, .ref (q 0)), (1, .int (nI x1)), (2, .int (nI z1)), (6, .int (nI (ar 3 x1)))]) S.1 S.2.1 dX9_hinders_146 hl (k := 10) rfl (by first | rfl | exact nI_add _ _) (by decide) rfl (fun ls hl => ?_)
                refine lv_goto (pc := 149) (tgt := 19) S.1 S.2.1 dX9_hinders_149 (by decide) ?_
                have hi2 : (i + 1) + n = 6 ∧ (1) = thF (fun j => ar 6 (6 * x1 + j) * 100000 / (ar 4 (6 * x1 + j) * ar 5 (6 * x1 + j))) (i + 1) ∧ (1) = tnF (ar 3 x1) (fun j => ar 4 (6 * x1 + j)) (bW (ar 10 z1) (ar 11 z1)) (i + 1) ∧ (0) = wiF (ar 3 x1) (fun j => ar 4 (6 * x1 + j)) (bW (ar 10 z1) (ar 11 z1)) (i + 1) := ⟨by omega, g3, g4, g5⟩
                have hl2 : lv_has ls 11 [(0, .ref (q 0)), (1, .int (nI x1)), (2, .int (nI z1)), (3, .int (nI (1))), (4, .int (nI (1))), (5, .int (nI (0))), (6, .int (nI (ar 3 x1))), (7, .int (nI (i + 1)))] := lv_sub hl [7, 8, 9, 3, 2, 1, 10, 0] rfl
                apply ih (i := i + 1) (t3 := 1) (t4 := 1) (t5 := 0) <;> assumption
              · skip
                refine lv_iload (pc := 124) S.1 S.2.1 dX9_hinders_124 (lv_at hl 3 rfl) ?_
                refine lv_iload (pc := 126) S.1 S.2.1 dX9_hinders_126 (lv_at hl 9 rfl) ?_
                refine hv_call (pc := 128) (va_runS (As := [.int (nI (ar 3 x1))]) (rest := [.int (nI ((ar 4) ((6 * x1) + i)))]) S (c_m_across l D cA ga φ H.size (ar 3 x1) h3x) (va_cwS 1 S.2.2.2.2 (gS tw_1064 tw_1065 tw_7 tw_1066) rfl rfl rfl (by decide +kernel) ⟨Nat.le_of_ble_eq_true rfl, Nat.le_of_ble_eq_true rfl⟩) (pre0_S hH hK hX hS hA) rfl rfl hl.1 rfl (lv_room (Nat.le_of_ble_eq_true rfl)) dX9_hinders_128 ⟨Nat.le_of_ble_eq_true rfl, Nat.le_of_ble_eq_true rfl⟩) hS (af_le hH hS hA) (fun v_81 φ_82 H locs hw_v_81 hH hS => ?_)
                obtain ⟨rfl, hqv_81⟩ := hw_v_81
                rw [hqv_81] at hH
                refine hv_call (pc := 131) (va_runS (As := [.int (nI ((ar 4) ((6 * x1) + i))), .int (nI (fAcr (ar 3 x1)))]) (rest := []) S (c_m_shrunk l D cA ga φ H.size (ar 4 (6 * x1 + i)) (fAcr (ar 3 x1)) (by omega) (by omega)) (va_cwS 2 S.2.2.2.2 (gS tw_1067 tw_1068 tw_7 tw_1069) rfl rfl rfl (by decide +kernel) ⟨Nat.le_of_ble_eq_true rfl, Nat.le_of_ble_eq_true rfl⟩) (pre0_S hH hK hX hS hA) rfl rfl hl.1 rfl (lv_room (Nat.le_of_ble_eq_true rfl)) dX9_hinders_131 ⟨Nat.le_of_ble_eq_true rfl, Nat.le_of_ble_eq_true rfl⟩) hS (af_le hH hS hA) (fun v_83 φ_84 H locs hw_v_83 hH hS => ?_)
                obtain ⟨rfl, hqv_83⟩ := hw_v_83
                rw [hqv_83] at hH
                refine hv_ti (y := nI (shA (ar 3 x1) (ar 4 (6 * x1 + i)))) (rfl) ?_
                refine lv_iload (pc := 134) S.1 S.2.1 dX9_hinders_134 (lv_at hl 2 rfl) ?_
                refine hv_icmp_le (pc := 136) (tgt := 143) (a := shA (ar 3 x1) (ar 4 (6 * x1 + i))) (b := bW (ar 10 z1) (ar 11 z1) i) S.1 S.2.1 (by omega) (by omega) dX9_hinders_136 (by decide) (fun c_85 => ?_) (fun c_85 => ?_)
                · skip
                  refine lv_iconst (pc := 143) (v := nI 0) S.1 S.2.1 dX9_hinders_143 (by decide) ?_
                  have g5 : 0 = wiF (ar 3 x1) (fun j => ar 4 (6 * x1 + j)) (bW (ar 10 z1) (ar 11 z1)) (i + 1) := by simp only [wiF]; rw [if_pos ⟨by omega, by omega⟩]
                  refine lv_istore (pc := 144) (lv' := [(5, .int (nI 0)), (4, .int (nI 1)), (3, .int (nI 1)), (10, .int (nI (bW (ar 10 z1) (ar 11 z1) i))), (9, .int (nI ((ar 4) ((6 * x1) + i)))), (8, .int (nI ((6 * x1) + i))), (0, .ref (q 0)), (1, .int (nI x1)), (2, .int (nI z1)), (6, .int (nI (ar 3 x1))), (7, .int (nI i))]) S.1 S.2.1 dX9_hinders_144 hl (by decide) rfl (fun ls hl => ?_)
                  refine lv_iinc (pc := 146) (v := nI (i + 1)) (lv' := [(7, .int (nI (i + 1))), (5, .int (nI 0)), (4, .int (nI 1)), (3, .int (nI 1)), (10, .int (nI (bW (ar 10 z1) (ar 11 z1) i))), (9, .int (nI ((ar 4) ((6 * x1) + i)))), (8, .int (nI ((6 * x1) + i))), (0, .ref (q 0)), (1, .int (nI x1)), (2, .int (nI z1)), (6, .int (nI (ar 3 x1)))]) S.1 S.2.1 dX9_hinders_146 hl (k := 10) rfl (by first | rfl | exact nI_add _ _) (by decide) rfl (fun ls hl => ?_)
                  refine lv_goto (pc := 149) (tgt := 19) S.1 S.2.1 dX9_hinders_149 (by decide) ?_
                  have hi2 : (i + 1) + n = 6 ∧ (1) = thF (fun j => ar 6 (6 * x1 + j) * 100000 / (ar 4 (6 * x1 + j) * ar 5 (6 * x1 + j))) (i + 1) ∧ (1) = tnF (ar 3 x1) (fun j => ar 4 (6 * x1 + j)) (bW (ar 10 z1) (ar 11 z1)) (i + 1) ∧ (0) = wiF (ar 3 x1) (fun j => ar 4 (6 * x1 + j)) (bW (ar 10 z1) (ar 11 z1)) (i + 1) := ⟨by omega, g3, g4, g5⟩
                  have hl2 : lv_has ls 11 [(0, .ref (q 0)), (1, .int (nI x1)), (2, .int (nI z1)), (3, .int (nI (1))), (4, .int (nI (1))), (5, .int (nI (0))), (6, .int (nI (ar 3 x1))), (7, .int (nI (i + 1)))] := lv_sub hl [7, 8, 9, 3, 2, 1, 10, 0] rfl
                  apply ih (i := i + 1) (t3 := 1) (t4 := 1) (t5 := 0) <;> assumption
                · skip
                  refine lv_iconst (pc := 139) (v := nI 1) S.1 S.2.1 dX9_hinders_139 (by decide) ?_
                  refine lv_goto (pc := 140) (tgt := 144) S.1 S.2.1 dX9_hinders_140 (by decide) ?_
                  have g5 : 1 = wiF (ar 3 x1) (fun j => ar 4 (6 * x1 + j)) (bW (ar 10 z1) (ar 11 z1)) (i + 1) := by simp only [wiF]; rw [if_neg (by omega)]
                  refine lv_istore (pc := 144) (lv' := [(5, .int (nI 1)), (4, .int (nI 1)), (3, .int (nI 1)), (10, .int (nI (bW (ar 10 z1) (ar 11 z1) i))), (9, .int (nI ((ar 4) ((6 * x1) + i)))), (8, .int (nI ((6 * x1) + i))), (0, .ref (q 0)), (1, .int (nI x1)), (2, .int (nI z1)), (6, .int (nI (ar 3 x1))), (7, .int (nI i))]) S.1 S.2.1 dX9_hinders_144 hl (by decide) rfl (fun ls hl => ?_)
                  refine lv_iinc (pc := 146) (v := nI (i + 1)) (lv' := [(7, .int (nI (i + 1))), (5, .int (nI 1)), (4, .int (nI 1)), (3, .int (nI 1)), (10, .int (nI (bW (ar 10 z1) (ar 11 z1) i))), (9, .int (nI ((ar 4) ((6 * x1) + i)))), (8, .int (nI ((6 * x1) + i))), (0, .ref (q 0)), (1, .int (nI x1)), (2, .int (nI z1)), (6, .int (nI (ar 3 x1)))]) S.1 S.2.1 dX9_hinders_146 hl (k := 10) rfl (by first | rfl | exact nI_add _ _) (by decide) rfl (fun ls hl => ?_)
                  refine lv_goto (pc := 149) (tgt := 19) S.1 S.2.1 dX9_hinders_149 (by decide) ?_
                  have hi2 : (i + 1) + n = 6 ∧ (1) = thF (fun j => ar 6 (6 * x1 + j) * 100000 / (ar 4 (6 * x1 + j) * ar 5 (6 * x1 + j))) (i + 1) ∧ (1) = tnF (ar 3 x1) (fun j => ar 4 (6 * x1 + j)) (bW (ar 10 z1) (ar 11 z1)) (i + 1) ∧ (1) = wiF (ar 3 x1) (fun j => ar 4 (6 * x1 + j)) (bW (ar 10 z1) (ar 11 z1)) (i + 1) := ⟨by omega, g3, g4, g5⟩
                  have hl2 : lv_has ls 11 [(0, .ref (q 0)), (1, .int (nI x1)), (2, .int (nI z1)), (3, .int (nI (1))), (4, .int (nI (1))), (5, .int (nI (1))), (6, .int (nI (ar 3 x1))), (7, .int (nI (i + 1)))] := lv_sub hl [7, 8, 9, 3, 2, 1, 10, 0] rfl
                  apply ih (i := i + 1) (t3 := 1) (t4 := 1) (t5 := 1) <;> assumption
          · skip
            refine lv_iload (pc := 79) S.1 S.2.1 dX9_hinders_79 (lv_at hl 1 rfl) ?_
            refine lv_iload (pc := 81) S.1 S.2.1 dX9_hinders_81 (lv_at hl 2 rfl) ?_
            refine hv_icmp_le (pc := 83) (tgt := 109) (a := bW (ar 10 z1) (ar 11 z1) i) (b := (ar 4) ((6 * x1) + i)) S.1 S.2.1 (by omega) (by omega) dX9_hinders_83 (by decide) (fun c_86 => ?_) (fun c_86 => ?_)
            · skip
              refine lv_iconst (pc := 109) (v := nI 0) S.1 S.2.1 dX9_hinders_109 (by decide) ?_
              have g4 : 0 = tnF (ar 3 x1) (fun j => ar 4 (6 * x1 + j)) (bW (ar 10 z1) (ar 11 z1)) (i + 1) := by simp only [tnF]; rw [if_pos ⟨by omega, by omega⟩]
              refine lv_istore (pc := 110) (lv' := [(4, .int (nI 0)), (3, .int (nI 1)), (10, .int (nI (bW (ar 10 z1) (ar 11 z1) i))), (9, .int (nI ((ar 4) ((6 * x1) + i)))), (8, .int (nI ((6 * x1) + i))), (0, .ref (q 0)), (1, .int (nI x1)), (2, .int (nI z1)), (5, .int (nI t5)), (6, .int (nI (ar 3 x1))), (7, .int (nI i))]) S.1 S.2.1 dX9_hinders_110 hl (by decide) rfl (fun ls hl => ?_)
              refine lv_iload (pc := 112) S.1 S.2.1 dX9_hinders_112 (lv_at hl 8 rfl) ?_
              refine hv_if_ne (pc := 114) (tgt := 139) (a := t5) S.1 S.2.1 (by omega) dX9_hinders_114 (by decide) (fun c_87 => ?_) (fun c_87 => ?_)
              · skip
                refine lv_iconst (pc := 139) (v := nI 1) S.1 S.2.1 dX9_hinders_139 (by decide) ?_
                refine lv_goto (pc := 140) (tgt := 144) S.1 S.2.1 dX9_hinders_140 (by decide) ?_
                have g5 : 1 = wiF (ar 3 x1) (fun j => ar 4 (6 * x1 + j)) (bW (ar 10 z1) (ar 11 z1)) (i + 1) := by simp only [wiF]; rw [if_neg (by omega)]
                refine lv_istore (pc := 144) (lv' := [(5, .int (nI 1)), (4, .int (nI 0)), (3, .int (nI 1)), (10, .int (nI (bW (ar 10 z1) (ar 11 z1) i))), (9, .int (nI ((ar 4) ((6 * x1) + i)))), (8, .int (nI ((6 * x1) + i))), (0, .ref (q 0)), (1, .int (nI x1)), (2, .int (nI z1)), (6, .int (nI (ar 3 x1))), (7, .int (nI i))]) S.1 S.2.1 dX9_hinders_144 hl (by decide) rfl (fun ls hl => ?_)
                refine lv_iinc (pc := 146) (v := nI (i + 1)) (lv' := [(7, .int (nI (i + 1))), (5, .int (nI 1)), (4, .int (nI 0)), (3, .int (nI 1)), (10, .int (nI (bW (ar 10 z1) (ar 11 z1) i))), (9, .int (nI ((ar 4) ((6 * x1) + i)))), (8, .int (nI ((6 * x1) + i))), (0, .ref (q 0)), (1, .int (nI x1)), (2, .int (nI z1)), (6, .int (nI (ar 3 x1)))]) S.1 S.2.1 dX9_hinders_146 hl (k := 10) rfl (by first | rfl | exact nI_add _ _) (by decide) rfl (fun ls hl => ?_)
                refine lv_goto (pc := 149) (tgt := 19) S.1 S.2.1 dX9_hinders_149 (by decide) ?_
                have hi2 : (i + 1) + n = 6 ∧ (1) = thF (fun j => ar 6 (6 * x1 + j) * 100000 / (ar 4 (6 * x1 + j) * ar 5 (6 * x1 + j))) (i + 1) ∧ (0) = tnF (ar 3 x1) (fun j => ar 4 (6 * x1 + j)) (bW (ar 10 z1) (ar 11 z1)) (i + 1) ∧ (1) = wiF (ar 3 x1) (fun j => ar 4 (6 * x1 + j)) (bW (ar 10 z1) (ar 11 z1)) (i + 1) := ⟨by omega, g3, g4, g5⟩
                have hl2 : lv_has ls 11 [(0, .ref (q 0)), (1, .int (nI x1)), (2, .int (nI z1)), (3, .int (nI (1))), (4, .int (nI (0))), (5, .int (nI (1))), (6, .int (nI (ar 3 x1))), (7, .int (nI (i + 1)))] := lv_sub hl [7, 8, 9, 3, 2, 1, 10, 0] rfl
                apply ih (i := i + 1) (t3 := 1) (t4 := 0) (t5 := 1) <;> assumption
              · skip
                refine lv_iload (pc := 117) S.1 S.2.1 dX9_hinders_117 (lv_at hl 2 rfl) ?_
                refine lv_iload (pc := 119) S.1 S.2.1 dX9_hinders_119 (lv_at hl 3 rfl) ?_
                refine hv_icmp_ge (pc := 121) (tgt := 143) (a := bW (ar 10 z1) (ar 11 z1) i) (b := (ar 4) ((6 * x1) + i)) S.1 S.2.1 (by omega) (by omega) dX9_hinders_121 (by decide) (fun c_88 => ?_) (fun c_88 => ?_)
                · skip
                  refine lv_iconst (pc := 143) (v := nI 0) S.1 S.2.1 dX9_hinders_143 (by decide) ?_
                  have g5 : 0 = wiF (ar 3 x1) (fun j => ar 4 (6 * x1 + j)) (bW (ar 10 z1) (ar 11 z1)) (i + 1) := by simp only [wiF]; rw [if_pos ⟨by omega, by omega⟩]
                  refine lv_istore (pc := 144) (lv' := [(5, .int (nI 0)), (4, .int (nI 0)), (3, .int (nI 1)), (10, .int (nI (bW (ar 10 z1) (ar 11 z1) i))), (9, .int (nI ((ar 4) ((6 * x1) + i)))), (8, .int (nI ((6 * x1) + i))), (0, .ref (q 0)), (1, .int (nI x1)), (2, .int (nI z1)), (6, .int (nI (ar 3 x1))), (7, .int (nI i))]) S.1 S.2.1 dX9_hinders_144 hl (by decide) rfl (fun ls hl => ?_)
                  refine lv_iinc (pc := 146) (v := nI (i + 1)) (lv' := [(7, .int (nI (i + 1))), (5, .int (nI 0)), (4, .int (nI 0)), (3, .int (nI 1)), (10, .int (nI (bW (ar 10 z1) (ar 11 z1) i))), (9, .int (nI ((ar 4) ((6 * x1) + i)))), (8, .int (nI ((6 * x1) + i))), (0, .ref (q 0)), (1, .int (nI x1)), (2, .int (nI z1)), (6, .int (nI (ar 3 x1)))]) S.1 S.2.1 dX9_hinders_146 hl (k := 10) rfl (by first | rfl | exact nI_add _ _) (by decide) rfl (fun ls hl => ?_)
                  refine lv_goto (pc := 149) (tgt := 19) S.1 S.2.1 dX9_hinders_149 (by decide) ?_
                  have hi2 : (i + 1) + n = 6 ∧ (1) = thF (fun j => ar 6 (6 * x1 + j) * 100000 / (ar 4 (6 * x1 + j) * ar 5 (6 * x1 + j))) (i + 1) ∧ (0) = tnF (ar 3 x1) (fun j => ar 4 (6 * x1 + j)) (bW (ar 10 z1) (ar 11 z1)) (i + 1) ∧ (0) = wiF (ar 3 x1) (fun j => ar 4 (6 * x1 + j)) (bW (ar 10 z1) (ar 11 z1)) (i + 1) := ⟨by omega, g3, g4, g5⟩
                  have hl2 : lv_has ls 11 [(0, .ref (q 0)), (1, .int (nI x1)), (2, .int (nI z1)), (3, .int (nI (1))), (4, .int (nI (0))), (5, .int (nI (0))), (6, .int (nI (ar 3 x1))), (7, .int (nI (i + 1)))] := lv_sub hl [7, 8, 9, 3, 2, 1, 10, 0] rfl
                  apply ih (i := i + 1) (t3 := 1) (t4 := 0) (t5 := 0) <;> assumption
                · skip
                  refine lv_iload (pc := 124) S.1 S.2.1 dX9_hinders_124 (lv_at hl 3 rfl) ?_
                  refine lv_iload (pc := 126) S.1 S.2.1 dX9_hinders_126 (lv_at hl 9 rfl) ?_
                  refine hv_call (pc := 128) (va_runS (As := [.int (nI (ar 3 x1))]) (rest := [.int (nI ((ar 4) ((6 * x1) + i)))]) S (c_m_across l D cA ga φ H.size (ar 3 x1) h3x) (va_cwS 1 S.2.2.2.2 (gS tw_1064 tw_1065 tw_7 tw_1066) rfl rfl rfl (by decide +kernel) ⟨Nat.le_of_ble_eq_true rfl, Nat.le_of_ble_eq_true rfl⟩) (pre0_S hH hK hX hS hA) rfl rfl hl.1 rfl (lv_room (Nat.le_of_ble_eq_true rfl)) dX9_hinders_128 ⟨Nat.le_of_ble_eq_true rfl, Nat.le_of_ble_eq_true rfl⟩) hS (af_le hH hS hA) (fun v_89 φ_90 H locs hw_v_89 hH hS => ?_)
                  obtain ⟨rfl, hqv_89⟩ := hw_v_89
                  rw [hqv_89] at hH
                  refine hv_call (pc := 131) (va_runS (As := [.int (nI ((ar 4) ((6 * x1) + i))), .int (nI (fAcr (ar 3 x1)))]) (rest := []) S (c_m_shrunk l D cA ga φ H.size (ar 4 (6 * x1 + i)) (fAcr (ar 3 x1)) (by omega) (by omega)) (va_cwS 2 S.2.2.2.2 (gS tw_1067 tw_1068 tw_7 tw_1069) rfl rfl rfl (by decide +kernel) ⟨Nat.le_of_ble_eq_true rfl, Nat.le_of_ble_eq_true rfl⟩) (pre0_S hH hK hX hS hA) rfl rfl hl.1 rfl (lv_room (Nat.le_of_ble_eq_true rfl)) dX9_hinders_131 ⟨Nat.le_of_ble_eq_true rfl, Nat.le_of_ble_eq_true rfl⟩) hS (af_le hH hS hA) (fun v_91 φ_92 H locs hw_v_91 hH hS => ?_)
                  obtain ⟨rfl, hqv_91⟩ := hw_v_91
                  rw [hqv_91] at hH
                  refine hv_ti (y := nI (shA (ar 3 x1) (ar 4 (6 * x1 + i)))) (rfl) ?_
                  refine lv_iload (pc := 134) S.1 S.2.1 dX9_hinders_134 (lv_at hl 2 rfl) ?_
                  refine hv_icmp_le (pc := 136) (tgt := 143) (a := shA (ar 3 x1) (ar 4 (6 * x1 + i))) (b := bW (ar 10 z1) (ar 11 z1) i) S.1 S.2.1 (by omega) (by omega) dX9_hinders_136 (by decide) (fun c_93 => ?_) (fun c_93 => ?_)
                  · skip
                    refine lv_iconst (pc := 143) (v := nI 0) S.1 S.2.1 dX9_hinders_143 (by decide) ?_
                    have g5 : 0 = wiF (ar 3 x1) (fun j => ar 4 (6 * x1 + j)) (bW (ar 10 z1) (ar 11 z1)) (i + 1) := by simp only [wiF]; rw [if_pos ⟨by omega, by omega⟩]
                    refine lv_istore (pc := 144) (lv' := [(5, .int (nI 0)), (4, .int (nI 0)), (3, .int (nI 1)), (10, .int (nI (bW (ar 10 z1) (ar 11 z1) i))), (9, .int (nI ((ar 4) ((6 * x1) + i)))), (8, .int (nI ((6 * x1) + i))), (0, .ref (q 0)), (1, .int (nI x1)), (2, .int (nI z1)), (6, .int (nI (ar 3 x1))), (7, .int (nI i))]) S.1 S.2.1 dX9_hinders_144 hl (by decide) rfl (fun ls hl => ?_)
                    refine lv_iinc (pc := 146) (v := nI (i + 1)) (lv' := [(7, .int (nI (i + 1))), (5, .int (nI 0)), (4, .int (nI 0)), (3, .int (nI 1)), (10, .int (nI (bW (ar 10 z1) (ar 11 z1) i))), (9, .int (nI ((ar 4) ((6 * x1) + i)))), (8, .int (nI ((6 * x1) + i))), (0, .ref (q 0)), (1, .int (nI x1)), (2, .int (nI z1)), (6, .int (nI (ar 3 x1)))]) S.1 S.2.1 dX9_hinders_146 hl (k := 10) rfl (by first | rfl | exact nI_add _ _) (by decide) rfl (fun ls hl => ?_)
                    refine lv_goto (pc := 149) (tgt := 19) S.1 S.2.1 dX9_hinders_149 (by decide) ?_
                    have hi2 : (i + 1) + n = 6 ∧ (1) = thF (fun j => ar 6 (6 * x1 + j) * 100000 / (ar 4 (6 * x1 + j) * ar 5 (6 * x1 + j))) (i + 1) ∧ (0) = tnF (ar 3 x1) (fun j => ar 4 (6 * x1 + j)) (bW (ar 10 z1) (ar 11 z1)) (i + 1) ∧ (0) = wiF (ar 3 x1) (fun j => ar 4 (6 * x1 + j)) (bW (ar 10 z1) (ar 11 z1)) (i + 1) := ⟨by omega, g3, g4, g5⟩
                    have hl2 : lv_has ls 11 [(0, .ref (q 0)), (1, .int (nI x1)), (2, .int (nI z1)), (3, .int (nI (1))), (4, .int (nI (0))), (5, .int (nI (0))), (6, .int (nI (ar 3 x1))), (7, .int (nI (i + 1)))] := lv_sub hl [7, 8, 9, 3, 2, 1, 10, 0] rfl
                    apply ih (i := i + 1) (t3 := 1) (t4 := 0) (t5 := 0) <;> assumption
                  · skip
                    refine lv_iconst (pc := 139) (v := nI 1) S.1 S.2.1 dX9_hinders_139 (by decide) ?_
                    refine lv_goto (pc := 140) (tgt := 144) S.1 S.2.1 dX9_hinders_140 (by decide) ?_
                    have g5 : 1 = wiF (ar 3 x1) (fun j => ar 4 (6 * x1 + j)) (bW (ar 10 z1) (ar 11 z1)) (i + 1) := by simp only [wiF]; rw [if_neg (by omega)]
                    refine lv_istore (pc := 144) (lv' := [(5, .int (nI 1)), (4, .int (nI 0)), (3, .int (nI 1)), (10, .int (nI (bW (ar 10 z1) (ar 11 z1) i))), (9, .int (nI ((ar 4) ((6 * x1) + i)))), (8, .int (nI ((6 * x1) + i))), (0, .ref (q 0)), (1, .int (nI x1)), (2, .int (nI z1)), (6, .int (nI (ar 3 x1))), (7, .int (nI i))]) S.1 S.2.1 dX9_hinders_144 hl (by decide) rfl (fun ls hl => ?_)
                    refine lv_iinc (pc := 146) (v := nI (i + 1)) (lv' := [(7, .int (nI (i + 1))), (5, .int (nI 1)), (4, .int (nI 0)), (3, .int (nI 1)), (10, .int (nI (bW (ar 10 z1) (ar 11 z1) i))), (9, .int (nI ((ar 4) ((6 * x1) + i)))), (8, .int (nI ((6 * x1) + i))), (0, .ref (q 0)), (1, .int (nI x1)), (2, .int (nI z1)), (6, .int (nI (ar 3 x1)))]) S.1 S.2.1 dX9_hinders_146 hl (k := 10) rfl (by first | rfl | exact nI_add _ _) (by decide) rfl (fun ls hl => ?_)
                    refine lv_goto (pc := 149) (tgt := 19) S.1 S.2.1 dX9_hinders_149 (by decide) ?_
                    have hi2 : (i + 1) + n = 6 ∧ (1) = thF (fun j => ar 6 (6 * x1 + j) * 100000 / (ar 4 (6 * x1 + j) * ar 5 (6 * x1 + j))) (i + 1) ∧ (0) = tnF (ar 3 x1) (fun j => ar 4 (6 * x1 + j)) (bW (ar 10 z1) (ar 11 z1)) (i + 1) ∧ (1) = wiF (ar 3 x1) (fun j => ar 4 (6 * x1 + j)) (bW (ar 10 z1) (ar 11 z1)) (i + 1) := ⟨by omega, g3, g4, g5⟩
                    have hl2 : lv_has ls 11 [(0, .ref (q 0)), (1, .int (nI x1)), (2, .int (nI z1)), (3, .int (nI (1))), (4, .int (nI (0))), (5, .int (nI (1))), (6, .int (nI (ar 3 x1))), (7, .int (nI (i + 1)))] := lv_sub hl [7, 8, 9, 3, 2, 1, 10, 0] rfl
                    apply ih (i := i + 1) (t3 := 1) (t4 := 0) (t5 := 1) <;> assumption
            · skip
              have hne : ¬ nI (ar 4 (6 * x1 + i)) = 0 := nI_ne0 hw4.1 (by omega)
              refine lv_bipush (pc := 86) (v := nI 100) S.1 S.2.1 dX9_hinders_86 (by decide) ?_
              refine lv_iload (pc := 88) S.1 S.2.1 dX9_hinders_88 (lv_at hl 1 rfl) ?_
              refine lv_iload (pc := 90) S.1 S.2.1 dX9_hinders_90 (lv_at hl 2 rfl) ?_
              refine lv_isub (pc := 92) S.1 S.2.1 dX9_hinders_92 ?_
              refine hv_ti (y := nI ((bW (ar 10 z1) (ar 11 z1) i) - ((ar 4) ((6 * x1) + i)))) (pk_sub (by omega)) ?_
              refine lv_imul (pc := 93) S.1 S.2.1 dX9_hinders_93 ?_
              refine hv_ti (y := nI (100 * ((bW (ar 10 z1) (ar 11 z1) i) - ((ar 4) ((6 * x1) + i))))) (pk_mul _ _) ?_
              refine lv_iload (pc := 94) S.1 S.2.1 dX9_hinders_94 (lv_at hl 2 rfl) ?_
              refine lv_idiv (pc := 96) S.1 S.2.1 dX9_hinders_96 (by assumption) ?_
              refine hv_ti (y := nI (100 * (bW (ar 10 z1) (ar 11 z1) i - ar 4 (6 * x1 + i)) / ar 4 (6 * x1 + i))) (pk_div (by omega) hw4.1 (by omega)) ?_
              refine lv_iload (pc := 97) S.1 S.2.1 dX9_hinders_97 (lv_at hl 9 rfl) ?_
              refine hv_call (pc := 99) (va_runS (As := [.int (nI (ar 3 x1))]) (rest := [.int (nI (100 * (bW (ar 10 z1) (ar 11 z1) i - ar 4 (6 * x1 + i)) / ar 4 (6 * x1 + i)))]) S (c_m_strain l D cA ga φ H.size (ar 3 x1) h3x) (va_cwS 1 S.2.2.2.2 (gS tw_1094 tw_1095 tw_7 tw_1096) rfl rfl rfl (by decide +kernel) ⟨Nat.le_of_ble_eq_true rfl, Nat.le_of_ble_eq_true rfl⟩) (pre0_S hH hK hX hS hA) rfl rfl hl.1 rfl (lv_room (Nat.le_of_ble_eq_true rfl)) dX9_hinders_99 ⟨Nat.le_of_ble_eq_true rfl, Nat.le_of_ble_eq_true rfl⟩) hS (af_le hH hS hA) (fun v_94 φ_95 H locs hw_v_94 hH hS => ?_)
              obtain ⟨rfl, hqv_94⟩ := hw_v_94
              rw [hqv_94] at hH
              refine hv_icmp_le (pc := 102) (tgt := 109) (a := 100 * (bW (ar 10 z1) (ar 11 z1) i - ar 4 (6 * x1 + i)) / ar 4 (6 * x1 + i)) (b := fStr (ar 3 x1)) S.1 S.2.1 (by omega) (by omega) dX9_hinders_102 (by decide) (fun c_96 => ?_) (fun c_96 => ?_)
              · skip
                refine lv_iconst (pc := 109) (v := nI 0) S.1 S.2.1 dX9_hinders_109 (by decide) ?_
                have g4 : 0 = tnF (ar 3 x1) (fun j => ar 4 (6 * x1 + j)) (bW (ar 10 z1) (ar 11 z1)) (i + 1) := by simp only [tnF]; rw [if_pos ⟨by omega, by omega⟩]
                refine lv_istore (pc := 110) (lv' := [(4, .int (nI 0)), (3, .int (nI 1)), (10, .int (nI (bW (ar 10 z1) (ar 11 z1) i))), (9, .int (nI ((ar 4) ((6 * x1) + i)))), (8, .int (nI ((6 * x1) + i))), (0, .ref (q 0)), (1, .int (nI x1)), (2, .int (nI z1)), (5, .int (nI t5)), (6, .int (nI (ar 3 x1))), (7, .int (nI i))]) S.1 S.2.1 dX9_hinders_110 hl (by decide) rfl (fun ls hl => ?_)
                refine lv_iload (pc := 112) S.1 S.2.1 dX9_hinders_112 (lv_at hl 8 rfl) ?_
                refine hv_if_ne (pc := 114) (tgt := 139) (a := t5) S.1 S.2.1 (by omega) dX9_hinders_114 (by decide) (fun c_97 => ?_) (fun c_97 => ?_)
                · skip
                  refine lv_iconst (pc := 139) (v := nI 1) S.1 S.2.1 dX9_hinders_139 (by decide) ?_
                  refine lv_goto (pc := 140) (tgt := 144) S.1 S.2.1 dX9_hinders_140 (by decide) ?_
                  have g5 : 1 = wiF (ar 3 x1) (fun j => ar 4 (6 * x1 + j)) (bW (ar 10 z1) (ar 11 z1)) (i + 1) := by simp only [wiF]; rw [if_neg (by omega)]
                  refine lv_istore (pc := 144) (lv' := [(5, .int (nI 1)), (4, .int (nI 0)), (3, .int (nI 1)), (10, .int (nI (bW (ar 10 z1) (ar 11 z1) i))), (9, .int (nI ((ar 4) ((6 * x1) + i)))), (8, .int (nI ((6 * x1) + i))), (0, .ref (q 0)), (1, .int (nI x1)), (2, .int (nI z1)), (6, .int (nI (ar 3 x1))), (7, .int (nI i))]) S.1 S.2.1 dX9_hinders_144 hl (by decide) rfl (fun ls hl => ?_)
                  refine lv_iinc (pc := 146) (v := nI (i + 1)) (lv' := [(7, .int (nI (i + 1))), (5, .int (nI 1)), (4, .int (nI 0)), (3, .int (nI 1)), (10, .int (nI (bW (ar 10 z1) (ar 11 z1) i))), (9, .int (nI ((ar 4) ((6 * x1) + i)))), (8, .int (nI ((6 * x1) + i))), (0, .ref (q 0)), (1, .int (nI x1)), (2, .int (nI z1)), (6, .int (nI (ar 3 x1)))]) S.1 S.2.1 dX9_hinders_146 hl (k := 10) rfl (by first | rfl | exact nI_add _ _) (by decide) rfl (fun ls hl => ?_)
                  refine lv_goto (pc := 149) (tgt := 19) S.1 S.2.1 dX9_hinders_149 (by decide) ?_
                  have hi2 : (i + 1) + n = 6 ∧ (1) = thF (fun j => ar 6 (6 * x1 + j) * 100000 / (ar 4 (6 * x1 + j) * ar 5 (6 * x1 + j))) (i + 1) ∧ (0) = tnF (ar 3 x1) (fun j => ar 4 (6 * x1 + j)) (bW (ar 10 z1) (ar 11 z1)) (i + 1) ∧ (1) = wiF (ar 3 x1) (fun j => ar 4 (6 * x1 + j)) (bW (ar 10 z1) (ar 11 z1)) (i + 1) := ⟨by omega, g3, g4, g5⟩
                  have hl2 : lv_has ls 11 [(0, .ref (q 0)), (1, .int (nI x1)), (2, .int (nI z1)), (3, .int (nI (1))), (4, .int (nI (0))), (5, .int (nI (1))), (6, .int (nI (ar 3 x1))), (7, .int (nI (i + 1)))] := lv_sub hl [7, 8, 9, 3, 2, 1, 10, 0] rfl
                  apply ih (i := i + 1) (t3 := 1) (t4 := 0) (t5 := 1) <;> assumption
                · skip
                  refine lv_iload (pc := 117) S.1 S.2.1 dX9_hinders_117 (lv_at hl 2 rfl) ?_
                  refine lv_iload (pc := 119) S.1 S.2.1 dX9_hinders_119 (lv_at hl 3 rfl) ?_
                  refine hv_icmp_ge (pc := 121) (tgt := 143) (a := bW (ar 10 z1) (ar 11 z1) i) (b := (ar 4) ((6 * x1) + i)) S.1 S.2.1 (by omega) (by omega) dX9_hinders_121 (by decide) (fun c_98 => ?_) (fun c_98 => ?_)
                  · skip
                    refine lv_iconst (pc := 143) (v := nI 0) S.1 S.2.1 dX9_hinders_143 (by decide) ?_
                    have g5 : 0 = wiF (ar 3 x1) (fun j => ar 4 (6 * x1 + j)) (bW (ar 10 z1) (ar 11 z1)) (i + 1) := by simp only [wiF]; rw [if_pos ⟨by omega, by omega⟩]
                    refine lv_istore (pc := 144) (lv' := [(5, .int (nI 0)), (4, .int (nI 0)), (3, .int (nI 1)), (10, .int (nI (bW (ar 10 z1) (ar 11 z1) i))), (9, .int (nI ((ar 4) ((6 * x1) + i)))), (8, .int (nI ((6 * x1) + i))), (0, .ref (q 0)), (1, .int (nI x1)), (2, .int (nI z1)), (6, .int (nI (ar 3 x1))), (7, .int (nI i))]) S.1 S.2.1 dX9_hinders_144 hl (by decide) rfl (fun ls hl => ?_)
                    refine lv_iinc (pc := 146) (v := nI (i + 1)) (lv' := [(7, .int (nI (i + 1))), (5, .int (nI 0)), (4, .int (nI 0)), (3, .int (nI 1)), (10, .int (nI (bW (ar 10 z1) (ar 11 z1) i))), (9, .int (nI ((ar 4) ((6 * x1) + i)))), (8, .int (nI ((6 * x1) + i))), (0, .ref (q 0)), (1, .int (nI x1)), (2, .int (nI z1)), (6, .int (nI (ar 3 x1)))]) S.1 S.2.1 dX9_hinders_146 hl (k := 10) rfl (by first | rfl | exact nI_add _ _) (by decide) rfl (fun ls hl => ?_)
                    refine lv_goto (pc := 149) (tgt := 19) S.1 S.2.1 dX9_hinders_149 (by decide) ?_
                    have hi2 : (i + 1) + n = 6 ∧ (1) = thF (fun j => ar 6 (6 * x1 + j) * 100000 / (ar 4 (6 * x1 + j) * ar 5 (6 * x1 + j))) (i + 1) ∧ (0) = tnF (ar 3 x1) (fun j => ar 4 (6 * x1 + j)) (bW (ar 10 z1) (ar 11 z1)) (i + 1) ∧ (0) = wiF (ar 3 x1) (fun j => ar 4 (6 * x1 + j)) (bW (ar 10 z1) (ar 11 z1)) (i + 1) := ⟨by omega, g3, g4, g5⟩
                    have hl2 : lv_has ls 11 [(0, .ref (q 0)), (1, .int (nI x1)), (2, .int (nI z1)), (3, .int (nI (1))), (4, .int (nI (0))), (5, .int (nI (0))), (6, .int (nI (ar 3 x1))), (7, .int (nI (i + 1)))] := lv_sub hl [7, 8, 9, 3, 2, 1, 10, 0] rfl
                    apply ih (i := i + 1) (t3 := 1) (t4 := 0) (t5 := 0) <;> assumption
                  · skip
                    refine lv_iload (pc := 124) S.1 S.2.1 dX9_hinders_124 (lv_at hl 3 rfl) ?_
                    refine lv_iload (pc := 126) S.1 S.2.1 dX9_hinders_126 (lv_at hl 9 rfl) ?_
                    refine hv_call (pc := 128) (va_runS (As := [.int (nI (ar 3 x1))]) (rest := [.int (nI ((ar 4) ((6 * x1) + i)))]) S (c_m_across l D cA ga φ H.size (ar 3 x1) h3x) (va_cwS 1 S.2.2.2.2 (gS tw_1064 tw_1065 tw_7 tw_1066) rfl rfl rfl (by decide +kernel) ⟨Nat.le_of_ble_eq_true rfl, Nat.le_of_ble_eq_true rfl⟩) (pre0_S hH hK hX hS hA) rfl rfl hl.1 rfl (lv_room (Nat.le_of_ble_eq_true rfl)) dX9_hinders_128 ⟨Nat.le_of_ble_eq_true rfl, Nat.le_of_ble_eq_true rfl⟩) hS (af_le hH hS hA) (fun v_99 φ_100 H locs hw_v_99 hH hS => ?_)
                    obtain ⟨rfl, hqv_99⟩ := hw_v_99
                    rw [hqv_99] at hH
                    refine hv_call (pc := 131) (va_runS (As := [.int (nI ((ar 4) ((6 * x1) + i))), .int (nI (fAcr (ar 3 x1)))]) (rest := []) S (c_m_shrunk l D cA ga φ H.size (ar 4 (6 * x1 + i)) (fAcr (ar 3 x1)) (by omega) (by omega)) (va_cwS 2 S.2.2.2.2 (gS tw_1067 tw_1068 tw_7 tw_1069) rfl rfl rfl (by decide +kernel) ⟨Nat.le_of_ble_eq_true rfl, Nat.le_of_ble_eq_true rfl⟩) (pre0_S hH hK hX hS hA) rfl rfl hl.1 rfl (lv_room (Nat.le_of_ble_eq_true rfl)) dX9_hinders_131 ⟨Nat.le_of_ble_eq_true rfl, Nat.le_of_ble_eq_true rfl⟩) hS (af_le hH hS hA) (fun v_101 φ_102 H locs hw_v_101 hH hS => ?_)
                    obtain ⟨rfl, hqv_101⟩ := hw_v_101
                    rw [hqv_101] at hH
                    refine hv_ti (y := nI (shA (ar 3 x1) (ar 4 (6 * x1 + i)))) (rfl) ?_
                    refine lv_iload (pc := 134) S.1 S.2.1 dX9_hinders_134 (lv_at hl 2 rfl) ?_
                    refine hv_icmp_le (pc := 136) (tgt := 143) (a := shA (ar 3 x1) (ar 4 (6 * x1 + i))) (b := bW (ar 10 z1) (ar 11 z1) i) S.1 S.2.1 (by omega) (by omega) dX9_hinders_136 (by decide) (fun c_103 => ?_) (fun c_103 => ?_)
                    · skip
                      refine lv_iconst (pc := 143) (v := nI 0) S.1 S.2.1 dX9_hinders_143 (by decide) ?_
                      have g5 : 0 = wiF (ar 3 x1) (fun j => ar 4 (6 * x1 + j)) (bW (ar 10 z1) (ar 11 z1)) (i + 1) := by simp only [wiF]; rw [if_pos ⟨by omega, by omega⟩]
                      refine lv_istore (pc := 144) (lv' := [(5, .int (nI 0)), (4, .int (nI 0)), (3, .int (nI 1)), (10, .int (nI (bW (ar 10 z1) (ar 11 z1) i))), (9, .int (nI ((ar 4) ((6 * x1) + i)))), (8, .int (nI ((6 * x1) + i))), (0, .ref (q 0)), (1, .int (nI x1)), (2, .int (nI z1)), (6, .int (nI (ar 3 x1))), (7, .int (nI i))]) S.1 S.2.1 dX9_hinders_144 hl (by decide) rfl (fun ls hl => ?_)
                      refine lv_iinc (pc := 146) (v := nI (i + 1)) (lv' := [(7, .int (nI (i + 1))), (5, .int (nI 0)), (4, .int (nI 0)), (3, .int (nI 1)), (10, .int (nI (bW (ar 10 z1) (ar 11 z1) i))), (9, .int (nI ((ar 4) ((6 * x1) + i)))), (8, .int (nI ((6 * x1) + i))), (0, .ref (q 0)), (1, .int (nI x1)), (2, .int (nI z1)), (6, .int (nI (ar 3 x1)))]) S.1 S.2.1 dX9_hinders_146 hl (k := 10) rfl (by first | rfl | exact nI_add _ _) (by decide) rfl (fun ls hl => ?_)
                      refine lv_goto (pc := 149) (tgt := 19) S.1 S.2.1 dX9_hinders_149 (by decide) ?_
                      have hi2 : (i + 1) + n = 6 ∧ (1) = thF (fun j => ar 6 (6 * x1 + j) * 100000 / (ar 4 (6 * x1 + j) * ar 5 (6 * x1 + j))) (i + 1) ∧ (0) = tnF (ar 3 x1) (fun j => ar 4 (6 * x1 + j)) (bW (ar 10 z1) (ar 11 z1)) (i + 1) ∧ (0) = wiF (ar 3 x1) (fun j => ar 4 (6 * x1 + j)) (bW (ar 10 z1) (ar 11 z1)) (i + 1) := ⟨by omega, g3, g4, g5⟩
                      have hl2 : lv_has ls 11 [(0, .ref (q 0)), (1, .int (nI x1)), (2, .int (nI z1)), (3, .int (nI (1))), (4, .int (nI (0))), (5, .int (nI (0))), (6, .int (nI (ar 3 x1))), (7, .int (nI (i + 1)))] := lv_sub hl [7, 8, 9, 3, 2, 1, 10, 0] rfl
                      apply ih (i := i + 1) (t3 := 1) (t4 := 0) (t5 := 0) <;> assumption
                    · skip
                      refine lv_iconst (pc := 139) (v := nI 1) S.1 S.2.1 dX9_hinders_139 (by decide) ?_
                      refine lv_goto (pc := 140) (tgt := 144) S.1 S.2.1 dX9_hinders_140 (by decide) ?_
                      have g5 : 1 = wiF (ar 3 x1) (fun j => ar 4 (6 * x1 + j)) (bW (ar 10 z1) (ar 11 z1)) (i + 1) := by simp only [wiF]; rw [if_neg (by omega)]
                      refine lv_istore (pc := 144) (lv' := [(5, .int (nI 1)), (4, .int (nI 0)), (3, .int (nI 1)), (10, .int (nI (bW (ar 10 z1) (ar 11 z1) i))), (9, .int (nI ((ar 4) ((6 * x1) + i)))), (8, .int (nI ((6 * x1) + i))), (0, .ref (q 0)), (1, .int (nI x1)), (2, .int (nI z1)), (6, .int (nI (ar 3 x1))), (7, .int (nI i))]) S.1 S.2.1 dX9_hinders_144 hl (by decide) rfl (fun ls hl => ?_)
                      refine lv_iinc (pc := 146) (v := nI (i + 1)) (lv' := [(7, .int (nI (i + 1))), (5, .int (nI 1)), (4, .int (nI 0)), (3, .int (nI 1)), (10, .int (nI (bW (ar 10 z1) (ar 11 z1) i))), (9, .int (nI ((ar 4) ((6 * x1) + i)))), (8, .int (nI ((6 * x1) + i))), (0, .ref (q 0)), (1, .int (nI x1)), (2, .int (nI z1)), (6, .int (nI (ar 3 x1)))]) S.1 S.2.1 dX9_hinders_146 hl (k := 10) rfl (by first | rfl | exact nI_add _ _) (by decide) rfl (fun ls hl => ?_)
                      refine lv_goto (pc := 149) (tgt := 19) S.1 S.2.1 dX9_hinders_149 (by decide) ?_
                      have hi2 : (i + 1) + n = 6 ∧ (1) = thF (fun j => ar 6 (6 * x1 + j) * 100000 / (ar 4 (6 * x1 + j) * ar 5 (6 * x1 + j))) (i + 1) ∧ (0) = tnF (ar 3 x1) (fun j => ar 4 (6 * x1 + j)) (bW (ar 10 z1) (ar 11 z1)) (i + 1) ∧ (1) = wiF (ar 3 x1) (fun j => ar 4 (6 * x1 + j)) (bW (ar 10 z1) (ar 11 z1)) (i + 1) := ⟨by omega, g3, g4, g5⟩
                      have hl2 : lv_has ls 11 [(0, .ref (q 0)), (1, .int (nI x1)), (2, .int (nI z1)), (3, .int (nI (1))), (4, .int (nI (0))), (5, .int (nI (1))), (6, .int (nI (ar 3 x1))), (7, .int (nI (i + 1)))] := lv_sub hl [7, 8, 9, 3, 2, 1, 10, 0] rfl
                      apply ih (i := i + 1) (t3 := 1) (t4 := 0) (t5 := 1) <;> assumption
              · skip
                refine lv_iconst (pc := 105) (v := nI 1) S.1 S.2.1 dX9_hinders_105 (by decide) ?_
                refine lv_goto (pc := 106) (tgt := 110) S.1 S.2.1 dX9_hinders_106 (by decide) ?_
                have g4 : 1 = tnF (ar 3 x1) (fun j => ar 4 (6 * x1 + j)) (bW (ar 10 z1) (ar 11 z1)) (i + 1) := by simp only [tnF]; rw [if_neg (by omega)]
                refine lv_istore (pc := 110) (lv' := [(4, .int (nI 1)), (3, .int (nI 1)), (10, .int (nI (bW (ar 10 z1) (ar 11 z1) i))), (9, .int (nI ((ar 4) ((6 * x1) + i)))), (8, .int (nI ((6 * x1) + i))), (0, .ref (q 0)), (1, .int (nI x1)), (2, .int (nI z1)), (5, .int (nI t5)), (6, .int (nI (ar 3 x1))), (7, .int (nI i))]) S.1 S.2.1 dX9_hinders_110 hl (by decide) rfl (fun ls hl => ?_)
                refine lv_iload (pc := 112) S.1 S.2.1 dX9_hinders_112 (lv_at hl 8 rfl) ?_
                refine hv_if_ne (pc := 114) (tgt := 139) (a := t5) S.1 S.2.1 (by omega) dX9_hinders_114 (by decide) (fun c_104 => ?_) (fun c_104 => ?_)
                · skip
                  refine lv_iconst (pc := 139) (v := nI 1) S.1 S.2.1 dX9_hinders_139 (by decide) ?_
                  refine lv_goto (pc := 140) (tgt := 144) S.1 S.2.1 dX9_hinders_140 (by decide) ?_
                  have g5 : 1 = wiF (ar 3 x1) (fun j => ar 4 (6 * x1 + j)) (bW (ar 10 z1) (ar 11 z1)) (i + 1) := by simp only [wiF]; rw [if_neg (by omega)]
                  refine lv_istore (pc := 144) (lv' := [(5, .int (nI 1)), (4, .int (nI 1)), (3, .int (nI 1)), (10, .int (nI (bW (ar 10 z1) (ar 11 z1) i))), (9, .int (nI ((ar 4) ((6 * x1) + i)))), (8, .int (nI ((6 * x1) + i))), (0, .ref (q 0)), (1, .int (nI x1)), (2, .int (nI z1)), (6, .int (nI (ar 3 x1))), (7, .int (nI i))]) S.1 S.2.1 dX9_hinders_144 hl (by decide) rfl (fun ls hl => ?_)
                  refine lv_iinc (pc := 146) (v := nI (i + 1)) (lv' := [(7, .int (nI (i + 1))), (5, .int (nI 1)), (4, .int (nI 1)), (3, .int (nI 1)), (10, .int (nI (bW (ar 10 z1) (ar 11 z1) i))), (9, .int (nI ((ar 4) ((6 * x1) + i)))), (8, .int (nI ((6 * x1) + i))), (0, .ref (q 0)), (1, .int (nI x1)), (2, .int (nI z1)), (6, .int (nI (ar 3 x1)))]) S.1 S.2.1 dX9_hinders_146 hl (k := 10) rfl (by first | rfl | exact nI_add _ _) (by decide) rfl (fun ls hl => ?_)
                  refine lv_goto (pc := 149) (tgt := 19) S.1 S.2.1 dX9_hinders_149 (by decide) ?_
                  have hi2 : (i + 1) + n = 6 ∧ (1) = thF (fun j => ar 6 (6 * x1 + j) * 100000 / (ar 4 (6 * x1 + j) * ar 5 (6 * x1 + j))) (i + 1) ∧ (1) = tnF (ar 3 x1) (fun j => ar 4 (6 * x1 + j)) (bW (ar 10 z1) (ar 11 z1)) (i + 1) ∧ (1) = wiF (ar 3 x1) (fun j => ar 4 (6 * x1 + j)) (bW (ar 10 z1) (ar 11 z1)) (i + 1) := ⟨by omega, g3, g4, g5⟩
                  have hl2 : lv_has ls 11 [(0, .ref (q 0)), (1, .int (nI x1)), (2, .int (nI z1)), (3, .int (nI (1))), (4, .int (nI (1))), (5, .int (nI (1))), (6, .int (nI (ar 3 x1))), (7, .int (nI (i + 1)))] := lv_sub hl [7, 8, 9, 3, 2, 1, 10, 0] rfl
                  apply ih (i := i + 1) (t3 := 1) (t4 := 1) (t5 := 1) <;> assumption
                · skip
                  refine lv_iload (pc := 117) S.1 S.2.1 dX9_hinders_117 (lv_at hl 2 rfl) ?_
                  refine lv_iload (pc := 119) S.1 S.2.1 dX9_hinders_119 (lv_at hl 3 rfl) ?_
                  refine hv_icmp_ge (pc := 121) (tgt := 143) (a := bW (ar 10 z1) (ar 11 z1) i) (b := (ar 4) ((6 * x1) + i)) S.1 S.2.1 (by omega) (by omega) dX9_hinders_121 (by decide) (fun c_105 => ?_) (fun c_105 => ?_)
                  · skip
                    refine lv_iconst (pc := 143) (v := nI 0) S.1 S.2.1 dX9_hinders_143 (by decide) ?_
                    have g5 : 0 = wiF (ar 3 x1) (fun j => ar 4 (6 * x1 + j)) (bW (ar 10 z1) (ar 11 z1)) (i + 1) := by simp only [wiF]; rw [if_pos ⟨by omega, by omega⟩]
                    refine lv_istore (pc := 144) (lv' := [(5, .int (nI 0)), (4, .int (nI 1)), (3, .int (nI 1)), (10, .int (nI (bW (ar 10 z1) (ar 11 z1) i))), (9, .int (nI ((ar 4) ((6 * x1) + i)))), (8, .int (nI ((6 * x1) + i))), (0, .ref (q 0)), (1, .int (nI x1)), (2, .int (nI z1)), (6, .int (nI (ar 3 x1))), (7, .int (nI i))]) S.1 S.2.1 dX9_hinders_144 hl (by decide) rfl (fun ls hl => ?_)
                    refine lv_iinc (pc := 146) (v := nI (i + 1)) (lv' := [(7, .int (nI (i + 1))), (5, .int (nI 0)), (4, .int (nI 1)), (3, .int (nI 1)), (10, .int (nI (bW (ar 10 z1) (ar 11 z1) i))), (9, .int (nI ((ar 4) ((6 * x1) + i)))), (8, .int (nI ((6 * x1) + i))), (0, .ref (q 0)), (1, .int (nI x1)), (2, .int (nI z1)), (6, .int (nI (ar 3 x1)))]) S.1 S.2.1 dX9_hinders_146 hl (k := 10) rfl (by first | rfl | exact nI_add _ _) (by decide) rfl (fun ls hl => ?_)
                    refine lv_goto (pc := 149) (tgt := 19) S.1 S.2.1 dX9_hinders_149 (by decide) ?_
                    have hi2 : (i + 1) + n = 6 ∧ (1) = thF (fun j => ar 6 (6 * x1 + j) * 100000 / (ar 4 (6 * x1 + j) * ar 5 (6 * x1 + j))) (i + 1) ∧ (1) = tnF (ar 3 x1) (fun j => ar 4 (6 * x1 + j)) (bW (ar 10 z1) (ar 11 z1)) (i + 1) ∧ (0) = wiF (ar 3 x1) (fun j => ar 4 (6 * x1 + j)) (bW (ar 10 z1) (ar 11 z1)) (i + 1) := ⟨by omega, g3, g4, g5⟩
                    have hl2 : lv_has ls 11 [(0, .ref (q 0)), (1, .int (nI x1)), (2, .int (nI z1)), (3, .int (nI (1))), (4, .int (nI (1))), (5, .int (nI (0))), (6, .int (nI (ar 3 x1))), (7, .int (nI (i + 1)))] := lv_sub hl [7, 8, 9, 3, 2, 1, 10, 0] rfl
                    apply ih (i := i + 1) (t3 := 1) (t4 := 1) (t5 := 0) <;> assumption
                  · skip
                    refine lv_iload (pc := 124) S.1 S.2.1 dX9_hinders_124 (lv_at hl 3 rfl) ?_
                    refine lv_iload (pc := 126) S.1 S.2.1 dX9_hinders_126 (lv_at hl 9 rfl) ?_
                    refine hv_call (pc := 128) (va_runS (As := [.int (nI (ar 3 x1))]) (rest := [.int (nI ((ar 4) ((6 * x1) + i)))]) S (c_m_across l D cA ga φ H.size (ar 3 x1) h3x) (va_cwS 1 S.2.2.2.2 (gS tw_1064 tw_1065 tw_7 tw_1066) rfl rfl rfl (by decide +kernel) ⟨Nat.le_of_ble_eq_true rfl, Nat.le_of_ble_eq_true rfl⟩) (pre0_S hH hK hX hS hA) rfl rfl hl.1 rfl (lv_room (Nat.le_of_ble_eq_true rfl)) dX9_hinders_128 ⟨Nat.le_of_ble_eq_true rfl, Nat.le_of_ble_eq_true rfl⟩) hS (af_le hH hS hA) (fun v_106 φ_107 H locs hw_v_106 hH hS => ?_)
                    obtain ⟨rfl, hqv_106⟩ := hw_v_106
                    rw [hqv_106] at hH
                    refine hv_call (pc := 131) (va_runS (As := [.int (nI ((ar 4) ((6 * x1) + i))), .int (nI (fAcr (ar 3 x1)))]) (rest := []) S (c_m_shrunk l D cA ga φ H.size (ar 4 (6 * x1 + i)) (fAcr (ar 3 x1)) (by omega) (by omega)) (va_cwS 2 S.2.2.2.2 (gS tw_1067 tw_1068 tw_7 tw_1069) rfl rfl rfl (by decide +kernel) ⟨Nat.le_of_ble_eq_true rfl, Nat.le_of_ble_eq_true rfl⟩) (pre0_S hH hK hX hS hA) rfl rfl hl.1 rfl (lv_room (Nat.le_of_ble_eq_true rfl)) dX9_hinders_131 ⟨Nat.le_of_ble_eq_true rfl, Nat.le_of_ble_eq_true rfl⟩) hS (af_le hH hS hA) (fun v_108 φ_109 H locs hw_v_108 hH hS => ?_)
                    obtain ⟨rfl, hqv_108⟩ := hw_v_108
                    rw [hqv_108] at hH
                    refine hv_ti (y := nI (shA (ar 3 x1) (ar 4 (6 * x1 + i)))) (rfl) ?_
                    refine lv_iload (pc := 134) S.1 S.2.1 dX9_hinders_134 (lv_at hl 2 rfl) ?_
                    refine hv_icmp_le (pc := 136) (tgt := 143) (a := shA (ar 3 x1) (ar 4 (6 * x1 + i))) (b := bW (ar 10 z1) (ar 11 z1) i) S.1 S.2.1 (by omega) (by omega) dX9_hinders_136 (by decide) (fun c_110 => ?_) (fun c_110 => ?_)
                    · skip
                      refine lv_iconst (pc := 143) (v := nI 0) S.1 S.2.1 dX9_hinders_143 (by decide) ?_
                      have g5 : 0 = wiF (ar 3 x1) (fun j => ar 4 (6 * x1 + j)) (bW (ar 10 z1) (ar 11 z1)) (i + 1) := by simp only [wiF]; rw [if_pos ⟨by omega, by omega⟩]
                      refine lv_istore (pc := 144) (lv' := [(5, .int (nI 0)), (4, .int (nI 1)), (3, .int (nI 1)), (10, .int (nI (bW (ar 10 z1) (ar 11 z1) i))), (9, .int (nI ((ar 4) ((6 * x1) + i)))), (8, .int (nI ((6 * x1) + i))), (0, .ref (q 0)), (1, .int (nI x1)), (2, .int (nI z1)), (6, .int (nI (ar 3 x1))), (7, .int (nI i))]) S.1 S.2.1 dX9_hinders_144 hl (by decide) rfl (fun ls hl => ?_)
                      refine lv_iinc (pc := 146) (v := nI (i + 1)) (lv' := [(7, .int (nI (i + 1))), (5, .int (nI 0)), (4, .int (nI 1)), (3, .int (nI 1)), (10, .int (nI (bW (ar 10 z1) (ar 11 z1) i))), (9, .int (nI ((ar 4) ((6 * x1) + i)))), (8, .int (nI ((6 * x1) + i))), (0, .ref (q 0)), (1, .int (nI x1)), (2, .int (nI z1)), (6, .int (nI (ar 3 x1)))]) S.1 S.2.1 dX9_hinders_146 hl (k := 10) rfl (by first | rfl | exact nI_add _ _) (by decide) rfl (fun ls hl => ?_)
                      refine lv_goto (pc := 149) (tgt := 19) S.1 S.2.1 dX9_hinders_149 (by decide) ?_
                      have hi2 : (i + 1) + n = 6 ∧ (1) = thF (fun j => ar 6 (6 * x1 + j) * 100000 / (ar 4 (6 * x1 + j) * ar 5 (6 * x1 + j))) (i + 1) ∧ (1) = tnF (ar 3 x1) (fun j => ar 4 (6 * x1 + j)) (bW (ar 10 z1) (ar 11 z1)) (i + 1) ∧ (0) = wiF (ar 3 x1) (fun j => ar 4 (6 * x1 + j)) (bW (ar 10 z1) (ar 11 z1)) (i + 1) := ⟨by omega, g3, g4, g5⟩
                      have hl2 : lv_has ls 11 [(0, .ref (q 0)), (1, .int (nI x1)), (2, .int (nI z1)), (3, .int (nI (1))), (4, .int (nI (1))), (5, .int (nI (0))), (6, .int (nI (ar 3 x1))), (7, .int (nI (i + 1)))] := lv_sub hl [7, 8, 9, 3, 2, 1, 10, 0] rfl
                      apply ih (i := i + 1) (t3 := 1) (t4 := 1) (t5 := 0) <;> assumption
                    · skip
                      refine lv_iconst (pc := 139) (v := nI 1) S.1 S.2.1 dX9_hinders_139 (by decide) ?_
                      refine lv_goto (pc := 140) (tgt := 144) S.1 S.2.1 dX9_hinders_140 (by decide) ?_
                      have g5 : 1 = wiF (ar 3 x1) (fun j => ar 4 (6 * x1 + j)) (bW (ar 10 z1) (ar 11 z1)) (i + 1) := by simp only [wiF]; rw [if_neg (by omega)]
                      refine lv_istore (pc := 144) (lv' := [(5, .int (nI 1)), (4, .int (nI 1)), (3, .int (nI 1)), (10, .int (nI (bW (ar 10 z1) (ar 11 z1) i))), (9, .int (nI ((ar 4) ((6 * x1) + i)))), (8, .int (nI ((6 * x1) + i))), (0, .ref (q 0)), (1, .int (nI x1)), (2, .int (nI z1)), (6, .int (nI (ar 3 x1))), (7, .int (nI i))]) S.1 S.2.1 dX9_hinders_144 hl (by decide) rfl (fun ls hl => ?_)
                      refine lv_iinc (pc := 146) (v := nI (i + 1)) (lv' := [(7, .int (nI (i + 1))), (5, .int (nI 1)), (4, .int (nI 1)), (3, .int (nI 1)), (10, .int (nI (bW (ar 10 z1) (ar 11 z1) i))), (9, .int (nI ((ar 4) ((6 * x1) + i)))), (8, .int (nI ((6 * x1) + i))), (0, .ref (q 0)), (1, .int (nI x1)), (2, .int (nI z1)), (6, .int (nI (ar 3 x1)))]) S.1 S.2.1 dX9_hinders_146 hl (k := 10) rfl (by first | rfl | exact nI_add _ _) (by decide) rfl (fun ls hl => ?_)
                      refine lv_goto (pc := 149) (tgt := 19) S.1 S.2.1 dX9_hinders_149 (by decide) ?_
                      have hi2 : (i + 1) + n = 6 ∧ (1) = thF (fun j => ar 6 (6 * x1 + j) * 100000 / (ar 4 (6 * x1 + j) * ar 5 (6 * x1 + j))) (i + 1) ∧ (1) = tnF (ar 3 x1) (fun j => ar 4 (6 * x1 + j)) (bW (ar 10 z1) (ar 11 z1)) (i + 1) ∧ (1) = wiF (ar 3 x1) (fun j => ar 4 (6 * x1 + j)) (bW (ar 10 z1) (ar 11 z1)) (i + 1) := ⟨by omega, g3, g4, g5⟩
                      have hl2 : lv_has ls 11 [(0, .ref (q 0)), (1, .int (nI x1)), (2, .int (nI z1)), (3, .int (nI (1))), (4, .int (nI (1))), (5, .int (nI (1))), (6, .int (nI (ar 3 x1))), (7, .int (nI (i + 1)))] := lv_sub hl [7, 8, 9, 3, 2, 1, 10, 0] rfl
                      apply ih (i := i + 1) (t3 := 1) (t4 := 1) (t5 := 1) <;> assumption

set_option maxHeartbeats 4000000 in
set_option maxRecDepth 100000 in
/-- draw -/
theorem c_m_draw (l : Launch) (D : va_G) (cA : Nat → ClassId) (ga : Nat → Nat → Nat) (φ : hpM) (sz : Nat) (q : Nat → Nat) (sc : Nat → Nat) (ar : Nat → Nat → Nat) (x z : Int32) (hm : MP cA q sc ar φ) (hq : ∀ i j, i < 15 → j < 15 → q i = q j → i = j) (hnc : sc 3 ≤ 12) (hwb : ∀ i, i < 6 * sc 3 → (0 < ar 4 i ∧ ar 4 i ≤ 1200) ∧ (0 < ar 5 i ∧ ar 5 i ≤ 60) ∧ ar 6 i ≤ 500) (hnb : sc 4 ≤ 8) (h3 : ∀ i, ar 3 i < 4) (hbb : ∀ i, i < sc 4 → (300 ≤ ar 10 i ∧ ar 10 i ≤ 700) ∧ (1 ≤ ar 11 i ∧ ar 11 i ≤ 6)) : hM l yX9_draw cX9_draw 6 (some .int) { frames := 10, cells := 0, slots := 0, locals := 320 } [.ref (q 0), .int (x), .int (z)] D cA ga φ sz (fun v φ' => if drawX (sc 3) (sc 4) x z = 0 then (∃ x1 z1 : Nat, x = nI x1 ∧ z = nI z1 ∧ x1 < sc 3 ∧ z1 < sc 4 ∧ v = some (.int (nI (mhR (ar 3 x1) (fun j => ar 6 (6 * x1 + j) * 100000 / (ar 4 (6 * x1 + j) * ar 5 (6 * x1 + j))) (fun j => ar 4 (6 * x1 + j)) (bW (ar 10 z1) (ar 11 z1))))) ∧ (mhR (ar 3 x1) (fun j => ar 6 (6 * x1 + j) * 100000 / (ar 4 (6 * x1 + j) * ar 5 (6 * x1 + j))) (fun j => ar 4 (6 * x1 + j)) (bW (ar 10 z1) (ar 11 z1)) ≠ 0 → MP cA q (va_up sc 7 (0)) ar φ') ∧ (mhR (ar 3 x1) (fun j => ar 6 (6 * x1 + j) * 100000 / (ar 4 (6 * x1 + j) * ar 5 (6 * x1 + j))) (fun j => ar 4 (6 * x1 + j)) (bW (ar 10 z1) (ar 11 z1)) = 0 → MP cA q (va_up sc 7 (0)) (va_up (va_up ar 4 (pfy (ar 4) (6 * x1) (bW (ar 10 z1) (ar 11 z1)) 6)) 8 (va_up (ar 8) x1 1)) φ')) else (v = some (.int (nI 0)) ∧ MP cA q (va_up sc 7 (mcd 9 9 1 (drawX (sc 3) (sc 4) x z))) ar φ')) 0 0 := by
  refine hM.of (by decide) (Nat.le_of_ble_eq_true rfl) rfl ?_
  intro p e s m args below meth c ls H locs S hr hlocks hnm hsz hHz hH hK hX hS hA hl
  obtain ⟨f0, f1, f2, f3, f4, f5, f6, f7, f8, f9, f10, f11, f12, f13, f14⟩ := hm
  refine lv_aload_n (pc := 0) S.1 S.2.1 dX9_draw_0 rfl (lv_at hl 0 rfl) ?_
  refine lv_iload_n (pc := 1) S.1 S.2.1 dX9_draw_1 rfl (lv_at hl 1 rfl) ?_
  by_cases hx : inN x (sc 3)
  · skip
    obtain ⟨x1, rfl, hxn⟩ := hx.nat (by omega)
    refine hv_call (pc := 2) (va_runV (As := [.int (nI x1)]) (rest := []) S (c_m_isCone l D cA ga φ H.size q sc ar (nI x1) ⟨f0, f1, f2, f3, f4, f5, f6, f7, f8, f9, f10, f11, f12, f13, f14⟩ hq hnc) (cwV 1 S.2.2.2.2 (gV tw_1057 tw_1059 sw_35 tw_7 tw_1060) rfl rfl rfl (by decide +kernel) ⟨Nat.le_of_ble_eq_true rfl, Nat.le_of_ble_eq_true rfl⟩) (pre0_V hH hK hX hS hA (hH.recv hK f0 rfl)) rfl rfl hl.1 rfl (lv_room (Nat.le_of_ble_eq_true rfl)) dX9_draw_2 ⟨Nat.le_of_ble_eq_true rfl, Nat.le_of_ble_eq_true rfl⟩) hS (af_le hH hS hA) (fun v_1 φ_2 H locs hw_v_1 hH hS => ?_)
    obtain ⟨rfl, hqv_1⟩ := hw_v_1
    rw [hqv_1] at hH
    refine hv_ti (y := nI 1) (by rw [if_pos hx]) ?_
    refine hv_if_eq (pc := 5) (tgt := 26) (a := 1) S.1 S.2.1 (by omega) dX9_draw_5 (by decide) (fun c_3 => ?_) (fun c_3 => ?_)
    · skip
      exact absurd c_3 (by omega)
    · skip
      refine lv_iload_n (pc := 8) S.1 S.2.1 dX9_draw_8 rfl (lv_at hl 2 rfl) ?_
      refine lv_iconst (pc := 9) (v := nI 0) S.1 S.2.1 dX9_draw_9 (by decide) ?_
      refine lv_aload_n (pc := 10) S.1 S.2.1 dX9_draw_10 rfl (lv_at hl 0 rfl) ?_
      refine hv_get (pc := 11) (C := RX9) (T := TX9) (N := 22) (ref := RX9) S uwX9 hK hH f0 rfl 13 (by decide) tw_958 (fun _ h9 => h9) rfl dX9_draw_11 ?_
      refine lv_iconst (pc := 14) (v := nI 1) S.1 S.2.1 dX9_draw_14 (by decide) ?_
      refine lv_isub (pc := 15) S.1 S.2.1 dX9_draw_15 ?_
      by_cases hz : inN z (sc 4)
      · skip
        obtain ⟨z1, rfl, hzn⟩ := hz.nat (by omega)
        refine hv_call (pc := 16) (va_runS (As := [.int (nI z1), .int (nI 0), .int (nI (sc 4) - nI 1)]) (rest := []) S (c_isIn l D cA ga φ H.size (nI z1) (nI 0) (nI (sc 4) - nI 1)) (va_cwS 3 S.2.2.2.2 (gS tw_1031 tw_1032 tw_7 tw_1033) rfl rfl rfl (by decide +kernel) ⟨Nat.le_of_ble_eq_true rfl, Nat.le_of_ble_eq_true rfl⟩) (pre0_S hH hK hX hS hA) rfl rfl hl.1 rfl (lv_room (Nat.le_of_ble_eq_true rfl)) dX9_draw_16 ⟨Nat.le_of_ble_eq_true rfl, Nat.le_of_ble_eq_true rfl⟩) hS (af_le hH hS hA) (fun v_4 φ_5 H locs hw_v_4 hH hS => ?_)
        obtain ⟨rfl, hqv_4⟩ := hw_v_4
        rw [hqv_4] at hH
        refine hv_ti (y := nI 1) (by rw [inB_N (by omega), if_pos hz]) ?_
        refine hv_if_eq (pc := 19) (tgt := 26) (a := 1) S.1 S.2.1 (by omega) dX9_draw_19 (by decide) (fun c_6 => ?_) (fun c_6 => ?_)
        · skip
          exact absurd c_6 (by omega)
        · skip
          refine lv_iconst (pc := 22) (v := nI 1) S.1 S.2.1 dX9_draw_22 (by decide) ?_
          refine lv_goto (pc := 23) (tgt := 27) S.1 S.2.1 dX9_draw_23 (by decide) ?_
          refine lv_istore_n (pc := 27) (lv' := [(3, .int (nI 1)), (0, .ref (q 0)), (1, .int (nI x1)), (2, .int (nI z1))]) S.1 S.2.1 dX9_draw_27 rfl hl (by decide) rfl (fun ls hl => ?_)
          refine lv_aload_n (pc := 28) S.1 S.2.1 dX9_draw_28 rfl (lv_at hl 1 rfl) ?_
          refine lv_iload_n (pc := 29) S.1 S.2.1 dX9_draw_29 rfl (lv_at hl 0 rfl) ?_
          refine hv_if_eq (pc := 30) (tgt := 37) (a := 1) S.1 S.2.1 (by omega) dX9_draw_30 (by decide) (fun c_7 => ?_) (fun c_7 => ?_)
          · skip
            exact absurd c_7 (by omega)
          · skip
            refine lv_iconst (pc := 33) (v := nI 0) S.1 S.2.1 dX9_draw_33 (by decide) ?_
            refine lv_goto (pc := 34) (tgt := 38) S.1 S.2.1 dX9_draw_34 (by decide) ?_
            have eX : drawX (sc 3) (sc 4) (nI x1) (nI z1) = 0 := by rw [drawX, if_pos hx, if_pos hz]
            refine hv_call (pc := 38) (va_runV (As := [.int (nI 0)]) (rest := []) S (c_m_goes l D cA ga φ H.size q sc ar (0) ⟨f0, f1, f2, f3, f4, f5, f6, f7, f8, f9, f10, f11, f12, f13, f14⟩ hq (by omega)) (cwV 1 S.2.2.2.2 (gV tw_1021 tw_1023 sw_32 tw_7 tw_1024) rfl rfl rfl (by decide +kernel) ⟨Nat.le_of_ble_eq_true rfl, Nat.le_of_ble_eq_true rfl⟩) (pre0_V hH hK hX hS hA (hH.recv hK f0 rfl)) rfl rfl hl.1 rfl (lv_room (Nat.le_of_ble_eq_true rfl)) dX9_draw_38 ⟨Nat.le_of_ble_eq_true rfl, Nat.le_of_ble_eq_true rfl⟩) hS (af_le hH hS hA) (fun v_8 φ_9 H locs hw_v_8 hH hS => ?_)
            obtain ⟨rfl, hm9⟩ := hw_v_8
            obtain ⟨f_10, f_11, f_12, f_13, f_14, f_15, f_16, f_17, f_18, f_19, f_20, f_21, f_22, f_23, f_24⟩ := hm9
            change φ_9 (q 0) = some (.inr (13, [.int (nI (sc 0)), .long (Int64.ofNat (sc 1)), .int (nI (sc 2)), .ref (q 1), .ref (q 2), .int (nI (sc 3)), .ref (q 3), .ref (q 4), .ref (q 5), .ref (q 6), .ref (q 7), .ref (q 8), .ref (q 9), .int (nI (sc 4)), .ref (q 10), .ref (q 11), .int (nI (sc 5)), .ref (q 12), .ref (q 13), .ref (q 14), .int (nI (sc 6)), .int (nI 0)])) at f_10
            refine hv_ti (y := nI 1) (rfl) ?_
            refine hv_if_ne (pc := 41) (tgt := 46) (a := 1) S.1 S.2.1 (by omega) dX9_draw_41 (by decide) (fun c_25 => ?_) (fun c_25 => ?_)
            · skip
              obtain ⟨hb10, hb11⟩ := hbb z1 hzn
              refine lv_aload_n (pc := 46) S.1 S.2.1 dX9_draw_46 rfl (lv_at hl 1 rfl) ?_
              refine lv_iload_n (pc := 47) S.1 S.2.1 dX9_draw_47 rfl (lv_at hl 2 rfl) ?_
              refine lv_iload_n (pc := 48) S.1 S.2.1 dX9_draw_48 rfl (lv_at hl 3 rfl) ?_
              refine hv_call (pc := 49) (va_runV (As := [.int (nI x1), .int (nI z1)]) (rest := []) S (c_m_hinders l D cA ga φ_9 H.size q (va_up sc 7 (0)) ar x1 z1 ⟨f_10, f_11, f_12, f_13, f_14, f_15, f_16, f_17, f_18, f_19, f_20, f_21, f_22, f_23, f_24⟩ hq hnc hwb hxn (by omega) (h3 x1) hb10 hb11) (cwV 2 S.2.2.2.2 (gV tw_1081 tw_1083 sw_36 tw_7 tw_1084) rfl rfl rfl (by decide +kernel) ⟨Nat.le_of_ble_eq_true rfl, Nat.le_of_ble_eq_true rfl⟩) (pre0_V hH hK hX hS hA (hH.recv hK f_10 rfl)) rfl rfl hl.1 rfl (lv_room (Nat.le_of_ble_eq_true rfl)) dX9_draw_49 ⟨Nat.le_of_ble_eq_true rfl, Nat.le_of_ble_eq_true rfl⟩) hS (af_le hH hS hA) (fun v_26 φ_27 H locs hw_v_26 hH hS => ?_)
              obtain ⟨rfl, hqv_26⟩ := hw_v_26
              rw [hqv_26] at hH
              refine hv_ti (y := nI (mhR (ar 3 x1) (fun j => ar 6 (6 * x1 + j) * 100000 / (ar 4 (6 * x1 + j) * ar 5 (6 * x1 + j))) (fun j => ar 4 (6 * x1 + j)) (bW (ar 10 z1) (ar 11 z1)))) (rfl) ?_
              have hml := mhR_le (ar 3 x1) (fun j => ar 6 (6 * x1 + j) * 100000 / (ar 4 (6 * x1 + j) * ar 5 (6 * x1 + j))) (fun j => ar 4 (6 * x1 + j)) (bW (ar 10 z1) (ar 11 z1))
              obtain ⟨mh, hmh⟩ : ∃ z9, z9 = mhR (ar 3 x1) (fun j => ar 6 (6 * x1 + j) * 100000 / (ar 4 (6 * x1 + j) * ar 5 (6 * x1 + j))) (fun j => ar 4 (6 * x1 + j)) (bW (ar 10 z1) (ar 11 z1)) := ⟨_, rfl⟩
              refine hv_ti (y := nI mh) (by rw [hmh]) ?_
              rw [← hmh] at hml
              refine lv_istore (pc := 52) (lv' := [(4, .int (nI mh)), (3, .int (nI 1)), (0, .ref (q 0)), (1, .int (nI x1)), (2, .int (nI z1))]) S.1 S.2.1 dX9_draw_52 hl (by decide) rfl (fun ls hl => ?_)
              refine lv_iload (pc := 54) S.1 S.2.1 dX9_draw_54 (lv_at hl 0 rfl) ?_
              refine hv_if_ne (pc := 56) (tgt := 101) (a := mh) S.1 S.2.1 (by omega) dX9_draw_56 (by decide) (fun c_28 => ?_) (fun c_28 => ?_)
              · skip
                refine lv_iload (pc := 101) S.1 S.2.1 dX9_draw_101 (lv_at hl 0 rfl) ?_
                exact hv_ret (pc := 103) (v := nI mh) S hr rfl hlocks hH hS (by rw [if_pos eX]; exact ⟨x1, z1, rfl, rfl, hxn, hzn, by rw [hmh], fun _ => ⟨f_10, f_11, f_12, f_13, f_14, f_15, f_16, f_17, f_18, f_19, f_20, f_21, f_22, f_23, f_24⟩, fun h => absurd (hmh.trans h) c_28⟩) (Nat.le_of_ble_eq_true rfl) (Nat.le_of_ble_eq_true rfl) dX9_draw_103
              · skip
                refine lv_iconst (pc := 59) (v := nI 0) S.1 S.2.1 dX9_draw_59 (by decide) ?_
                refine lv_istore (pc := 60) (lv' := [(5, .int (nI 0)), (4, .int (nI mh)), (3, .int (nI 1)), (0, .ref (q 0)), (1, .int (nI x1)), (2, .int (nI z1))]) S.1 S.2.1 dX9_draw_60 hl (by decide) rfl (fun ls hl => ?_)
                have hg : ∃ (n i : Nat) (φk_29 : hpM), ((i + n = 6) ∧ φk_29 = ups φ_9 (q 4) (.inl (cA 1, 72, .inl (fun j => nI ((pfy (ar 4) (6 * x1) (bW (ar 10 z1) (ar 11 z1)) i) j)))) ∧ hp D (Af φ sz) φk_29 H) ∧ lv_has ls 6 [(0, .ref (q 0)), (1, .int (nI x1)), (2, .int (nI z1)), (4, .int (nI mh)), (5, .int (nI i))] := ⟨6, 0, φ_9, ⟨rfl, by rw [pfy_0]; exact ups_id f_14, hH⟩, lv_sub hl [3, 4, 5, 1, 0] rfl⟩
                clear hl hH
                try clear hHz
                obtain ⟨n, i, φk_29, hi, hl⟩ := hg
                induction n generalizing ls H locs i φk_29 with
                | succ n ih =>
                  obtain ⟨hi, hφk_29, hH⟩ := hi
                  have f_30 : φk_29 (q 0) = some (.inr (13, [.int (nI (sc 0)), .long (Int64.ofNat (sc 1)), .int (nI (sc 2)), .ref (q 1), .ref (q 2), .int (nI (sc 3)), .ref (q 3), .ref (q 4), .ref (q 5), .ref (q 6), .ref (q 7), .ref (q 8), .ref (q 9), .int (nI (sc 4)), .ref (q 10), .ref (q 11), .int (nI (sc 5)), .ref (q 12), .ref (q 13), .ref (q 14), .int (nI (sc 6)), .int (nI 0)])) := by rw [hφk_29]; exact ups_n (fun h => absurd (hq 0 4 (by omega) (by omega) h) (by omega)) (f_10)
                  have f_31 : φk_29 (q 1) = some (.inl (cA 1, 10, .inl (fun j => nI ((ar 1) j)))) := by rw [hφk_29]; exact ups_n (fun h => absurd (hq 1 4 (by omega) (by omega) h) (by omega)) (f_11)
                  have f_32 : φk_29 (q 2) = some (.inl (cA 1, 10, .inl (fun j => nI ((ar 2) j)))) := by rw [hφk_29]; exact ups_n (fun h => absurd (hq 2 4 (by omega) (by omega) h) (by omega)) (f_12)
                  have f_33 : φk_29 (q 3) = some (.inl (cA 1, 12, .inl (fun j => nI ((ar 3) j)))) := by rw [hφk_29]; exact ups_n (fun h => absurd (hq 3 4 (by omega) (by omega) h) (by omega)) (f_13)
                  have f_34 : φk_29 (q 4) = some (.inl (cA 1, 72, .inl (fun j => nI ((pfy (ar 4) (6 * x1) (bW (ar 10 z1) (ar 11 z1)) i) j)))) := by rw [hφk_29]; exact ups_s _ _ _
                  have f_35 : φk_29 (q 5) = some (.inl (cA 1, 72, .inl (fun j => nI ((ar 5) j)))) := by rw [hφk_29]; exact ups_n (fun h => absurd (hq 5 4 (by omega) (by omega) h) (by omega)) (f_15)
                  have f_36 : φk_29 (q 6) = some (.inl (cA 1, 72, .inl (fun j => nI ((ar 6) j)))) := by rw [hφk_29]; exact ups_n (fun h => absurd (hq 6 4 (by omega) (by omega) h) (by omega)) (f_16)
                  have f_37 : φk_29 (q 7) = some (.inl (cA 1, 12, .inl (fun j => nI ((ar 7) j)))) := by rw [hφk_29]; exact ups_n (fun h => absurd (hq 7 4 (by omega) (by omega) h) (by omega)) (f_17)
                  have f_38 : φk_29 (q 8) = some (.inl (cA 2, 12, .inl (fun j => nI ((ar 8) j)))) := by rw [hφk_29]; exact ups_n (fun h => absurd (hq 8 4 (by omega) (by omega) h) (by omega)) (f_18)
                  have f_39 : φk_29 (q 9) = some (.inl (cA 2, 12, .inl (fun j => nI ((ar 9) j)))) := by rw [hφk_29]; exact ups_n (fun h => absurd (hq 9 4 (by omega) (by omega) h) (by omega)) (f_19)
                  have f_40 : φk_29 (q 10) = some (.inl (cA 1, 8, .inl (fun j => nI ((ar 10) j)))) := by rw [hφk_29]; exact ups_n (fun h => absurd (hq 10 4 (by omega) (by omega) h) (by omega)) (f_20)
                  have f_41 : φk_29 (q 11) = some (.inl (cA 1, 8, .inl (fun j => nI ((ar 11) j)))) := by rw [hφk_29]; exact ups_n (fun h => absurd (hq 11 4 (by omega) (by omega) h) (by omega)) (f_21)
                  have f_42 : φk_29 (q 12) = some (.inl (cA 1, 6, .inl (fun j => nI ((ar 12) j)))) := by rw [hφk_29]; exact ups_n (fun h => absurd (hq 12 4 (by omega) (by omega) h) (by omega)) (f_22)
                  have f_43 : φk_29 (q 13) = some (.inl (cA 1, 6, .inl (fun j => nI ((ar 13) j)))) := by rw [hφk_29]; exact ups_n (fun h => absurd (hq 13 4 (by omega) (by omega) h) (by omega)) (f_23)
                  have f_44 : φk_29 (q 14) = some (.inl (cA 1, 8, .inl (fun j => nI ((ar 14) j)))) := by rw [hφk_29]; exact ups_n (fun h => absurd (hq 14 4 (by omega) (by omega) h) (by omega)) (f_24)
                  refine lv_iload (pc := 62) S.1 S.2.1 dX9_draw_62 (lv_at hl 4 rfl) ?_
                  refine lv_bipush (pc := 64) (v := nI 6) S.1 S.2.1 dX9_draw_64 (by decide) ?_
                  refine hv_icmp_ge (pc := 66) (tgt := 94) (a := i) (b := 6) S.1 S.2.1 (by omega) (by omega) dX9_draw_66 (by decide) (fun c_45 => ?_) (fun c_45 => ?_)
                  · skip
                    exact absurd c_45 (by omega)
                  · skip
                    refine lv_aload_n (pc := 69) S.1 S.2.1 dX9_draw_69 rfl (lv_at hl 0 rfl) ?_
                    refine hv_get (pc := 70) (C := RX9) (T := TX9) (N := 22) (ref := RX9) S uwX9 hK hH f_30 rfl 7 (by decide) tw_952 (fun _ h9 => h9) rfl dX9_draw_70 ?_
                    refine lv_bipush (pc := 73) (v := nI 6) S.1 S.2.1 dX9_draw_73 (by decide) ?_
                    refine lv_iload_n (pc := 75) S.1 S.2.1 dX9_draw_75 rfl (lv_at hl 1 rfl) ?_
                    refine lv_imul (pc := 76) S.1 S.2.1 dX9_draw_76 ?_
                    refine hv_ti (y := nI (6 * x1)) (pk_mul _ _) ?_
                    refine lv_iload (pc := 77) S.1 S.2.1 dX9_draw_77 (lv_at hl 4 rfl) ?_
                    refine lv_iadd (pc := 79) S.1 S.2.1 dX9_draw_79 ?_
                    refine hv_ti (y := nI ((6 * x1) + i)) (nI_add _ _) ?_
                    refine lv_aload_n (pc := 80) S.1 S.2.1 dX9_draw_80 rfl (lv_at hl 0 rfl) ?_
                    refine lv_iload_n (pc := 81) S.1 S.2.1 dX9_draw_81 rfl (lv_at hl 2 rfl) ?_
                    refine lv_iload (pc := 82) S.1 S.2.1 dX9_draw_82 (lv_at hl 4 rfl) ?_
                    refine hv_call (pc := 84) (va_runV (As := [.int (nI z1), .int (nI i)]) (rest := [.int (nI ((6 * x1) + i)), .ref (q 4)]) S (c_m_blockAt l D cA ga φk_29 H.size q (va_up sc 7 (0)) (va_up ar 4 (pfy (ar 4) (6 * x1) (bW (ar 10 z1) (ar 11 z1)) i)) z1 i ⟨f_30, f_31, f_32, f_33, f_34, f_35, f_36, f_37, f_38, f_39, f_40, f_41, f_42, f_43, f_44⟩ hq (by omega) (by omega) hb10 hb11) (cwV 2 S.2.2.2.2 (gV tw_1085 tw_1087 sw_37 tw_7 tw_1088) rfl rfl rfl (by decide +kernel) ⟨Nat.le_of_ble_eq_true rfl, Nat.le_of_ble_eq_true rfl⟩) (pre0_V hH hK hX hS hA (hH.recv hK f_30 rfl)) rfl rfl hl.1 rfl (lv_room (Nat.le_of_ble_eq_true rfl)) dX9_draw_84 ⟨Nat.le_of_ble_eq_true rfl, Nat.le_of_ble_eq_true rfl⟩) hS (af_le hH hS hA) (fun v_46 φ_47 H locs hw_v_46 hH hS => ?_)
                    obtain ⟨rfl, hqv_46⟩ := hw_v_46
                    rw [hqv_46] at hH
                    refine hv_ti (y := nI (bW (ar 10 z1) (ar 11 z1) i)) (rfl) ?_
                    refine hv_iast (pc := 87) S hK hH hS 1 f_34 rfl (vp_in_nI (by omega) (by omega)) dX9_draw_87 (fun H locs hH hS => ?_)
                    rw [hv_upd (by omega), show va_up (pfy (ar 4) (6 * x1) (bW (ar 10 z1) (ar 11 z1)) i) (6 * x1 + i) (bW (ar 10 z1) (ar 11 z1) i) = pfy (ar 4) (6 * x1) (bW (ar 10 z1) (ar 11 z1)) (i + 1) from pfy_up (ar 4) (6 * x1) (bW (ar 10 z1) (ar 11 z1)) i] at hH
                    replace hH := nup (e := .inl (cA 1, 72, .inl (fun j => nI ((pfy (ar 4) (6 * x1) (bW (ar 10 z1) (ar 11 z1)) (i + 1)) j)))) hH
                    obtain ⟨φ_48, hφ_48, fa_φ_48, fr_φ_48, hH⟩ := hH
                    have f_49 := fr_φ_48 _ _ (fun h => absurd (hq 0 4 (by omega) (by omega) h) (by omega)) f_30
                    have f_50 := fr_φ_48 _ _ (fun h => absurd (hq 1 4 (by omega) (by omega) h) (by omega)) f_31
                    have f_51 := fr_φ_48 _ _ (fun h => absurd (hq 2 4 (by omega) (by omega) h) (by omega)) f_32
                    have f_52 := fr_φ_48 _ _ (fun h => absurd (hq 3 4 (by omega) (by omega) h) (by omega)) f_33
                    have f_53 := fr_φ_48 _ _ (fun h => absurd (hq 5 4 (by omega) (by omega) h) (by omega)) f_35
                    have f_54 := fr_φ_48 _ _ (fun h => absurd (hq 6 4 (by omega) (by omega) h) (by omega)) f_36
                    have f_55 := fr_φ_48 _ _ (fun h => absurd (hq 7 4 (by omega) (by omega) h) (by omega)) f_37
                    have f_56 := fr_φ_48 _ _ (fun h => absurd (hq 8 4 (by omega) (by omega) h) (by omega)) f_38
                    have f_57 := fr_φ_48 _ _ (fun h => absurd (hq 9 4 (by omega) (by omega) h) (by omega)) f_39
                    have f_58 := fr_φ_48 _ _ (fun h => absurd (hq 10 4 (by omega) (by omega) h) (by omega)) f_40
                    have f_59 := fr_φ_48 _ _ (fun h => absurd (hq 11 4 (by omega) (by omega) h) (by omega)) f_41
                    have f_60 := fr_φ_48 _ _ (fun h => absurd (hq 12 4 (by omega) (by omega) h) (by omega)) f_42
                    have f_61 := fr_φ_48 _ _ (fun h => absurd (hq 13 4 (by omega) (by omega) h) (by omega)) f_43
                    have f_62 := fr_φ_48 _ _ (fun h => absurd (hq 14 4 (by omega) (by omega) h) (by omega)) f_44
                    refine lv_iinc (pc := 88) (v := nI (i + 1)) (lv' := [(5, .int (nI (i + 1))), (0, .ref (q 0)), (1, .int (nI x1)), (2, .int (nI z1)), (4, .int (nI mh))]) S.1 S.2.1 dX9_draw_88 hl (k := 4) rfl (by first | rfl | exact nI_add _ _) (by decide) rfl (fun ls hl => ?_)
                    refine lv_goto (pc := 91) (tgt := 62) S.1 S.2.1 dX9_draw_91 (by decide) ?_
                    have hi2 : ((i + 1) + n = 6) ∧ φ_48 = ups φ_9 (q 4) (.inl (cA 1, 72, .inl (fun j => nI ((pfy (ar 4) (6 * x1) (bW (ar 10 z1) (ar 11 z1)) (i + 1)) j)))) ∧ hp D (Af φ sz) φ_48 H := ⟨by omega, by rw [hφ_48, hφk_29, ups_ups], hH⟩
                    have hl2 : lv_has ls 6 [(0, .ref (q 0)), (1, .int (nI x1)), (2, .int (nI z1)), (4, .int (nI mh)), (5, .int (nI (i + 1)))] := lv_sub hl [1, 2, 3, 4, 0] rfl
                    apply ih (i := i + 1) (φk_29 := φ_48) <;> assumption
                | zero =>
                  obtain ⟨hi, hφk_29, hH⟩ := hi
                  have f_63 : φk_29 (q 0) = some (.inr (13, [.int (nI (sc 0)), .long (Int64.ofNat (sc 1)), .int (nI (sc 2)), .ref (q 1), .ref (q 2), .int (nI (sc 3)), .ref (q 3), .ref (q 4), .ref (q 5), .ref (q 6), .ref (q 7), .ref (q 8), .ref (q 9), .int (nI (sc 4)), .ref (q 10), .ref (q 11), .int (nI (sc 5)), .ref (q 12), .ref (q 13), .ref (q 14), .int (nI (sc 6)), .int (nI 0)])) := by rw [hφk_29]; exact ups_n (fun h => absurd (hq 0 4 (by omega) (by omega) h) (by omega)) (f_10)
                  have f_64 : φk_29 (q 1) = some (.inl (cA 1, 10, .inl (fun j => nI ((ar 1) j)))) := by rw [hφk_29]; exact ups_n (fun h => absurd (hq 1 4 (by omega) (by omega) h) (by omega)) (f_11)
                  have f_65 : φk_29 (q 2) = some (.inl (cA 1, 10, .inl (fun j => nI ((ar 2) j)))) := by rw [hφk_29]; exact ups_n (fun h => absurd (hq 2 4 (by omega) (by omega) h) (by omega)) (f_12)
                  have f_66 : φk_29 (q 3) = some (.inl (cA 1, 12, .inl (fun j => nI ((ar 3) j)))) := by rw [hφk_29]; exact ups_n (fun h => absurd (hq 3 4 (by omega) (by omega) h) (by omega)) (f_13)
                  have f_67 : φk_29 (q 4) = some (.inl (cA 1, 72, .inl (fun j => nI ((pfy (ar 4) (6 * x1) (bW (ar 10 z1) (ar 11 z1)) i) j)))) := by rw [hφk_29]; exact ups_s _ _ _
                  have f_68 : φk_29 (q 5) = some (.inl (cA 1, 72, .inl (fun j => nI ((ar 5) j)))) := by rw [hφk_29]; exact ups_n (fun h => absurd (hq 5 4 (by omega) (by omega) h) (by omega)) (f_15)
                  have f_69 : φk_29 (q 6) = some (.inl (cA 1, 72, .inl (fun j => nI ((ar 6) j)))) := by rw [hφk_29]; exact ups_n (fun h => absurd (hq 6 4 (by omega) (by omega) h) (by omega)) (f_16)
                  have f_70 : φk_29 (q 7) = some (.inl (cA 1, 12, .inl (fun j => nI ((ar 7) j)))) := by rw [hφk_29]; exact ups_n (fun h => absurd (hq 7 4 (by omega) (by omega) h) (by omega)) (f_17)
                  have f_71 : φk_29 (q 8) = some (.inl (cA 2, 12, .inl (fun j => nI ((ar 8) j)))) := by rw [hφk_29]; exact ups_n (fun h => absurd (hq 8 4 (by omega) (by omega) h) (by omega)) (f_18)
                  have f_72 : φk_29 (q 9) = some (.inl (cA 2, 12, .inl (fun j => nI ((ar 9) j)))) := by rw [hφk_29]; exact ups_n (fun h => absurd (hq 9 4 (by omega) (by omega) h) (by omega)) (f_19)
                  have f_73 : φk_29 (q 10) = some (.inl (cA 1, 8, .inl (fun j => nI ((ar 10) j)))) := by rw [hφk_29]; exact ups_n (fun h => absurd (hq 10 4 (by omega) (by omega) h) (by omega)) (f_20)
                  have f_74 : φk_29 (q 11) = some (.inl (cA 1, 8, .inl (fun j => nI ((ar 11) j)))) := by rw [hφk_29]; exact ups_n (fun h => absurd (hq 11 4 (by omega) (by omega) h) (by omega)) (f_21)
                  have f_75 : φk_29 (q 12) = some (.inl (cA 1, 6, .inl (fun j => nI ((ar 12) j)))) := by rw [hφk_29]; exact ups_n (fun h => absurd (hq 12 4 (by omega) (by omega) h) (by omega)) (f_22)
                  have f_76 : φk_29 (q 13) = some (.inl (cA 1, 6, .inl (fun j => nI ((ar 13) j)))) := by rw [hφk_29]; exact ups_n (fun h => absurd (hq 13 4 (by omega) (by omega) h) (by omega)) (f_23)
                  have f_77 : φk_29 (q 14) = some (.inl (cA 1, 8, .inl (fun j => nI ((ar 14) j)))) := by rw [hφk_29]; exact ups_n (fun h => absurd (hq 14 4 (by omega) (by omega) h) (by omega)) (f_24)
                  obtain rfl : i = 6 := by omega
                  refine lv_iload (pc := 62) S.1 S.2.1 dX9_draw_62 (lv_at hl 4 rfl) ?_
                  refine lv_bipush (pc := 64) (v := nI 6) S.1 S.2.1 dX9_draw_64 (by decide) ?_
                  refine hv_icmp_ge (pc := 66) (tgt := 94) (a := 6) (b := 6) S.1 S.2.1 (by omega) (by omega) dX9_draw_66 (by decide) (fun c_78 => ?_) (fun c_78 => ?_)
                  · skip
                    refine lv_aload_n (pc := 94) S.1 S.2.1 dX9_draw_94 rfl (lv_at hl 0 rfl) ?_
                    refine hv_get (pc := 95) (C := RX9) (T := TX9) (N := 22) (ref := RX9) S uwX9 hK hH f_63 rfl 11 (by decide) tw_956 (fun _ h9 => h9) rfl dX9_draw_95 ?_
                    refine lv_iload_n (pc := 98) S.1 S.2.1 dX9_draw_98 rfl (lv_at hl 1 rfl) ?_
                    refine lv_iconst (pc := 99) (v := nI 1) S.1 S.2.1 dX9_draw_99 (by decide) ?_
                    refine hv_zast (pc := 100) S hK hH hS 2 f_71 rfl (vp_in_nI (by omega) (by omega)) dX9_draw_100 (fun H locs hH hS => ?_)
                    rw [jb_narZ2 _ (by omega), hv_upd (by omega)] at hH
                    replace hH := nup (e := .inl (cA 2, 12, .inl (fun j => nI ((va_up (ar 8) x1 1) j)))) hH
                    obtain ⟨φ_79, hφ_79, fa_φ_79, fr_φ_79, hH⟩ := hH
                    have f_80 := fr_φ_79 _ _ (fun h => absurd (hq 0 8 (by omega) (by omega) h) (by omega)) f_63
                    have f_81 := fr_φ_79 _ _ (fun h => absurd (hq 1 8 (by omega) (by omega) h) (by omega)) f_64
                    have f_82 := fr_φ_79 _ _ (fun h => absurd (hq 2 8 (by omega) (by omega) h) (by omega)) f_65
                    have f_83 := fr_φ_79 _ _ (fun h => absurd (hq 3 8 (by omega) (by omega) h) (by omega)) f_66
                    have f_84 := fr_φ_79 _ _ (fun h => absurd (hq 4 8 (by omega) (by omega) h) (by omega)) f_67
                    have f_85 := fr_φ_79 _ _ (fun h => absurd (hq 5 8 (by omega) (by omega) h) (by omega)) f_68
                    have f_86 := fr_φ_79 _ _ (fun h => absurd (hq 6 8 (by omega) (by omega) h) (by omega)) f_69
                    have f_87 := fr_φ_79 _ _ (fun h => absurd (hq 7 8 (by omega) (by omega) h) (by omega)) f_70
                    have f_88 := fr_φ_79 _ _ (fun h => absurd (hq 9 8 (by omega) (by omega) h) (by omega)) f_72
                    have f_89 := fr_φ_79 _ _ (fun h => absurd (hq 10 8 (by omega) (by omega) h) (by omega)) f_73
                    have f_90 := fr_φ_79 _ _ (fun h => absurd (hq 11 8 (by omega) (by omega) h) (by omega)) f_74
                    have f_91 := fr_φ_79 _ _ (fun h => absurd (hq 12 8 (by omega) (by omega) h) (by omega)) f_75
                    have f_92 := fr_φ_79 _ _ (fun h => absurd (hq 13 8 (by omega) (by omega) h) (by omega)) f_76
                    have f_93 := fr_φ_79 _ _ (fun h => absurd (hq 14 8 (by omega) (by omega) h) (by omega)) f_77
                    refine lv_iload (pc := 101) S.1 S.2.1 dX9_draw_101 (lv_at hl 3 rfl) ?_
                    exact hv_ret (pc := 103) (v := nI mh) S hr rfl hlocks hH hS (by rw [if_pos eX]; exact ⟨x1, z1, rfl, rfl, hxn, hzn, by rw [hmh], fun h => absurd (hmh.symm.trans (by omega)) h, fun _ => ⟨f_80, f_81, f_82, f_83, f_84, f_85, f_86, f_87, fa_φ_79, f_88, f_89, f_90, f_91, f_92, f_93⟩⟩) (Nat.le_of_ble_eq_true rfl) (Nat.le_of_ble_eq_true rfl) dX9_draw_103
                  · skip
                    exact absurd c_78 (by omega)
            · skip
              exact absurd c_25 (by omega)
      · skip
        refine hv_call (pc := 16) (va_runS (As := [.int (z), .int (nI 0), .int (nI (sc 4) - nI 1)]) (rest := []) S (c_isIn l D cA ga φ H.size z (nI 0) (nI (sc 4) - nI 1)) (va_cwS 3 S.2.2.2.2 (gS tw_1031 tw_1032 tw_7 tw_1033) rfl rfl rfl (by decide +kernel) ⟨Nat.le_of_ble_eq_true rfl, Nat.le_of_ble_eq_true rfl⟩) (pre0_S hH hK hX hS hA) rfl rfl hl.1 rfl (lv_room (Nat.le_of_ble_eq_true rfl)) dX9_draw_16 ⟨Nat.le_of_ble_eq_true rfl, Nat.le_of_ble_eq_true rfl⟩) hS (af_le hH hS hA) (fun v_94 φ_95 H locs hw_v_94 hH hS => ?_)
        obtain ⟨rfl, hqv_94⟩ := hw_v_94
        rw [hqv_94] at hH
        refine hv_ti (y := nI 0) (by rw [inB_N (by omega), if_neg hz]) ?_
        refine hv_if_eq (pc := 19) (tgt := 26) (a := 0) S.1 S.2.1 (by omega) dX9_draw_19 (by decide) (fun c_96 => ?_) (fun c_96 => ?_)
        · skip
          refine lv_iconst (pc := 26) (v := nI 0) S.1 S.2.1 dX9_draw_26 (by decide) ?_
          refine lv_istore_n (pc := 27) (lv' := [(3, .int (nI 0)), (0, .ref (q 0)), (1, .int (nI x1)), (2, .int (z))]) S.1 S.2.1 dX9_draw_27 rfl hl (by decide) rfl (fun ls hl => ?_)
          refine lv_aload_n (pc := 28) S.1 S.2.1 dX9_draw_28 rfl (lv_at hl 1 rfl) ?_
          refine lv_iload_n (pc := 29) S.1 S.2.1 dX9_draw_29 rfl (lv_at hl 0 rfl) ?_
          refine hv_if_eq (pc := 30) (tgt := 37) (a := 0) S.1 S.2.1 (by omega) dX9_draw_30 (by decide) (fun c_97 => ?_) (fun c_97 => ?_)
          · skip
            refine lv_iconst (pc := 37) (v := nI 1) S.1 S.2.1 dX9_draw_37 (by decide) ?_
            have eX : drawX (sc 3) (sc 4) (nI x1) z = 3 := by rw [drawX, if_pos hx, if_neg hz]
            refine hv_call (pc := 38) (va_runV (As := [.int (nI 1)]) (rest := []) S (c_m_goes l D cA ga φ H.size q sc ar (1) ⟨f0, f1, f2, f3, f4, f5, f6, f7, f8, f9, f10, f11, f12, f13, f14⟩ hq (by omega)) (cwV 1 S.2.2.2.2 (gV tw_1021 tw_1023 sw_32 tw_7 tw_1024) rfl rfl rfl (by decide +kernel) ⟨Nat.le_of_ble_eq_true rfl, Nat.le_of_ble_eq_true rfl⟩) (pre0_V hH hK hX hS hA (hH.recv hK f0 rfl)) rfl rfl hl.1 rfl (lv_room (Nat.le_of_ble_eq_true rfl)) dX9_draw_38 ⟨Nat.le_of_ble_eq_true rfl, Nat.le_of_ble_eq_true rfl⟩) hS (af_le hH hS hA) (fun v_98 φ_99 H locs hw_v_98 hH hS => ?_)
            obtain ⟨rfl, hm9⟩ := hw_v_98
            obtain ⟨f_100, f_101, f_102, f_103, f_104, f_105, f_106, f_107, f_108, f_109, f_110, f_111, f_112, f_113, f_114⟩ := hm9
            change φ_99 (q 0) = some (.inr (13, [.int (nI (sc 0)), .long (Int64.ofNat (sc 1)), .int (nI (sc 2)), .ref (q 1), .ref (q 2), .int (nI (sc 3)), .ref (q 3), .ref (q 4), .ref (q 5), .ref (q 6), .ref (q 7), .ref (q 8), .ref (q 9), .int (nI (sc 4)), .ref (q 10), .ref (q 11), .int (nI (sc 5)), .ref (q 12), .ref (q 13), .ref (q 14), .int (nI (sc 6)), .int (nI 1)])) at f_100
            refine hv_ti (y := nI 0) (rfl) ?_
            refine hv_if_ne (pc := 41) (tgt := 46) (a := 0) S.1 S.2.1 (by omega) dX9_draw_41 (by decide) (fun c_115 => ?_) (fun c_115 => ?_)
            · skip
              exact absurd c_115 (by omega)
            · skip
              refine lv_iconst (pc := 44) (v := nI 0) S.1 S.2.1 dX9_draw_44 (by decide) ?_
              exact hv_ret (pc := 45) (v := nI 0) S hr rfl hlocks hH hS (by rw [if_neg (by rw [eX]; decide), eX]; exact ⟨rfl, ⟨f_100, f_101, f_102, f_103, f_104, f_105, f_106, f_107, f_108, f_109, f_110, f_111, f_112, f_113, f_114⟩⟩) (Nat.le_of_ble_eq_true rfl) (Nat.le_of_ble_eq_true rfl) dX9_draw_45
          · skip
            exact absurd c_97 (by omega)
        · skip
          exact absurd c_96 (by omega)
  · skip
    refine hv_call (pc := 2) (va_runV (As := [.int (x)]) (rest := []) S (c_m_isCone l D cA ga φ H.size q sc ar x ⟨f0, f1, f2, f3, f4, f5, f6, f7, f8, f9, f10, f11, f12, f13, f14⟩ hq hnc) (cwV 1 S.2.2.2.2 (gV tw_1057 tw_1059 sw_35 tw_7 tw_1060) rfl rfl rfl (by decide +kernel) ⟨Nat.le_of_ble_eq_true rfl, Nat.le_of_ble_eq_true rfl⟩) (pre0_V hH hK hX hS hA (hH.recv hK f0 rfl)) rfl rfl hl.1 rfl (lv_room (Nat.le_of_ble_eq_true rfl)) dX9_draw_2 ⟨Nat.le_of_ble_eq_true rfl, Nat.le_of_ble_eq_true rfl⟩) hS (af_le hH hS hA) (fun v_116 φ_117 H locs hw_v_116 hH hS => ?_)
    obtain ⟨rfl, hqv_116⟩ := hw_v_116
    rw [hqv_116] at hH
    refine hv_ti (y := nI 0) (by rw [if_neg hx]) ?_
    refine hv_if_eq (pc := 5) (tgt := 26) (a := 0) S.1 S.2.1 (by omega) dX9_draw_5 (by decide) (fun c_118 => ?_) (fun c_118 => ?_)
    · skip
      refine lv_iconst (pc := 26) (v := nI 0) S.1 S.2.1 dX9_draw_26 (by decide) ?_
      refine lv_istore_n (pc := 27) (lv' := [(3, .int (nI 0)), (0, .ref (q 0)), (1, .int (x)), (2, .int (z))]) S.1 S.2.1 dX9_draw_27 rfl hl (by decide) rfl (fun ls hl => ?_)
      refine lv_aload_n (pc := 28) S.1 S.2.1 dX9_draw_28 rfl (lv_at hl 1 rfl) ?_
      refine lv_iload_n (pc := 29) S.1 S.2.1 dX9_draw_29 rfl (lv_at hl 0 rfl) ?_
      refine hv_if_eq (pc := 30) (tgt := 37) (a := 0) S.1 S.2.1 (by omega) dX9_draw_30 (by decide) (fun c_119 => ?_) (fun c_119 => ?_)
      · skip
        refine lv_iconst (pc := 37) (v := nI 1) S.1 S.2.1 dX9_draw_37 (by decide) ?_
        have eX : drawX (sc 3) (sc 4) x z = 3 := by rw [drawX, if_neg hx]
        refine hv_call (pc := 38) (va_runV (As := [.int (nI 1)]) (rest := []) S (c_m_goes l D cA ga φ H.size q sc ar (1) ⟨f0, f1, f2, f3, f4, f5, f6, f7, f8, f9, f10, f11, f12, f13, f14⟩ hq (by omega)) (cwV 1 S.2.2.2.2 (gV tw_1021 tw_1023 sw_32 tw_7 tw_1024) rfl rfl rfl (by decide +kernel) ⟨Nat.le_of_ble_eq_true rfl, Nat.le_of_ble_eq_true rfl⟩) (pre0_V hH hK hX hS hA (hH.recv hK f0 rfl)) rfl rfl hl.1 rfl (lv_room (Nat.le_of_ble_eq_true rfl)) dX9_draw_38 ⟨Nat.le_of_ble_eq_true rfl, Nat.le_of_ble_eq_true rfl⟩) hS (af_le hH hS hA) (fun v_120 φ_121 H locs hw_v_120 hH hS => ?_)
        obtain ⟨rfl, hm9⟩ := hw_v_120
        obtain ⟨f_122, f_123, f_124, f_125, f_126, f_127, f_128, f_129, f_130, f_131, f_132, f_133, f_134, f_135, f_136⟩ := hm9
        change φ_121 (q 0) = some (.inr (13, [.int (nI (sc 0)), .long (Int64.ofNat (sc 1)), .int (nI (sc 2)), .ref (q 1), .ref (q 2), .int (nI (sc 3)), .ref (q 3), .ref (q 4), .ref (q 5), .ref (q 6), .ref (q 7), .ref (q 8), .ref (q 9), .int (nI (sc 4)), .ref (q 10), .ref (q 11), .int (nI (sc 5)), .ref (q 12), .ref (q 13), .ref (q 14), .int (nI (sc 6)), .int (nI 1)])) at f_122
        refine hv_ti (y := nI 0) (rfl) ?_
        refine hv_if_ne (pc := 41) (tgt := 46) (a := 0) S.1 S.2.1 (by omega) dX9_draw_41 (by decide) (fun c_137 => ?_) (fun c_137 => ?_)
        · skip
          exact absurd c_137 (by omega)
        · skip
          refine lv_iconst (pc := 44) (v := nI 0) S.1 S.2.1 dX9_draw_44 (by decide) ?_
          exact hv_ret (pc := 45) (v := nI 0) S hr rfl hlocks hH hS (by rw [if_neg (by rw [eX]; decide), eX]; exact ⟨rfl, ⟨f_122, f_123, f_124, f_125, f_126, f_127, f_128, f_129, f_130, f_131, f_132, f_133, f_134, f_135, f_136⟩⟩) (Nat.le_of_ble_eq_true rfl) (Nat.le_of_ble_eq_true rfl) dX9_draw_45
      · skip
        exact absurd c_119 (by omega)
    · skip
      exact absurd c_118 (by omega)
