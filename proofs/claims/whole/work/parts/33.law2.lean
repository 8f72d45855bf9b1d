theorem gwW {y : MethodName} {cc : ByteArray} {n : Nat} {ret : Option FieldType} {hh : List (Nat × Nat × Nat × Nat)} (h : Cond.codeWith y cc n ret hh ∈ Wc) : GoodIn Wc (wlW y cc n ret hh) := fun w hw => (List.mem_cons.mp hw).elim (fun e => by rw [e]; exact ⟨h, Wc_g h⟩) (fun hw => ⟨hw, Wc_g hw⟩)
theorem gSW {own : String} {idx n : Nat} {y : MethodName} {cc : ByteArray} {ret : Option FieldType} {hh : List (Nat × Nat × Nat × Nat)} (h1 : Cond.methodLink own idx y ∈ Wc) (h2 : Cond.static y ∈ Wc) (h4 : Cond.initialized y.cls ∈ Wc) (h5 : Cond.codeWith y cc n ret hh ∈ Wc) : GoodIn Wc (va_wsS own idx y (wlW y cc n ret hh)) := fun w hw => (List.mem_append.mp hw).elim (gl (by simp only [List.forall_mem_cons]; exact ⟨h1, h2, h4, fun _ h => nomatch h⟩) w) (gwW h5 w)
section HVP
variable {p : Program} {l : Launch} {e : Env} {R : Room} {s : State} {m : MethodId} {args : Array Value} {below : List Frame} {meth : Method} {c : Code} {H : Heap} {locs : List Loc} {cells slots : Nat} {Q : State → Prop}
variable {pc : Nat} {ls : Array Slot} {rest st0 : List Value} {D : va_G} {A : Nat → Prop} {φ ψ : hpM} {a : Array Value} {mc ms : Nat} {post : Option Value → hpM → Prop}
/-- a call over the map φ, beside a map ψ that it doesn't touch -/
theorem hv_callP (hr : va_Run p l e R s m args below meth c H locs cells slots mc ms (F0 m pc ls st0) rest (hQ post D (Af φ H.size) a) (Af φ H.size)) (hS : va_S A s.heap H locs) (hA : ∀ q, s.heap.size ≤ q → A q) (hφ : hp D A φ H) (hψ : hp D A ψ H) (hd : ∀ x, φ x = none ∨ ψ x = none)
    (kk : ∀ (v : Option Value) (φ1 : hpM) (H1 : Heap) (locs1 : List Loc), post v φ1 → hp D A φ1 H1 → hp D A ψ H1 → (∀ x, φ1 x = none ∨ ψ x = none) → va_S A s.heap H1 locs1 → W p l e R s m args below meth c H1 locs1 (cells + mc) (slots + ms) Q (F0 m (pc + 3) ls (v.toList ++ rest))) : W p l e R s m args below meth c H locs cells slots Q (F0 m pc ls st0) := by
  have hf := af_le hφ hS hA
  intro T hT X
  obtain ⟨v, st₀, t, T', L, h0, X', hL, e1, e2, ⟨⟨v', φ1, hv, hp1, hb⟩, hF⟩, st⟩ := hr T hT X
  cases hv
  obtain ⟨k1, k2, k3⟩ := vx_keep (A1 := Af φ H.size) h0 e1 hS (fun q _ h => hf q h) hf hL hF
  have hdf : ∀ x, ψ x = none ∨ φ x = none := fun x => (hd x).symm
  have hb2 : hp D (Af φ H.size) φ1 T'.heap := by rw [e1]; exact hb
  have hd1 : ∀ x, φ1 x = none ∨ ψ x = none := fun x => by
    cases hc : φ1 x with
    | none => exact Or.inl rfl
    | some y =>
      refine Or.inr ?_
      rcases (hb2 x y hc).2 with h | h
      · exact (hd x).resolve_left h
      · exact hψ.fresh h
  obtain ⟨t2, a1, b1⟩ := kk v φ1 T'.heap (locs ++ L) hp1 (hb2.weaken hf) (hψ.frame hdf k2) hd1 k3 T' rfl X'
  exact ⟨t2, st t2 a1, b1⟩
end HVP
theorem lgc (a : Int64) : lg_cmp a a = 0 := by unfold lg_cmp; simp
theorem mcd_lt {a b c X : Nat} (ha : a < 10) (hb : b < 10) (hc : c < 10) : mcd a b c X < 10 := by
  unfold mcd
  split <;> omega
theorem mcd_ne {a b c X : Nat} (ha : 0 < a) (hb : 0 < b) (hc : 0 < c) (h1 : X ≠ 0) (h2 : X ≤ 3) : mcd a b c X ≠ 0 := by
  rcases (show X = 1 ∨ X = 2 ∨ X = 3 by omega) with rfl | rfl | rfl
  · show a ≠ 0; omega
  · show b ≠ 0; omega
  · show c ≠ 0; omega
/-- both sides as they stand behind k steps -/
def WLD (cA : Nat → ClassId) (ga : Nat → Nat → Nat) (D : va_G) (A : Nat → Prop) (y ou mo k : Nat) (H : Heap) : Prop :=
  ∃ (sc : Nat → Nat) (ar : Nat → Nat → Nat) (w : Nat → Nat → Nat → Nat) (e : Nat → Nat → Nat) (o : Nat → Int64) (ad : Nat → Nat → Nat) (q : Nat → Nat) (φ ψ : hpM),
    PIC (yC cA ga sc ar w e o ad) ad φ ∧ ad 0 0 = y ∧ ad 0 9 = ou ∧ INV k sc ar w e ∧ MP cA q sc ar ψ ∧ q 0 = mo ∧ (∀ i j, i < 15 → j < 15 → q i = q j → i = j) ∧ hp D A φ H ∧ hp D A ψ H ∧ ∀ x, φ x = none ∨ ψ x = none
set_option maxHeartbeats 4000000 in
set_option maxRecDepth 100000 in
theorem law_letter (l : Launch) (hfl : l.stackTraces = false) {p : Program} {e : Env} {s : State} {m : MethodId} {below : List Frame} {meth : Method} {c : Code} {b L : Nat} {xs : Nat → Int32} {D : va_G} {cA : Nat → ClassId} {ga : Nat → Nat → Nat} {Q : State → Prop} (S : CallFix p m c code 7 s #[.ref b] Wc RL) (hK : va_K D vwCl (tysL cA) s) (hX : Sx ga (fun q => s.heap.size ≤ q) s s.heap) (hN3 : Nc3 s) (hXs : va_X b L xs s s.heap) (hbl : b < s.heap.size) (hL : L ≤ 2048) {k9 i y mo ou cells slots : Nat} {H : Heap} {locs : List Loc} {ls : Array Slot} (hk : k9 < 512) (hi : i + 4 ≤ L) (hc : cells ≤ 30 + 10 * k9) (hs : slots ≤ 500 + 60 * k9)
    (hW : WLD cA ga D (fun q => s.heap.size ≤ q) y ou mo k9 H) (hS : va_S (fun q => s.heap.size ≤ q) s.heap H locs) (hl : lv_has ls 7 [(4, .int (nI i)), (3, .ref ou), (2, .ref mo), (1, .ref y), (0, .ref b)])
    (kk : ∀ (H1 : Heap) (locs1 : List Loc) (ls1 : Array Slot), WLD cA ga D (fun q => s.heap.size ≤ q) y ou mo (k9 + 1) H1 → va_S (fun q => s.heap.size ≤ q) s.heap H1 locs1 → lv_has ls1 7 [(4, .int (nI i)), (3, .ref ou), (2, .ref mo), (1, .ref y), (0, .ref b)] → W p l e room_1 s m #[.ref b] below meth c H1 locs1 (cells + 10) (slots + 60) Q (F0 m 1404 ls1 [])) :
    W p l e room_1 s m #[.ref b] below meth c H locs cells slots Q (F0 m 132 ls []) := by
  obtain ⟨sc, ar, w, ey, o, ad, q, φ, ψ, hP, rfl, rfl, hI, hm, rfl, hq, hφ, hψ, hd⟩ := hW
  have hj1 := hI.j1
  have hj0 := hI.j0.1
  have hA : ∀ q, s.heap.size ≤ q → (fun q => s.heap.size ≤ q) q := fun _ h => h
  refine lv_aload_n (pc := 132) S.1 S.2.1 dL_law_132 rfl (lv_at hl 3 rfl) ?_
  refine lv_aload_n (pc := 133) S.1 S.2.1 dL_law_133 rfl (lv_at hl 4 rfl) ?_
  refine lv_iload (pc := 134) S.1 S.2.1 dL_law_134 (lv_at hl 0 rfl) ?_
  refine lv_iconst (pc := 136) (v := nI 1) S.1 S.2.1 dL_law_136 (by decide) ?_
  refine lv_iadd (pc := 137) S.1 S.2.1 dL_law_137 ?_
  refine hv_ti (y := nI (i + 1)) (nI_add _ _) ?_
  refine va_sld (pc := 138) S.1 S.2.1 hXs hbl (Nat.not_le.mpr hbl) hS (vp_in_nI (by omega) (by omega)) dL_law_138 ?_
  refine hv_ti (y := xs (i + 1)) (by rw [nI_clamp (by omega)]) ?_
  refine lv_i2c (pc := 139) (v := ((xs (i + 1)).toUInt32 % 65536).toInt32) S.1 S.2.1 dL_law_139 rfl ?_
  refine lv_aload_n (pc := 140) S.1 S.2.1 dL_law_140 rfl (lv_at hl 1 rfl) ?_
  refine hv_callP (φ := φ) (ψ := ψ) (pc := 141) (vx_runSW (As := [.ref (ad 0 0), .int (((xs (i + 1)).toUInt32 % 65536).toInt32), .ref (ad 0 9)]) (rest := []) S (lw_letter l hfl D cA ga φ H.size k9 sc ar w ey o ad (((xs (i + 1)).toUInt32 % 65536).toInt32) hP hI (by omega)) (vx_cwSW 3 S.2.2.2.2 (gSW tw_124 tw_125 tw_0 tw_126) rfl rfl rfl (by decide +kernel) ⟨Nat.le_of_ble_eq_true rfl, Nat.le_of_ble_eq_true rfl⟩) (pre1_S hφ hK hX hS hA hN3) rfl rfl hl.1 rfl (lv_room (Nat.le_of_ble_eq_true rfl)) dL_law_141 ⟨Nat.le_trans (show _ ≤ 20000 by omega) (Nat.le_of_ble_eq_true rfl), Nat.le_trans (show _ ≤ 200000 by omega) (Nat.le_of_ble_eq_true rfl)⟩) hS hA hφ hψ hd (fun v φ1 H locs hw hφ hψ hd hS => ?_)
  obtain ⟨rfl, hw1, hw2⟩ := hw
  have hM31 : mcd 1 2 9 (letterX (sc 0) (((xs (i + 1)).toUInt32 % 65536).toInt32)) < 10 := mcd_lt (by decide) (by decide) (by decide)
  refine lv_istore (pc := 144) (lv' := [(5, .int (nI (mcd 1 2 9 (letterX (sc 0) (((xs (i + 1)).toUInt32 % 65536).toInt32))))), (4, .int (nI i)), (3, .ref (ad 0 9)), (2, .ref (q 0)), (1, .ref (ad 0 0)), (0, .ref b)]) S.1 S.2.1 dL_law_144 hl (by decide) rfl (fun ls hl => ?_)
  refine lv_aload_n (pc := 146) S.1 S.2.1 dL_law_146 rfl (lv_at hl 3 rfl) ?_
  refine lv_aload_n (pc := 147) S.1 S.2.1 dL_law_147 rfl (lv_at hl 5 rfl) ?_
  refine lv_iload (pc := 148) S.1 S.2.1 dL_law_148 (lv_at hl 1 rfl) ?_
  refine lv_iconst (pc := 150) (v := nI 1) S.1 S.2.1 dL_law_150 (by decide) ?_
  refine lv_iadd (pc := 151) S.1 S.2.1 dL_law_151 ?_
  refine hv_ti (y := nI (i + 1)) (nI_add _ _) ?_
  refine va_sld (pc := 152) S.1 S.2.1 hXs hbl (Nat.not_le.mpr hbl) hS (vp_in_nI (by omega) (by omega)) dL_law_152 ?_
  refine hv_ti (y := xs (i + 1)) (by rw [nI_clamp (by omega)]) ?_
  refine lv_i2c (pc := 153) (v := ((xs (i + 1)).toUInt32 % 65536).toInt32) S.1 S.2.1 dL_law_153 rfl ?_
  refine hv_callP (φ := ψ) (ψ := φ1) (pc := 154) (va_runV (As := [.int (((xs (i + 1)).toUInt32 % 65536).toInt32)]) (rest := []) S (c_m_letter l D cA ga ψ H.size q sc ar (((xs (i + 1)).toUInt32 % 65536).toInt32) hm hq (by omega)) (cwV 1 S.2.2.2.2 (gV tw_1017 tw_1018 tw_1019 tw_7 tw_1020) rfl rfl rfl (by decide +kernel) ⟨Nat.le_of_ble_eq_true rfl, Nat.le_of_ble_eq_true rfl⟩) (pre0_V hψ hK hX hS hA (hψ.recv hK hm.1 rfl)) rfl rfl hl.1 rfl (lv_room (Nat.le_of_ble_eq_true rfl)) dL_law_154 ⟨Nat.le_trans (show _ ≤ 20000 by omega) (Nat.le_of_ble_eq_true rfl), Nat.le_trans (show _ ≤ 200000 by omega) (Nat.le_of_ble_eq_true rfl)⟩) hS hA hψ hφ (fun x => (hd x).symm) (fun v ψ1 H locs hw hψ hφ hd hS => ?_)
  by_cases hz : letterX (sc 0) (((xs (i + 1)).toUInt32 % 65536).toInt32) = 0
  · skip
    have hM : mcd 1 2 9 (letterX (sc 0) (((xs (i + 1)).toUInt32 % 65536).toInt32)) = 0 := by rw [hz]; rfl
    rw [if_pos hz] at hw
    have hn := hw2 hz
    obtain ⟨x1, hx1, hbx, hN⟩ := hn
    obtain ⟨x2, hx2, hc0, hc1, rfl, hm⟩ := hw
    have hex : x2 = x1 := jI_inj (hx2.symm.trans hx1) (by omega) (by omega)
    subst hex
    obtain ⟨w', e', o', ad', ho', hy', hou', hP', hI'⟩ := hN
    refine lv_istore (pc := 157) (lv' := [(6, .int (nI (sc 0 + 1))), (5, .int (nI (mcd 1 2 9 (letterX (sc 0) (((xs (i + 1)).toUInt32 % 65536).toInt32))))), (4, .int (nI i)), (3, .ref (ad 0 9)), (2, .ref (q 0)), (1, .ref (ad 0 0)), (0, .ref b)]) S.1 S.2.1 dL_law_157 hl (by decide) rfl (fun ls hl => ?_)
    refine lv_aload_n (pc := 159) S.1 S.2.1 dL_law_159 rfl (lv_at hl 4 rfl) ?_
    refine hv_callP (φ := ψ1) (ψ := φ1) (pc := 160) (va_runV (As := []) (rest := []) S (c_m_thrown l D cA ga ψ1 H.size q (va_up (va_up (va_up sc 0 (sc 0 + 1)) 1 (27 * sc 1 + (x2 - 96))) 7 (0)) (ar) hm hq) (cwV 0 S.2.2.2.2 (gV tw_1013 tw_1014 tw_1015 tw_7 tw_1016) rfl rfl rfl (by decide +kernel) ⟨Nat.le_of_ble_eq_true rfl, Nat.le_of_ble_eq_true rfl⟩) (pre0_V hψ hK hX hS hA (hψ.recv hK hm.1 rfl)) rfl rfl hl.1 rfl (lv_room (Nat.le_of_ble_eq_true rfl)) dL_law_160 ⟨Nat.le_trans (show _ ≤ 20000 by omega) (Nat.le_of_ble_eq_true rfl), Nat.le_trans (show _ ≤ 200000 by omega) (Nat.le_of_ble_eq_true rfl)⟩) hS hA hψ hφ hd (fun v ψ2 H locs hw hψ hφ hd hS => ?_)
    obtain ⟨rfl, hps⟩ := hw
    rw [hps] at hψ hd
    refine hv_ti (y := nI 0) (rfl) ?_
    refine lv_iload (pc := 163) S.1 S.2.1 dL_law_163 (lv_at hl 1 rfl) ?_
    refine hv_icmp_eq (pc := 165) (tgt := 170) (a := 0) (b := mcd 1 2 9 (letterX (sc 0) (((xs (i + 1)).toUInt32 % 65536).toInt32))) S.1 S.2.1 (by omega) (by omega) dL_law_165 (by decide) (fun c_1 => ?_) (fun c_1 => ?_)
    · skip
      refine lv_iload (pc := 170) S.1 S.2.1 dL_law_170 (lv_at hl 1 rfl) ?_
      refine hv_if_ne (pc := 172) (tgt := 187) (a := mcd 1 2 9 (letterX (sc 0) (((xs (i + 1)).toUInt32 % 65536).toInt32))) S.1 S.2.1 (by omega) dL_law_172 (by decide) (fun c_2 => ?_) (fun c_2 => ?_)
      · skip
        exact absurd c_2 (by omega)
      · skip
        refine lv_aload_n (pc := 175) S.1 S.2.1 dL_law_175 rfl (lv_at hl 3 rfl) ?_
        refine lv_iconst (pc := 176) (v := nI 0) S.1 S.2.1 dL_law_176 (by decide) ?_
        have hfo : φ1 (ad 0 9) = some (.inl (cA 3, 1, .inr (.inl o'))) := by rw [← hou']; exact hP'.at (r := 0) (j := 9) rfl
        have hH := hφ
        refine hv_lald (pc := 177) S hK hH 3 hfo rfl (vp_in_nI (by decide) (by decide)) dL_law_177 ?_
        refine hv_tv (y := .long ((nI (sc 0 + 1)).toInt64)) (by rw [nI_clamp (by decide), ho']) ?_
        refine lv_iload (pc := 178) S.1 S.2.1 dL_law_178 (lv_at hl 0 rfl) ?_
        refine lv_i2l (pc := 180) (v := (nI (sc 0 + 1)).toInt64) S.1 S.2.1 dL_law_180 rfl ?_
        refine W.lcmp S.1 S.2.1 dL_law_181 ?_
        refine hv_ti (y := nI 0) (lgc _) ?_
        refine hv_if_eq (pc := 182) (tgt := 187) (a := 0) S.1 S.2.1 (by omega) dL_law_182 (by decide) (fun c_3 => ?_) (fun c_3 => ?_)
        · skip
          refine lv_goto (pc := 187) (tgt := 1404) S.1 S.2.1 dL_law_187 (by decide) ?_
          refine W.widen (k := cells + 10) (n := slots + 60) (by omega) (by omega) ?_
          exact kk _ _ _ ⟨(va_up (va_up (va_up sc 0 (sc 0 + 1)) 1 (27 * sc 1 + (x2 - 96))) 7 (0)), ar, w', e', o', ad', q, φ1, ψ1, hP', hy', hou', hI', hm, rfl, hq, hφ, hψ, fun x => (hd x).symm⟩ hS (lv_sub hl [2, 3, 4, 5, 6] rfl)
        · skip
          exact absurd c_3 (by omega)
    · skip
      exact absurd c_1 (by omega)
  · skip
    have hor : letterX (sc 0) (((xs (i + 1)).toUInt32 % 65536).toInt32) ≤ 3 := by unfold letterX; (repeat' split) <;> decide
    have hM0 := mcd_ne (a := 1) (b := 2) (c := 9) (by decide) (by decide) (by decide) hz hor
    rw [if_neg hz] at hw
    obtain ⟨rfl, hm⟩ := hw
    refine lv_istore (pc := 157) (lv' := [(6, .int (nI 0)), (5, .int (nI (mcd 1 2 9 (letterX (sc 0) (((xs (i + 1)).toUInt32 % 65536).toInt32))))), (4, .int (nI i)), (3, .ref (ad 0 9)), (2, .ref (q 0)), (1, .ref (ad 0 0)), (0, .ref b)]) S.1 S.2.1 dL_law_157 hl (by decide) rfl (fun ls hl => ?_)
    refine lv_aload_n (pc := 159) S.1 S.2.1 dL_law_159 rfl (lv_at hl 4 rfl) ?_
    refine hv_callP (φ := ψ1) (ψ := φ1) (pc := 160) (va_runV (As := []) (rest := []) S (c_m_thrown l D cA ga ψ1 H.size q (va_up sc 7 (mcd 1 2 9 (letterX (sc 0) (((xs (i + 1)).toUInt32 % 65536).toInt32)))) (ar) hm hq) (cwV 0 S.2.2.2.2 (gV tw_1013 tw_1014 tw_1015 tw_7 tw_1016) rfl rfl rfl (by decide +kernel) ⟨Nat.le_of_ble_eq_true rfl, Nat.le_of_ble_eq_true rfl⟩) (pre0_V hψ hK hX hS hA (hψ.recv hK hm.1 rfl)) rfl rfl hl.1 rfl (lv_room (Nat.le_of_ble_eq_true rfl)) dL_law_160 ⟨Nat.le_trans (show _ ≤ 20000 by omega) (Nat.le_of_ble_eq_true rfl), Nat.le_trans (show _ ≤ 200000 by omega) (Nat.le_of_ble_eq_true rfl)⟩) hS hA hψ hφ hd (fun v ψ2 H locs hw hψ hφ hd hS => ?_)
    obtain ⟨rfl, hps⟩ := hw
    rw [hps] at hψ hd
    refine hv_ti (y := nI (mcd 1 2 9 (letterX (sc 0) (((xs (i + 1)).toUInt32 % 65536).toInt32)))) (rfl) ?_
    refine lv_iload (pc := 163) S.1 S.2.1 dL_law_163 (lv_at hl 1 rfl) ?_
    refine hv_icmp_eq (pc := 165) (tgt := 170) (a := mcd 1 2 9 (letterX (sc 0) (((xs (i + 1)).toUInt32 % 65536).toInt32))) (b := mcd 1 2 9 (letterX (sc 0) (((xs (i + 1)).toUInt32 % 65536).toInt32))) S.1 S.2.1 (by omega) (by omega) dL_law_165 (by decide) (fun c_4 => ?_) (fun c_4 => ?_)
    · skip
      refine lv_iload (pc := 170) S.1 S.2.1 dL_law_170 (lv_at hl 1 rfl) ?_
      refine hv_if_ne (pc := 172) (tgt := 187) (a := mcd 1 2 9 (letterX (sc 0) (((xs (i + 1)).toUInt32 % 65536).toInt32))) S.1 S.2.1 (by omega) dL_law_172 (by decide) (fun c_5 => ?_) (fun c_5 => ?_)
      · skip
        refine lv_goto (pc := 187) (tgt := 1404) S.1 S.2.1 dL_law_187 (by decide) ?_
        refine W.widen (k := cells + 10) (n := slots + 60) (by omega) (by omega) ?_
        exact kk _ _ _ ⟨(va_up sc 7 (mcd 1 2 9 (letterX (sc 0) (((xs (i + 1)).toUInt32 % 65536).toInt32)))), ar, w, ey, o, ad, q, φ1, ψ1, yp_same (hw1 hz) _, rfl, rfl, hI.mono _, hm, rfl, hq, hφ, hψ, fun x => (hd x).symm⟩ hS (lv_sub hl [2, 3, 4, 5, 6] rfl)
      · skip
        exact absurd c_5 (by omega)
    · skip
      exact absurd c_4 (by omega)
set_option maxHeartbeats 4000000 in
set_option maxRecDepth 100000 in
theorem law_lot (l : Launch) (hfl : l.stackTraces = false) {p : Program} {e : Env} {s : State} {m : MethodId} {below : List Frame} {meth : Method} {c : Code} {b L : Nat} {xs : Nat → Int32} {D : va_G} {cA : Nat → ClassId} {ga : Nat → Nat → Nat} {Q : State → Prop} (S : CallFix p m c code 7 s #[.ref b] Wc RL) (hK : va_K D vwCl (tysL cA) s) (hX : Sx ga (fun q => s.heap.size ≤ q) s s.heap) (hN3 : Nc3 s) (hXs : va_X b L xs s s.heap) (hbl : b < s.heap.size) (hL : L ≤ 2048) {k9 i y mo ou cells slots : Nat} {H : Heap} {locs : List Loc} {ls : Array Slot} (hk : k9 < 512) (hi : i + 4 ≤ L) (hc : cells ≤ 30 + 10 * k9) (hs : slots ≤ 500 + 60 * k9)
    (hW : WLD cA ga D (fun q => s.heap.size ≤ q) y ou mo k9 H) (hS : va_S (fun q => s.heap.size ≤ q) s.heap H locs) (hl : lv_has ls 7 [(4, .int (nI i)), (3, .ref ou), (2, .ref mo), (1, .ref y), (0, .ref b)])
    (kk : ∀ (H1 : Heap) (locs1 : List Loc) (ls1 : Array Slot), WLD cA ga D (fun q => s.heap.size ≤ q) y ou mo (k9 + 1) H1 → va_S (fun q => s.heap.size ≤ q) s.heap H1 locs1 → lv_has ls1 7 [(4, .int (nI i)), (3, .ref ou), (2, .ref mo), (1, .ref y), (0, .ref b)] → W p l e room_1 s m #[.ref b] below meth c H1 locs1 (cells + 10) (slots + 60) Q (F0 m 1404 ls1 [])) :
    W p l e room_1 s m #[.ref b] below meth c H locs cells slots Q (F0 m 190 ls []) := by
  obtain ⟨sc, ar, w, ey, o, ad, q, φ, ψ, hP, rfl, rfl, hI, hm, rfl, hq, hφ, hψ, hd⟩ := hW
  have hj1 := hI.j1
  have hj0 := hI.j0.1
  have hA : ∀ q, s.heap.size ≤ q → (fun q => s.heap.size ≤ q) q := fun _ h => h
  refine lv_aload_n (pc := 190) S.1 S.2.1 dL_law_190 rfl (lv_at hl 3 rfl) ?_
  refine lv_aload_n (pc := 191) S.1 S.2.1 dL_law_191 rfl (lv_at hl 4 rfl) ?_
  refine lv_iload (pc := 192) S.1 S.2.1 dL_law_192 (lv_at hl 0 rfl) ?_
  refine lv_iconst (pc := 194) (v := nI 1) S.1 S.2.1 dL_law_194 (by decide) ?_
  refine lv_iadd (pc := 195) S.1 S.2.1 dL_law_195 ?_
  refine hv_ti (y := nI (i + 1)) (nI_add _ _) ?_
  refine va_sld (pc := 196) S.1 S.2.1 hXs hbl (Nat.not_le.mpr hbl) hS (vp_in_nI (by omega) (by omega)) dL_law_196 ?_
  refine hv_ti (y := xs (i + 1)) (by rw [nI_clamp (by omega)]) ?_
  refine lv_aload_n (pc := 197) S.1 S.2.1 dL_law_197 rfl (lv_at hl 1 rfl) ?_
  refine hv_callP (φ := φ) (ψ := ψ) (pc := 198) (vx_runSW (As := [.ref (ad 0 0), .int (xs (i + 1)), .ref (ad 0 9)]) (rest := []) S (lw_lot l hfl D cA ga φ H.size k9 sc ar w ey o ad (xs (i + 1)) hP hI (by omega)) (vx_cwSW 3 S.2.2.2.2 (gSW tw_326 tw_327 tw_0 tw_328) rfl rfl rfl (by decide +kernel) ⟨Nat.le_of_ble_eq_true rfl, Nat.le_of_ble_eq_true rfl⟩) (pre1_S hφ hK hX hS hA hN3) rfl rfl hl.1 rfl (lv_room (Nat.le_of_ble_eq_true rfl)) dL_law_198 ⟨Nat.le_trans (show _ ≤ 20000 by omega) (Nat.le_of_ble_eq_true rfl), Nat.le_trans (show _ ≤ 200000 by omega) (Nat.le_of_ble_eq_true rfl)⟩) hS hA hφ hψ hd (fun v φ1 H locs hw hφ hψ hd hS => ?_)
  obtain ⟨rfl, hw1, hw2⟩ := hw
  have hM31 : mcd 1 2 9 (lotX (sc 2) (xs (i + 1))) < 10 := mcd_lt (by decide) (by decide) (by decide)
  refine lv_istore (pc := 201) (lv' := [(5, .int (nI (mcd 1 2 9 (lotX (sc 2) (xs (i + 1)))))), (4, .int (nI i)), (3, .ref (ad 0 9)), (2, .ref (q 0)), (1, .ref (ad 0 0)), (0, .ref b)]) S.1 S.2.1 dL_law_201 hl (by decide) rfl (fun ls hl => ?_)
  refine lv_aload_n (pc := 203) S.1 S.2.1 dL_law_203 rfl (lv_at hl 3 rfl) ?_
  refine lv_aload_n (pc := 204) S.1 S.2.1 dL_law_204 rfl (lv_at hl 5 rfl) ?_
  refine lv_iload (pc := 205) S.1 S.2.1 dL_law_205 (lv_at hl 1 rfl) ?_
  refine lv_iconst (pc := 207) (v := nI 1) S.1 S.2.1 dL_law_207 (by decide) ?_
  refine lv_iadd (pc := 208) S.1 S.2.1 dL_law_208 ?_
  refine hv_ti (y := nI (i + 1)) (nI_add _ _) ?_
  refine va_sld (pc := 209) S.1 S.2.1 hXs hbl (Nat.not_le.mpr hbl) hS (vp_in_nI (by omega) (by omega)) dL_law_209 ?_
  refine hv_ti (y := xs (i + 1)) (by rw [nI_clamp (by omega)]) ?_
  refine hv_callP (φ := ψ) (ψ := φ1) (pc := 210) (va_runV (As := [.int (xs (i + 1))]) (rest := []) S (c_m_lot l D cA ga ψ H.size q sc ar (xs (i + 1)) hm hq (by omega) hI.j0.ty) (cwV 1 S.2.2.2.2 (gV tw_1027 tw_1028 tw_1029 tw_7 tw_1030) rfl rfl rfl (by decide +kernel) ⟨Nat.le_of_ble_eq_true rfl, Nat.le_of_ble_eq_true rfl⟩) (pre0_V hψ hK hX hS hA (hψ.recv hK hm.1 rfl)) rfl rfl hl.1 rfl (lv_room (Nat.le_of_ble_eq_true rfl)) dL_law_210 ⟨Nat.le_trans (show _ ≤ 20000 by omega) (Nat.le_of_ble_eq_true rfl), Nat.le_trans (show _ ≤ 200000 by omega) (Nat.le_of_ble_eq_true rfl)⟩) hS hA hψ hφ (fun x => (hd x).symm) (fun v ψ1 H locs hw hψ hφ hd hS => ?_)
  by_cases hz : lotX (sc 2) (xs (i + 1)) = 0
  · skip
    have hM : mcd 1 2 9 (lotX (sc 2) (xs (i + 1))) = 0 := by rw [hz]; rfl
    rw [if_pos hz] at hw
    have hn := hw2 hz
    rcases hn with ⟨hno, hN⟩ | ⟨fu1, x1, hso, hx1, hbx, hN⟩
    · skip
      rcases hw with ⟨hno2, rfl, hm⟩ | ⟨fu2, x2, hso2, hx2, hbx2, rfl, hm⟩
      · skip
        obtain ⟨w', e', o', ad', ho', hy', hou', hP', hI'⟩ := hN
        refine lv_istore (pc := 213) (lv' := [(6, .int ((-1 : Int32))), (5, .int (nI (mcd 1 2 9 (lotX (sc 2) (xs (i + 1)))))), (4, .int (nI i)), (3, .ref (ad 0 9)), (2, .ref (q 0)), (1, .ref (ad 0 0)), (0, .ref b)]) S.1 S.2.1 dL_law_213 hl (by decide) rfl (fun ls hl => ?_)
        refine lv_aload_n (pc := 215) S.1 S.2.1 dL_law_215 rfl (lv_at hl 4 rfl) ?_
        refine hv_callP (φ := ψ1) (ψ := φ1) (pc := 216) (va_runV (As := []) (rest := []) S (c_m_thrown l D cA ga ψ1 H.size q (va_up (va_up (va_up sc 0 (0)) 1 (0)) 7 (0)) (ar) hm hq) (cwV 0 S.2.2.2.2 (gV tw_1013 tw_1014 tw_1015 tw_7 tw_1016) rfl rfl rfl (by decide +kernel) ⟨Nat.le_of_ble_eq_true rfl, Nat.le_of_ble_eq_true rfl⟩) (pre0_V hψ hK hX hS hA (hψ.recv hK hm.1 rfl)) rfl rfl hl.1 rfl (lv_room (Nat.le_of_ble_eq_true rfl)) dL_law_216 ⟨Nat.le_trans (show _ ≤ 20000 by omega) (Nat.le_of_ble_eq_true rfl), Nat.le_trans (show _ ≤ 200000 by omega) (Nat.le_of_ble_eq_true rfl)⟩) hS hA hψ hφ hd (fun v ψ2 H locs hw hψ hφ hd hS => ?_)
        obtain ⟨rfl, hps⟩ := hw
        rw [hps] at hψ hd
        refine hv_ti (y := nI 0) (rfl) ?_
        refine lv_iload (pc := 219) S.1 S.2.1 dL_law_219 (lv_at hl 1 rfl) ?_
        refine hv_icmp_eq (pc := 221) (tgt := 226) (a := 0) (b := mcd 1 2 9 (lotX (sc 2) (xs (i + 1)))) S.1 S.2.1 (by omega) (by omega) dL_law_221 (by decide) (fun c_1 => ?_) (fun c_1 => ?_)
        · skip
          refine lv_iload (pc := 226) S.1 S.2.1 dL_law_226 (lv_at hl 1 rfl) ?_
          refine hv_if_ne (pc := 228) (tgt := 243) (a := mcd 1 2 9 (lotX (sc 2) (xs (i + 1)))) S.1 S.2.1 (by omega) dL_law_228 (by decide) (fun c_2 => ?_) (fun c_2 => ?_)
          · skip
            exact absurd c_2 (by omega)
          · skip
            refine lv_aload_n (pc := 231) S.1 S.2.1 dL_law_231 rfl (lv_at hl 3 rfl) ?_
            refine lv_iconst (pc := 232) (v := nI 0) S.1 S.2.1 dL_law_232 (by decide) ?_
            have hfo : φ1 (ad 0 9) = some (.inl (cA 3, 1, .inr (.inl o'))) := by rw [← hou']; exact hP'.at (r := 0) (j := 9) rfl
            have hH := hφ
            refine hv_lald (pc := 233) S hK hH 3 hfo rfl (vp_in_nI (by decide) (by decide)) dL_law_233 ?_
            refine hv_tv (y := .long (((-1 : Int32)).toInt64)) (by rw [nI_clamp (by decide), ho']) ?_
            refine lv_iload (pc := 234) S.1 S.2.1 dL_law_234 (lv_at hl 0 rfl) ?_
            refine lv_i2l (pc := 236) (v := ((-1 : Int32)).toInt64) S.1 S.2.1 dL_law_236 rfl ?_
            refine W.lcmp S.1 S.2.1 dL_law_237 ?_
            refine hv_ti (y := nI 0) (lgc _) ?_
            refine hv_if_eq (pc := 238) (tgt := 243) (a := 0) S.1 S.2.1 (by omega) dL_law_238 (by decide) (fun c_3 => ?_) (fun c_3 => ?_)
            · skip
              refine lv_goto (pc := 243) (tgt := 1404) S.1 S.2.1 dL_law_243 (by decide) ?_
              refine W.widen (k := cells + 10) (n := slots + 60) (by omega) (by omega) ?_
              exact kk _ _ _ ⟨(va_up (va_up (va_up sc 0 (0)) 1 (0)) 7 (0)), ar, w', e', o', ad', q, φ1, ψ1, hP', hy', hou', hI', hm, rfl, hq, hφ, hψ, fun x => (hd x).symm⟩ hS (lv_sub hl [2, 3, 4, 5, 6] rfl)
            · skip
              exact absurd c_3 (by omega)
        · skip
          exact absurd c_1 (by omega)
      · skip
        rw [hno] at hso2; cases hso2
    · skip
      rcases hw with ⟨hno2, rfl, hm⟩ | ⟨fu2, x2, hso2, hx2, hbx2, rfl, hm⟩
      · skip
        rw [hno2] at hso; cases hso
      · skip
        have hex : x2 = x1 := jI_inj (hx2.symm.trans hx1) hbx2 hbx
        subst hex
        have hef : fu2 = fu1 := Option.some.inj (hso2.symm.trans hso)
        subst hef
        obtain ⟨w', e', o', ad', ho', hy', hou', hP', hI'⟩ := hN
        refine lv_istore (pc := 213) (lv' := [(6, .int (nI (sc 2))), (5, .int (nI (mcd 1 2 9 (lotX (sc 2) (xs (i + 1)))))), (4, .int (nI i)), (3, .ref (ad 0 9)), (2, .ref (q 0)), (1, .ref (ad 0 0)), (0, .ref b)]) S.1 S.2.1 dL_law_213 hl (by decide) rfl (fun ls hl => ?_)
        refine lv_aload_n (pc := 215) S.1 S.2.1 dL_law_215 rfl (lv_at hl 4 rfl) ?_
        refine hv_callP (φ := ψ1) (ψ := φ1) (pc := 216) (va_runV (As := []) (rest := []) S (c_m_thrown l D cA ga ψ1 H.size q (va_up (va_up (va_up (va_up sc 0 (0)) 1 (0)) 2 (sc 2 + 1)) 7 (0)) (va_up (va_up ar 1 (va_up (ar 1) (sc 2) fu2)) 2 (va_up (ar 2) (sc 2) x2)) hm hq) (cwV 0 S.2.2.2.2 (gV tw_1013 tw_1014 tw_1015 tw_7 tw_1016) rfl rfl rfl (by decide +kernel) ⟨Nat.le_of_ble_eq_true rfl, Nat.le_of_ble_eq_true rfl⟩) (pre0_V hψ hK hX hS hA (hψ.recv hK hm.1 rfl)) rfl rfl hl.1 rfl (lv_room (Nat.le_of_ble_eq_true rfl)) dL_law_216 ⟨Nat.le_trans (show _ ≤ 20000 by omega) (Nat.le_of_ble_eq_true rfl), Nat.le_trans (show _ ≤ 200000 by omega) (Nat.le_of_ble_eq_true rfl)⟩) hS hA hψ hφ hd (fun v ψ2 H locs hw hψ hφ hd hS => ?_)
        obtain ⟨rfl, hps⟩ := hw
        rw [hps] at hψ hd
        refine hv_ti (y := nI 0) (rfl) ?_
        refine lv_iload (pc := 219) S.1 S.2.1 dL_law_219 (lv_at hl 1 rfl) ?_
        refine hv_icmp_eq (pc := 221) (tgt := 226) (a := 0) (b := mcd 1 2 9 (lotX (sc 2) (xs (i + 1)))) S.1 S.2.1 (by omega) (by omega) dL_law_221 (by decide) (fun c_4 => ?_) (fun c_4 => ?_)
        · skip
          refine lv_iload (pc := 226) S.1 S.2.1 dL_law_226 (lv_at hl 1 rfl) ?_
          refine hv_if_ne (pc := 228) (tgt := 243) (a := mcd 1 2 9 (lotX (sc 2) (xs (i + 1)))) S.1 S.2.1 (by omega) dL_law_228 (by decide) (fun c_5 => ?_) (fun c_5 => ?_)
          · skip
            exact absurd c_5 (by omega)
          · skip
            refine lv_aload_n (pc := 231) S.1 S.2.1 dL_law_231 rfl (lv_at hl 3 rfl) ?_
            refine lv_iconst (pc := 232) (v := nI 0) S.1 S.2.1 dL_law_232 (by decide) ?_
            have hfo : φ1 (ad 0 9) = some (.inl (cA 3, 1, .inr (.inl o'))) := by rw [← hou']; exact hP'.at (r := 0) (j := 9) rfl
            have hH := hφ
            refine hv_lald (pc := 233) S hK hH 3 hfo rfl (vp_in_nI (by decide) (by decide)) dL_law_233 ?_
            refine hv_tv (y := .long ((nI (sc 2)).toInt64)) (by rw [nI_clamp (by decide), ho']) ?_
            refine lv_iload (pc := 234) S.1 S.2.1 dL_law_234 (lv_at hl 0 rfl) ?_
            refine lv_i2l (pc := 236) (v := (nI (sc 2)).toInt64) S.1 S.2.1 dL_law_236 rfl ?_
            refine W.lcmp S.1 S.2.1 dL_law_237 ?_
            refine hv_ti (y := nI 0) (lgc _) ?_
            refine hv_if_eq (pc := 238) (tgt := 243) (a := 0) S.1 S.2.1 (by omega) dL_law_238 (by decide) (fun c_6 => ?_) (fun c_6 => ?_)
            · skip
              refine lv_goto (pc := 243) (tgt := 1404) S.1 S.2.1 dL_law_243 (by decide) ?_
              refine W.widen (k := cells + 10) (n := slots + 60) (by omega) (by omega) ?_
              exact kk _ _ _ ⟨(va_up (va_up (va_up (va_up sc 0 (0)) 1 (0)) 2 (sc 2 + 1)) 7 (0)), (va_up (va_up ar 1 (va_up (ar 1) (sc 2) fu2)) 2 (va_up (ar 2) (sc 2) x2)), w', e', o', ad', q, φ1, ψ1, hP', hy', hou', hI', hm, rfl, hq, hφ, hψ, fun x => (hd x).symm⟩ hS (lv_sub hl [2, 3, 4, 5, 6] rfl)
            · skip
              exact absurd c_6 (by omega)
        · skip
          exact absurd c_4 (by omega)
  · skip
    have hor : lotX (sc 2) (xs (i + 1)) ≤ 3 := by unfold lotX; (repeat' split) <;> decide
    have hM0 := mcd_ne (a := 1) (b := 2) (c := 9) (by decide) (by decide) (by decide) hz hor
    rw [if_neg hz] at hw
    obtain ⟨rfl, hm⟩ := hw
    refine lv_istore (pc := 213) (lv' := [(6, .int (nI 0)), (5, .int (nI (mcd 1 2 9 (lotX (sc 2) (xs (i + 1)))))), (4, .int (nI i)), (3, .ref (ad 0 9)), (2, .ref (q 0)), (1, .ref (ad 0 0)), (0, .ref b)]) S.1 S.2.1 dL_law_213 hl (by decide) rfl (fun ls hl => ?_)
    refine lv_aload_n (pc := 215) S.1 S.2.1 dL_law_215 rfl (lv_at hl 4 rfl) ?_
    refine hv_callP (φ := ψ1) (ψ := φ1) (pc := 216) (va_runV (As := []) (rest := []) S (c_m_thrown l D cA ga ψ1 H.size q (va_up sc 7 (mcd 1 2 9 (lotX (sc 2) (xs (i + 1))))) (ar) hm hq) (cwV 0 S.2.2.2.2 (gV tw_1013 tw_1014 tw_1015 tw_7 tw_1016) rfl rfl rfl (by decide +kernel) ⟨Nat.le_of_ble_eq_true rfl, Nat.le_of_ble_eq_true rfl⟩) (pre0_V hψ hK hX hS hA (hψ.recv hK hm.1 rfl)) rfl rfl hl.1 rfl (lv_room (Nat.le_of_ble_eq_true rfl)) dL_law_216 ⟨Nat.le_trans (show _ ≤ 20000 by omega) (Nat.le_of_ble_eq_true rfl), Nat.le_trans (show _ ≤ 200000 by omega) (Nat.le_of_ble_eq_true rfl)⟩) hS hA hψ hφ hd (fun v ψ2 H locs hw hψ hφ hd hS => ?_)
    obtain ⟨rfl, hps⟩ := hw
    rw [hps] at hψ hd
    refine hv_ti (y := nI (mcd 1 2 9 (lotX (sc 2) (xs (i + 1))))) (rfl) ?_
    refine lv_iload (pc := 219) S.1 S.2.1 dL_law_219 (lv_at hl 1 rfl) ?_
    refine hv_icmp_eq (pc := 221) (tgt := 226) (a := mcd 1 2 9 (lotX (sc 2) (xs (i + 1)))) (b := mcd 1 2 9 (lotX (sc 2) (xs (i + 1)))) S.1 S.2.1 (by omega) (by omega) dL_law_221 (by decide) (fun c_7 => ?_) (fun c_7 => ?_)
    · skip
      refine lv_iload (pc := 226) S.1 S.2.1 dL_law_226 (lv_at hl 1 rfl) ?_
      refine hv_if_ne (pc := 228) (tgt := 243) (a := mcd 1 2 9 (lotX (sc 2) (xs (i + 1)))) S.1 S.2.1 (by omega) dL_law_228 (by decide) (fun c_8 => ?_) (fun c_8 => ?_)
      · skip
        refine lv_goto (pc := 243) (tgt := 1404) S.1 S.2.1 dL_law_243 (by decide) ?_
        refine W.widen (k := cells + 10) (n := slots + 60) (by omega) (by omega) ?_
        exact kk _ _ _ ⟨(va_up sc 7 (mcd 1 2 9 (lotX (sc 2) (xs (i + 1))))), ar, w, ey, o, ad, q, φ1, ψ1, yp_same (hw1 hz) _, rfl, rfl, hI.mono _, hm, rfl, hq, hφ, hψ, fun x => (hd x).symm⟩ hS (lv_sub hl [2, 3, 4, 5, 6] rfl)
      · skip
        exact absurd c_8 (by omega)
    · skip
      exact absurd c_7 (by omega)
set_option maxHeartbeats 4000000 in
set_option maxRecDepth 100000 in
theorem law_cone (l : Launch) (hfl : l.stackTraces = false) {p : Program} {e : Env} {s : State} {m : MethodId} {below : List Frame} {meth : Method} {c : Code} {b L : Nat} {xs : Nat → Int32} {D : va_G} {cA : Nat → ClassId} {ga : Nat → Nat → Nat} {Q : State → Prop} (S : CallFix p m c code 7 s #[.ref b] Wc RL) (hK : va_K D vwCl (tysL cA) s) (hX : Sx ga (fun q => s.heap.size ≤ q) s s.heap) (hN3 : Nc3 s) (hXs : va_X b L xs s s.heap) (hbl : b < s.heap.size) (hL : L ≤ 2048) {k9 i y mo ou cells slots : Nat} {H : Heap} {locs : List Loc} {ls : Array Slot} (hk : k9 < 512) (hi : i + 4 ≤ L) (hc : cells ≤ 30 + 10 * k9) (hs : slots ≤ 500 + 60 * k9)
    (hW : WLD cA ga D (fun q => s.heap.size ≤ q) y ou mo k9 H) (hS : va_S (fun q => s.heap.size ≤ q) s.heap H locs) (hl : lv_has ls 7 [(4, .int (nI i)), (3, .ref ou), (2, .ref mo), (1, .ref y), (0, .ref b)])
    (kk : ∀ (H1 : Heap) (locs1 : List Loc) (ls1 : Array Slot), WLD cA ga D (fun q => s.heap.size ≤ q) y ou mo (k9 + 1) H1 → va_S (fun q => s.heap.size ≤ q) s.heap H1 locs1 → lv_has ls1 7 [(4, .int (nI i)), (3, .ref ou), (2, .ref mo), (1, .ref y), (0, .ref b)] → W p l e room_1 s m #[.ref b] below meth c H1 locs1 (cells + 10) (slots + 60) Q (F0 m 1404 ls1 [])) :
    W p l e room_1 s m #[.ref b] below meth c H locs cells slots Q (F0 m 246 ls []) := by
  obtain ⟨sc, ar, w, ey, o, ad, q, φ, ψ, hP, rfl, rfl, hI, hm, rfl, hq, hφ, hψ, hd⟩ := hW
  have hj1 := hI.j1
  have hj0 := hI.j0.1
  have hA : ∀ q, s.heap.size ≤ q → (fun q => s.heap.size ≤ q) q := fun _ h => h
  refine lv_aload_n (pc := 246) S.1 S.2.1 dL_law_246 rfl (lv_at hl 3 rfl) ?_
  refine lv_aload_n (pc := 247) S.1 S.2.1 dL_law_247 rfl (lv_at hl 4 rfl) ?_
  refine lv_iload (pc := 248) S.1 S.2.1 dL_law_248 (lv_at hl 0 rfl) ?_
  refine lv_iconst (pc := 250) (v := nI 1) S.1 S.2.1 dL_law_250 (by decide) ?_
  refine lv_iadd (pc := 251) S.1 S.2.1 dL_law_251 ?_
  refine hv_ti (y := nI (i + 1)) (nI_add _ _) ?_
  refine va_sld (pc := 252) S.1 S.2.1 hXs hbl (Nat.not_le.mpr hbl) hS (vp_in_nI (by omega) (by omega)) dL_law_252 ?_
  refine hv_ti (y := xs (i + 1)) (by rw [nI_clamp (by omega)]) ?_
  refine lv_aload_n (pc := 253) S.1 S.2.1 dL_law_253 rfl (lv_at hl 4 rfl) ?_
  refine lv_iload (pc := 254) S.1 S.2.1 dL_law_254 (lv_at hl 0 rfl) ?_
  refine lv_iconst (pc := 256) (v := nI 2) S.1 S.2.1 dL_law_256 (by decide) ?_
  refine lv_iadd (pc := 257) S.1 S.2.1 dL_law_257 ?_
  refine hv_ti (y := nI (i + 2)) (nI_add _ _) ?_
  refine va_sld (pc := 258) S.1 S.2.1 hXs hbl (Nat.not_le.mpr hbl) hS (vp_in_nI (by omega) (by omega)) dL_law_258 ?_
  refine hv_ti (y := xs (i + 2)) (by rw [nI_clamp (by omega)]) ?_
  refine lv_aload_n (pc := 259) S.1 S.2.1 dL_law_259 rfl (lv_at hl 4 rfl) ?_
  refine lv_iload (pc := 260) S.1 S.2.1 dL_law_260 (lv_at hl 0 rfl) ?_
  refine lv_iconst (pc := 262) (v := nI 3) S.1 S.2.1 dL_law_262 (by decide) ?_
  refine lv_iadd (pc := 263) S.1 S.2.1 dL_law_263 ?_
  refine hv_ti (y := nI (i + 3)) (nI_add _ _) ?_
  refine va_sld (pc := 264) S.1 S.2.1 hXs hbl (Nat.not_le.mpr hbl) hS (vp_in_nI (by omega) (by omega)) dL_law_264 ?_
  refine hv_ti (y := xs (i + 3)) (by rw [nI_clamp (by omega)]) ?_
  refine lv_aload_n (pc := 265) S.1 S.2.1 dL_law_265 rfl (lv_at hl 1 rfl) ?_
  refine hv_callP (φ := φ) (ψ := ψ) (pc := 266) (vx_runSW (As := [.ref (ad 0 0), .int (xs (i + 1)), .int (xs (i + 2)), .int (xs (i + 3)), .ref (ad 0 9)]) (rest := []) S (lw_cone l hfl D cA ga φ H.size k9 sc ar w ey o ad (xs (i + 1)) (xs (i + 2)) (xs (i + 3)) hP hI (by omega)) (vx_cwSW 5 S.2.2.2.2 (gSW tw_585 tw_586 tw_0 tw_587) rfl rfl rfl (by decide +kernel) ⟨Nat.le_of_ble_eq_true rfl, Nat.le_of_ble_eq_true rfl⟩) (pre1_S hφ hK hX hS hA hN3) rfl rfl hl.1 rfl (lv_room (Nat.le_of_ble_eq_true rfl)) dL_law_266 ⟨Nat.le_trans (show _ ≤ 20000 by omega) (Nat.le_of_ble_eq_true rfl), Nat.le_trans (show _ ≤ 200000 by omega) (Nat.le_of_ble_eq_true rfl)⟩) hS hA hφ hψ hd (fun v φ1 H locs hw hφ hψ hd hS => ?_)
  obtain ⟨rfl, hw1, hw2⟩ := hw
  have hM31 : mcd 2 3 1 (coneX (sc 2) (sc 3) (ar 2) (xs (i + 1)) (xs (i + 2)) (xs (i + 3))) < 10 := mcd_lt (by decide) (by decide) (by decide)
  refine lv_istore (pc := 269) (lv' := [(5, .int (nI (mcd 2 3 1 (coneX (sc 2) (sc 3) (ar 2) (xs (i + 1)) (xs (i + 2)) (xs (i + 3)))))), (4, .int (nI i)), (3, .ref (ad 0 9)), (2, .ref (q 0)), (1, .ref (ad 0 0)), (0, .ref b)]) S.1 S.2.1 dL_law_269 hl (by decide) rfl (fun ls hl => ?_)
  refine lv_aload_n (pc := 271) S.1 S.2.1 dL_law_271 rfl (lv_at hl 3 rfl) ?_
  refine lv_aload_n (pc := 272) S.1 S.2.1 dL_law_272 rfl (lv_at hl 5 rfl) ?_
  refine lv_iload (pc := 273) S.1 S.2.1 dL_law_273 (lv_at hl 1 rfl) ?_
  refine lv_iconst (pc := 275) (v := nI 1) S.1 S.2.1 dL_law_275 (by decide) ?_
  refine lv_iadd (pc := 276) S.1 S.2.1 dL_law_276 ?_
  refine hv_ti (y := nI (i + 1)) (nI_add _ _) ?_
  refine va_sld (pc := 277) S.1 S.2.1 hXs hbl (Nat.not_le.mpr hbl) hS (vp_in_nI (by omega) (by omega)) dL_law_277 ?_
  refine hv_ti (y := xs (i + 1)) (by rw [nI_clamp (by omega)]) ?_
  refine lv_aload_n (pc := 278) S.1 S.2.1 dL_law_278 rfl (lv_at hl 5 rfl) ?_
  refine lv_iload (pc := 279) S.1 S.2.1 dL_law_279 (lv_at hl 1 rfl) ?_
  refine lv_iconst (pc := 281) (v := nI 2) S.1 S.2.1 dL_law_281 (by decide) ?_
  refine lv_iadd (pc := 282) S.1 S.2.1 dL_law_282 ?_
  refine hv_ti (y := nI (i + 2)) (nI_add _ _) ?_
  refine va_sld (pc := 283) S.1 S.2.1 hXs hbl (Nat.not_le.mpr hbl) hS (vp_in_nI (by omega) (by omega)) dL_law_283 ?_
  refine hv_ti (y := xs (i + 2)) (by rw [nI_clamp (by omega)]) ?_
  refine lv_aload_n (pc := 284) S.1 S.2.1 dL_law_284 rfl (lv_at hl 5 rfl) ?_
  refine lv_iload (pc := 285) S.1 S.2.1 dL_law_285 (lv_at hl 1 rfl) ?_
  refine lv_iconst (pc := 287) (v := nI 3) S.1 S.2.1 dL_law_287 (by decide) ?_
  refine lv_iadd (pc := 288) S.1 S.2.1 dL_law_288 ?_
  refine hv_ti (y := nI (i + 3)) (nI_add _ _) ?_
  refine va_sld (pc := 289) S.1 S.2.1 hXs hbl (Nat.not_le.mpr hbl) hS (vp_in_nI (by omega) (by omega)) dL_law_289 ?_
  refine hv_ti (y := xs (i + 3)) (by rw [nI_clamp (by omega)]) ?_
  refine hv_callP (φ := ψ) (ψ := φ1) (pc := 290) (va_runV (As := [.int (xs (i + 1)), .int (xs (i + 2)), .int (xs (i + 3))]) (rest := []) S (c_m_cone l D cA ga ψ H.size q sc ar (xs (i + 1)) (xs (i + 2)) (xs (i + 3)) hm hq (by omega) (by omega) (fun i => (hI.j2 i).2)) (cwV 3 S.2.2.2.2 (gV tw_1045 tw_1046 tw_1047 tw_7 tw_1048) rfl rfl rfl (by decide +kernel) ⟨Nat.le_of_ble_eq_true rfl, Nat.le_of_ble_eq_true rfl⟩) (pre0_V hψ hK hX hS hA (hψ.recv hK hm.1 rfl)) rfl rfl hl.1 rfl (lv_room (Nat.le_of_ble_eq_true rfl)) dL_law_290 ⟨Nat.le_trans (show _ ≤ 20000 by omega) (Nat.le_of_ble_eq_true rfl), Nat.le_trans (show _ ≤ 200000 by omega) (Nat.le_of_ble_eq_true rfl)⟩) hS hA hψ hφ (fun x => (hd x).symm) (fun v ψ1 H locs hw hψ hφ hd hS => ?_)
  by_cases hz : coneX (sc 2) (sc 3) (ar 2) (xs (i + 1)) (xs (i + 2)) (xs (i + 3)) = 0
  · skip
    have hM : mcd 2 3 1 (coneX (sc 2) (sc 3) (ar 2) (xs (i + 1)) (xs (i + 2)) (xs (i + 3))) = 0 := by rw [hz]; rfl
    rw [if_pos hz] at hw
    have hn := hw2 hz
    obtain ⟨x1, z1, t1, hx1, hz1, ht1, hbx, hbz, hbt, hN⟩ := hn
    obtain ⟨x2, z2, t2, hx2, hz2, ht2, hc0, hc1, hc2, hc3, hc4, hc5, rfl, hm⟩ := hw
    have hex : x2 = x1 := jI_inj (hx2.symm.trans hx1) (by omega) (by omega)
    subst hex
    have hez : z2 = z1 := jI_inj (hz2.symm.trans hz1) (by omega) (by omega)
    subst hez
    have het : t2 = t1 := jI_inj (ht2.symm.trans ht1) (by omega) (by omega)
    subst het
    obtain ⟨w', e', o', ad', ho', hy', hou', hP', hI'⟩ := hN
    refine lv_istore (pc := 293) (lv' := [(6, .int (nI (sc 3))), (5, .int (nI (mcd 2 3 1 (coneX (sc 2) (sc 3) (ar 2) (xs (i + 1)) (xs (i + 2)) (xs (i + 3)))))), (4, .int (nI i)), (3, .ref (ad 0 9)), (2, .ref (q 0)), (1, .ref (ad 0 0)), (0, .ref b)]) S.1 S.2.1 dL_law_293 hl (by decide) rfl (fun ls hl => ?_)
    refine lv_aload_n (pc := 295) S.1 S.2.1 dL_law_295 rfl (lv_at hl 4 rfl) ?_
    refine hv_callP (φ := ψ1) (ψ := φ1) (pc := 296) (va_runV (As := []) (rest := []) S (c_m_thrown l D cA ga ψ1 H.size q (va_up (va_up sc 3 (sc 3 + 1)) 7 (0)) (va_up (va_up (va_up (va_up (va_up ar 2 (va_up (ar 2) x2 (ar 2 x2 - z2))) 3 (va_up (ar 3) (sc 3) (ar 1 x2))) 4 (pfy (ar 4) (6 * sc 3) (fun b => 1200 - 150 * b) 6)) 5 (pfy (ar 5) (6 * sc 3) (fun _ => 60) 6)) 6 (va_up (pfy (ar 6) (6 * sc 3) (gB z2 t2) 6) (6 * sc 3) (gB z2 t2 0 + (z2 - smN (gB z2 t2) 6)))) hm hq) (cwV 0 S.2.2.2.2 (gV tw_1013 tw_1014 tw_1015 tw_7 tw_1016) rfl rfl rfl (by decide +kernel) ⟨Nat.le_of_ble_eq_true rfl, Nat.le_of_ble_eq_true rfl⟩) (pre0_V hψ hK hX hS hA (hψ.recv hK hm.1 rfl)) rfl rfl hl.1 rfl (lv_room (Nat.le_of_ble_eq_true rfl)) dL_law_296 ⟨Nat.le_trans (show _ ≤ 20000 by omega) (Nat.le_of_ble_eq_true rfl), Nat.le_trans (show _ ≤ 200000 by omega) (Nat.le_of_ble_eq_true rfl)⟩) hS hA hψ hφ hd (fun v ψ2 H locs hw hψ hφ hd hS => ?_)
    obtain ⟨rfl, hps⟩ := hw
    rw [hps] at hψ hd
    refine hv_ti (y := nI 0) (rfl) ?_
    refine lv_iload (pc := 299) S.1 S.2.1 dL_law_299 (lv_at hl 1 rfl) ?_
    refine hv_icmp_eq (pc := 301) (tgt := 306) (a := 0) (b := mcd 2 3 1 (coneX (sc 2) (sc 3) (ar 2) (xs (i + 1)) (xs (i + 2)) (xs (i + 3)))) S.1 S.2.1 (by omega) (by omega) dL_law_301 (by decide) (fun c_1 => ?_) (fun c_1 => ?_)
    · skip
      refine lv_iload (pc := 306) S.1 S.2.1 dL_law_306 (lv_at hl 1 rfl) ?_
      refine hv_if_ne (pc := 308) (tgt := 323) (a := mcd 2 3 1 (coneX (sc 2) (sc 3) (ar 2) (xs (i + 1)) (xs (i + 2)) (xs (i + 3)))) S.1 S.2.1 (by omega) dL_law_308 (by decide) (fun c_2 => ?_) (fun c_2 => ?_)
      · skip
        exact absurd c_2 (by omega)
      · skip
        refine lv_aload_n (pc := 311) S.1 S.2.1 dL_law_311 rfl (lv_at hl 3 rfl) ?_
        refine lv_iconst (pc := 312) (v := nI 0) S.1 S.2.1 dL_law_312 (by decide) ?_
        have hfo : φ1 (ad 0 9) = some (.inl (cA 3, 1, .inr (.inl o'))) := by rw [← hou']; exact hP'.at (r := 0) (j := 9) rfl
        have hH := hφ
        refine hv_lald (pc := 313) S hK hH 3 hfo rfl (vp_in_nI (by decide) (by decide)) dL_law_313 ?_
        refine hv_tv (y := .long ((nI (sc 3)).toInt64)) (by rw [nI_clamp (by decide), ho']) ?_
        refine lv_iload (pc := 314) S.1 S.2.1 dL_law_314 (lv_at hl 0 rfl) ?_
        refine lv_i2l (pc := 316) (v := (nI (sc 3)).toInt64) S.1 S.2.1 dL_law_316 rfl ?_
        refine W.lcmp S.1 S.2.1 dL_law_317 ?_
        refine hv_ti (y := nI 0) (lgc _) ?_
        refine hv_if_eq (pc := 318) (tgt := 323) (a := 0) S.1 S.2.1 (by omega) dL_law_318 (by decide) (fun c_3 => ?_) (fun c_3 => ?_)
        · skip
          refine lv_goto (pc := 323) (tgt := 1404) S.1 S.2.1 dL_law_323 (by decide) ?_
          refine W.widen (k := cells + 10) (n := slots + 60) (by omega) (by omega) ?_
          exact kk _ _ _ ⟨(va_up (va_up sc 3 (sc 3 + 1)) 7 (0)), (va_up (va_up (va_up (va_up (va_up ar 2 (va_up (ar 2) x2 (ar 2 x2 - z2))) 3 (va_up (ar 3) (sc 3) (ar 1 x2))) 4 (pfy (ar 4) (6 * sc 3) (fun b => 1200 - 150 * b) 6)) 5 (pfy (ar 5) (6 * sc 3) (fun _ => 60) 6)) 6 (va_up (pfy (ar 6) (6 * sc 3) (gB z2 t2) 6) (6 * sc 3) (gB z2 t2 0 + (z2 - smN (gB z2 t2) 6)))), w', e', o', ad', q, φ1, ψ1, hP', hy', hou', hI', hm, rfl, hq, hφ, hψ, fun x => (hd x).symm⟩ hS (lv_sub hl [2, 3, 4, 5, 6] rfl)
        · skip
          exact absurd c_3 (by omega)
    · skip
      exact absurd c_1 (by omega)
  · skip
    have hor : coneX (sc 2) (sc 3) (ar 2) (xs (i + 1)) (xs (i + 2)) (xs (i + 3)) ≤ 3 := by unfold coneX; (repeat' split) <;> decide
    have hM0 := mcd_ne (a := 2) (b := 3) (c := 1) (by decide) (by decide) (by decide) hz hor
    rw [if_neg hz] at hw
    obtain ⟨rfl, hm⟩ := hw
    refine lv_istore (pc := 293) (lv' := [(6, .int (nI 0)), (5, .int (nI (mcd 2 3 1 (coneX (sc 2) (sc 3) (ar 2) (xs (i + 1)) (xs (i + 2)) (xs (i + 3)))))), (4, .int (nI i)), (3, .ref (ad 0 9)), (2, .ref (q 0)), (1, .ref (ad 0 0)), (0, .ref b)]) S.1 S.2.1 dL_law_293 hl (by decide) rfl (fun ls hl => ?_)
    refine lv_aload_n (pc := 295) S.1 S.2.1 dL_law_295 rfl (lv_at hl 4 rfl) ?_
    refine hv_callP (φ := ψ1) (ψ := φ1) (pc := 296) (va_runV (As := []) (rest := []) S (c_m_thrown l D cA ga ψ1 H.size q (va_up sc 7 (mcd 2 3 1 (coneX (sc 2) (sc 3) (ar 2) (xs (i + 1)) (xs (i + 2)) (xs (i + 3))))) (ar) hm hq) (cwV 0 S.2.2.2.2 (gV tw_1013 tw_1014 tw_1015 tw_7 tw_1016) rfl rfl rfl (by decide +kernel) ⟨Nat.le_of_ble_eq_true rfl, Nat.le_of_ble_eq_true rfl⟩) (pre0_V hψ hK hX hS hA (hψ.recv hK hm.1 rfl)) rfl rfl hl.1 rfl (lv_room (Nat.le_of_ble_eq_true rfl)) dL_law_296 ⟨Nat.le_trans (show _ ≤ 20000 by omega) (Nat.le_of_ble_eq_true rfl), Nat.le_trans (show _ ≤ 200000 by omega) (Nat.le_of_ble_eq_true rfl)⟩) hS hA hψ hφ hd (fun v ψ2 H locs hw hψ hφ hd hS => ?_)
    obtain ⟨rfl, hps⟩ := hw
    rw [hps] at hψ hd
    refine hv_ti (y := nI (mcd 2 3 1 (coneX (sc 2) (sc 3) (ar 2) (xs (i + 1)) (xs (i + 2)) (xs (i + 3))))) (rfl) ?_
    refine lv_iload (pc := 299) S.1 S.2.1 dL_law_299 (lv_at hl 1 rfl) ?_
    refine hv_icmp_eq (pc := 301) (tgt := 306) (a := mcd 2 3 1 (coneX (sc 2) (sc 3) (ar 2) (xs (i + 1)) (xs (i + 2)) (xs (i + 3)))) (b := mcd 2 3 1 (coneX (sc 2) (sc 3) (ar 2) (xs (i + 1)) (xs (i + 2)) (xs (i + 3)))) S.1 S.2.1 (by omega) (by omega) dL_law_301 (by decide) (fun c_4 => ?_) (fun c_4 => ?_)
    · skip
      refine lv_iload (pc := 306) S.1 S.2.1 dL_law_306 (lv_at hl 1 rfl) ?_
      refine hv_if_ne (pc := 308) (tgt := 323) (a := mcd 2 3 1 (coneX (sc 2) (sc 3) (ar 2) (xs (i + 1)) (xs (i + 2)) (xs (i + 3)))) S.1 S.2.1 (by omega) dL_law_308 (by decide) (fun c_5 => ?_) (fun c_5 => ?_)
      · skip
        refine lv_goto (pc := 323) (tgt := 1404) S.1 S.2.1 dL_law_323 (by decide) ?_
        refine W.widen (k := cells + 10) (n := slots + 60) (by omega) (by omega) ?_
        exact kk _ _ _ ⟨(va_up sc 7 (mcd 2 3 1 (coneX (sc 2) (sc 3) (ar 2) (xs (i + 1)) (xs (i + 2)) (xs (i + 3))))), ar, w, ey, o, ad, q, φ1, ψ1, yp_same (hw1 hz) _, rfl, rfl, hI.mono _, hm, rfl, hq, hφ, hψ, fun x => (hd x).symm⟩ hS (lv_sub hl [2, 3, 4, 5, 6] rfl)
      · skip
        exact absurd c_5 (by omega)
    · skip
      exact absurd c_4 (by omega)
set_option maxHeartbeats 4000000 in
set_option maxRecDepth 100000 in
theorem law_hand (l : Launch) (hfl : l.stackTraces = false) {p : Program} {e : Env} {s : State} {m : MethodId} {below : List Frame} {meth : Method} {c : Code} {b L : Nat} {xs : Nat → Int32} {D : va_G} {cA : Nat → ClassId} {ga : Nat → Nat → Nat} {Q : State → Prop} (S : CallFix p m c code 7 s #[.ref b] Wc RL) (hK : va_K D vwCl (tysL cA) s) (hX : Sx ga (fun q => s.heap.size ≤ q) s s.heap) (hN3 : Nc3 s) (hXs : va_X b L xs s s.heap) (hbl : b < s.heap.size) (hL : L ≤ 2048) {k9 i y mo ou cells slots : Nat} {H : Heap} {locs : List Loc} {ls : Array Slot} (hk : k9 < 512) (hi : i + 4 ≤ L) (hc : cells ≤ 30 + 10 * k9) (hs : slots ≤ 500 + 60 * k9)
    (hW : WLD cA ga D (fun q => s.heap.size ≤ q) y ou mo k9 H) (hS : va_S (fun q => s.heap.size ≤ q) s.heap H locs) (hl : lv_has ls 7 [(4, .int (nI i)), (3, .ref ou), (2, .ref mo), (1, .ref y), (0, .ref b)])
    (kk : ∀ (H1 : Heap) (locs1 : List Loc) (ls1 : Array Slot), WLD cA ga D (fun q => s.heap.size ≤ q) y ou mo (k9 + 1) H1 → va_S (fun q => s.heap.size ≤ q) s.heap H1 locs1 → lv_has ls1 7 [(4, .int (nI i)), (3, .ref ou), (2, .ref mo), (1, .ref y), (0, .ref b)] → W p l e room_1 s m #[.ref b] below meth c H1 locs1 (cells + 10) (slots + 60) Q (F0 m 1404 ls1 [])) :
    W p l e room_1 s m #[.ref b] below meth c H locs cells slots Q (F0 m 326 ls []) := by
  obtain ⟨sc, ar, w, ey, o, ad, q, φ, ψ, hP, rfl, rfl, hI, hm, rfl, hq, hφ, hψ, hd⟩ := hW
  have hj1 := hI.j1
  have hj0 := hI.j0.1
  have hA : ∀ q, s.heap.size ≤ q → (fun q => s.heap.size ≤ q) q := fun _ h => h
  refine lv_aload_n (pc := 326) S.1 S.2.1 dL_law_326 rfl (lv_at hl 3 rfl) ?_
  refine lv_aload_n (pc := 327) S.1 S.2.1 dL_law_327 rfl (lv_at hl 1 rfl) ?_
  refine hv_callP (φ := φ) (ψ := ψ) (pc := 328) (vx_runSW (As := [.ref (ad 0 0), .ref (ad 0 9)]) (rest := []) S (lw_hand l hfl D cA ga φ H.size k9 sc ar w ey o ad  hP hI (by omega)) (vx_cwSW 2 S.2.2.2.2 (gSW tw_653 tw_654 tw_0 tw_655) rfl rfl rfl (by decide +kernel) ⟨Nat.le_of_ble_eq_true rfl, Nat.le_of_ble_eq_true rfl⟩) (pre1_S hφ hK hX hS hA hN3) rfl rfl hl.1 rfl (lv_room (Nat.le_of_ble_eq_true rfl)) dL_law_328 ⟨Nat.le_trans (show _ ≤ 20000 by omega) (Nat.le_of_ble_eq_true rfl), Nat.le_trans (show _ ≤ 200000 by omega) (Nat.le_of_ble_eq_true rfl)⟩) hS hA hφ hψ hd (fun v φ1 H locs hw hφ hψ hd hS => ?_)
  obtain ⟨rfl, hw1, hw2⟩ := hw
  have hM31 : mcd 9 1 9 (handX (sc 5)) < 10 := mcd_lt (by decide) (by decide) (by decide)
  refine lv_istore (pc := 331) (lv' := [(5, .int (nI (mcd 9 1 9 (handX (sc 5))))), (4, .int (nI i)), (3, .ref (ad 0 9)), (2, .ref (q 0)), (1, .ref (ad 0 0)), (0, .ref b)]) S.1 S.2.1 dL_law_331 hl (by decide) rfl (fun ls hl => ?_)
  refine lv_aload_n (pc := 333) S.1 S.2.1 dL_law_333 rfl (lv_at hl 3 rfl) ?_
  refine hv_callP (φ := ψ) (ψ := φ1) (pc := 334) (va_runV (As := []) (rest := []) S (c_m_hand l D cA ga ψ H.size q sc ar hm hq (by omega)) (cwV 0 S.2.2.2.2 (gV tw_1049 tw_1050 tw_1051 tw_7 tw_1052) rfl rfl rfl (by decide +kernel) ⟨Nat.le_of_ble_eq_true rfl, Nat.le_of_ble_eq_true rfl⟩) (pre0_V hψ hK hX hS hA (hψ.recv hK hm.1 rfl)) rfl rfl hl.1 rfl (lv_room (Nat.le_of_ble_eq_true rfl)) dL_law_334 ⟨Nat.le_trans (show _ ≤ 20000 by omega) (Nat.le_of_ble_eq_true rfl), Nat.le_trans (show _ ≤ 200000 by omega) (Nat.le_of_ble_eq_true rfl)⟩) hS hA hψ hφ (fun x => (hd x).symm) (fun v ψ1 H locs hw hψ hφ hd hS => ?_)
  by_cases hz : handX (sc 5) = 0
  · skip
    have hM : mcd 9 1 9 (handX (sc 5)) = 0 := by rw [hz]; rfl
    rw [if_pos hz] at hw
    have hn := hw2 hz
    have hN := hn
    obtain ⟨rfl, hm⟩ := hw
    obtain ⟨w', e', o', ad', ho', hy', hou', hP', hI'⟩ := hN
    refine lv_istore (pc := 337) (lv' := [(6, .int (nI (sc 5))), (5, .int (nI (mcd 9 1 9 (handX (sc 5))))), (4, .int (nI i)), (3, .ref (ad 0 9)), (2, .ref (q 0)), (1, .ref (ad 0 0)), (0, .ref b)]) S.1 S.2.1 dL_law_337 hl (by decide) rfl (fun ls hl => ?_)
    refine lv_aload_n (pc := 339) S.1 S.2.1 dL_law_339 rfl (lv_at hl 4 rfl) ?_
    refine hv_callP (φ := ψ1) (ψ := φ1) (pc := 340) (va_runV (As := []) (rest := []) S (c_m_thrown l D cA ga ψ1 H.size q (va_up (va_up sc 5 (sc 5 + 1)) 7 (0)) (ar) hm hq) (cwV 0 S.2.2.2.2 (gV tw_1013 tw_1014 tw_1015 tw_7 tw_1016) rfl rfl rfl (by decide +kernel) ⟨Nat.le_of_ble_eq_true rfl, Nat.le_of_ble_eq_true rfl⟩) (pre0_V hψ hK hX hS hA (hψ.recv hK hm.1 rfl)) rfl rfl hl.1 rfl (lv_room (Nat.le_of_ble_eq_true rfl)) dL_law_340 ⟨Nat.le_trans (show _ ≤ 20000 by omega) (Nat.le_of_ble_eq_true rfl), Nat.le_trans (show _ ≤ 200000 by omega) (Nat.le_of_ble_eq_true rfl)⟩) hS hA hψ hφ hd (fun v ψ2 H locs hw hψ hφ hd hS => ?_)
    obtain ⟨rfl, hps⟩ := hw
    rw [hps] at hψ hd
    refine hv_ti (y := nI 0) (rfl) ?_
    refine lv_iload (pc := 343) S.1 S.2.1 dL_law_343 (lv_at hl 1 rfl) ?_
    refine hv_icmp_eq (pc := 345) (tgt := 350) (a := 0) (b := mcd 9 1 9 (handX (sc 5))) S.1 S.2.1 (by omega) (by omega) dL_law_345 (by decide) (fun c_1 => ?_) (fun c_1 => ?_)
    · skip
      refine lv_iload (pc := 350) S.1 S.2.1 dL_law_350 (lv_at hl 1 rfl) ?_
      refine hv_if_ne (pc := 352) (tgt := 367) (a := mcd 9 1 9 (handX (sc 5))) S.1 S.2.1 (by omega) dL_law_352 (by decide) (fun c_2 => ?_) (fun c_2 => ?_)
      · skip
        exact absurd c_2 (by omega)
      · skip
        refine lv_aload_n (pc := 355) S.1 S.2.1 dL_law_355 rfl (lv_at hl 3 rfl) ?_
        refine lv_iconst (pc := 356) (v := nI 0) S.1 S.2.1 dL_law_356 (by decide) ?_
        have hfo : φ1 (ad 0 9) = some (.inl (cA 3, 1, .inr (.inl o'))) := by rw [← hou']; exact hP'.at (r := 0) (j := 9) rfl
        have hH := hφ
        refine hv_lald (pc := 357) S hK hH 3 hfo rfl (vp_in_nI (by decide) (by decide)) dL_law_357 ?_
        refine hv_tv (y := .long ((nI (sc 5)).toInt64)) (by rw [nI_clamp (by decide), ho']) ?_
        refine lv_iload (pc := 358) S.1 S.2.1 dL_law_358 (lv_at hl 0 rfl) ?_
        refine lv_i2l (pc := 360) (v := (nI (sc 5)).toInt64) S.1 S.2.1 dL_law_360 rfl ?_
        refine W.lcmp S.1 S.2.1 dL_law_361 ?_
        refine hv_ti (y := nI 0) (lgc _) ?_
        refine hv_if_eq (pc := 362) (tgt := 367) (a := 0) S.1 S.2.1 (by omega) dL_law_362 (by decide) (fun c_3 => ?_) (fun c_3 => ?_)
        · skip
          refine lv_goto (pc := 367) (tgt := 1404) S.1 S.2.1 dL_law_367 (by decide) ?_
          refine W.widen (k := cells + 10) (n := slots + 60) (by omega) (by omega) ?_
          exact kk _ _ _ ⟨(va_up (va_up sc 5 (sc 5 + 1)) 7 (0)), ar, w', e', o', ad', q, φ1, ψ1, hP', hy', hou', hI', hm, rfl, hq, hφ, hψ, fun x => (hd x).symm⟩ hS (lv_sub hl [2, 3, 4, 5, 6] rfl)
        · skip
          exact absurd c_3 (by omega)
    · skip
      exact absurd c_1 (by omega)
  · skip
    have hor : handX (sc 5) ≤ 3 := by unfold handX; (repeat' split) <;> decide
    have hM0 := mcd_ne (a := 9) (b := 1) (c := 9) (by decide) (by decide) (by decide) hz hor
    rw [if_neg hz] at hw
    obtain ⟨rfl, hm⟩ := hw
    refine lv_istore (pc := 337) (lv' := [(6, .int (nI 0)), (5, .int (nI (mcd 9 1 9 (handX (sc 5))))), (4, .int (nI i)), (3, .ref (ad 0 9)), (2, .ref (q 0)), (1, .ref (ad 0 0)), (0, .ref b)]) S.1 S.2.1 dL_law_337 hl (by decide) rfl (fun ls hl => ?_)
    refine lv_aload_n (pc := 339) S.1 S.2.1 dL_law_339 rfl (lv_at hl 4 rfl) ?_
    refine hv_callP (φ := ψ1) (ψ := φ1) (pc := 340) (va_runV (As := []) (rest := []) S (c_m_thrown l D cA ga ψ1 H.size q (va_up sc 7 (mcd 9 1 9 (handX (sc 5)))) (ar) hm hq) (cwV 0 S.2.2.2.2 (gV tw_1013 tw_1014 tw_1015 tw_7 tw_1016) rfl rfl rfl (by decide +kernel) ⟨Nat.le_of_ble_eq_true rfl, Nat.le_of_ble_eq_true rfl⟩) (pre0_V hψ hK hX hS hA (hψ.recv hK hm.1 rfl)) rfl rfl hl.1 rfl (lv_room (Nat.le_of_ble_eq_true rfl)) dL_law_340 ⟨Nat.le_trans (show _ ≤ 20000 by omega) (Nat.le_of_ble_eq_true rfl), Nat.le_trans (show _ ≤ 200000 by omega) (Nat.le_of_ble_eq_true rfl)⟩) hS hA hψ hφ hd (fun v ψ2 H locs hw hψ hφ hd hS => ?_)
    obtain ⟨rfl, hps⟩ := hw
    rw [hps] at hψ hd
    refine hv_ti (y := nI (mcd 9 1 9 (handX (sc 5)))) (rfl) ?_
    refine lv_iload (pc := 343) S.1 S.2.1 dL_law_343 (lv_at hl 1 rfl) ?_
    refine hv_icmp_eq (pc := 345) (tgt := 350) (a := mcd 9 1 9 (handX (sc 5))) (b := mcd 9 1 9 (handX (sc 5))) S.1 S.2.1 (by omega) (by omega) dL_law_345 (by decide) (fun c_4 => ?_) (fun c_4 => ?_)
    · skip
      refine lv_iload (pc := 350) S.1 S.2.1 dL_law_350 (lv_at hl 1 rfl) ?_
      refine hv_if_ne (pc := 352) (tgt := 367) (a := mcd 9 1 9 (handX (sc 5))) S.1 S.2.1 (by omega) dL_law_352 (by decide) (fun c_5 => ?_) (fun c_5 => ?_)
      · skip
        refine lv_goto (pc := 367) (tgt := 1404) S.1 S.2.1 dL_law_367 (by decide) ?_
        refine W.widen (k := cells + 10) (n := slots + 60) (by omega) (by omega) ?_
        exact kk _ _ _ ⟨(va_up sc 7 (mcd 9 1 9 (handX (sc 5)))), ar, w, ey, o, ad, q, φ1, ψ1, yp_same (hw1 hz) _, rfl, rfl, hI.mono _, hm, rfl, hq, hφ, hψ, fun x => (hd x).symm⟩ hS (lv_sub hl [2, 3, 4, 5, 6] rfl)
      · skip
        exact absurd c_5 (by omega)
    · skip
      exact absurd c_4 (by omega)
set_option maxHeartbeats 4000000 in
set_option maxRecDepth 100000 in
theorem law_cycle (l : Launch) (hfl : l.stackTraces = false) {p : Program} {e : Env} {s : State} {m : MethodId} {below : List Frame} {meth : Method} {c : Code} {b L : Nat} {xs : Nat → Int32} {D : va_G} {cA : Nat → ClassId} {ga : Nat → Nat → Nat} {Q : State → Prop} (S : CallFix p m c code 7 s #[.ref b] Wc RL) (hK : va_K D vwCl (tysL cA) s) (hX : Sx ga (fun q => s.heap.size ≤ q) s s.heap) (hN3 : Nc3 s) (hXs : va_X b L xs s s.heap) (hbl : b < s.heap.size) (hL : L ≤ 2048) {k9 i y mo ou cells slots : Nat} {H : Heap} {locs : List Loc} {ls : Array Slot} (hk : k9 < 512) (hi : i + 4 ≤ L) (hc : cells ≤ 30 + 10 * k9) (hs : slots ≤ 500 + 60 * k9)
    (hW : WLD cA ga D (fun q => s.heap.size ≤ q) y ou mo k9 H) (hS : va_S (fun q => s.heap.size ≤ q) s.heap H locs) (hl : lv_has ls 7 [(4, .int (nI i)), (3, .ref ou), (2, .ref mo), (1, .ref y), (0, .ref b)])
    (kk : ∀ (H1 : Heap) (locs1 : List Loc) (ls1 : Array Slot), WLD cA ga D (fun q => s.heap.size ≤ q) y ou mo (k9 + 1) H1 → va_S (fun q => s.heap.size ≤ q) s.heap H1 locs1 → lv_has ls1 7 [(4, .int (nI i)), (3, .ref ou), (2, .ref mo), (1, .ref y), (0, .ref b)] → W p l e room_1 s m #[.ref b] below meth c H1 locs1 (cells + 10) (slots + 60) Q (F0 m 1404 ls1 [])) :
    W p l e room_1 s m #[.ref b] below meth c H locs cells slots Q (F0 m 370 ls []) := by
  obtain ⟨sc, ar, w, ey, o, ad, q, φ, ψ, hP, rfl, rfl, hI, hm, rfl, hq, hφ, hψ, hd⟩ := hW
  have hj1 := hI.j1
  have hj0 := hI.j0.1
  have hA : ∀ q, s.heap.size ≤ q → (fun q => s.heap.size ≤ q) q := fun _ h => h
  refine lv_aload_n (pc := 370) S.1 S.2.1 dL_law_370 rfl (lv_at hl 3 rfl) ?_
  refine lv_aload_n (pc := 371) S.1 S.2.1 dL_law_371 rfl (lv_at hl 4 rfl) ?_
  refine lv_iload (pc := 372) S.1 S.2.1 dL_law_372 (lv_at hl 0 rfl) ?_
  refine lv_iconst (pc := 374) (v := nI 1) S.1 S.2.1 dL_law_374 (by decide) ?_
  refine lv_iadd (pc := 375) S.1 S.2.1 dL_law_375 ?_
  refine hv_ti (y := nI (i + 1)) (nI_add _ _) ?_
  refine va_sld (pc := 376) S.1 S.2.1 hXs hbl (Nat.not_le.mpr hbl) hS (vp_in_nI (by omega) (by omega)) dL_law_376 ?_
  refine hv_ti (y := xs (i + 1)) (by rw [nI_clamp (by omega)]) ?_
  refine lv_aload_n (pc := 377) S.1 S.2.1 dL_law_377 rfl (lv_at hl 4 rfl) ?_
  refine lv_iload (pc := 378) S.1 S.2.1 dL_law_378 (lv_at hl 0 rfl) ?_
  refine lv_iconst (pc := 380) (v := nI 2) S.1 S.2.1 dL_law_380 (by decide) ?_
  refine lv_iadd (pc := 381) S.1 S.2.1 dL_law_381 ?_
  refine hv_ti (y := nI (i + 2)) (nI_add _ _) ?_
  refine va_sld (pc := 382) S.1 S.2.1 hXs hbl (Nat.not_le.mpr hbl) hS (vp_in_nI (by omega) (by omega)) dL_law_382 ?_
  refine hv_ti (y := xs (i + 2)) (by rw [nI_clamp (by omega)]) ?_
  refine lv_aload_n (pc := 383) S.1 S.2.1 dL_law_383 rfl (lv_at hl 1 rfl) ?_
  refine hv_callP (φ := φ) (ψ := ψ) (pc := 384) (vx_runSW (As := [.ref (ad 0 0), .int (xs (i + 1)), .int (xs (i + 2)), .ref (ad 0 9)]) (rest := []) S (lw_cycle l hfl D cA ga φ H.size k9 sc ar w ey o ad (xs (i + 1)) (xs (i + 2)) hP hI (by omega)) (vx_cwSW 4 S.2.2.2.2 (gSW tw_674 tw_675 tw_0 tw_676) rfl rfl rfl (by decide +kernel) ⟨Nat.le_of_ble_eq_true rfl, Nat.le_of_ble_eq_true rfl⟩) (pre1_S hφ hK hX hS hA hN3) rfl rfl hl.1 rfl (lv_room (Nat.le_of_ble_eq_true rfl)) dL_law_384 ⟨Nat.le_trans (show _ ≤ 20000 by omega) (Nat.le_of_ble_eq_true rfl), Nat.le_trans (show _ ≤ 200000 by omega) (Nat.le_of_ble_eq_true rfl)⟩) hS hA hφ hψ hd (fun v φ1 H locs hw hφ hψ hd hS => ?_)
  obtain ⟨rfl, hw1, hw2⟩ := hw
  have hM31 : mcd 9 2 1 (cycleX (sc 3) (sc 5) (ar 3) (ar 7) (ar 12) (ar 8) (xs (i + 1)) (xs (i + 2))) < 10 := mcd_lt (by decide) (by decide) (by decide)
  refine lv_istore (pc := 387) (lv' := [(5, .int (nI (mcd 9 2 1 (cycleX (sc 3) (sc 5) (ar 3) (ar 7) (ar 12) (ar 8) (xs (i + 1)) (xs (i + 2)))))), (4, .int (nI i)), (3, .ref (ad 0 9)), (2, .ref (q 0)), (1, .ref (ad 0 0)), (0, .ref b)]) S.1 S.2.1 dL_law_387 hl (by decide) rfl (fun ls hl => ?_)
  refine lv_aload_n (pc := 389) S.1 S.2.1 dL_law_389 rfl (lv_at hl 3 rfl) ?_
  refine lv_aload_n (pc := 390) S.1 S.2.1 dL_law_390 rfl (lv_at hl 5 rfl) ?_
  refine lv_iload (pc := 391) S.1 S.2.1 dL_law_391 (lv_at hl 1 rfl) ?_
  refine lv_iconst (pc := 393) (v := nI 1) S.1 S.2.1 dL_law_393 (by decide) ?_
  refine lv_iadd (pc := 394) S.1 S.2.1 dL_law_394 ?_
  refine hv_ti (y := nI (i + 1)) (nI_add _ _) ?_
  refine va_sld (pc := 395) S.1 S.2.1 hXs hbl (Nat.not_le.mpr hbl) hS (vp_in_nI (by omega) (by omega)) dL_law_395 ?_
  refine hv_ti (y := xs (i + 1)) (by rw [nI_clamp (by omega)]) ?_
  refine lv_aload_n (pc := 396) S.1 S.2.1 dL_law_396 rfl (lv_at hl 5 rfl) ?_
  refine lv_iload (pc := 397) S.1 S.2.1 dL_law_397 (lv_at hl 1 rfl) ?_
  refine lv_iconst (pc := 399) (v := nI 2) S.1 S.2.1 dL_law_399 (by decide) ?_
  refine lv_iadd (pc := 400) S.1 S.2.1 dL_law_400 ?_
  refine hv_ti (y := nI (i + 2)) (nI_add _ _) ?_
  refine va_sld (pc := 401) S.1 S.2.1 hXs hbl (Nat.not_le.mpr hbl) hS (vp_in_nI (by omega) (by omega)) dL_law_401 ?_
  refine hv_ti (y := xs (i + 2)) (by rw [nI_clamp (by omega)]) ?_
  refine hv_callP (φ := ψ) (ψ := φ1) (pc := 402) (va_runV (As := [.int (xs (i + 1)), .int (xs (i + 2))]) (rest := []) S (c_m_cycle l D cA ga ψ H.size q sc ar (xs (i + 1)) (xs (i + 2)) hm hq (by omega) hI.hwb (by omega) (fun i => (hI.j3 i).1) (fun i => (hI.j3 i).2.1) (fun i => (hI.j3 i).2.2.1) hI.j7.1 (fun i => by have := hI.j9.2 i; omega)) (cwV 2 S.2.2.2.2 (gV tw_1053 tw_1054 tw_1055 tw_7 tw_1056) rfl rfl rfl (by decide +kernel) ⟨Nat.le_of_ble_eq_true rfl, Nat.le_of_ble_eq_true rfl⟩) (pre0_V hψ hK hX hS hA (hψ.recv hK hm.1 rfl)) rfl rfl hl.1 rfl (lv_room (Nat.le_of_ble_eq_true rfl)) dL_law_402 ⟨Nat.le_trans (show _ ≤ 20000 by omega) (Nat.le_of_ble_eq_true rfl), Nat.le_trans (show _ ≤ 200000 by omega) (Nat.le_of_ble_eq_true rfl)⟩) hS hA hψ hφ (fun x => (hd x).symm) (fun v ψ1 H locs hw hψ hφ hd hS => ?_)
  by_cases hz : cycleX (sc 3) (sc 5) (ar 3) (ar 7) (ar 12) (ar 8) (xs (i + 1)) (xs (i + 2)) = 0
  · skip
    have hM : mcd 9 2 1 (cycleX (sc 3) (sc 5) (ar 3) (ar 7) (ar 12) (ar 8) (xs (i + 1)) (xs (i + 2))) = 0 := by rw [hz]; rfl
    rw [if_pos hz] at hw
    have hn := hw2 hz
    obtain ⟨x1, z1, hx1, hz1, hbx, hbz, hN⟩ := hn
    obtain ⟨x2, z2, hx2, hz2, hc0, hc1, hc2, hc3, hc4, rfl, hm⟩ := hw
    have hex : x2 = x1 := jI_inj (hx2.symm.trans hx1) (by omega) (by omega)
    subst hex
    have hez : z2 = z1 := jI_inj (hz2.symm.trans hz1) (by omega) (by omega)
    subst hez
    obtain ⟨w', e', o', ad', ho', hy', hou', hP', hI'⟩ := hN
    refine lv_istore (pc := 405) (lv' := [(6, .int (nI (shA (ar 3 x2) (ar 4 (6 * x2))))), (5, .int (nI (mcd 9 2 1 (cycleX (sc 3) (sc 5) (ar 3) (ar 7) (ar 12) (ar 8) (xs (i + 1)) (xs (i + 2)))))), (4, .int (nI i)), (3, .ref (ad 0 9)), (2, .ref (q 0)), (1, .ref (ad 0 0)), (0, .ref b)]) S.1 S.2.1 dL_law_405 hl (by decide) rfl (fun ls hl => ?_)
    refine lv_aload_n (pc := 407) S.1 S.2.1 dL_law_407 rfl (lv_at hl 4 rfl) ?_
    refine hv_callP (φ := ψ1) (ψ := φ1) (pc := 408) (va_runV (As := []) (rest := []) S (c_m_thrown l D cA ga ψ1 H.size q (va_up sc 7 (0)) (va_up (va_up (va_up (va_up (va_up ar 4 (pfy (ar 4) (6 * x2) (fun b => shA (ar 3 x2) (ar 4 (6 * x2 + b))) 6)) 5 (pfy (ar 5) (6 * x2) (fun b => shL (ar 3 x2) (ar 5 (6 * x2 + b))) 6)) 7 (va_up (ar 7) x2 (ar 7 x2 + 1))) 12 (va_up (ar 12) z2 (ar 12 z2 + fAir (ar 3 x2)))) 13 (va_up (ar 13) z2 (ar 13 z2 + fAir (ar 3 x2)))) hm hq) (cwV 0 S.2.2.2.2 (gV tw_1013 tw_1014 tw_1015 tw_7 tw_1016) rfl rfl rfl (by decide +kernel) ⟨Nat.le_of_ble_eq_true rfl, Nat.le_of_ble_eq_true rfl⟩) (pre0_V hψ hK hX hS hA (hψ.recv hK hm.1 rfl)) rfl rfl hl.1 rfl (lv_room (Nat.le_of_ble_eq_true rfl)) dL_law_408 ⟨Nat.le_trans (show _ ≤ 20000 by omega) (Nat.le_of_ble_eq_true rfl), Nat.le_trans (show _ ≤ 200000 by omega) (Nat.le_of_ble_eq_true rfl)⟩) hS hA hψ hφ hd (fun v ψ2 H locs hw hψ hφ hd hS => ?_)
    obtain ⟨rfl, hps⟩ := hw
    rw [hps] at hψ hd
    refine hv_ti (y := nI 0) (rfl) ?_
    refine lv_iload (pc := 411) S.1 S.2.1 dL_law_411 (lv_at hl 1 rfl) ?_
    refine hv_icmp_eq (pc := 413) (tgt := 418) (a := 0) (b := mcd 9 2 1 (cycleX (sc 3) (sc 5) (ar 3) (ar 7) (ar 12) (ar 8) (xs (i + 1)) (xs (i + 2)))) S.1 S.2.1 (by omega) (by omega) dL_law_413 (by decide) (fun c_1 => ?_) (fun c_1 => ?_)
    · skip
      refine lv_iload (pc := 418) S.1 S.2.1 dL_law_418 (lv_at hl 1 rfl) ?_
      refine hv_if_ne (pc := 420) (tgt := 435) (a := mcd 9 2 1 (cycleX (sc 3) (sc 5) (ar 3) (ar 7) (ar 12) (ar 8) (xs (i + 1)) (xs (i + 2)))) S.1 S.2.1 (by omega) dL_law_420 (by decide) (fun c_2 => ?_) (fun c_2 => ?_)
      · skip
        exact absurd c_2 (by omega)
      · skip
        refine lv_aload_n (pc := 423) S.1 S.2.1 dL_law_423 rfl (lv_at hl 3 rfl) ?_
        refine lv_iconst (pc := 424) (v := nI 0) S.1 S.2.1 dL_law_424 (by decide) ?_
        have hfo : φ1 (ad 0 9) = some (.inl (cA 3, 1, .inr (.inl o'))) := by rw [← hou']; exact hP'.at (r := 0) (j := 9) rfl
        have hH := hφ
        refine hv_lald (pc := 425) S hK hH 3 hfo rfl (vp_in_nI (by decide) (by decide)) dL_law_425 ?_
        refine hv_tv (y := .long ((nI (shA (ar 3 x2) (ar 4 (6 * x2)))).toInt64)) (by rw [nI_clamp (by decide), ho']) ?_
        refine lv_iload (pc := 426) S.1 S.2.1 dL_law_426 (lv_at hl 0 rfl) ?_
        refine lv_i2l (pc := 428) (v := (nI (shA (ar 3 x2) (ar 4 (6 * x2)))).toInt64) S.1 S.2.1 dL_law_428 rfl ?_
        refine W.lcmp S.1 S.2.1 dL_law_429 ?_
        refine hv_ti (y := nI 0) (lgc _) ?_
        refine hv_if_eq (pc := 430) (tgt := 435) (a := 0) S.1 S.2.1 (by omega) dL_law_430 (by decide) (fun c_3 => ?_) (fun c_3 => ?_)
        · skip
          refine lv_goto (pc := 435) (tgt := 1404) S.1 S.2.1 dL_law_435 (by decide) ?_
          refine W.widen (k := cells + 10) (n := slots + 60) (by omega) (by omega) ?_
          exact kk _ _ _ ⟨(va_up sc 7 (0)), (va_up (va_up (va_up (va_up (va_up ar 4 (pfy (ar 4) (6 * x2) (fun b => shA (ar 3 x2) (ar 4 (6 * x2 + b))) 6)) 5 (pfy (ar 5) (6 * x2) (fun b => shL (ar 3 x2) (ar 5 (6 * x2 + b))) 6)) 7 (va_up (ar 7) x2 (ar 7 x2 + 1))) 12 (va_up (ar 12) z2 (ar 12 z2 + fAir (ar 3 x2)))) 13 (va_up (ar 13) z2 (ar 13 z2 + fAir (ar 3 x2)))), w', e', o', ad', q, φ1, ψ1, hP', hy', hou', hI', hm, rfl, hq, hφ, hψ, fun x => (hd x).symm⟩ hS (lv_sub hl [2, 3, 4, 5, 6] rfl)
        · skip
          exact absurd c_3 (by omega)
    · skip
      exact absurd c_1 (by omega)
  · skip
    have hor : cycleX (sc 3) (sc 5) (ar 3) (ar 7) (ar 12) (ar 8) (xs (i + 1)) (xs (i + 2)) ≤ 3 := by unfold cycleX; (repeat' split) <;> decide
    have hM0 := mcd_ne (a := 9) (b := 2) (c := 1) (by decide) (by decide) (by decide) hz hor
    rw [if_neg hz] at hw
    obtain ⟨rfl, hm⟩ := hw
    refine lv_istore (pc := 405) (lv' := [(6, .int (nI 0)), (5, .int (nI (mcd 9 2 1 (cycleX (sc 3) (sc 5) (ar 3) (ar 7) (ar 12) (ar 8) (xs (i + 1)) (xs (i + 2)))))), (4, .int (nI i)), (3, .ref (ad 0 9)), (2, .ref (q 0)), (1, .ref (ad 0 0)), (0, .ref b)]) S.1 S.2.1 dL_law_405 hl (by decide) rfl (fun ls hl => ?_)
    refine lv_aload_n (pc := 407) S.1 S.2.1 dL_law_407 rfl (lv_at hl 4 rfl) ?_
    refine hv_callP (φ := ψ1) (ψ := φ1) (pc := 408) (va_runV (As := []) (rest := []) S (c_m_thrown l D cA ga ψ1 H.size q (va_up sc 7 (mcd 9 2 1 (cycleX (sc 3) (sc 5) (ar 3) (ar 7) (ar 12) (ar 8) (xs (i + 1)) (xs (i + 2))))) (ar) hm hq) (cwV 0 S.2.2.2.2 (gV tw_1013 tw_1014 tw_1015 tw_7 tw_1016) rfl rfl rfl (by decide +kernel) ⟨Nat.le_of_ble_eq_true rfl, Nat.le_of_ble_eq_true rfl⟩) (pre0_V hψ hK hX hS hA (hψ.recv hK hm.1 rfl)) rfl rfl hl.1 rfl (lv_room (Nat.le_of_ble_eq_true rfl)) dL_law_408 ⟨Nat.le_trans (show _ ≤ 20000 by omega) (Nat.le_of_ble_eq_true rfl), Nat.le_trans (show _ ≤ 200000 by omega) (Nat.le_of_ble_eq_true rfl)⟩) hS hA hψ hφ hd (fun v ψ2 H locs hw hψ hφ hd hS => ?_)
    obtain ⟨rfl, hps⟩ := hw
    rw [hps] at hψ hd
    refine hv_ti (y := nI (mcd 9 2 1 (cycleX (sc 3) (sc 5) (ar 3) (ar 7) (ar 12) (ar 8) (xs (i + 1)) (xs (i + 2))))) (rfl) ?_
    refine lv_iload (pc := 411) S.1 S.2.1 dL_law_411 (lv_at hl 1 rfl) ?_
    refine hv_icmp_eq (pc := 413) (tgt := 418) (a := mcd 9 2 1 (cycleX (sc 3) (sc 5) (ar 3) (ar 7) (ar 12) (ar 8) (xs (i + 1)) (xs (i + 2)))) (b := mcd 9 2 1 (cycleX (sc 3) (sc 5) (ar 3) (ar 7) (ar 12) (ar 8) (xs (i + 1)) (xs (i + 2)))) S.1 S.2.1 (by omega) (by omega) dL_law_413 (by decide) (fun c_4 => ?_) (fun c_4 => ?_)
    · skip
      refine lv_iload (pc := 418) S.1 S.2.1 dL_law_418 (lv_at hl 1 rfl) ?_
      refine hv_if_ne (pc := 420) (tgt := 435) (a := mcd 9 2 1 (cycleX (sc 3) (sc 5) (ar 3) (ar 7) (ar 12) (ar 8) (xs (i + 1)) (xs (i + 2)))) S.1 S.2.1 (by omega) dL_law_420 (by decide) (fun c_5 => ?_) (fun c_5 => ?_)
      · skip
        refine lv_goto (pc := 435) (tgt := 1404) S.1 S.2.1 dL_law_435 (by decide) ?_
        refine W.widen (k := cells + 10) (n := slots + 60) (by omega) (by omega) ?_
        exact kk _ _ _ ⟨(va_up sc 7 (mcd 9 2 1 (cycleX (sc 3) (sc 5) (ar 3) (ar 7) (ar 12) (ar 8) (xs (i + 1)) (xs (i + 2))))), ar, w, ey, o, ad, q, φ1, ψ1, yp_same (hw1 hz) _, rfl, rfl, hI.mono _, hm, rfl, hq, hφ, hψ, fun x => (hd x).symm⟩ hS (lv_sub hl [2, 3, 4, 5, 6] rfl)
      · skip
        exact absurd c_5 (by omega)
    · skip
      exact absurd c_4 (by omega)
set_option maxHeartbeats 4000000 in
set_option maxRecDepth 100000 in
theorem law_block (l : Launch) (hfl : l.stackTraces = false) {p : Program} {e : Env} {s : State} {m : MethodId} {below : List Frame} {meth : Method} {c : Code} {b L : Nat} {xs : Nat → Int32} {D : va_G} {cA : Nat → ClassId} {ga : Nat → Nat → Nat} {Q : State → Prop} (S : CallFix p m c code 7 s #[.ref b] Wc RL) (hK : va_K D vwCl (tysL cA) s) (hX : Sx ga (fun q => s.heap.size ≤ q) s s.heap) (hN3 : Nc3 s) (hXs : va_X b L xs s s.heap) (hbl : b < s.heap.size) (hL : L ≤ 2048) {k9 i y mo ou cells slots : Nat} {H : Heap} {locs : List Loc} {ls : Array Slot} (hk : k9 < 512) (hi : i + 4 ≤ L) (hc : cells ≤ 30 + 10 * k9) (hs : slots ≤ 500 + 60 * k9)
    (hW : WLD cA ga D (fun q => s.heap.size ≤ q) y ou mo k9 H) (hS : va_S (fun q => s.heap.size ≤ q) s.heap H locs) (hl : lv_has ls 7 [(4, .int (nI i)), (3, .ref ou), (2, .ref mo), (1, .ref y), (0, .ref b)])
    (kk : ∀ (H1 : Heap) (locs1 : List Loc) (ls1 : Array Slot), WLD cA ga D (fun q => s.heap.size ≤ q) y ou mo (k9 + 1) H1 → va_S (fun q => s.heap.size ≤ q) s.heap H1 locs1 → lv_has ls1 7 [(4, .int (nI i)), (3, .ref ou), (2, .ref mo), (1, .ref y), (0, .ref b)] → W p l e room_1 s m #[.ref b] below meth c H1 locs1 (cells + 10) (slots + 60) Q (F0 m 1404 ls1 [])) :
    W p l e room_1 s m #[.ref b] below meth c H locs cells slots Q (F0 m 438 ls []) := by
  obtain ⟨sc, ar, w, ey, o, ad, q, φ, ψ, hP, rfl, rfl, hI, hm, rfl, hq, hφ, hψ, hd⟩ := hW
  have hj1 := hI.j1
  have hj0 := hI.j0.1
  have hA : ∀ q, s.heap.size ≤ q → (fun q => s.heap.size ≤ q) q := fun _ h => h
  refine lv_aload_n (pc := 438) S.1 S.2.1 dL_law_438 rfl (lv_at hl 3 rfl) ?_
  refine lv_aload_n (pc := 439) S.1 S.2.1 dL_law_439 rfl (lv_at hl 4 rfl) ?_
  refine lv_iload (pc := 440) S.1 S.2.1 dL_law_440 (lv_at hl 0 rfl) ?_
  refine lv_iconst (pc := 442) (v := nI 1) S.1 S.2.1 dL_law_442 (by decide) ?_
  refine lv_iadd (pc := 443) S.1 S.2.1 dL_law_443 ?_
  refine hv_ti (y := nI (i + 1)) (nI_add _ _) ?_
  refine va_sld (pc := 444) S.1 S.2.1 hXs hbl (Nat.not_le.mpr hbl) hS (vp_in_nI (by omega) (by omega)) dL_law_444 ?_
  refine hv_ti (y := xs (i + 1)) (by rw [nI_clamp (by omega)]) ?_
  refine lv_aload_n (pc := 445) S.1 S.2.1 dL_law_445 rfl (lv_at hl 4 rfl) ?_
  refine lv_iload (pc := 446) S.1 S.2.1 dL_law_446 (lv_at hl 0 rfl) ?_
  refine lv_iconst (pc := 448) (v := nI 2) S.1 S.2.1 dL_law_448 (by decide) ?_
  refine lv_iadd (pc := 449) S.1 S.2.1 dL_law_449 ?_
  refine hv_ti (y := nI (i + 2)) (nI_add _ _) ?_
  refine va_sld (pc := 450) S.1 S.2.1 hXs hbl (Nat.not_le.mpr hbl) hS (vp_in_nI (by omega) (by omega)) dL_law_450 ?_
  refine hv_ti (y := xs (i + 2)) (by rw [nI_clamp (by omega)]) ?_
  refine lv_aload_n (pc := 451) S.1 S.2.1 dL_law_451 rfl (lv_at hl 1 rfl) ?_
  refine hv_callP (φ := φ) (ψ := ψ) (pc := 452) (vx_runSW (As := [.ref (ad 0 0), .int (xs (i + 1)), .int (xs (i + 2)), .ref (ad 0 9)]) (rest := []) S (lw_block l hfl D cA ga φ H.size k9 sc ar w ey o ad (xs (i + 1)) (xs (i + 2)) hP hI (by omega)) (vx_cwSW 4 S.2.2.2.2 (gSW tw_714 tw_715 tw_0 tw_716) rfl rfl rfl (by decide +kernel) ⟨Nat.le_of_ble_eq_true rfl, Nat.le_of_ble_eq_true rfl⟩) (pre1_S hφ hK hX hS hA hN3) rfl rfl hl.1 rfl (lv_room (Nat.le_of_ble_eq_true rfl)) dL_law_452 ⟨Nat.le_trans (show _ ≤ 20000 by omega) (Nat.le_of_ble_eq_true rfl), Nat.le_trans (show _ ≤ 200000 by omega) (Nat.le_of_ble_eq_true rfl)⟩) hS hA hφ hψ hd (fun v φ1 H locs hw hφ hψ hd hS => ?_)
  obtain ⟨rfl, hw1, hw2⟩ := hw
  have hM31 : mcd 1 2 9 (blockX (sc 4) (xs (i + 1)) (xs (i + 2))) < 10 := mcd_lt (by decide) (by decide) (by decide)
  refine lv_istore (pc := 455) (lv' := [(5, .int (nI (mcd 1 2 9 (blockX (sc 4) (xs (i + 1)) (xs (i + 2)))))), (4, .int (nI i)), (3, .ref (ad 0 9)), (2, .ref (q 0)), (1, .ref (ad 0 0)), (0, .ref b)]) S.1 S.2.1 dL_law_455 hl (by decide) rfl (fun ls hl => ?_)
  refine lv_aload_n (pc := 457) S.1 S.2.1 dL_law_457 rfl (lv_at hl 3 rfl) ?_
  refine lv_aload_n (pc := 458) S.1 S.2.1 dL_law_458 rfl (lv_at hl 5 rfl) ?_
  refine lv_iload (pc := 459) S.1 S.2.1 dL_law_459 (lv_at hl 1 rfl) ?_
  refine lv_iconst (pc := 461) (v := nI 1) S.1 S.2.1 dL_law_461 (by decide) ?_
  refine lv_iadd (pc := 462) S.1 S.2.1 dL_law_462 ?_
  refine hv_ti (y := nI (i + 1)) (nI_add _ _) ?_
  refine va_sld (pc := 463) S.1 S.2.1 hXs hbl (Nat.not_le.mpr hbl) hS (vp_in_nI (by omega) (by omega)) dL_law_463 ?_
  refine hv_ti (y := xs (i + 1)) (by rw [nI_clamp (by omega)]) ?_
  refine lv_aload_n (pc := 464) S.1 S.2.1 dL_law_464 rfl (lv_at hl 5 rfl) ?_
  refine lv_iload (pc := 465) S.1 S.2.1 dL_law_465 (lv_at hl 1 rfl) ?_
  refine lv_iconst (pc := 467) (v := nI 2) S.1 S.2.1 dL_law_467 (by decide) ?_
  refine lv_iadd (pc := 468) S.1 S.2.1 dL_law_468 ?_
  refine hv_ti (y := nI (i + 2)) (nI_add _ _) ?_
  refine va_sld (pc := 469) S.1 S.2.1 hXs hbl (Nat.not_le.mpr hbl) hS (vp_in_nI (by omega) (by omega)) dL_law_469 ?_
  refine hv_ti (y := xs (i + 2)) (by rw [nI_clamp (by omega)]) ?_
  refine hv_callP (φ := ψ) (ψ := φ1) (pc := 470) (va_runV (As := [.int (xs (i + 1)), .int (xs (i + 2))]) (rest := []) S (c_m_block l D cA ga ψ H.size q sc ar (xs (i + 1)) (xs (i + 2)) hm hq (by omega)) (cwV 2 S.2.2.2.2 (gV tw_1073 tw_1074 tw_1075 tw_7 tw_1076) rfl rfl rfl (by decide +kernel) ⟨Nat.le_of_ble_eq_true rfl, Nat.le_of_ble_eq_true rfl⟩) (pre0_V hψ hK hX hS hA (hψ.recv hK hm.1 rfl)) rfl rfl hl.1 rfl (lv_room (Nat.le_of_ble_eq_true rfl)) dL_law_470 ⟨Nat.le_trans (show _ ≤ 20000 by omega) (Nat.le_of_ble_eq_true rfl), Nat.le_trans (show _ ≤ 200000 by omega) (Nat.le_of_ble_eq_true rfl)⟩) hS hA hψ hφ (fun x => (hd x).symm) (fun v ψ1 H locs hw hψ hφ hd hS => ?_)
  by_cases hz : blockX (sc 4) (xs (i + 1)) (xs (i + 2)) = 0
  · skip
    have hM : mcd 1 2 9 (blockX (sc 4) (xs (i + 1)) (xs (i + 2))) = 0 := by rw [hz]; rfl
    rw [if_pos hz] at hw
    have hn := hw2 hz
    obtain ⟨x1, z1, hx1, hz1, hbx, hbz, hN⟩ := hn
    obtain ⟨x2, z2, hx2, hz2, hc0, hc1, hc2, hc3, rfl, hm⟩ := hw
    have hex : x2 = x1 := jI_inj (hx2.symm.trans hx1) (by omega) (by omega)
    subst hex
    have hez : z2 = z1 := jI_inj (hz2.symm.trans hz1) (by omega) (by omega)
    subst hez
    obtain ⟨w', e', o', ad', ho', hy', hou', hP', hI'⟩ := hN
    refine lv_istore (pc := 473) (lv' := [(6, .int (nI (sc 4))), (5, .int (nI (mcd 1 2 9 (blockX (sc 4) (xs (i + 1)) (xs (i + 2)))))), (4, .int (nI i)), (3, .ref (ad 0 9)), (2, .ref (q 0)), (1, .ref (ad 0 0)), (0, .ref b)]) S.1 S.2.1 dL_law_473 hl (by decide) rfl (fun ls hl => ?_)
    refine lv_aload_n (pc := 475) S.1 S.2.1 dL_law_475 rfl (lv_at hl 4 rfl) ?_
    refine hv_callP (φ := ψ1) (ψ := φ1) (pc := 476) (va_runV (As := []) (rest := []) S (c_m_thrown l D cA ga ψ1 H.size q (va_up (va_up sc 4 (sc 4 + 1)) 7 (0)) (va_up (va_up ar 10 (va_up (ar 10) (sc 4) x2)) 11 (va_up (ar 11) (sc 4) z2)) hm hq) (cwV 0 S.2.2.2.2 (gV tw_1013 tw_1014 tw_1015 tw_7 tw_1016) rfl rfl rfl (by decide +kernel) ⟨Nat.le_of_ble_eq_true rfl, Nat.le_of_ble_eq_true rfl⟩) (pre0_V hψ hK hX hS hA (hψ.recv hK hm.1 rfl)) rfl rfl hl.1 rfl (lv_room (Nat.le_of_ble_eq_true rfl)) dL_law_476 ⟨Nat.le_trans (show _ ≤ 20000 by omega) (Nat.le_of_ble_eq_true rfl), Nat.le_trans (show _ ≤ 200000 by omega) (Nat.le_of_ble_eq_true rfl)⟩) hS hA hψ hφ hd (fun v ψ2 H locs hw hψ hφ hd hS => ?_)
    obtain ⟨rfl, hps⟩ := hw
    rw [hps] at hψ hd
    refine hv_ti (y := nI 0) (rfl) ?_
    refine lv_iload (pc := 479) S.1 S.2.1 dL_law_479 (lv_at hl 1 rfl) ?_
    refine hv_icmp_eq (pc := 481) (tgt := 486) (a := 0) (b := mcd 1 2 9 (blockX (sc 4) (xs (i + 1)) (xs (i + 2)))) S.1 S.2.1 (by omega) (by omega) dL_law_481 (by decide) (fun c_1 => ?_) (fun c_1 => ?_)
    · skip
      refine lv_iload (pc := 486) S.1 S.2.1 dL_law_486 (lv_at hl 1 rfl) ?_
      refine hv_if_ne (pc := 488) (tgt := 503) (a := mcd 1 2 9 (blockX (sc 4) (xs (i + 1)) (xs (i + 2)))) S.1 S.2.1 (by omega) dL_law_488 (by decide) (fun c_2 => ?_) (fun c_2 => ?_)
      · skip
        exact absurd c_2 (by omega)
      · skip
        refine lv_aload_n (pc := 491) S.1 S.2.1 dL_law_491 rfl (lv_at hl 3 rfl) ?_
        refine lv_iconst (pc := 492) (v := nI 0) S.1 S.2.1 dL_law_492 (by decide) ?_
        have hfo : φ1 (ad 0 9) = some (.inl (cA 3, 1, .inr (.inl o'))) := by rw [← hou']; exact hP'.at (r := 0) (j := 9) rfl
        have hH := hφ
        refine hv_lald (pc := 493) S hK hH 3 hfo rfl (vp_in_nI (by decide) (by decide)) dL_law_493 ?_
        refine hv_tv (y := .long ((nI (sc 4)).toInt64)) (by rw [nI_clamp (by decide), ho']) ?_
        refine lv_iload (pc := 494) S.1 S.2.1 dL_law_494 (lv_at hl 0 rfl) ?_
        refine lv_i2l (pc := 496) (v := (nI (sc 4)).toInt64) S.1 S.2.1 dL_law_496 rfl ?_
        refine W.lcmp S.1 S.2.1 dL_law_497 ?_
        refine hv_ti (y := nI 0) (lgc _) ?_
        refine hv_if_eq (pc := 498) (tgt := 503) (a := 0) S.1 S.2.1 (by omega) dL_law_498 (by decide) (fun c_3 => ?_) (fun c_3 => ?_)
        · skip
          refine lv_goto (pc := 503) (tgt := 1404) S.1 S.2.1 dL_law_503 (by decide) ?_
          refine W.widen (k := cells + 10) (n := slots + 60) (by omega) (by omega) ?_
          exact kk _ _ _ ⟨(va_up (va_up sc 4 (sc 4 + 1)) 7 (0)), (va_up (va_up ar 10 (va_up (ar 10) (sc 4) x2)) 11 (va_up (ar 11) (sc 4) z2)), w', e', o', ad', q, φ1, ψ1, hP', hy', hou', hI', hm, rfl, hq, hφ, hψ, fun x => (hd x).symm⟩ hS (lv_sub hl [2, 3, 4, 5, 6] rfl)
        · skip
          exact absurd c_3 (by omega)
    · skip
      exact absurd c_1 (by omega)
  · skip
    have hor : blockX (sc 4) (xs (i + 1)) (xs (i + 2)) ≤ 3 := by unfold blockX; (repeat' split) <;> decide
    have hM0 := mcd_ne (a := 1) (b := 2) (c := 9) (by decide) (by decide) (by decide) hz hor
    rw [if_neg hz] at hw
    obtain ⟨rfl, hm⟩ := hw
    refine lv_istore (pc := 473) (lv' := [(6, .int (nI 0)), (5, .int (nI (mcd 1 2 9 (blockX (sc 4) (xs (i + 1)) (xs (i + 2)))))), (4, .int (nI i)), (3, .ref (ad 0 9)), (2, .ref (q 0)), (1, .ref (ad 0 0)), (0, .ref b)]) S.1 S.2.1 dL_law_473 hl (by decide) rfl (fun ls hl => ?_)
    refine lv_aload_n (pc := 475) S.1 S.2.1 dL_law_475 rfl (lv_at hl 4 rfl) ?_
    refine hv_callP (φ := ψ1) (ψ := φ1) (pc := 476) (va_runV (As := []) (rest := []) S (c_m_thrown l D cA ga ψ1 H.size q (va_up sc 7 (mcd 1 2 9 (blockX (sc 4) (xs (i + 1)) (xs (i + 2))))) (ar) hm hq) (cwV 0 S.2.2.2.2 (gV tw_1013 tw_1014 tw_1015 tw_7 tw_1016) rfl rfl rfl (by decide +kernel) ⟨Nat.le_of_ble_eq_true rfl, Nat.le_of_ble_eq_true rfl⟩) (pre0_V hψ hK hX hS hA (hψ.recv hK hm.1 rfl)) rfl rfl hl.1 rfl (lv_room (Nat.le_of_ble_eq_true rfl)) dL_law_476 ⟨Nat.le_trans (show _ ≤ 20000 by omega) (Nat.le_of_ble_eq_true rfl), Nat.le_trans (show _ ≤ 200000 by omega) (Nat.le_of_ble_eq_true rfl)⟩) hS hA hψ hφ hd (fun v ψ2 H locs hw hψ hφ hd hS => ?_)
    obtain ⟨rfl, hps⟩ := hw
    rw [hps] at hψ hd
    refine hv_ti (y := nI (mcd 1 2 9 (blockX (sc 4) (xs (i + 1)) (xs (i + 2))))) (rfl) ?_
    refine lv_iload (pc := 479) S.1 S.2.1 dL_law_479 (lv_at hl 1 rfl) ?_
    refine hv_icmp_eq (pc := 481) (tgt := 486) (a := mcd 1 2 9 (blockX (sc 4) (xs (i + 1)) (xs (i + 2)))) (b := mcd 1 2 9 (blockX (sc 4) (xs (i + 1)) (xs (i + 2)))) S.1 S.2.1 (by omega) (by omega) dL_law_481 (by decide) (fun c_4 => ?_) (fun c_4 => ?_)
    · skip
      refine lv_iload (pc := 486) S.1 S.2.1 dL_law_486 (lv_at hl 1 rfl) ?_
      refine hv_if_ne (pc := 488) (tgt := 503) (a := mcd 1 2 9 (blockX (sc 4) (xs (i + 1)) (xs (i + 2)))) S.1 S.2.1 (by omega) dL_law_488 (by decide) (fun c_5 => ?_) (fun c_5 => ?_)
      · skip
        refine lv_goto (pc := 503) (tgt := 1404) S.1 S.2.1 dL_law_503 (by decide) ?_
        refine W.widen (k := cells + 10) (n := slots + 60) (by omega) (by omega) ?_
        exact kk _ _ _ ⟨(va_up sc 7 (mcd 1 2 9 (blockX (sc 4) (xs (i + 1)) (xs (i + 2))))), ar, w, ey, o, ad, q, φ1, ψ1, yp_same (hw1 hz) _, rfl, rfl, hI.mono _, hm, rfl, hq, hφ, hψ, fun x => (hd x).symm⟩ hS (lv_sub hl [2, 3, 4, 5, 6] rfl)
      · skip
        exact absurd c_5 (by omega)
    · skip
      exact absurd c_4 (by omega)
set_option maxHeartbeats 4000000 in
set_option maxRecDepth 100000 in
theorem law_draw (l : Launch) (hfl : l.stackTraces = false) {p : Program} {e : Env} {s : State} {m : MethodId} {below : List Frame} {meth : Method} {c : Code} {b L : Nat} {xs : Nat → Int32} {D : va_G} {cA : Nat → ClassId} {ga : Nat → Nat → Nat} {Q : State → Prop} (S : CallFix p m c code 7 s #[.ref b] Wc RL) (hK : va_K D vwCl (tysL cA) s) (hX : Sx ga (fun q => s.heap.size ≤ q) s s.heap) (hN3 : Nc3 s) (hXs : va_X b L xs s s.heap) (hbl : b < s.heap.size) (hL : L ≤ 2048) {k9 i y mo ou cells slots : Nat} {H : Heap} {locs : List Loc} {ls : Array Slot} (hk : k9 < 512) (hi : i + 4 ≤ L) (hc : cells ≤ 30 + 10 * k9) (hs : slots ≤ 500 + 60 * k9)
    (hW : WLD cA ga D (fun q => s.heap.size ≤ q) y ou mo k9 H) (hS : va_S (fun q => s.heap.size ≤ q) s.heap H locs) (hl : lv_has ls 7 [(4, .int (nI i)), (3, .ref ou), (2, .ref mo), (1, .ref y), (0, .ref b)])
    (kk : ∀ (H1 : Heap) (locs1 : List Loc) (ls1 : Array Slot), WLD cA ga D (fun q => s.heap.size ≤ q) y ou mo (k9 + 1) H1 → va_S (fun q => s.heap.size ≤ q) s.heap H1 locs1 → lv_has ls1 7 [(4, .int (nI i)), (3, .ref ou), (2, .ref mo), (1, .ref y), (0, .ref b)] → W p l e room_1 s m #[.ref b] below meth c H1 locs1 (cells + 10) (slots + 60) Q (F0 m 1404 ls1 [])) :
    W p l e room_1 s m #[.ref b] below meth c H locs cells slots Q (F0 m 506 ls []) := by
  obtain ⟨sc, ar, w, ey, o, ad, q, φ, ψ, hP, rfl, rfl, hI, hm, rfl, hq, hφ, hψ, hd⟩ := hW
  have hj1 := hI.j1
  have hj0 := hI.j0.1
  have hA : ∀ q, s.heap.size ≤ q → (fun q => s.heap.size ≤ q) q := fun _ h => h
  refine lv_aload_n (pc := 506) S.1 S.2.1 dL_law_506 rfl (lv_at hl 3 rfl) ?_
  refine lv_aload_n (pc := 507) S.1 S.2.1 dL_law_507 rfl (lv_at hl 4 rfl) ?_
  refine lv_iload (pc := 508) S.1 S.2.1 dL_law_508 (lv_at hl 0 rfl) ?_
  refine lv_iconst (pc := 510) (v := nI 1) S.1 S.2.1 dL_law_510 (by decide) ?_
  refine lv_iadd (pc := 511) S.1 S.2.1 dL_law_511 ?_
  refine hv_ti (y := nI (i + 1)) (nI_add _ _) ?_
  refine va_sld (pc := 512) S.1 S.2.1 hXs hbl (Nat.not_le.mpr hbl) hS (vp_in_nI (by omega) (by omega)) dL_law_512 ?_
  refine hv_ti (y := xs (i + 1)) (by rw [nI_clamp (by omega)]) ?_
  refine lv_aload_n (pc := 513) S.1 S.2.1 dL_law_513 rfl (lv_at hl 4 rfl) ?_
  refine lv_iload (pc := 514) S.1 S.2.1 dL_law_514 (lv_at hl 0 rfl) ?_
  refine lv_iconst (pc := 516) (v := nI 2) S.1 S.2.1 dL_law_516 (by decide) ?_
  refine lv_iadd (pc := 517) S.1 S.2.1 dL_law_517 ?_
  refine hv_ti (y := nI (i + 2)) (nI_add _ _) ?_
  refine va_sld (pc := 518) S.1 S.2.1 hXs hbl (Nat.not_le.mpr hbl) hS (vp_in_nI (by omega) (by omega)) dL_law_518 ?_
  refine hv_ti (y := xs (i + 2)) (by rw [nI_clamp (by omega)]) ?_
  refine lv_aload_n (pc := 519) S.1 S.2.1 dL_law_519 rfl (lv_at hl 1 rfl) ?_
  refine hv_callP (φ := φ) (ψ := ψ) (pc := 520) (vx_runSW (As := [.ref (ad 0 0), .int (xs (i + 1)), .int (xs (i + 2)), .ref (ad 0 9)]) (rest := []) S (lw_draw l hfl D cA ga φ H.size k9 sc ar w ey o ad (xs (i + 1)) (xs (i + 2)) hP hI (by omega)) (vx_cwSW 4 S.2.2.2.2 (gSW tw_733 tw_734 tw_0 tw_735) rfl rfl rfl (by decide +kernel) ⟨Nat.le_of_ble_eq_true rfl, Nat.le_of_ble_eq_true rfl⟩) (pre1_S hφ hK hX hS hA hN3) rfl rfl hl.1 rfl (lv_room (Nat.le_of_ble_eq_true rfl)) dL_law_520 ⟨Nat.le_trans (show _ ≤ 20000 by omega) (Nat.le_of_ble_eq_true rfl), Nat.le_trans (show _ ≤ 200000 by omega) (Nat.le_of_ble_eq_true rfl)⟩) hS hA hφ hψ hd (fun v φ1 H locs hw hφ hψ hd hS => ?_)
  obtain ⟨rfl, hw1, hw2⟩ := hw
  have hM31 : mcd 9 9 1 (drawX (sc 3) (sc 4) (xs (i + 1)) (xs (i + 2))) < 10 := mcd_lt (by decide) (by decide) (by decide)
  refine lv_istore (pc := 523) (lv' := [(5, .int (nI (mcd 9 9 1 (drawX (sc 3) (sc 4) (xs (i + 1)) (xs (i + 2)))))), (4, .int (nI i)), (3, .ref (ad 0 9)), (2, .ref (q 0)), (1, .ref (ad 0 0)), (0, .ref b)]) S.1 S.2.1 dL_law_523 hl (by decide) rfl (fun ls hl => ?_)
  refine lv_aload_n (pc := 525) S.1 S.2.1 dL_law_525 rfl (lv_at hl 3 rfl) ?_
  refine lv_aload_n (pc := 526) S.1 S.2.1 dL_law_526 rfl (lv_at hl 5 rfl) ?_
  refine lv_iload (pc := 527) S.1 S.2.1 dL_law_527 (lv_at hl 1 rfl) ?_
  refine lv_iconst (pc := 529) (v := nI 1) S.1 S.2.1 dL_law_529 (by decide) ?_
  refine lv_iadd (pc := 530) S.1 S.2.1 dL_law_530 ?_
  refine hv_ti (y := nI (i + 1)) (nI_add _ _) ?_
  refine va_sld (pc := 531) S.1 S.2.1 hXs hbl (Nat.not_le.mpr hbl) hS (vp_in_nI (by omega) (by omega)) dL_law_531 ?_
  refine hv_ti (y := xs (i + 1)) (by rw [nI_clamp (by omega)]) ?_
  refine lv_aload_n (pc := 532) S.1 S.2.1 dL_law_532 rfl (lv_at hl 5 rfl) ?_
  refine lv_iload (pc := 533) S.1 S.2.1 dL_law_533 (lv_at hl 1 rfl) ?_
  refine lv_iconst (pc := 535) (v := nI 2) S.1 S.2.1 dL_law_535 (by decide) ?_
  refine lv_iadd (pc := 536) S.1 S.2.1 dL_law_536 ?_
  refine hv_ti (y := nI (i + 2)) (nI_add _ _) ?_
  refine va_sld (pc := 537) S.1 S.2.1 hXs hbl (Nat.not_le.mpr hbl) hS (vp_in_nI (by omega) (by omega)) dL_law_537 ?_
  refine hv_ti (y := xs (i + 2)) (by rw [nI_clamp (by omega)]) ?_
  refine hv_callP (φ := ψ) (ψ := φ1) (pc := 538) (va_runV (As := [.int (xs (i + 1)), .int (xs (i + 2))]) (rest := []) S (c_m_draw l D cA ga ψ H.size q sc ar (xs (i + 1)) (xs (i + 2)) hm hq (by omega) hI.hwb (by omega) (fun i => (hI.j3 i).1) hI.j6) (cwV 2 S.2.2.2.2 (gV tw_1077 tw_1078 tw_1079 tw_7 tw_1080) rfl rfl rfl (by decide +kernel) ⟨Nat.le_of_ble_eq_true rfl, Nat.le_of_ble_eq_true rfl⟩) (pre0_V hψ hK hX hS hA (hψ.recv hK hm.1 rfl)) rfl rfl hl.1 rfl (lv_room (Nat.le_of_ble_eq_true rfl)) dL_law_538 ⟨Nat.le_trans (show _ ≤ 20000 by omega) (Nat.le_of_ble_eq_true rfl), Nat.le_trans (show _ ≤ 200000 by omega) (Nat.le_of_ble_eq_true rfl)⟩) hS hA hψ hφ (fun x => (hd x).symm) (fun v ψ1 H locs hw hψ hφ hd hS => ?_)
  by_cases hz : drawX (sc 3) (sc 4) (xs (i + 1)) (xs (i + 2)) = 0
  · skip
    have hM : mcd 9 9 1 (drawX (sc 3) (sc 4) (xs (i + 1)) (xs (i + 2))) = 0 := by rw [hz]; rfl
    rw [if_pos hz] at hw
    have hn := hw2 hz
    obtain ⟨x1, z1, hx1, hz1, hbx, hbz, hNn, hNz⟩ := hn
    obtain ⟨x2, z2, hx2, hz2, hc0, hc1, rfl, hmn, hmz⟩ := hw
    have hex : x2 = x1 := jI_inj (hx2.symm.trans hx1) (by omega) (by omega)
    subst hex
    have hez : z2 = z1 := jI_inj (hz2.symm.trans hz1) (by omega) (by omega)
    subst hez
    by_cases hr0 : mhR (ar 3 x2) (fun j => ar 6 (6 * x2 + j) * 100000 / (ar 4 (6 * x2 + j) * ar 5 (6 * x2 + j))) (fun j => ar 4 (6 * x2 + j)) (bW (ar 10 z2) (ar 11 z2)) = 0
    · skip
      have hN := hNz hr0
      have hm := hmz hr0
      obtain ⟨w', e', o', ad', ho', hy', hou', hP', hI'⟩ := hN
      refine lv_istore (pc := 541) (lv' := [(6, .int (nI (mhR (ar 3 x2) (fun j => ar 6 (6 * x2 + j) * 100000 / (ar 4 (6 * x2 + j) * ar 5 (6 * x2 + j))) (fun j => ar 4 (6 * x2 + j)) (bW (ar 10 z2) (ar 11 z2))))), (5, .int (nI (mcd 9 9 1 (drawX (sc 3) (sc 4) (xs (i + 1)) (xs (i + 2)))))), (4, .int (nI i)), (3, .ref (ad 0 9)), (2, .ref (q 0)), (1, .ref (ad 0 0)), (0, .ref b)]) S.1 S.2.1 dL_law_541 hl (by decide) rfl (fun ls hl => ?_)
      refine lv_aload_n (pc := 543) S.1 S.2.1 dL_law_543 rfl (lv_at hl 4 rfl) ?_
      refine hv_callP (φ := ψ1) (ψ := φ1) (pc := 544) (va_runV (As := []) (rest := []) S (c_m_thrown l D cA ga ψ1 H.size q (va_up sc 7 (0)) (va_up (va_up ar 4 (pfy (ar 4) (6 * x2) (bW (ar 10 z2) (ar 11 z2)) 6)) 8 (va_up (ar 8) x2 1)) hm hq) (cwV 0 S.2.2.2.2 (gV tw_1013 tw_1014 tw_1015 tw_7 tw_1016) rfl rfl rfl (by decide +kernel) ⟨Nat.le_of_ble_eq_true rfl, Nat.le_of_ble_eq_true rfl⟩) (pre0_V hψ hK hX hS hA (hψ.recv hK hm.1 rfl)) rfl rfl hl.1 rfl (lv_room (Nat.le_of_ble_eq_true rfl)) dL_law_544 ⟨Nat.le_trans (show _ ≤ 20000 by omega) (Nat.le_of_ble_eq_true rfl), Nat.le_trans (show _ ≤ 200000 by omega) (Nat.le_of_ble_eq_true rfl)⟩) hS hA hψ hφ hd (fun v ψ2 H locs hw hψ hφ hd hS => ?_)
      obtain ⟨rfl, hps⟩ := hw
      rw [hps] at hψ hd
      refine hv_ti (y := nI 0) (rfl) ?_
      refine lv_iload (pc := 547) S.1 S.2.1 dL_law_547 (lv_at hl 1 rfl) ?_
      refine hv_icmp_eq (pc := 549) (tgt := 554) (a := 0) (b := mcd 9 9 1 (drawX (sc 3) (sc 4) (xs (i + 1)) (xs (i + 2)))) S.1 S.2.1 (by omega) (by omega) dL_law_549 (by decide) (fun c_1 => ?_) (fun c_1 => ?_)
      · skip
        refine lv_iload (pc := 554) S.1 S.2.1 dL_law_554 (lv_at hl 1 rfl) ?_
        refine hv_if_ne (pc := 556) (tgt := 571) (a := mcd 9 9 1 (drawX (sc 3) (sc 4) (xs (i + 1)) (xs (i + 2)))) S.1 S.2.1 (by omega) dL_law_556 (by decide) (fun c_2 => ?_) (fun c_2 => ?_)
        · skip
          exact absurd c_2 (by omega)
        · skip
          refine lv_aload_n (pc := 559) S.1 S.2.1 dL_law_559 rfl (lv_at hl 3 rfl) ?_
          refine lv_iconst (pc := 560) (v := nI 0) S.1 S.2.1 dL_law_560 (by decide) ?_
          have hfo : φ1 (ad 0 9) = some (.inl (cA 3, 1, .inr (.inl o'))) := by rw [← hou']; exact hP'.at (r := 0) (j := 9) rfl
          have hH := hφ
          refine hv_lald (pc := 561) S hK hH 3 hfo rfl (vp_in_nI (by decide) (by decide)) dL_law_561 ?_
          refine hv_tv (y := .long ((nI (mhR (ar 3 x2) (fun j => ar 6 (6 * x2 + j) * 100000 / (ar 4 (6 * x2 + j) * ar 5 (6 * x2 + j))) (fun j => ar 4 (6 * x2 + j)) (bW (ar 10 z2) (ar 11 z2)))).toInt64)) (by rw [nI_clamp (by decide), ho']) ?_
          refine lv_iload (pc := 562) S.1 S.2.1 dL_law_562 (lv_at hl 0 rfl) ?_
          refine lv_i2l (pc := 564) (v := (nI (mhR (ar 3 x2) (fun j => ar 6 (6 * x2 + j) * 100000 / (ar 4 (6 * x2 + j) * ar 5 (6 * x2 + j))) (fun j => ar 4 (6 * x2 + j)) (bW (ar 10 z2) (ar 11 z2)))).toInt64) S.1 S.2.1 dL_law_564 rfl ?_
          refine W.lcmp S.1 S.2.1 dL_law_565 ?_
          refine hv_ti (y := nI 0) (lgc _) ?_
          refine hv_if_eq (pc := 566) (tgt := 571) (a := 0) S.1 S.2.1 (by omega) dL_law_566 (by decide) (fun c_3 => ?_) (fun c_3 => ?_)
          · skip
            refine lv_goto (pc := 571) (tgt := 1404) S.1 S.2.1 dL_law_571 (by decide) ?_
            refine W.widen (k := cells + 10) (n := slots + 60) (by omega) (by omega) ?_
            exact kk _ _ _ ⟨(va_up sc 7 (0)), (va_up (va_up ar 4 (pfy (ar 4) (6 * x2) (bW (ar 10 z2) (ar 11 z2)) 6)) 8 (va_up (ar 8) x2 1)), w', e', o', ad', q, φ1, ψ1, hP', hy', hou', hI', hm, rfl, hq, hφ, hψ, fun x => (hd x).symm⟩ hS (lv_sub hl [2, 3, 4, 5, 6] rfl)
          · skip
            exact absurd c_3 (by omega)
      · skip
        exact absurd c_1 (by omega)
    · skip
      have hN := hNn hr0
      have hm := hmn hr0
      obtain ⟨w', e', o', ad', ho', hy', hou', hP', hI'⟩ := hN
      refine lv_istore (pc := 541) (lv' := [(6, .int (nI (mhR (ar 3 x2) (fun j => ar 6 (6 * x2 + j) * 100000 / (ar 4 (6 * x2 + j) * ar 5 (6 * x2 + j))) (fun j => ar 4 (6 * x2 + j)) (bW (ar 10 z2) (ar 11 z2))))), (5, .int (nI (mcd 9 9 1 (drawX (sc 3) (sc 4) (xs (i + 1)) (xs (i + 2)))))), (4, .int (nI i)), (3, .ref (ad 0 9)), (2, .ref (q 0)), (1, .ref (ad 0 0)), (0, .ref b)]) S.1 S.2.1 dL_law_541 hl (by decide) rfl (fun ls hl => ?_)
      refine lv_aload_n (pc := 543) S.1 S.2.1 dL_law_543 rfl (lv_at hl 4 rfl) ?_
      refine hv_callP (φ := ψ1) (ψ := φ1) (pc := 544) (va_runV (As := []) (rest := []) S (c_m_thrown l D cA ga ψ1 H.size q (va_up sc 7 (0)) (ar) hm hq) (cwV 0 S.2.2.2.2 (gV tw_1013 tw_1014 tw_1015 tw_7 tw_1016) rfl rfl rfl (by decide +kernel) ⟨Nat.le_of_ble_eq_true rfl, Nat.le_of_ble_eq_true rfl⟩) (pre0_V hψ hK hX hS hA (hψ.recv hK hm.1 rfl)) rfl rfl hl.1 rfl (lv_room (Nat.le_of_ble_eq_true rfl)) dL_law_544 ⟨Nat.le_trans (show _ ≤ 20000 by omega) (Nat.le_of_ble_eq_true rfl), Nat.le_trans (show _ ≤ 200000 by omega) (Nat.le_of_ble_eq_true rfl)⟩) hS hA hψ hφ hd (fun v ψ2 H locs hw hψ hφ hd hS => ?_)
      obtain ⟨rfl, hps⟩ := hw
      rw [hps] at hψ hd
      refine hv_ti (y := nI 0) (rfl) ?_
      refine lv_iload (pc := 547) S.1 S.2.1 dL_law_547 (lv_at hl 1 rfl) ?_
      refine hv_icmp_eq (pc := 549) (tgt := 554) (a := 0) (b := mcd 9 9 1 (drawX (sc 3) (sc 4) (xs (i + 1)) (xs (i + 2)))) S.1 S.2.1 (by omega) (by omega) dL_law_549 (by decide) (fun c_4 => ?_) (fun c_4 => ?_)
      · skip
        refine lv_iload (pc := 554) S.1 S.2.1 dL_law_554 (lv_at hl 1 rfl) ?_
        refine hv_if_ne (pc := 556) (tgt := 571) (a := mcd 9 9 1 (drawX (sc 3) (sc 4) (xs (i + 1)) (xs (i + 2)))) S.1 S.2.1 (by omega) dL_law_556 (by decide) (fun c_5 => ?_) (fun c_5 => ?_)
        · skip
          exact absurd c_5 (by omega)
        · skip
          refine lv_aload_n (pc := 559) S.1 S.2.1 dL_law_559 rfl (lv_at hl 3 rfl) ?_
          refine lv_iconst (pc := 560) (v := nI 0) S.1 S.2.1 dL_law_560 (by decide) ?_
          have hfo : φ1 (ad 0 9) = some (.inl (cA 3, 1, .inr (.inl o'))) := by rw [← hou']; exact hP'.at (r := 0) (j := 9) rfl
          have hH := hφ
          refine hv_lald (pc := 561) S hK hH 3 hfo rfl (vp_in_nI (by decide) (by decide)) dL_law_561 ?_
          refine hv_tv (y := .long ((nI (mhR (ar 3 x2) (fun j => ar 6 (6 * x2 + j) * 100000 / (ar 4 (6 * x2 + j) * ar 5 (6 * x2 + j))) (fun j => ar 4 (6 * x2 + j)) (bW (ar 10 z2) (ar 11 z2)))).toInt64)) (by rw [nI_clamp (by decide), ho']) ?_
          refine lv_iload (pc := 562) S.1 S.2.1 dL_law_562 (lv_at hl 0 rfl) ?_
          refine lv_i2l (pc := 564) (v := (nI (mhR (ar 3 x2) (fun j => ar 6 (6 * x2 + j) * 100000 / (ar 4 (6 * x2 + j) * ar 5 (6 * x2 + j))) (fun j => ar 4 (6 * x2 + j)) (bW (ar 10 z2) (ar 11 z2)))).toInt64) S.1 S.2.1 dL_law_564 rfl ?_
          refine W.lcmp S.1 S.2.1 dL_law_565 ?_
          refine hv_ti (y := nI 0) (lgc _) ?_
          refine hv_if_eq (pc := 566) (tgt := 571) (a := 0) S.1 S.2.1 (by omega) dL_law_566 (by decide) (fun c_6 => ?_) (fun c_6 => ?_)
          · skip
            refine lv_goto (pc := 571) (tgt := 1404) S.1 S.2.1 dL_law_571 (by decide) ?_
            refine W.widen (k := cells + 10) (n := slots + 60) (by omega) (by omega) ?_
            exact kk _ _ _ ⟨(va_up sc 7 (0)), ar, w', e', o', ad', q, φ1, ψ1, hP', hy', hou', hI', hm, rfl, hq, hφ, hψ, fun x => (hd x).symm⟩ hS (lv_sub hl [2, 3, 4, 5, 6] rfl)
          · skip
            exact absurd c_6 (by omega)
      · skip
        exact absurd c_4 (by omega)
  · skip
    have hor : drawX (sc 3) (sc 4) (xs (i + 1)) (xs (i + 2)) ≤ 3 := by unfold drawX; (repeat' split) <;> decide
    have hM0 := mcd_ne (a := 9) (b := 9) (c := 1) (by decide) (by decide) (by decide) hz hor
    rw [if_neg hz] at hw
    obtain ⟨rfl, hm⟩ := hw
    refine lv_istore (pc := 541) (lv' := [(6, .int (nI 0)), (5, .int (nI (mcd 9 9 1 (drawX (sc 3) (sc 4) (xs (i + 1)) (xs (i + 2)))))), (4, .int (nI i)), (3, .ref (ad 0 9)), (2, .ref (q 0)), (1, .ref (ad 0 0)), (0, .ref b)]) S.1 S.2.1 dL_law_541 hl (by decide) rfl (fun ls hl => ?_)
    refine lv_aload_n (pc := 543) S.1 S.2.1 dL_law_543 rfl (lv_at hl 4 rfl) ?_
    refine hv_callP (φ := ψ1) (ψ := φ1) (pc := 544) (va_runV (As := []) (rest := []) S (c_m_thrown l D cA ga ψ1 H.size q (va_up sc 7 (mcd 9 9 1 (drawX (sc 3) (sc 4) (xs (i + 1)) (xs (i + 2))))) (ar) hm hq) (cwV 0 S.2.2.2.2 (gV tw_1013 tw_1014 tw_1015 tw_7 tw_1016) rfl rfl rfl (by decide +kernel) ⟨Nat.le_of_ble_eq_true rfl, Nat.le_of_ble_eq_true rfl⟩) (pre0_V hψ hK hX hS hA (hψ.recv hK hm.1 rfl)) rfl rfl hl.1 rfl (lv_room (Nat.le_of_ble_eq_true rfl)) dL_law_544 ⟨Nat.le_trans (show _ ≤ 20000 by omega) (Nat.le_of_ble_eq_true rfl), Nat.le_trans (show _ ≤ 200000 by omega) (Nat.le_of_ble_eq_true rfl)⟩) hS hA hψ hφ hd (fun v ψ2 H locs hw hψ hφ hd hS => ?_)
    obtain ⟨rfl, hps⟩ := hw
    rw [hps] at hψ hd
    refine hv_ti (y := nI (mcd 9 9 1 (drawX (sc 3) (sc 4) (xs (i + 1)) (xs (i + 2))))) (rfl) ?_
    refine lv_iload (pc := 547) S.1 S.2.1 dL_law_547 (lv_at hl 1 rfl) ?_
    refine hv_icmp_eq (pc := 549) (tgt := 554) (a := mcd 9 9 1 (drawX (sc 3) (sc 4) (xs (i + 1)) (xs (i + 2)))) (b := mcd 9 9 1 (drawX (sc 3) (sc 4) (xs (i + 1)) (xs (i + 2)))) S.1 S.2.1 (by omega) (by omega) dL_law_549 (by decide) (fun c_7 => ?_) (fun c_7 => ?_)
    · skip
      refine lv_iload (pc := 554) S.1 S.2.1 dL_law_554 (lv_at hl 1 rfl) ?_
      refine hv_if_ne (pc := 556) (tgt := 571) (a := mcd 9 9 1 (drawX (sc 3) (sc 4) (xs (i + 1)) (xs (i + 2)))) S.1 S.2.1 (by omega) dL_law_556 (by decide) (fun c_8 => ?_) (fun c_8 => ?_)
      · skip
        refine lv_goto (pc := 571) (tgt := 1404) S.1 S.2.1 dL_law_571 (by decide) ?_
        refine W.widen (k := cells + 10) (n := slots + 60) (by omega) (by omega) ?_
        exact kk _ _ _ ⟨(va_up sc 7 (mcd 9 9 1 (drawX (sc 3) (sc 4) (xs (i + 1)) (xs (i + 2))))), ar, w, ey, o, ad, q, φ1, ψ1, yp_same (hw1 hz) _, rfl, rfl, hI.mono _, hm, rfl, hq, hφ, hψ, fun x => (hd x).symm⟩ hS (lv_sub hl [2, 3, 4, 5, 6] rfl)
      · skip
        exact absurd c_8 (by omega)
    · skip
      exact absurd c_7 (by omega)
set_option maxHeartbeats 4000000 in
set_option maxRecDepth 100000 in
theorem law_trim (l : Launch) (hfl : l.stackTraces = false) {p : Program} {e : Env} {s : State} {m : MethodId} {below : List Frame} {meth : Method} {c : Code} {b L : Nat} {xs : Nat → Int32} {D : va_G} {cA : Nat → ClassId} {ga : Nat → Nat → Nat} {Q : State → Prop} (S : CallFix p m c code 7 s #[.ref b] Wc RL) (hK : va_K D vwCl (tysL cA) s) (hX : Sx ga (fun q => s.heap.size ≤ q) s s.heap) (hN3 : Nc3 s) (hXs : va_X b L xs s s.heap) (hbl : b < s.heap.size) (hL : L ≤ 2048) {k9 i y mo ou cells slots : Nat} {H : Heap} {locs : List Loc} {ls : Array Slot} (hk : k9 < 512) (hi : i + 4 ≤ L) (hc : cells ≤ 30 + 10 * k9) (hs : slots ≤ 500 + 60 * k9)
    (hW : WLD cA ga D (fun q => s.heap.size ≤ q) y ou mo k9 H) (hS : va_S (fun q => s.heap.size ≤ q) s.heap H locs) (hl : lv_has ls 7 [(4, .int (nI i)), (3, .ref ou), (2, .ref mo), (1, .ref y), (0, .ref b)])
    (kk : ∀ (H1 : Heap) (locs1 : List Loc) (ls1 : Array Slot), WLD cA ga D (fun q => s.heap.size ≤ q) y ou mo (k9 + 1) H1 → va_S (fun q => s.heap.size ≤ q) s.heap H1 locs1 → lv_has ls1 7 [(4, .int (nI i)), (3, .ref ou), (2, .ref mo), (1, .ref y), (0, .ref b)] → W p l e room_1 s m #[.ref b] below meth c H1 locs1 (cells + 10) (slots + 60) Q (F0 m 1404 ls1 [])) :
    W p l e room_1 s m #[.ref b] below meth c H locs cells slots Q (F0 m 574 ls []) := by
  obtain ⟨sc, ar, w, ey, o, ad, q, φ, ψ, hP, rfl, rfl, hI, hm, rfl, hq, hφ, hψ, hd⟩ := hW
  have hj1 := hI.j1
  have hj0 := hI.j0.1
  have hA : ∀ q, s.heap.size ≤ q → (fun q => s.heap.size ≤ q) q := fun _ h => h
  refine lv_aload_n (pc := 574) S.1 S.2.1 dL_law_574 rfl (lv_at hl 3 rfl) ?_
  refine lv_aload_n (pc := 575) S.1 S.2.1 dL_law_575 rfl (lv_at hl 4 rfl) ?_
  refine lv_iload (pc := 576) S.1 S.2.1 dL_law_576 (lv_at hl 0 rfl) ?_
  refine lv_iconst (pc := 578) (v := nI 1) S.1 S.2.1 dL_law_578 (by decide) ?_
  refine lv_iadd (pc := 579) S.1 S.2.1 dL_law_579 ?_
  refine hv_ti (y := nI (i + 1)) (nI_add _ _) ?_
  refine va_sld (pc := 580) S.1 S.2.1 hXs hbl (Nat.not_le.mpr hbl) hS (vp_in_nI (by omega) (by omega)) dL_law_580 ?_
  refine hv_ti (y := xs (i + 1)) (by rw [nI_clamp (by omega)]) ?_
  refine lv_aload_n (pc := 581) S.1 S.2.1 dL_law_581 rfl (lv_at hl 1 rfl) ?_
  refine hv_callP (φ := φ) (ψ := ψ) (pc := 582) (vx_runSW (As := [.ref (ad 0 0), .int (xs (i + 1)), .ref (ad 0 9)]) (rest := []) S (lw_trim l hfl D cA ga φ H.size k9 sc ar w ey o ad (xs (i + 1)) hP hI (by omega)) (vx_cwSW 3 S.2.2.2.2 (gSW tw_776 tw_777 tw_0 tw_778) rfl rfl rfl (by decide +kernel) ⟨Nat.le_of_ble_eq_true rfl, Nat.le_of_ble_eq_true rfl⟩) (pre1_S hφ hK hX hS hA hN3) rfl rfl hl.1 rfl (lv_room (Nat.le_of_ble_eq_true rfl)) dL_law_582 ⟨Nat.le_trans (show _ ≤ 20000 by omega) (Nat.le_of_ble_eq_true rfl), Nat.le_trans (show _ ≤ 200000 by omega) (Nat.le_of_ble_eq_true rfl)⟩) hS hA hφ hψ hd (fun v φ1 H locs hw hφ hψ hd hS => ?_)
  obtain ⟨rfl, hw1, hw2⟩ := hw
  have hM31 : mcd 9 2 1 (trimX (sc 3) (ar 9) (xs (i + 1))) < 10 := mcd_lt (by decide) (by decide) (by decide)
  refine lv_istore (pc := 585) (lv' := [(5, .int (nI (mcd 9 2 1 (trimX (sc 3) (ar 9) (xs (i + 1)))))), (4, .int (nI i)), (3, .ref (ad 0 9)), (2, .ref (q 0)), (1, .ref (ad 0 0)), (0, .ref b)]) S.1 S.2.1 dL_law_585 hl (by decide) rfl (fun ls hl => ?_)
  refine lv_aload_n (pc := 587) S.1 S.2.1 dL_law_587 rfl (lv_at hl 3 rfl) ?_
  refine lv_aload_n (pc := 588) S.1 S.2.1 dL_law_588 rfl (lv_at hl 5 rfl) ?_
  refine lv_iload (pc := 589) S.1 S.2.1 dL_law_589 (lv_at hl 1 rfl) ?_
  refine lv_iconst (pc := 591) (v := nI 1) S.1 S.2.1 dL_law_591 (by decide) ?_
  refine lv_iadd (pc := 592) S.1 S.2.1 dL_law_592 ?_
  refine hv_ti (y := nI (i + 1)) (nI_add _ _) ?_
  refine va_sld (pc := 593) S.1 S.2.1 hXs hbl (Nat.not_le.mpr hbl) hS (vp_in_nI (by omega) (by omega)) dL_law_593 ?_
  refine hv_ti (y := xs (i + 1)) (by rw [nI_clamp (by omega)]) ?_
  refine hv_callP (φ := ψ) (ψ := φ1) (pc := 594) (va_runV (As := [.int (xs (i + 1))]) (rest := []) S (c_m_trim l D cA ga ψ H.size q sc ar (xs (i + 1)) hm hq (by omega) hI.j0.ty (by have := hI.j9.1; omega) (fun i => (hI.j3 i).2.2.2)) (cwV 1 S.2.2.2.2 (gV tw_1097 tw_1098 tw_1099 tw_7 tw_1100) rfl rfl rfl (by decide +kernel) ⟨Nat.le_of_ble_eq_true rfl, Nat.le_of_ble_eq_true rfl⟩) (pre0_V hψ hK hX hS hA (hψ.recv hK hm.1 rfl)) rfl rfl hl.1 rfl (lv_room (Nat.le_of_ble_eq_true rfl)) dL_law_594 ⟨Nat.le_trans (show _ ≤ 20000 by omega) (Nat.le_of_ble_eq_true rfl), Nat.le_trans (show _ ≤ 200000 by omega) (Nat.le_of_ble_eq_true rfl)⟩) hS hA hψ hφ (fun x => (hd x).symm) (fun v ψ1 H locs hw hψ hφ hd hS => ?_)
  by_cases hz : trimX (sc 3) (ar 9) (xs (i + 1)) = 0
  · skip
    have hM : mcd 9 2 1 (trimX (sc 3) (ar 9) (xs (i + 1))) = 0 := by rw [hz]; rfl
    rw [if_pos hz] at hw
    have hn := hw2 hz
    obtain ⟨x1, hx1, hbx, hN⟩ := hn
    obtain ⟨x2, hx2, hc0, rfl, hm⟩ := hw
    have hex : x2 = x1 := jI_inj (hx2.symm.trans hx1) (by omega) (by omega)
    subst hex
    obtain ⟨w', e', o', ad', ho', hy', hou', hP', hI'⟩ := hN
    refine lv_istore (pc := 597) (lv' := [(6, .int (nI (trM (wkO 4 (sc 1) 3 0) (sc 6)))), (5, .int (nI (mcd 9 2 1 (trimX (sc 3) (ar 9) (xs (i + 1)))))), (4, .int (nI i)), (3, .ref (ad 0 9)), (2, .ref (q 0)), (1, .ref (ad 0 0)), (0, .ref b)]) S.1 S.2.1 dL_law_597 hl (by decide) rfl (fun ls hl => ?_)
    refine lv_aload_n (pc := 599) S.1 S.2.1 dL_law_599 rfl (lv_at hl 4 rfl) ?_
    refine hv_callP (φ := ψ1) (ψ := φ1) (pc := 600) (va_runV (As := []) (rest := []) S (c_m_thrown l D cA ga ψ1 H.size q (va_up (va_up (va_up sc 0 (0)) 1 (0)) 7 (0)) (va_up ar 9 (va_up (ar 9) x2 (trM (wkO 4 (sc 1) 3 0) (sc 6)))) hm hq) (cwV 0 S.2.2.2.2 (gV tw_1013 tw_1014 tw_1015 tw_7 tw_1016) rfl rfl rfl (by decide +kernel) ⟨Nat.le_of_ble_eq_true rfl, Nat.le_of_ble_eq_true rfl⟩) (pre0_V hψ hK hX hS hA (hψ.recv hK hm.1 rfl)) rfl rfl hl.1 rfl (lv_room (Nat.le_of_ble_eq_true rfl)) dL_law_600 ⟨Nat.le_trans (show _ ≤ 20000 by omega) (Nat.le_of_ble_eq_true rfl), Nat.le_trans (show _ ≤ 200000 by omega) (Nat.le_of_ble_eq_true rfl)⟩) hS hA hψ hφ hd (fun v ψ2 H locs hw hψ hφ hd hS => ?_)
    obtain ⟨rfl, hps⟩ := hw
    rw [hps] at hψ hd
    refine hv_ti (y := nI 0) (rfl) ?_
    refine lv_iload (pc := 603) S.1 S.2.1 dL_law_603 (lv_at hl 1 rfl) ?_
    refine hv_icmp_eq (pc := 605) (tgt := 610) (a := 0) (b := mcd 9 2 1 (trimX (sc 3) (ar 9) (xs (i + 1)))) S.1 S.2.1 (by omega) (by omega) dL_law_605 (by decide) (fun c_1 => ?_) (fun c_1 => ?_)
    · skip
      refine lv_iload (pc := 610) S.1 S.2.1 dL_law_610 (lv_at hl 1 rfl) ?_
      refine hv_if_ne (pc := 612) (tgt := 634) (a := mcd 9 2 1 (trimX (sc 3) (ar 9) (xs (i + 1)))) S.1 S.2.1 (by omega) dL_law_612 (by decide) (fun c_2 => ?_) (fun c_2 => ?_)
      · skip
        exact absurd c_2 (by omega)
      · skip
        refine lv_aload_n (pc := 615) S.1 S.2.1 dL_law_615 rfl (lv_at hl 3 rfl) ?_
        refine lv_iconst (pc := 616) (v := nI 0) S.1 S.2.1 dL_law_616 (by decide) ?_
        have hfo : φ1 (ad 0 9) = some (.inl (cA 3, 1, .inr (.inl o'))) := by rw [← hou']; exact hP'.at (r := 0) (j := 9) rfl
        have hH := hφ
        refine hv_lald (pc := 617) S hK hH 3 hfo rfl (vp_in_nI (by decide) (by decide)) dL_law_617 ?_
        refine hv_tv (y := .long (Int64.ofNat (trM (wkO 4 (sc 1) 3 0) (sc 6)))) (by rw [nI_clamp (by decide), ho']) ?_
        have hle9 : trM (wkO 4 (sc 1) 3 0) (sc 6) ≤ 1 := trM_le _ _
        refine lv_iload (pc := 618) S.1 S.2.1 dL_law_618 (lv_at hl 0 rfl) ?_
        refine hv_if_eq (pc := 620) (tgt := 627) (a := trM (wkO 4 (sc 1) 3 0) (sc 6)) S.1 S.2.1 (by omega) dL_law_620 (by decide) (fun c_3 => ?_) (fun c_3 => ?_)
        · skip
          have hz9 : trM (wkO 4 (sc 1) 3 0) (sc 6) = 0 := c_3
          refine lv_lconst (pc := 627) (v := Int64.ofNat 0) S.1 S.2.1 dL_law_627 rfl ?_
          refine W.lcmp S.1 S.2.1 dL_law_628 ?_
          refine hv_ti (y := nI 0) (by rw [hz9]; exact lgc _) ?_
          refine hv_if_eq (pc := 629) (tgt := 634) (a := 0) S.1 S.2.1 (by omega) dL_law_629 (by decide) (fun c_4 => ?_) (fun c_4 => ?_)
          · skip
            refine lv_goto (pc := 634) (tgt := 1404) S.1 S.2.1 dL_law_634 (by decide) ?_
            refine W.widen (k := cells + 10) (n := slots + 60) (by omega) (by omega) ?_
            exact kk _ _ _ ⟨(va_up (va_up (va_up sc 0 (0)) 1 (0)) 7 (0)), (va_up ar 9 (va_up (ar 9) x2 (trM (wkO 4 (sc 1) 3 0) (sc 6)))), w', e', o', ad', q, φ1, ψ1, hP', hy', hou', hI', hm, rfl, hq, hφ, hψ, fun x => (hd x).symm⟩ hS (lv_sub hl [2, 3, 4, 5, 6] rfl)
          · skip
            exact absurd c_4 (by omega)
        · skip
          have hz9 : trM (wkO 4 (sc 1) 3 0) (sc 6) = 1 := by omega
          refine lv_lconst (pc := 623) (v := Int64.ofNat 1) S.1 S.2.1 dL_law_623 rfl ?_
          refine lv_goto (pc := 624) (tgt := 628) S.1 S.2.1 dL_law_624 (by decide) ?_
          refine W.lcmp S.1 S.2.1 dL_law_628 ?_
          refine hv_ti (y := nI 0) (by rw [hz9]; exact lgc _) ?_
          refine hv_if_eq (pc := 629) (tgt := 634) (a := 0) S.1 S.2.1 (by omega) dL_law_629 (by decide) (fun c_5 => ?_) (fun c_5 => ?_)
          · skip
            refine lv_goto (pc := 634) (tgt := 1404) S.1 S.2.1 dL_law_634 (by decide) ?_
            refine W.widen (k := cells + 10) (n := slots + 60) (by omega) (by omega) ?_
            exact kk _ _ _ ⟨(va_up (va_up (va_up sc 0 (0)) 1 (0)) 7 (0)), (va_up ar 9 (va_up (ar 9) x2 (trM (wkO 4 (sc 1) 3 0) (sc 6)))), w', e', o', ad', q, φ1, ψ1, hP', hy', hou', hI', hm, rfl, hq, hφ, hψ, fun x => (hd x).symm⟩ hS (lv_sub hl [2, 3, 4, 5, 6] rfl)
          · skip
            exact absurd c_5 (by omega)
    · skip
      exact absurd c_1 (by omega)
  · skip
    have hor : trimX (sc 3) (ar 9) (xs (i + 1)) ≤ 3 := by unfold trimX; (repeat' split) <;> decide
    have hM0 := mcd_ne (a := 9) (b := 2) (c := 1) (by decide) (by decide) (by decide) hz hor
    rw [if_neg hz] at hw
    obtain ⟨rfl, hm⟩ := hw
    refine lv_istore (pc := 597) (lv' := [(6, .int (nI 0)), (5, .int (nI (mcd 9 2 1 (trimX (sc 3) (ar 9) (xs (i + 1)))))), (4, .int (nI i)), (3, .ref (ad 0 9)), (2, .ref (q 0)), (1, .ref (ad 0 0)), (0, .ref b)]) S.1 S.2.1 dL_law_597 hl (by decide) rfl (fun ls hl => ?_)
    refine lv_aload_n (pc := 599) S.1 S.2.1 dL_law_599 rfl (lv_at hl 4 rfl) ?_
    refine hv_callP (φ := ψ1) (ψ := φ1) (pc := 600) (va_runV (As := []) (rest := []) S (c_m_thrown l D cA ga ψ1 H.size q (va_up sc 7 (mcd 9 2 1 (trimX (sc 3) (ar 9) (xs (i + 1))))) (ar) hm hq) (cwV 0 S.2.2.2.2 (gV tw_1013 tw_1014 tw_1015 tw_7 tw_1016) rfl rfl rfl (by decide +kernel) ⟨Nat.le_of_ble_eq_true rfl, Nat.le_of_ble_eq_true rfl⟩) (pre0_V hψ hK hX hS hA (hψ.recv hK hm.1 rfl)) rfl rfl hl.1 rfl (lv_room (Nat.le_of_ble_eq_true rfl)) dL_law_600 ⟨Nat.le_trans (show _ ≤ 20000 by omega) (Nat.le_of_ble_eq_true rfl), Nat.le_trans (show _ ≤ 200000 by omega) (Nat.le_of_ble_eq_true rfl)⟩) hS hA hψ hφ hd (fun v ψ2 H locs hw hψ hφ hd hS => ?_)
    obtain ⟨rfl, hps⟩ := hw
    rw [hps] at hψ hd
    refine hv_ti (y := nI (mcd 9 2 1 (trimX (sc 3) (ar 9) (xs (i + 1))))) (rfl) ?_
    refine lv_iload (pc := 603) S.1 S.2.1 dL_law_603 (lv_at hl 1 rfl) ?_
    refine hv_icmp_eq (pc := 605) (tgt := 610) (a := mcd 9 2 1 (trimX (sc 3) (ar 9) (xs (i + 1)))) (b := mcd 9 2 1 (trimX (sc 3) (ar 9) (xs (i + 1)))) S.1 S.2.1 (by omega) (by omega) dL_law_605 (by decide) (fun c_6 => ?_) (fun c_6 => ?_)
    · skip
      refine lv_iload (pc := 610) S.1 S.2.1 dL_law_610 (lv_at hl 1 rfl) ?_
      refine hv_if_ne (pc := 612) (tgt := 634) (a := mcd 9 2 1 (trimX (sc 3) (ar 9) (xs (i + 1)))) S.1 S.2.1 (by omega) dL_law_612 (by decide) (fun c_7 => ?_) (fun c_7 => ?_)
      · skip
        refine lv_goto (pc := 634) (tgt := 1404) S.1 S.2.1 dL_law_634 (by decide) ?_
        refine W.widen (k := cells + 10) (n := slots + 60) (by omega) (by omega) ?_
        exact kk _ _ _ ⟨(va_up sc 7 (mcd 9 2 1 (trimX (sc 3) (ar 9) (xs (i + 1))))), ar, w, ey, o, ad, q, φ1, ψ1, yp_same (hw1 hz) _, rfl, rfl, hI.mono _, hm, rfl, hq, hφ, hψ, fun x => (hd x).symm⟩ hS (lv_sub hl [2, 3, 4, 5, 6] rfl)
      · skip
        exact absurd c_7 (by omega)
    · skip
      exact absurd c_6 (by omega)
set_option maxHeartbeats 4000000 in
set_option maxRecDepth 100000 in
theorem law_pass (l : Launch) (hfl : l.stackTraces = false) {p : Program} {e : Env} {s : State} {m : MethodId} {below : List Frame} {meth : Method} {c : Code} {b L : Nat} {xs : Nat → Int32} {D : va_G} {cA : Nat → ClassId} {ga : Nat → Nat → Nat} {Q : State → Prop} (S : CallFix p m c code 7 s #[.ref b] Wc RL) (hK : va_K D vwCl (tysL cA) s) (hX : Sx ga (fun q => s.heap.size ≤ q) s s.heap) (hN3 : Nc3 s) (hXs : va_X b L xs s s.heap) (hbl : b < s.heap.size) (hL : L ≤ 2048) {k9 i y mo ou cells slots : Nat} {H : Heap} {locs : List Loc} {ls : Array Slot} (hk : k9 < 512) (hi : i + 4 ≤ L) (hc : cells ≤ 30 + 10 * k9) (hs : slots ≤ 500 + 60 * k9)
    (hW : WLD cA ga D (fun q => s.heap.size ≤ q) y ou mo k9 H) (hS : va_S (fun q => s.heap.size ≤ q) s.heap H locs) (hl : lv_has ls 7 [(4, .int (nI i)), (3, .ref ou), (2, .ref mo), (1, .ref y), (0, .ref b)])
    (kk : ∀ (H1 : Heap) (locs1 : List Loc) (ls1 : Array Slot), WLD cA ga D (fun q => s.heap.size ≤ q) y ou mo (k9 + 1) H1 → va_S (fun q => s.heap.size ≤ q) s.heap H1 locs1 → lv_has ls1 7 [(4, .int (nI i)), (3, .ref ou), (2, .ref mo), (1, .ref y), (0, .ref b)] → W p l e room_1 s m #[.ref b] below meth c H1 locs1 (cells + 10) (slots + 60) Q (F0 m 1404 ls1 [])) :
    W p l e room_1 s m #[.ref b] below meth c H locs cells slots Q (F0 m 637 ls []) := by
  obtain ⟨sc, ar, w, ey, o, ad, q, φ, ψ, hP, rfl, rfl, hI, hm, rfl, hq, hφ, hψ, hd⟩ := hW
  have hj1 := hI.j1
  have hj0 := hI.j0.1
  have hA : ∀ q, s.heap.size ≤ q → (fun q => s.heap.size ≤ q) q := fun _ h => h
  refine lv_aload_n (pc := 637) S.1 S.2.1 dL_law_637 rfl (lv_at hl 3 rfl) ?_
  refine lv_aload_n (pc := 638) S.1 S.2.1 dL_law_638 rfl (lv_at hl 4 rfl) ?_
  refine lv_iload (pc := 639) S.1 S.2.1 dL_law_639 (lv_at hl 0 rfl) ?_
  refine lv_iconst (pc := 641) (v := nI 1) S.1 S.2.1 dL_law_641 (by decide) ?_
  refine lv_iadd (pc := 642) S.1 S.2.1 dL_law_642 ?_
  refine hv_ti (y := nI (i + 1)) (nI_add _ _) ?_
  refine va_sld (pc := 643) S.1 S.2.1 hXs hbl (Nat.not_le.mpr hbl) hS (vp_in_nI (by omega) (by omega)) dL_law_643 ?_
  refine hv_ti (y := xs (i + 1)) (by rw [nI_clamp (by omega)]) ?_
  refine lv_aload_n (pc := 644) S.1 S.2.1 dL_law_644 rfl (lv_at hl 1 rfl) ?_
  refine hv_callP (φ := φ) (ψ := ψ) (pc := 645) (vx_runSW (As := [.ref (ad 0 0), .int (xs (i + 1)), .ref (ad 0 9)]) (rest := []) S (lw_pass l hfl D cA ga φ H.size k9 sc ar w ey o ad (xs (i + 1)) hP hI (by omega)) (vx_cwSW 3 S.2.2.2.2 (gSW tw_799 tw_800 tw_0 tw_801) rfl rfl rfl (by decide +kernel) ⟨Nat.le_of_ble_eq_true rfl, Nat.le_of_ble_eq_true rfl⟩) (pre1_S hφ hK hX hS hA hN3) rfl rfl hl.1 rfl (lv_room (Nat.le_of_ble_eq_true rfl)) dL_law_645 ⟨Nat.le_trans (show _ ≤ 20000 by omega) (Nat.le_of_ble_eq_true rfl), Nat.le_trans (show _ ≤ 200000 by omega) (Nat.le_of_ble_eq_true rfl)⟩) hS hA hφ hψ hd (fun v φ1 H locs hw hφ hψ hd hS => ?_)
  obtain ⟨rfl, hw1, hw2⟩ := hw
  have hM31 : mcd 1 9 9 (passX (xs (i + 1))) < 10 := mcd_lt (by decide) (by decide) (by decide)
  refine lv_istore (pc := 648) (lv' := [(5, .int (nI (mcd 1 9 9 (passX (xs (i + 1)))))), (4, .int (nI i)), (3, .ref (ad 0 9)), (2, .ref (q 0)), (1, .ref (ad 0 0)), (0, .ref b)]) S.1 S.2.1 dL_law_648 hl (by decide) rfl (fun ls hl => ?_)
  refine lv_aload_n (pc := 650) S.1 S.2.1 dL_law_650 rfl (lv_at hl 3 rfl) ?_
  refine lv_aload_n (pc := 651) S.1 S.2.1 dL_law_651 rfl (lv_at hl 5 rfl) ?_
  refine lv_iload (pc := 652) S.1 S.2.1 dL_law_652 (lv_at hl 1 rfl) ?_
  refine lv_iconst (pc := 654) (v := nI 1) S.1 S.2.1 dL_law_654 (by decide) ?_
  refine lv_iadd (pc := 655) S.1 S.2.1 dL_law_655 ?_
  refine hv_ti (y := nI (i + 1)) (nI_add _ _) ?_
  refine va_sld (pc := 656) S.1 S.2.1 hXs hbl (Nat.not_le.mpr hbl) hS (vp_in_nI (by omega) (by omega)) dL_law_656 ?_
  refine hv_ti (y := xs (i + 1)) (by rw [nI_clamp (by omega)]) ?_
  refine hv_callP (φ := ψ) (ψ := φ1) (pc := 657) (va_runV (As := [.int (xs (i + 1))]) (rest := []) S (c_m_pass l D cA ga ψ H.size q sc ar (xs (i + 1)) hm hq (by have := hI.j9.1; omega)) (cwV 1 S.2.2.2.2 (gV tw_1106 tw_1107 tw_1108 tw_7 tw_1109) rfl rfl rfl (by decide +kernel) ⟨Nat.le_of_ble_eq_true rfl, Nat.le_of_ble_eq_true rfl⟩) (pre0_V hψ hK hX hS hA (hψ.recv hK hm.1 rfl)) rfl rfl hl.1 rfl (lv_room (Nat.le_of_ble_eq_true rfl)) dL_law_657 ⟨Nat.le_trans (show _ ≤ 20000 by omega) (Nat.le_of_ble_eq_true rfl), Nat.le_trans (show _ ≤ 200000 by omega) (Nat.le_of_ble_eq_true rfl)⟩) hS hA hψ hφ (fun x => (hd x).symm) (fun v ψ1 H locs hw hψ hφ hd hS => ?_)
  by_cases hz : passX (xs (i + 1)) = 0
  · skip
    have hM : mcd 1 9 9 (passX (xs (i + 1))) = 0 := by rw [hz]; rfl
    rw [if_pos hz] at hw
    have hn := hw2 hz
    obtain ⟨x1, hx1, hbx, hN⟩ := hn
    obtain ⟨x2, hx2, hc0, hc1, rfl, hm⟩ := hw
    have hex : x2 = x1 := jI_inj (hx2.symm.trans hx1) (by omega) (by omega)
    subst hex
    obtain ⟨w', e', o', ad', ho', hy', hou', hP', hI'⟩ := hN
    refine lv_istore (pc := 660) (lv' := [(6, .int (nI ((sc 6 + x2) / 10))), (5, .int (nI (mcd 1 9 9 (passX (xs (i + 1)))))), (4, .int (nI i)), (3, .ref (ad 0 9)), (2, .ref (q 0)), (1, .ref (ad 0 0)), (0, .ref b)]) S.1 S.2.1 dL_law_660 hl (by decide) rfl (fun ls hl => ?_)
    refine lv_aload_n (pc := 662) S.1 S.2.1 dL_law_662 rfl (lv_at hl 4 rfl) ?_
    refine hv_callP (φ := ψ1) (ψ := φ1) (pc := 663) (va_runV (As := []) (rest := []) S (c_m_thrown l D cA ga ψ1 H.size q (va_up (va_up sc 6 (sc 6 + x2)) 7 (0)) (va_up ar 12 (pfx zr (ar 12) 6)) hm hq) (cwV 0 S.2.2.2.2 (gV tw_1013 tw_1014 tw_1015 tw_7 tw_1016) rfl rfl rfl (by decide +kernel) ⟨Nat.le_of_ble_eq_true rfl, Nat.le_of_ble_eq_true rfl⟩) (pre0_V hψ hK hX hS hA (hψ.recv hK hm.1 rfl)) rfl rfl hl.1 rfl (lv_room (Nat.le_of_ble_eq_true rfl)) dL_law_663 ⟨Nat.le_trans (show _ ≤ 20000 by omega) (Nat.le_of_ble_eq_true rfl), Nat.le_trans (show _ ≤ 200000 by omega) (Nat.le_of_ble_eq_true rfl)⟩) hS hA hψ hφ hd (fun v ψ2 H locs hw hψ hφ hd hS => ?_)
    obtain ⟨rfl, hps⟩ := hw
    rw [hps] at hψ hd
    refine hv_ti (y := nI 0) (rfl) ?_
    refine lv_iload (pc := 666) S.1 S.2.1 dL_law_666 (lv_at hl 1 rfl) ?_
    refine hv_icmp_eq (pc := 668) (tgt := 673) (a := 0) (b := mcd 1 9 9 (passX (xs (i + 1)))) S.1 S.2.1 (by omega) (by omega) dL_law_668 (by decide) (fun c_1 => ?_) (fun c_1 => ?_)
    · skip
      refine lv_iload (pc := 673) S.1 S.2.1 dL_law_673 (lv_at hl 1 rfl) ?_
      refine hv_if_ne (pc := 675) (tgt := 690) (a := mcd 1 9 9 (passX (xs (i + 1)))) S.1 S.2.1 (by omega) dL_law_675 (by decide) (fun c_2 => ?_) (fun c_2 => ?_)
      · skip
        exact absurd c_2 (by omega)
      · skip
        refine lv_aload_n (pc := 678) S.1 S.2.1 dL_law_678 rfl (lv_at hl 3 rfl) ?_
        refine lv_iconst (pc := 679) (v := nI 0) S.1 S.2.1 dL_law_679 (by decide) ?_
        have hfo : φ1 (ad 0 9) = some (.inl (cA 3, 1, .inr (.inl o'))) := by rw [← hou']; exact hP'.at (r := 0) (j := 9) rfl
        have hH := hφ
        refine hv_lald (pc := 680) S hK hH 3 hfo rfl (vp_in_nI (by decide) (by decide)) dL_law_680 ?_
        refine hv_tv (y := .long ((nI ((sc 6 + x2) / 10)).toInt64)) (by rw [nI_clamp (by decide), ho']) ?_
        refine lv_iload (pc := 681) S.1 S.2.1 dL_law_681 (lv_at hl 0 rfl) ?_
        refine lv_i2l (pc := 683) (v := (nI ((sc 6 + x2) / 10)).toInt64) S.1 S.2.1 dL_law_683 rfl ?_
        refine W.lcmp S.1 S.2.1 dL_law_684 ?_
        refine hv_ti (y := nI 0) (lgc _) ?_
        refine hv_if_eq (pc := 685) (tgt := 690) (a := 0) S.1 S.2.1 (by omega) dL_law_685 (by decide) (fun c_3 => ?_) (fun c_3 => ?_)
        · skip
          refine lv_goto (pc := 690) (tgt := 1404) S.1 S.2.1 dL_law_690 (by decide) ?_
          refine W.widen (k := cells + 10) (n := slots + 60) (by omega) (by omega) ?_
          exact kk _ _ _ ⟨(va_up (va_up sc 6 (sc 6 + x2)) 7 (0)), (va_up ar 12 (pfx zr (ar 12) 6)), w', e', o', ad', q, φ1, ψ1, hP', hy', hou', hI', hm, rfl, hq, hφ, hψ, fun x => (hd x).symm⟩ hS (lv_sub hl [2, 3, 4, 5, 6] rfl)
        · skip
          exact absurd c_3 (by omega)
    · skip
      exact absurd c_1 (by omega)
  · skip
    have hor : passX (xs (i + 1)) ≤ 3 := by unfold passX; (repeat' split) <;> decide
    have hM0 := mcd_ne (a := 1) (b := 9) (c := 9) (by decide) (by decide) (by decide) hz hor
    rw [if_neg hz] at hw
    obtain ⟨rfl, hm⟩ := hw
    refine lv_istore (pc := 660) (lv' := [(6, .int (nI 0)), (5, .int (nI (mcd 1 9 9 (passX (xs (i + 1)))))), (4, .int (nI i)), (3, .ref (ad 0 9)), (2, .ref (q 0)), (1, .ref (ad 0 0)), (0, .ref b)]) S.1 S.2.1 dL_law_660 hl (by decide) rfl (fun ls hl => ?_)
    refine lv_aload_n (pc := 662) S.1 S.2.1 dL_law_662 rfl (lv_at hl 4 rfl) ?_
    refine hv_callP (φ := ψ1) (ψ := φ1) (pc := 663) (va_runV (As := []) (rest := []) S (c_m_thrown l D cA ga ψ1 H.size q (va_up sc 7 (mcd 1 9 9 (passX (xs (i + 1))))) (ar) hm hq) (cwV 0 S.2.2.2.2 (gV tw_1013 tw_1014 tw_1015 tw_7 tw_1016) rfl rfl rfl (by decide +kernel) ⟨Nat.le_of_ble_eq_true rfl, Nat.le_of_ble_eq_true rfl⟩) (pre0_V hψ hK hX hS hA (hψ.recv hK hm.1 rfl)) rfl rfl hl.1 rfl (lv_room (Nat.le_of_ble_eq_true rfl)) dL_law_663 ⟨Nat.le_trans (show _ ≤ 20000 by omega) (Nat.le_of_ble_eq_true rfl), Nat.le_trans (show _ ≤ 200000 by omega) (Nat.le_of_ble_eq_true rfl)⟩) hS hA hψ hφ hd (fun v ψ2 H locs hw hψ hφ hd hS => ?_)
    obtain ⟨rfl, hps⟩ := hw
    rw [hps] at hψ hd
    refine hv_ti (y := nI (mcd 1 9 9 (passX (xs (i + 1))))) (rfl) ?_
    refine lv_iload (pc := 666) S.1 S.2.1 dL_law_666 (lv_at hl 1 rfl) ?_
    refine hv_icmp_eq (pc := 668) (tgt := 673) (a := mcd 1 9 9 (passX (xs (i + 1)))) (b := mcd 1 9 9 (passX (xs (i + 1)))) S.1 S.2.1 (by omega) (by omega) dL_law_668 (by decide) (fun c_4 => ?_) (fun c_4 => ?_)
    · skip
      refine lv_iload (pc := 673) S.1 S.2.1 dL_law_673 (lv_at hl 1 rfl) ?_
      refine hv_if_ne (pc := 675) (tgt := 690) (a := mcd 1 9 9 (passX (xs (i + 1)))) S.1 S.2.1 (by omega) dL_law_675 (by decide) (fun c_5 => ?_) (fun c_5 => ?_)
      · skip
        refine lv_goto (pc := 690) (tgt := 1404) S.1 S.2.1 dL_law_690 (by decide) ?_
        refine W.widen (k := cells + 10) (n := slots + 60) (by omega) (by omega) ?_
        exact kk _ _ _ ⟨(va_up sc 7 (mcd 1 9 9 (passX (xs (i + 1))))), ar, w, ey, o, ad, q, φ1, ψ1, yp_same (hw1 hz) _, rfl, rfl, hI.mono _, hm, rfl, hq, hφ, hψ, fun x => (hd x).symm⟩ hS (lv_sub hl [2, 3, 4, 5, 6] rfl)
      · skip
        exact absurd c_5 (by omega)
    · skip
      exact absurd c_4 (by omega)
set_option maxHeartbeats 4000000 in
set_option maxRecDepth 100000 in
theorem law_about (l : Launch) (hfl : l.stackTraces = false) {p : Program} {e : Env} {s : State} {m : MethodId} {below : List Frame} {meth : Method} {c : Code} {b L : Nat} {xs : Nat → Int32} {D : va_G} {cA : Nat → ClassId} {ga : Nat → Nat → Nat} {Q : State → Prop} (S : CallFix p m c code 7 s #[.ref b] Wc RL) (hK : va_K D vwCl (tysL cA) s) (hX : Sx ga (fun q => s.heap.size ≤ q) s s.heap) (hN3 : Nc3 s) (hXs : va_X b L xs s s.heap) (hbl : b < s.heap.size) (hL : L ≤ 2048) {k9 i y mo ou cells slots : Nat} {H : Heap} {locs : List Loc} {ls : Array Slot} (hk : k9 < 512) (hi : i + 4 ≤ L) (hc : cells ≤ 30 + 10 * k9) (hs : slots ≤ 500 + 60 * k9)
    (hW : WLD cA ga D (fun q => s.heap.size ≤ q) y ou mo k9 H) (hS : va_S (fun q => s.heap.size ≤ q) s.heap H locs) (hl : lv_has ls 7 [(4, .int (nI i)), (3, .ref ou), (2, .ref mo), (1, .ref y), (0, .ref b)])
    (kk : ∀ (H1 : Heap) (locs1 : List Loc) (ls1 : Array Slot), WLD cA ga D (fun q => s.heap.size ≤ q) y ou mo (k9 + 1) H1 → va_S (fun q => s.heap.size ≤ q) s.heap H1 locs1 → lv_has ls1 7 [(4, .int (nI i)), (3, .ref ou), (2, .ref mo), (1, .ref y), (0, .ref b)] → W p l e room_1 s m #[.ref b] below meth c H1 locs1 (cells + 10) (slots + 60) Q (F0 m 1404 ls1 [])) :
    W p l e room_1 s m #[.ref b] below meth c H locs cells slots Q (F0 m 693 ls []) := by
  obtain ⟨sc, ar, w, ey, o, ad, q, φ, ψ, hP, rfl, rfl, hI, hm, rfl, hq, hφ, hψ, hd⟩ := hW
  have hj1 := hI.j1
  have hj0 := hI.j0.1
  have hA : ∀ q, s.heap.size ≤ q → (fun q => s.heap.size ≤ q) q := fun _ h => h
  refine lv_aload_n (pc := 693) S.1 S.2.1 dL_law_693 rfl (lv_at hl 3 rfl) ?_
  refine lv_aload_n (pc := 694) S.1 S.2.1 dL_law_694 rfl (lv_at hl 4 rfl) ?_
  refine lv_iload (pc := 695) S.1 S.2.1 dL_law_695 (lv_at hl 0 rfl) ?_
  refine lv_iconst (pc := 697) (v := nI 1) S.1 S.2.1 dL_law_697 (by decide) ?_
  refine lv_iadd (pc := 698) S.1 S.2.1 dL_law_698 ?_
  refine hv_ti (y := nI (i + 1)) (nI_add _ _) ?_
  refine va_sld (pc := 699) S.1 S.2.1 hXs hbl (Nat.not_le.mpr hbl) hS (vp_in_nI (by omega) (by omega)) dL_law_699 ?_
  refine hv_ti (y := xs (i + 1)) (by rw [nI_clamp (by omega)]) ?_
  refine lv_aload_n (pc := 700) S.1 S.2.1 dL_law_700 rfl (lv_at hl 4 rfl) ?_
  refine lv_iload (pc := 701) S.1 S.2.1 dL_law_701 (lv_at hl 0 rfl) ?_
  refine lv_iconst (pc := 703) (v := nI 2) S.1 S.2.1 dL_law_703 (by decide) ?_
  refine lv_iadd (pc := 704) S.1 S.2.1 dL_law_704 ?_
  refine hv_ti (y := nI (i + 2)) (nI_add _ _) ?_
  refine va_sld (pc := 705) S.1 S.2.1 hXs hbl (Nat.not_le.mpr hbl) hS (vp_in_nI (by omega) (by omega)) dL_law_705 ?_
  refine hv_ti (y := xs (i + 2)) (by rw [nI_clamp (by omega)]) ?_
  refine lv_aload_n (pc := 706) S.1 S.2.1 dL_law_706 rfl (lv_at hl 4 rfl) ?_
  refine lv_iload (pc := 707) S.1 S.2.1 dL_law_707 (lv_at hl 0 rfl) ?_
  refine lv_iconst (pc := 709) (v := nI 3) S.1 S.2.1 dL_law_709 (by decide) ?_
  refine lv_iadd (pc := 710) S.1 S.2.1 dL_law_710 ?_
  refine hv_ti (y := nI (i + 3)) (nI_add _ _) ?_
  refine va_sld (pc := 711) S.1 S.2.1 hXs hbl (Nat.not_le.mpr hbl) hS (vp_in_nI (by omega) (by omega)) dL_law_711 ?_
  refine hv_ti (y := xs (i + 3)) (by rw [nI_clamp (by omega)]) ?_
  refine lv_aload_n (pc := 712) S.1 S.2.1 dL_law_712 rfl (lv_at hl 1 rfl) ?_
  refine hv_callP (φ := φ) (ψ := ψ) (pc := 713) (vx_runSW (As := [.ref (ad 0 0), .int (xs (i + 1)), .int (xs (i + 2)), .int (xs (i + 3)), .ref (ad 0 9)]) (rest := []) S (lw_about l hfl D cA ga φ H.size k9 sc ar w ey o ad (xs (i + 1)) (xs (i + 2)) (xs (i + 3)) hP hI (by omega)) (vx_cwSW 5 S.2.2.2.2 (gSW tw_806 tw_807 tw_0 tw_808) rfl rfl rfl (by decide +kernel) ⟨Nat.le_of_ble_eq_true rfl, Nat.le_of_ble_eq_true rfl⟩) (pre1_S hφ hK hX hS hA hN3) rfl rfl hl.1 rfl (lv_room (Nat.le_of_ble_eq_true rfl)) dL_law_713 ⟨Nat.le_trans (show _ ≤ 20000 by omega) (Nat.le_of_ble_eq_true rfl), Nat.le_trans (show _ ≤ 200000 by omega) (Nat.le_of_ble_eq_true rfl)⟩) hS hA hφ hψ hd (fun v φ1 H locs hw hφ hψ hd hS => ?_)
  obtain ⟨rfl, hw1, hw2⟩ := hw
  have hM31 : mcd 2 9 1 (aboutX (sc 3) (xs (i + 1)) (xs (i + 2)) (xs (i + 3))) < 10 := mcd_lt (by decide) (by decide) (by decide)
  refine lv_istore (pc := 716) (lv' := [(5, .int (nI (mcd 2 9 1 (aboutX (sc 3) (xs (i + 1)) (xs (i + 2)) (xs (i + 3)))))), (4, .int (nI i)), (3, .ref (ad 0 9)), (2, .ref (q 0)), (1, .ref (ad 0 0)), (0, .ref b)]) S.1 S.2.1 dL_law_716 hl (by decide) rfl (fun ls hl => ?_)
  refine lv_aload_n (pc := 718) S.1 S.2.1 dL_law_718 rfl (lv_at hl 3 rfl) ?_
  refine lv_aload_n (pc := 719) S.1 S.2.1 dL_law_719 rfl (lv_at hl 5 rfl) ?_
  refine lv_iload (pc := 720) S.1 S.2.1 dL_law_720 (lv_at hl 1 rfl) ?_
  refine lv_iconst (pc := 722) (v := nI 1) S.1 S.2.1 dL_law_722 (by decide) ?_
  refine lv_iadd (pc := 723) S.1 S.2.1 dL_law_723 ?_
  refine hv_ti (y := nI (i + 1)) (nI_add _ _) ?_
  refine va_sld (pc := 724) S.1 S.2.1 hXs hbl (Nat.not_le.mpr hbl) hS (vp_in_nI (by omega) (by omega)) dL_law_724 ?_
  refine hv_ti (y := xs (i + 1)) (by rw [nI_clamp (by omega)]) ?_
  refine lv_aload_n (pc := 725) S.1 S.2.1 dL_law_725 rfl (lv_at hl 5 rfl) ?_
  refine lv_iload (pc := 726) S.1 S.2.1 dL_law_726 (lv_at hl 1 rfl) ?_
  refine lv_iconst (pc := 728) (v := nI 2) S.1 S.2.1 dL_law_728 (by decide) ?_
  refine lv_iadd (pc := 729) S.1 S.2.1 dL_law_729 ?_
  refine hv_ti (y := nI (i + 2)) (nI_add _ _) ?_
  refine va_sld (pc := 730) S.1 S.2.1 hXs hbl (Nat.not_le.mpr hbl) hS (vp_in_nI (by omega) (by omega)) dL_law_730 ?_
  refine hv_ti (y := xs (i + 2)) (by rw [nI_clamp (by omega)]) ?_
  refine lv_aload_n (pc := 731) S.1 S.2.1 dL_law_731 rfl (lv_at hl 5 rfl) ?_
  refine lv_iload (pc := 732) S.1 S.2.1 dL_law_732 (lv_at hl 1 rfl) ?_
  refine lv_iconst (pc := 734) (v := nI 3) S.1 S.2.1 dL_law_734 (by decide) ?_
  refine lv_iadd (pc := 735) S.1 S.2.1 dL_law_735 ?_
  refine hv_ti (y := nI (i + 3)) (nI_add _ _) ?_
  refine va_sld (pc := 736) S.1 S.2.1 hXs hbl (Nat.not_le.mpr hbl) hS (vp_in_nI (by omega) (by omega)) dL_law_736 ?_
  refine hv_ti (y := xs (i + 3)) (by rw [nI_clamp (by omega)]) ?_
  refine hv_callP (φ := ψ) (ψ := φ1) (pc := 737) (va_runV (As := [.int (xs (i + 1)), .int (xs (i + 2)), .int (xs (i + 3))]) (rest := []) S (c_m_about l D cA ga ψ H.size q sc ar (xs (i + 1)) (xs (i + 2)) (xs (i + 3)) hm hq (by omega) hI.hwb) (cwV 3 S.2.2.2.2 (gV tw_1110 tw_1111 tw_1112 tw_7 tw_1113) rfl rfl rfl (by decide +kernel) ⟨Nat.le_of_ble_eq_true rfl, Nat.le_of_ble_eq_true rfl⟩) (pre0_V hψ hK hX hS hA (hψ.recv hK hm.1 rfl)) rfl rfl hl.1 rfl (lv_room (Nat.le_of_ble_eq_true rfl)) dL_law_737 ⟨Nat.le_trans (show _ ≤ 20000 by omega) (Nat.le_of_ble_eq_true rfl), Nat.le_trans (show _ ≤ 200000 by omega) (Nat.le_of_ble_eq_true rfl)⟩) hS hA hψ hφ (fun x => (hd x).symm) (fun v ψ1 H locs hw hψ hφ hd hS => ?_)
  by_cases hz : aboutX (sc 3) (xs (i + 1)) (xs (i + 2)) (xs (i + 3)) = 0
  · skip
    have hM : mcd 2 9 1 (aboutX (sc 3) (xs (i + 1)) (xs (i + 2)) (xs (i + 3))) = 0 := by rw [hz]; rfl
    rw [if_pos hz] at hw
    have hn := hw2 hz
    obtain ⟨x1, z1, t1, hx1, hz1, ht1, hbx, hbz, hbt, hN⟩ := hn
    obtain ⟨x2, z2, t2, hx2, hz2, ht2, hc0, hc1, hc2, rfl, hm⟩ := hw
    have hex : x2 = x1 := jI_inj (hx2.symm.trans hx1) (by omega) (by omega)
    subst hex
    have hez : z2 = z1 := jI_inj (hz2.symm.trans hz1) (by omega) (by omega)
    subst hez
    have het : t2 = t1 := jI_inj (ht2.symm.trans ht1) (by omega) (by omega)
    subst het
    obtain ⟨w', e', o', ad', ho', hy', hou', hP', hI'⟩ := hN
    refine lv_istore (pc := 740) (lv' := [(6, .int (nI (abR (ar 4 (6 * x2 + z2)) (ar 5 (6 * x2 + z2)) (ar 6 (6 * x2 + z2)) t2))), (5, .int (nI (mcd 2 9 1 (aboutX (sc 3) (xs (i + 1)) (xs (i + 2)) (xs (i + 3)))))), (4, .int (nI i)), (3, .ref (ad 0 9)), (2, .ref (q 0)), (1, .ref (ad 0 0)), (0, .ref b)]) S.1 S.2.1 dL_law_740 hl (by decide) rfl (fun ls hl => ?_)
    refine lv_aload_n (pc := 742) S.1 S.2.1 dL_law_742 rfl (lv_at hl 4 rfl) ?_
    refine hv_callP (φ := ψ1) (ψ := φ1) (pc := 743) (va_runV (As := []) (rest := []) S (c_m_thrown l D cA ga ψ1 H.size q (va_up sc 7 (0)) (ar) hm hq) (cwV 0 S.2.2.2.2 (gV tw_1013 tw_1014 tw_1015 tw_7 tw_1016) rfl rfl rfl (by decide +kernel) ⟨Nat.le_of_ble_eq_true rfl, Nat.le_of_ble_eq_true rfl⟩) (pre0_V hψ hK hX hS hA (hψ.recv hK hm.1 rfl)) rfl rfl hl.1 rfl (lv_room (Nat.le_of_ble_eq_true rfl)) dL_law_743 ⟨Nat.le_trans (show _ ≤ 20000 by omega) (Nat.le_of_ble_eq_true rfl), Nat.le_trans (show _ ≤ 200000 by omega) (Nat.le_of_ble_eq_true rfl)⟩) hS hA hψ hφ hd (fun v ψ2 H locs hw hψ hφ hd hS => ?_)
    obtain ⟨rfl, hps⟩ := hw
    rw [hps] at hψ hd
    refine hv_ti (y := nI 0) (rfl) ?_
    refine lv_iload (pc := 746) S.1 S.2.1 dL_law_746 (lv_at hl 1 rfl) ?_
    refine hv_icmp_eq (pc := 748) (tgt := 753) (a := 0) (b := mcd 2 9 1 (aboutX (sc 3) (xs (i + 1)) (xs (i + 2)) (xs (i + 3)))) S.1 S.2.1 (by omega) (by omega) dL_law_748 (by decide) (fun c_1 => ?_) (fun c_1 => ?_)
    · skip
      refine lv_iload (pc := 753) S.1 S.2.1 dL_law_753 (lv_at hl 1 rfl) ?_
      refine hv_if_ne (pc := 755) (tgt := 770) (a := mcd 2 9 1 (aboutX (sc 3) (xs (i + 1)) (xs (i + 2)) (xs (i + 3)))) S.1 S.2.1 (by omega) dL_law_755 (by decide) (fun c_2 => ?_) (fun c_2 => ?_)
      · skip
        exact absurd c_2 (by omega)
      · skip
        refine lv_aload_n (pc := 758) S.1 S.2.1 dL_law_758 rfl (lv_at hl 3 rfl) ?_
        refine lv_iconst (pc := 759) (v := nI 0) S.1 S.2.1 dL_law_759 (by decide) ?_
        have hfo : φ1 (ad 0 9) = some (.inl (cA 3, 1, .inr (.inl o'))) := by rw [← hou']; exact hP'.at (r := 0) (j := 9) rfl
        have hH := hφ
        refine hv_lald (pc := 760) S hK hH 3 hfo rfl (vp_in_nI (by decide) (by decide)) dL_law_760 ?_
        refine hv_tv (y := .long ((nI (abR (ar 4 (6 * x2 + z2)) (ar 5 (6 * x2 + z2)) (ar 6 (6 * x2 + z2)) t2)).toInt64)) (by rw [nI_clamp (by decide), ho']) ?_
        refine lv_iload (pc := 761) S.1 S.2.1 dL_law_761 (lv_at hl 0 rfl) ?_
        refine lv_i2l (pc := 763) (v := (nI (abR (ar 4 (6 * x2 + z2)) (ar 5 (6 * x2 + z2)) (ar 6 (6 * x2 + z2)) t2)).toInt64) S.1 S.2.1 dL_law_763 rfl ?_
        refine W.lcmp S.1 S.2.1 dL_law_764 ?_
        refine hv_ti (y := nI 0) (lgc _) ?_
        refine hv_if_eq (pc := 765) (tgt := 770) (a := 0) S.1 S.2.1 (by omega) dL_law_765 (by decide) (fun c_3 => ?_) (fun c_3 => ?_)
        · skip
          refine lv_goto (pc := 770) (tgt := 1404) S.1 S.2.1 dL_law_770 (by decide) ?_
          refine W.widen (k := cells + 10) (n := slots + 60) (by omega) (by omega) ?_
          exact kk _ _ _ ⟨(va_up sc 7 (0)), ar, w', e', o', ad', q, φ1, ψ1, hP', hy', hou', hI', hm, rfl, hq, hφ, hψ, fun x => (hd x).symm⟩ hS (lv_sub hl [2, 3, 4, 5, 6] rfl)
        · skip
          exact absurd c_3 (by omega)
    · skip
      exact absurd c_1 (by omega)
  · skip
    have hor : aboutX (sc 3) (xs (i + 1)) (xs (i + 2)) (xs (i + 3)) ≤ 3 := by unfold aboutX; (repeat' split) <;> decide
    have hM0 := mcd_ne (a := 2) (b := 9) (c := 1) (by decide) (by decide) (by decide) hz hor
    rw [if_neg hz] at hw
    obtain ⟨rfl, hm⟩ := hw
    refine lv_istore (pc := 740) (lv' := [(6, .int (nI 0)), (5, .int (nI (mcd 2 9 1 (aboutX (sc 3) (xs (i + 1)) (xs (i + 2)) (xs (i + 3)))))), (4, .int (nI i)), (3, .ref (ad 0 9)), (2, .ref (q 0)), (1, .ref (ad 0 0)), (0, .ref b)]) S.1 S.2.1 dL_law_740 hl (by decide) rfl (fun ls hl => ?_)
    refine lv_aload_n (pc := 742) S.1 S.2.1 dL_law_742 rfl (lv_at hl 4 rfl) ?_
    refine hv_callP (φ := ψ1) (ψ := φ1) (pc := 743) (va_runV (As := []) (rest := []) S (c_m_thrown l D cA ga ψ1 H.size q (va_up sc 7 (mcd 2 9 1 (aboutX (sc 3) (xs (i + 1)) (xs (i + 2)) (xs (i + 3))))) (ar) hm hq) (cwV 0 S.2.2.2.2 (gV tw_1013 tw_1014 tw_1015 tw_7 tw_1016) rfl rfl rfl (by decide +kernel) ⟨Nat.le_of_ble_eq_true rfl, Nat.le_of_ble_eq_true rfl⟩) (pre0_V hψ hK hX hS hA (hψ.recv hK hm.1 rfl)) rfl rfl hl.1 rfl (lv_room (Nat.le_of_ble_eq_true rfl)) dL_law_743 ⟨Nat.le_trans (show _ ≤ 20000 by omega) (Nat.le_of_ble_eq_true rfl), Nat.le_trans (show _ ≤ 200000 by omega) (Nat.le_of_ble_eq_true rfl)⟩) hS hA hψ hφ hd (fun v ψ2 H locs hw hψ hφ hd hS => ?_)
    obtain ⟨rfl, hps⟩ := hw
    rw [hps] at hψ hd
    refine hv_ti (y := nI (mcd 2 9 1 (aboutX (sc 3) (xs (i + 1)) (xs (i + 2)) (xs (i + 3))))) (rfl) ?_
    refine lv_iload (pc := 746) S.1 S.2.1 dL_law_746 (lv_at hl 1 rfl) ?_
    refine hv_icmp_eq (pc := 748) (tgt := 753) (a := mcd 2 9 1 (aboutX (sc 3) (xs (i + 1)) (xs (i + 2)) (xs (i + 3)))) (b := mcd 2 9 1 (aboutX (sc 3) (xs (i + 1)) (xs (i + 2)) (xs (i + 3)))) S.1 S.2.1 (by omega) (by omega) dL_law_748 (by decide) (fun c_4 => ?_) (fun c_4 => ?_)
    · skip
      refine lv_iload (pc := 753) S.1 S.2.1 dL_law_753 (lv_at hl 1 rfl) ?_
      refine hv_if_ne (pc := 755) (tgt := 770) (a := mcd 2 9 1 (aboutX (sc 3) (xs (i + 1)) (xs (i + 2)) (xs (i + 3)))) S.1 S.2.1 (by omega) dL_law_755 (by decide) (fun c_5 => ?_) (fun c_5 => ?_)
      · skip
        refine lv_goto (pc := 770) (tgt := 1404) S.1 S.2.1 dL_law_770 (by decide) ?_
        refine W.widen (k := cells + 10) (n := slots + 60) (by omega) (by omega) ?_
        exact kk _ _ _ ⟨(va_up sc 7 (mcd 2 9 1 (aboutX (sc 3) (xs (i + 1)) (xs (i + 2)) (xs (i + 3))))), ar, w, ey, o, ad, q, φ1, ψ1, yp_same (hw1 hz) _, rfl, rfl, hI.mono _, hm, rfl, hq, hφ, hψ, fun x => (hd x).symm⟩ hS (lv_sub hl [2, 3, 4, 5, 6] rfl)
      · skip
        exact absurd c_5 (by omega)
    · skip
      exact absurd c_4 (by omega)
set_option maxHeartbeats 4000000 in
set_option maxRecDepth 100000 in
theorem law_widthAnew (l : Launch) (hfl : l.stackTraces = false) {p : Program} {e : Env} {s : State} {m : MethodId} {below : List Frame} {meth : Method} {c : Code} {b L : Nat} {xs : Nat → Int32} {D : va_G} {cA : Nat → ClassId} {ga : Nat → Nat → Nat} {Q : State → Prop} (S : CallFix p m c code 7 s #[.ref b] Wc RL) (hK : va_K D vwCl (tysL cA) s) (hX : Sx ga (fun q => s.heap.size ≤ q) s s.heap) (hN3 : Nc3 s) (hXs : va_X b L xs s s.heap) (hbl : b < s.heap.size) (hL : L ≤ 2048) {k9 i y mo ou cells slots : Nat} {H : Heap} {locs : List Loc} {ls : Array Slot} (hk : k9 < 512) (hi : i + 4 ≤ L) (hc : cells ≤ 30 + 10 * k9) (hs : slots ≤ 500 + 60 * k9)
    (hW : WLD cA ga D (fun q => s.heap.size ≤ q) y ou mo k9 H) (hS : va_S (fun q => s.heap.size ≤ q) s.heap H locs) (hl : lv_has ls 7 [(4, .int (nI i)), (3, .ref ou), (2, .ref mo), (1, .ref y), (0, .ref b)])
    (kk : ∀ (H1 : Heap) (locs1 : List Loc) (ls1 : Array Slot), WLD cA ga D (fun q => s.heap.size ≤ q) y ou mo (k9 + 1) H1 → va_S (fun q => s.heap.size ≤ q) s.heap H1 locs1 → lv_has ls1 7 [(4, .int (nI i)), (3, .ref ou), (2, .ref mo), (1, .ref y), (0, .ref b)] → W p l e room_1 s m #[.ref b] below meth c H1 locs1 (cells + 10) (slots + 60) Q (F0 m 1404 ls1 [])) :
    W p l e room_1 s m #[.ref b] below meth c H locs cells slots Q (F0 m 773 ls []) := by
  obtain ⟨sc, ar, w, ey, o, ad, q, φ, ψ, hP, rfl, rfl, hI, hm, rfl, hq, hφ, hψ, hd⟩ := hW
  have hj1 := hI.j1
  have hj0 := hI.j0.1
  have hA : ∀ q, s.heap.size ≤ q → (fun q => s.heap.size ≤ q) q := fun _ h => h
  refine lv_aload_n (pc := 773) S.1 S.2.1 dL_law_773 rfl (lv_at hl 3 rfl) ?_
  refine lv_aload_n (pc := 774) S.1 S.2.1 dL_law_774 rfl (lv_at hl 4 rfl) ?_
  refine lv_iload (pc := 775) S.1 S.2.1 dL_law_775 (lv_at hl 0 rfl) ?_
  refine lv_iconst (pc := 777) (v := nI 1) S.1 S.2.1 dL_law_777 (by decide) ?_
  refine lv_iadd (pc := 778) S.1 S.2.1 dL_law_778 ?_
  refine hv_ti (y := nI (i + 1)) (nI_add _ _) ?_
  refine va_sld (pc := 779) S.1 S.2.1 hXs hbl (Nat.not_le.mpr hbl) hS (vp_in_nI (by omega) (by omega)) dL_law_779 ?_
  refine hv_ti (y := xs (i + 1)) (by rw [nI_clamp (by omega)]) ?_
  refine lv_aload_n (pc := 780) S.1 S.2.1 dL_law_780 rfl (lv_at hl 4 rfl) ?_
  refine lv_iload (pc := 781) S.1 S.2.1 dL_law_781 (lv_at hl 0 rfl) ?_
  refine lv_iconst (pc := 783) (v := nI 2) S.1 S.2.1 dL_law_783 (by decide) ?_
  refine lv_iadd (pc := 784) S.1 S.2.1 dL_law_784 ?_
  refine hv_ti (y := nI (i + 2)) (nI_add _ _) ?_
  refine va_sld (pc := 785) S.1 S.2.1 hXs hbl (Nat.not_le.mpr hbl) hS (vp_in_nI (by omega) (by omega)) dL_law_785 ?_
  refine hv_ti (y := xs (i + 2)) (by rw [nI_clamp (by omega)]) ?_
  refine lv_aload_n (pc := 786) S.1 S.2.1 dL_law_786 rfl (lv_at hl 1 rfl) ?_
  refine hv_callP (φ := φ) (ψ := ψ) (pc := 787) (vx_runSW (As := [.ref (ad 0 0), .int (xs (i + 1)), .int (xs (i + 2)), .ref (ad 0 9)]) (rest := []) S (lw_widthAnew l hfl D cA ga φ H.size k9 sc ar w ey o ad (xs (i + 1)) (xs (i + 2)) hP hI (by omega)) (vx_cwSW 4 S.2.2.2.2 (gSW tw_815 tw_816 tw_0 tw_817) rfl rfl rfl (by decide +kernel) ⟨Nat.le_of_ble_eq_true rfl, Nat.le_of_ble_eq_true rfl⟩) (pre1_S hφ hK hX hS hA hN3) rfl rfl hl.1 rfl (lv_room (Nat.le_of_ble_eq_true rfl)) dL_law_787 ⟨Nat.le_trans (show _ ≤ 20000 by omega) (Nat.le_of_ble_eq_true rfl), Nat.le_trans (show _ ≤ 200000 by omega) (Nat.le_of_ble_eq_true rfl)⟩) hS hA hφ hψ hd (fun v φ1 H locs hw hφ hψ hd hS => ?_)
  obtain ⟨rfl, hw1, hw2⟩ := hw
  have hM31 : mcd 9 9 1 (anewX (sc 3) (xs (i + 1)) (xs (i + 2))) < 10 := mcd_lt (by decide) (by decide) (by decide)
  refine lv_istore (pc := 790) (lv' := [(5, .int (nI (mcd 9 9 1 (anewX (sc 3) (xs (i + 1)) (xs (i + 2)))))), (4, .int (nI i)), (3, .ref (ad 0 9)), (2, .ref (q 0)), (1, .ref (ad 0 0)), (0, .ref b)]) S.1 S.2.1 dL_law_790 hl (by decide) rfl (fun ls hl => ?_)
  refine lv_aload_n (pc := 792) S.1 S.2.1 dL_law_792 rfl (lv_at hl 3 rfl) ?_
  refine lv_aload_n (pc := 793) S.1 S.2.1 dL_law_793 rfl (lv_at hl 5 rfl) ?_
  refine lv_iload (pc := 794) S.1 S.2.1 dL_law_794 (lv_at hl 1 rfl) ?_
  refine lv_iconst (pc := 796) (v := nI 1) S.1 S.2.1 dL_law_796 (by decide) ?_
  refine lv_iadd (pc := 797) S.1 S.2.1 dL_law_797 ?_
  refine hv_ti (y := nI (i + 1)) (nI_add _ _) ?_
  refine va_sld (pc := 798) S.1 S.2.1 hXs hbl (Nat.not_le.mpr hbl) hS (vp_in_nI (by omega) (by omega)) dL_law_798 ?_
  refine hv_ti (y := xs (i + 1)) (by rw [nI_clamp (by omega)]) ?_
  refine lv_aload_n (pc := 799) S.1 S.2.1 dL_law_799 rfl (lv_at hl 5 rfl) ?_
  refine lv_iload (pc := 800) S.1 S.2.1 dL_law_800 (lv_at hl 1 rfl) ?_
  refine lv_iconst (pc := 802) (v := nI 2) S.1 S.2.1 dL_law_802 (by decide) ?_
  refine lv_iadd (pc := 803) S.1 S.2.1 dL_law_803 ?_
  refine hv_ti (y := nI (i + 2)) (nI_add _ _) ?_
  refine va_sld (pc := 804) S.1 S.2.1 hXs hbl (Nat.not_le.mpr hbl) hS (vp_in_nI (by omega) (by omega)) dL_law_804 ?_
  refine hv_ti (y := xs (i + 2)) (by rw [nI_clamp (by omega)]) ?_
  refine hv_callP (φ := ψ) (ψ := φ1) (pc := 805) (va_runV (As := [.int (xs (i + 1)), .int (xs (i + 2))]) (rest := []) S (c_m_widthAnew l D cA ga ψ H.size q sc ar (xs (i + 1)) (xs (i + 2)) hm hq (by omega)) (cwV 2 S.2.2.2.2 (gV tw_1118 tw_1119 tw_1120 tw_7 tw_1121) rfl rfl rfl (by decide +kernel) ⟨Nat.le_of_ble_eq_true rfl, Nat.le_of_ble_eq_true rfl⟩) (pre0_V hψ hK hX hS hA (hψ.recv hK hm.1 rfl)) rfl rfl hl.1 rfl (lv_room (Nat.le_of_ble_eq_true rfl)) dL_law_805 ⟨Nat.le_trans (show _ ≤ 20000 by omega) (Nat.le_of_ble_eq_true rfl), Nat.le_trans (show _ ≤ 200000 by omega) (Nat.le_of_ble_eq_true rfl)⟩) hS hA hψ hφ (fun x => (hd x).symm) (fun v ψ1 H locs hw hψ hφ hd hS => ?_)
  by_cases hz : anewX (sc 3) (xs (i + 1)) (xs (i + 2)) = 0
  · skip
    have hM : mcd 9 9 1 (anewX (sc 3) (xs (i + 1)) (xs (i + 2))) = 0 := by rw [hz]; rfl
    rw [if_pos hz] at hw
    have hn := hw2 hz
    obtain ⟨x1, z1, hx1, hz1, hbx, hbz, hN⟩ := hn
    obtain ⟨x2, z2, hx2, hz2, hc0, hc1, rfl, hm⟩ := hw
    have hex : x2 = x1 := jI_inj (hx2.symm.trans hx1) (by omega) (by omega)
    subst hex
    have hez : z2 = z1 := jI_inj (hz2.symm.trans hz1) (by omega) (by omega)
    subst hez
    obtain ⟨w', e', o', ad', ho', hy', hou', hP', hI'⟩ := hN
    refine lv_istore (pc := 808) (lv' := [(6, .int (nI (ar 4 (6 * x2 + z2)))), (5, .int (nI (mcd 9 9 1 (anewX (sc 3) (xs (i + 1)) (xs (i + 2)))))), (4, .int (nI i)), (3, .ref (ad 0 9)), (2, .ref (q 0)), (1, .ref (ad 0 0)), (0, .ref b)]) S.1 S.2.1 dL_law_808 hl (by decide) rfl (fun ls hl => ?_)
    refine lv_aload_n (pc := 810) S.1 S.2.1 dL_law_810 rfl (lv_at hl 4 rfl) ?_
    refine hv_callP (φ := ψ1) (ψ := φ1) (pc := 811) (va_runV (As := []) (rest := []) S (c_m_thrown l D cA ga ψ1 H.size q (va_up sc 7 (0)) (ar) hm hq) (cwV 0 S.2.2.2.2 (gV tw_1013 tw_1014 tw_1015 tw_7 tw_1016) rfl rfl rfl (by decide +kernel) ⟨Nat.le_of_ble_eq_true rfl, Nat.le_of_ble_eq_true rfl⟩) (pre0_V hψ hK hX hS hA (hψ.recv hK hm.1 rfl)) rfl rfl hl.1 rfl (lv_room (Nat.le_of_ble_eq_true rfl)) dL_law_811 ⟨Nat.le_trans (show _ ≤ 20000 by omega) (Nat.le_of_ble_eq_true rfl), Nat.le_trans (show _ ≤ 200000 by omega) (Nat.le_of_ble_eq_true rfl)⟩) hS hA hψ hφ hd (fun v ψ2 H locs hw hψ hφ hd hS => ?_)
    obtain ⟨rfl, hps⟩ := hw
    rw [hps] at hψ hd
    refine hv_ti (y := nI 0) (rfl) ?_
    refine lv_iload (pc := 814) S.1 S.2.1 dL_law_814 (lv_at hl 1 rfl) ?_
    refine hv_icmp_eq (pc := 816) (tgt := 821) (a := 0) (b := mcd 9 9 1 (anewX (sc 3) (xs (i + 1)) (xs (i + 2)))) S.1 S.2.1 (by omega) (by omega) dL_law_816 (by decide) (fun c_1 => ?_) (fun c_1 => ?_)
    · skip
      refine lv_iload (pc := 821) S.1 S.2.1 dL_law_821 (lv_at hl 1 rfl) ?_
      refine hv_if_ne (pc := 823) (tgt := 838) (a := mcd 9 9 1 (anewX (sc 3) (xs (i + 1)) (xs (i + 2)))) S.1 S.2.1 (by omega) dL_law_823 (by decide) (fun c_2 => ?_) (fun c_2 => ?_)
      · skip
        exact absurd c_2 (by omega)
      · skip
        refine lv_aload_n (pc := 826) S.1 S.2.1 dL_law_826 rfl (lv_at hl 3 rfl) ?_
        refine lv_iconst (pc := 827) (v := nI 0) S.1 S.2.1 dL_law_827 (by decide) ?_
        have hfo : φ1 (ad 0 9) = some (.inl (cA 3, 1, .inr (.inl o'))) := by rw [← hou']; exact hP'.at (r := 0) (j := 9) rfl
        have hH := hφ
        refine hv_lald (pc := 828) S hK hH 3 hfo rfl (vp_in_nI (by decide) (by decide)) dL_law_828 ?_
        refine hv_tv (y := .long ((nI (ar 4 (6 * x2 + z2))).toInt64)) (by rw [nI_clamp (by decide), ho']) ?_
        refine lv_iload (pc := 829) S.1 S.2.1 dL_law_829 (lv_at hl 0 rfl) ?_
        refine lv_i2l (pc := 831) (v := (nI (ar 4 (6 * x2 + z2))).toInt64) S.1 S.2.1 dL_law_831 rfl ?_
        refine W.lcmp S.1 S.2.1 dL_law_832 ?_
        refine hv_ti (y := nI 0) (lgc _) ?_
        refine hv_if_eq (pc := 833) (tgt := 838) (a := 0) S.1 S.2.1 (by omega) dL_law_833 (by decide) (fun c_3 => ?_) (fun c_3 => ?_)
        · skip
          refine lv_goto (pc := 838) (tgt := 1404) S.1 S.2.1 dL_law_838 (by decide) ?_
          refine W.widen (k := cells + 10) (n := slots + 60) (by omega) (by omega) ?_
          exact kk _ _ _ ⟨(va_up sc 7 (0)), ar, w', e', o', ad', q, φ1, ψ1, hP', hy', hou', hI', hm, rfl, hq, hφ, hψ, fun x => (hd x).symm⟩ hS (lv_sub hl [2, 3, 4, 5, 6] rfl)
        · skip
          exact absurd c_3 (by omega)
    · skip
      exact absurd c_1 (by omega)
  · skip
    have hor : anewX (sc 3) (xs (i + 1)) (xs (i + 2)) ≤ 3 := by unfold anewX; (repeat' split) <;> decide
    have hM0 := mcd_ne (a := 9) (b := 9) (c := 1) (by decide) (by decide) (by decide) hz hor
    rw [if_neg hz] at hw
    obtain ⟨rfl, hm⟩ := hw
    refine lv_istore (pc := 808) (lv' := [(6, .int (nI 0)), (5, .int (nI (mcd 9 9 1 (anewX (sc 3) (xs (i + 1)) (xs (i + 2)))))), (4, .int (nI i)), (3, .ref (ad 0 9)), (2, .ref (q 0)), (1, .ref (ad 0 0)), (0, .ref b)]) S.1 S.2.1 dL_law_808 hl (by decide) rfl (fun ls hl => ?_)
    refine lv_aload_n (pc := 810) S.1 S.2.1 dL_law_810 rfl (lv_at hl 4 rfl) ?_
    refine hv_callP (φ := ψ1) (ψ := φ1) (pc := 811) (va_runV (As := []) (rest := []) S (c_m_thrown l D cA ga ψ1 H.size q (va_up sc 7 (mcd 9 9 1 (anewX (sc 3) (xs (i + 1)) (xs (i + 2))))) (ar) hm hq) (cwV 0 S.2.2.2.2 (gV tw_1013 tw_1014 tw_1015 tw_7 tw_1016) rfl rfl rfl (by decide +kernel) ⟨Nat.le_of_ble_eq_true rfl, Nat.le_of_ble_eq_true rfl⟩) (pre0_V hψ hK hX hS hA (hψ.recv hK hm.1 rfl)) rfl rfl hl.1 rfl (lv_room (Nat.le_of_ble_eq_true rfl)) dL_law_811 ⟨Nat.le_trans (show _ ≤ 20000 by omega) (Nat.le_of_ble_eq_true rfl), Nat.le_trans (show _ ≤ 200000 by omega) (Nat.le_of_ble_eq_true rfl)⟩) hS hA hψ hφ hd (fun v ψ2 H locs hw hψ hφ hd hS => ?_)
    obtain ⟨rfl, hps⟩ := hw
    rw [hps] at hψ hd
    refine hv_ti (y := nI (mcd 9 9 1 (anewX (sc 3) (xs (i + 1)) (xs (i + 2))))) (rfl) ?_
    refine lv_iload (pc := 814) S.1 S.2.1 dL_law_814 (lv_at hl 1 rfl) ?_
    refine hv_icmp_eq (pc := 816) (tgt := 821) (a := mcd 9 9 1 (anewX (sc 3) (xs (i + 1)) (xs (i + 2)))) (b := mcd 9 9 1 (anewX (sc 3) (xs (i + 1)) (xs (i + 2)))) S.1 S.2.1 (by omega) (by omega) dL_law_816 (by decide) (fun c_4 => ?_) (fun c_4 => ?_)
    · skip
      refine lv_iload (pc := 821) S.1 S.2.1 dL_law_821 (lv_at hl 1 rfl) ?_
      refine hv_if_ne (pc := 823) (tgt := 838) (a := mcd 9 9 1 (anewX (sc 3) (xs (i + 1)) (xs (i + 2)))) S.1 S.2.1 (by omega) dL_law_823 (by decide) (fun c_5 => ?_) (fun c_5 => ?_)
      · skip
        refine lv_goto (pc := 838) (tgt := 1404) S.1 S.2.1 dL_law_838 (by decide) ?_
        refine W.widen (k := cells + 10) (n := slots + 60) (by omega) (by omega) ?_
        exact kk _ _ _ ⟨(va_up sc 7 (mcd 9 9 1 (anewX (sc 3) (xs (i + 1)) (xs (i + 2))))), ar, w, ey, o, ad, q, φ1, ψ1, yp_same (hw1 hz) _, rfl, rfl, hI.mono _, hm, rfl, hq, hφ, hψ, fun x => (hd x).symm⟩ hS (lv_sub hl [2, 3, 4, 5, 6] rfl)
      · skip
        exact absurd c_5 (by omega)
    · skip
      exact absurd c_4 (by omega)
set_option maxHeartbeats 4000000 in
set_option maxRecDepth 100000 in
theorem law_brim (l : Launch) (hfl : l.stackTraces = false) {p : Program} {e : Env} {s : State} {m : MethodId} {below : List Frame} {meth : Method} {c : Code} {b L : Nat} {xs : Nat → Int32} {D : va_G} {cA : Nat → ClassId} {ga : Nat → Nat → Nat} {Q : State → Prop} (S : CallFix p m c code 7 s #[.ref b] Wc RL) (hK : va_K D vwCl (tysL cA) s) (hX : Sx ga (fun q => s.heap.size ≤ q) s s.heap) (hN3 : Nc3 s) (hXs : va_X b L xs s s.heap) (hbl : b < s.heap.size) (hL : L ≤ 2048) {k9 i y mo ou cells slots : Nat} {H : Heap} {locs : List Loc} {ls : Array Slot} (hk : k9 < 512) (hi : i + 4 ≤ L) (hc : cells ≤ 30 + 10 * k9) (hs : slots ≤ 500 + 60 * k9)
    (hW : WLD cA ga D (fun q => s.heap.size ≤ q) y ou mo k9 H) (hS : va_S (fun q => s.heap.size ≤ q) s.heap H locs) (hl : lv_has ls 7 [(4, .int (nI i)), (3, .ref ou), (2, .ref mo), (1, .ref y), (0, .ref b)])
    (kk : ∀ (H1 : Heap) (locs1 : List Loc) (ls1 : Array Slot), WLD cA ga D (fun q => s.heap.size ≤ q) y ou mo (k9 + 1) H1 → va_S (fun q => s.heap.size ≤ q) s.heap H1 locs1 → lv_has ls1 7 [(4, .int (nI i)), (3, .ref ou), (2, .ref mo), (1, .ref y), (0, .ref b)] → W p l e room_1 s m #[.ref b] below meth c H1 locs1 (cells + 10) (slots + 60) Q (F0 m 1404 ls1 [])) :
    W p l e room_1 s m #[.ref b] below meth c H locs cells slots Q (F0 m 841 ls []) := by
  obtain ⟨sc, ar, w, ey, o, ad, q, φ, ψ, hP, rfl, rfl, hI, hm, rfl, hq, hφ, hψ, hd⟩ := hW
  have hj1 := hI.j1
  have hj0 := hI.j0.1
  have hA : ∀ q, s.heap.size ≤ q → (fun q => s.heap.size ≤ q) q := fun _ h => h
  refine lv_aload_n (pc := 841) S.1 S.2.1 dL_law_841 rfl (lv_at hl 3 rfl) ?_
  refine lv_aload_n (pc := 842) S.1 S.2.1 dL_law_842 rfl (lv_at hl 4 rfl) ?_
  refine lv_iload (pc := 843) S.1 S.2.1 dL_law_843 (lv_at hl 0 rfl) ?_
  refine lv_iconst (pc := 845) (v := nI 1) S.1 S.2.1 dL_law_845 (by decide) ?_
  refine lv_iadd (pc := 846) S.1 S.2.1 dL_law_846 ?_
  refine hv_ti (y := nI (i + 1)) (nI_add _ _) ?_
  refine va_sld (pc := 847) S.1 S.2.1 hXs hbl (Nat.not_le.mpr hbl) hS (vp_in_nI (by omega) (by omega)) dL_law_847 ?_
  refine hv_ti (y := xs (i + 1)) (by rw [nI_clamp (by omega)]) ?_
  refine lv_aload_n (pc := 848) S.1 S.2.1 dL_law_848 rfl (lv_at hl 4 rfl) ?_
  refine lv_iload (pc := 849) S.1 S.2.1 dL_law_849 (lv_at hl 0 rfl) ?_
  refine lv_iconst (pc := 851) (v := nI 2) S.1 S.2.1 dL_law_851 (by decide) ?_
  refine lv_iadd (pc := 852) S.1 S.2.1 dL_law_852 ?_
  refine hv_ti (y := nI (i + 2)) (nI_add _ _) ?_
  refine va_sld (pc := 853) S.1 S.2.1 hXs hbl (Nat.not_le.mpr hbl) hS (vp_in_nI (by omega) (by omega)) dL_law_853 ?_
  refine hv_ti (y := xs (i + 2)) (by rw [nI_clamp (by omega)]) ?_
  refine lv_aload_n (pc := 854) S.1 S.2.1 dL_law_854 rfl (lv_at hl 1 rfl) ?_
  refine hv_callP (φ := φ) (ψ := ψ) (pc := 855) (vx_runSW (As := [.ref (ad 0 0), .int (xs (i + 1)), .int (xs (i + 2)), .ref (ad 0 9)]) (rest := []) S (lw_brim l hfl D cA ga φ H.size k9 sc ar w ey o ad (xs (i + 1)) (xs (i + 2)) hP hI (by omega)) (vx_cwSW 4 S.2.2.2.2 (gSW tw_826 tw_827 tw_0 tw_828) rfl rfl rfl (by decide +kernel) ⟨Nat.le_of_ble_eq_true rfl, Nat.le_of_ble_eq_true rfl⟩) (pre1_S hφ hK hX hS hA hN3) rfl rfl hl.1 rfl (lv_room (Nat.le_of_ble_eq_true rfl)) dL_law_855 ⟨Nat.le_trans (show _ ≤ 20000 by omega) (Nat.le_of_ble_eq_true rfl), Nat.le_trans (show _ ≤ 200000 by omega) (Nat.le_of_ble_eq_true rfl)⟩) hS hA hφ hψ hd (fun v φ1 H locs hw hφ hψ hd hS => ?_)
  obtain ⟨rfl, hw1, hw2⟩ := hw
  have hM31 : mcd 2 9 1 (brimX (sc 3) (xs (i + 1)) (xs (i + 2))) < 10 := mcd_lt (by decide) (by decide) (by decide)
  refine lv_istore (pc := 858) (lv' := [(5, .int (nI (mcd 2 9 1 (brimX (sc 3) (xs (i + 1)) (xs (i + 2)))))), (4, .int (nI i)), (3, .ref (ad 0 9)), (2, .ref (q 0)), (1, .ref (ad 0 0)), (0, .ref b)]) S.1 S.2.1 dL_law_858 hl (by decide) rfl (fun ls hl => ?_)
  refine lv_aload_n (pc := 860) S.1 S.2.1 dL_law_860 rfl (lv_at hl 3 rfl) ?_
  refine lv_aload_n (pc := 861) S.1 S.2.1 dL_law_861 rfl (lv_at hl 5 rfl) ?_
  refine lv_iload (pc := 862) S.1 S.2.1 dL_law_862 (lv_at hl 1 rfl) ?_
  refine lv_iconst (pc := 864) (v := nI 1) S.1 S.2.1 dL_law_864 (by decide) ?_
  refine lv_iadd (pc := 865) S.1 S.2.1 dL_law_865 ?_
  refine hv_ti (y := nI (i + 1)) (nI_add _ _) ?_
  refine va_sld (pc := 866) S.1 S.2.1 hXs hbl (Nat.not_le.mpr hbl) hS (vp_in_nI (by omega) (by omega)) dL_law_866 ?_
  refine hv_ti (y := xs (i + 1)) (by rw [nI_clamp (by omega)]) ?_
  refine lv_aload_n (pc := 867) S.1 S.2.1 dL_law_867 rfl (lv_at hl 5 rfl) ?_
  refine lv_iload (pc := 868) S.1 S.2.1 dL_law_868 (lv_at hl 1 rfl) ?_
  refine lv_iconst (pc := 870) (v := nI 2) S.1 S.2.1 dL_law_870 (by decide) ?_
  refine lv_iadd (pc := 871) S.1 S.2.1 dL_law_871 ?_
  refine hv_ti (y := nI (i + 2)) (nI_add _ _) ?_
  refine va_sld (pc := 872) S.1 S.2.1 hXs hbl (Nat.not_le.mpr hbl) hS (vp_in_nI (by omega) (by omega)) dL_law_872 ?_
  refine hv_ti (y := xs (i + 2)) (by rw [nI_clamp (by omega)]) ?_
  refine hv_callP (φ := ψ) (ψ := φ1) (pc := 873) (va_runV (As := [.int (xs (i + 1)), .int (xs (i + 2))]) (rest := []) S (c_m_brim l D cA ga ψ H.size q sc ar (xs (i + 1)) (xs (i + 2)) hm hq (by omega) (fun i hi => (hI.hwb i hi).1)) (cwV 2 S.2.2.2.2 (gV tw_1122 tw_1123 tw_1124 tw_7 tw_1125) rfl rfl rfl (by decide +kernel) ⟨Nat.le_of_ble_eq_true rfl, Nat.le_of_ble_eq_true rfl⟩) (pre0_V hψ hK hX hS hA (hψ.recv hK hm.1 rfl)) rfl rfl hl.1 rfl (lv_room (Nat.le_of_ble_eq_true rfl)) dL_law_873 ⟨Nat.le_trans (show _ ≤ 20000 by omega) (Nat.le_of_ble_eq_true rfl), Nat.le_trans (show _ ≤ 200000 by omega) (Nat.le_of_ble_eq_true rfl)⟩) hS hA hψ hφ (fun x => (hd x).symm) (fun v ψ1 H locs hw hψ hφ hd hS => ?_)
  by_cases hz : brimX (sc 3) (xs (i + 1)) (xs (i + 2)) = 0
  · skip
    have hM : mcd 2 9 1 (brimX (sc 3) (xs (i + 1)) (xs (i + 2))) = 0 := by rw [hz]; rfl
    rw [if_pos hz] at hw
    have hn := hw2 hz
    obtain ⟨x1, z1, hx1, hz1, hbx, hbz, hN⟩ := hn
    obtain ⟨x2, z2, hx2, hz2, hc0, hc1, rfl, hm⟩ := hw
    have hex : x2 = x1 := jI_inj (hx2.symm.trans hx1) (by omega) (by omega)
    subst hex
    have hez : z2 = z1 := jI_inj (hz2.symm.trans hz1) (by omega) (by omega)
    subst hez
    obtain ⟨w', e', o', ad', ho', hy', hou', hP', hI'⟩ := hN
    refine lv_istore (pc := 876) (lv' := [(6, .int (nI ((puF z2 (ar 4 (6 * x2))).toNat))), (5, .int (nI (mcd 2 9 1 (brimX (sc 3) (xs (i + 1)) (xs (i + 2)))))), (4, .int (nI i)), (3, .ref (ad 0 9)), (2, .ref (q 0)), (1, .ref (ad 0 0)), (0, .ref b)]) S.1 S.2.1 dL_law_876 hl (by decide) rfl (fun ls hl => ?_)
    refine lv_aload_n (pc := 878) S.1 S.2.1 dL_law_878 rfl (lv_at hl 4 rfl) ?_
    refine hv_callP (φ := ψ1) (ψ := φ1) (pc := 879) (va_runV (As := []) (rest := []) S (c_m_thrown l D cA ga ψ1 H.size q (va_up sc 7 (0)) (ar) hm hq) (cwV 0 S.2.2.2.2 (gV tw_1013 tw_1014 tw_1015 tw_7 tw_1016) rfl rfl rfl (by decide +kernel) ⟨Nat.le_of_ble_eq_true rfl, Nat.le_of_ble_eq_true rfl⟩) (pre0_V hψ hK hX hS hA (hψ.recv hK hm.1 rfl)) rfl rfl hl.1 rfl (lv_room (Nat.le_of_ble_eq_true rfl)) dL_law_879 ⟨Nat.le_trans (show _ ≤ 20000 by omega) (Nat.le_of_ble_eq_true rfl), Nat.le_trans (show _ ≤ 200000 by omega) (Nat.le_of_ble_eq_true rfl)⟩) hS hA hψ hφ hd (fun v ψ2 H locs hw hψ hφ hd hS => ?_)
    obtain ⟨rfl, hps⟩ := hw
    rw [hps] at hψ hd
    refine hv_ti (y := nI 0) (rfl) ?_
    refine lv_iload (pc := 882) S.1 S.2.1 dL_law_882 (lv_at hl 1 rfl) ?_
    refine hv_icmp_eq (pc := 884) (tgt := 889) (a := 0) (b := mcd 2 9 1 (brimX (sc 3) (xs (i + 1)) (xs (i + 2)))) S.1 S.2.1 (by omega) (by omega) dL_law_884 (by decide) (fun c_1 => ?_) (fun c_1 => ?_)
    · skip
      refine lv_iload (pc := 889) S.1 S.2.1 dL_law_889 (lv_at hl 1 rfl) ?_
      refine hv_if_ne (pc := 891) (tgt := 906) (a := mcd 2 9 1 (brimX (sc 3) (xs (i + 1)) (xs (i + 2)))) S.1 S.2.1 (by omega) dL_law_891 (by decide) (fun c_2 => ?_) (fun c_2 => ?_)
      · skip
        exact absurd c_2 (by omega)
      · skip
        refine lv_aload_n (pc := 894) S.1 S.2.1 dL_law_894 rfl (lv_at hl 3 rfl) ?_
        refine lv_iconst (pc := 895) (v := nI 0) S.1 S.2.1 dL_law_895 (by decide) ?_
        have hfo : φ1 (ad 0 9) = some (.inl (cA 3, 1, .inr (.inl o'))) := by rw [← hou']; exact hP'.at (r := 0) (j := 9) rfl
        have hH := hφ
        refine hv_lald (pc := 896) S hK hH 3 hfo rfl (vp_in_nI (by decide) (by decide)) dL_law_896 ?_
        refine hv_tv (y := .long ((nI ((puF z2 (ar 4 (6 * x2))).toNat)).toInt64)) (by rw [nI_clamp (by decide), ho']) ?_
        refine lv_iload (pc := 897) S.1 S.2.1 dL_law_897 (lv_at hl 0 rfl) ?_
        refine lv_i2l (pc := 899) (v := (nI ((puF z2 (ar 4 (6 * x2))).toNat)).toInt64) S.1 S.2.1 dL_law_899 rfl ?_
        refine W.lcmp S.1 S.2.1 dL_law_900 ?_
        refine hv_ti (y := nI 0) (lgc _) ?_
        refine hv_if_eq (pc := 901) (tgt := 906) (a := 0) S.1 S.2.1 (by omega) dL_law_901 (by decide) (fun c_3 => ?_) (fun c_3 => ?_)
        · skip
          refine lv_goto (pc := 906) (tgt := 1404) S.1 S.2.1 dL_law_906 (by decide) ?_
          refine W.widen (k := cells + 10) (n := slots + 60) (by omega) (by omega) ?_
          exact kk _ _ _ ⟨(va_up sc 7 (0)), ar, w', e', o', ad', q, φ1, ψ1, hP', hy', hou', hI', hm, rfl, hq, hφ, hψ, fun x => (hd x).symm⟩ hS (lv_sub hl [2, 3, 4, 5, 6] rfl)
        · skip
          exact absurd c_3 (by omega)
    · skip
      exact absurd c_1 (by omega)
  · skip
    have hor : brimX (sc 3) (xs (i + 1)) (xs (i + 2)) ≤ 3 := by unfold brimX; (repeat' split) <;> decide
    have hM0 := mcd_ne (a := 2) (b := 9) (c := 1) (by decide) (by decide) (by decide) hz hor
    rw [if_neg hz] at hw
    obtain ⟨rfl, hm⟩ := hw
    refine lv_istore (pc := 876) (lv' := [(6, .int (nI 0)), (5, .int (nI (mcd 2 9 1 (brimX (sc 3) (xs (i + 1)) (xs (i + 2)))))), (4, .int (nI i)), (3, .ref (ad 0 9)), (2, .ref (q 0)), (1, .ref (ad 0 0)), (0, .ref b)]) S.1 S.2.1 dL_law_876 hl (by decide) rfl (fun ls hl => ?_)
    refine lv_aload_n (pc := 878) S.1 S.2.1 dL_law_878 rfl (lv_at hl 4 rfl) ?_
    refine hv_callP (φ := ψ1) (ψ := φ1) (pc := 879) (va_runV (As := []) (rest := []) S (c_m_thrown l D cA ga ψ1 H.size q (va_up sc 7 (mcd 2 9 1 (brimX (sc 3) (xs (i + 1)) (xs (i + 2))))) (ar) hm hq) (cwV 0 S.2.2.2.2 (gV tw_1013 tw_1014 tw_1015 tw_7 tw_1016) rfl rfl rfl (by decide +kernel) ⟨Nat.le_of_ble_eq_true rfl, Nat.le_of_ble_eq_true rfl⟩) (pre0_V hψ hK hX hS hA (hψ.recv hK hm.1 rfl)) rfl rfl hl.1 rfl (lv_room (Nat.le_of_ble_eq_true rfl)) dL_law_879 ⟨Nat.le_trans (show _ ≤ 20000 by omega) (Nat.le_of_ble_eq_true rfl), Nat.le_trans (show _ ≤ 200000 by omega) (Nat.le_of_ble_eq_true rfl)⟩) hS hA hψ hφ hd (fun v ψ2 H locs hw hψ hφ hd hS => ?_)
    obtain ⟨rfl, hps⟩ := hw
    rw [hps] at hψ hd
    refine hv_ti (y := nI (mcd 2 9 1 (brimX (sc 3) (xs (i + 1)) (xs (i + 2))))) (rfl) ?_
    refine lv_iload (pc := 882) S.1 S.2.1 dL_law_882 (lv_at hl 1 rfl) ?_
    refine hv_icmp_eq (pc := 884) (tgt := 889) (a := mcd 2 9 1 (brimX (sc 3) (xs (i + 1)) (xs (i + 2)))) (b := mcd 2 9 1 (brimX (sc 3) (xs (i + 1)) (xs (i + 2)))) S.1 S.2.1 (by omega) (by omega) dL_law_884 (by decide) (fun c_4 => ?_) (fun c_4 => ?_)
    · skip
      refine lv_iload (pc := 889) S.1 S.2.1 dL_law_889 (lv_at hl 1 rfl) ?_
      refine hv_if_ne (pc := 891) (tgt := 906) (a := mcd 2 9 1 (brimX (sc 3) (xs (i + 1)) (xs (i + 2)))) S.1 S.2.1 (by omega) dL_law_891 (by decide) (fun c_5 => ?_) (fun c_5 => ?_)
      · skip
        refine lv_goto (pc := 906) (tgt := 1404) S.1 S.2.1 dL_law_906 (by decide) ?_
        refine W.widen (k := cells + 10) (n := slots + 60) (by omega) (by omega) ?_
        exact kk _ _ _ ⟨(va_up sc 7 (mcd 2 9 1 (brimX (sc 3) (xs (i + 1)) (xs (i + 2))))), ar, w, ey, o, ad, q, φ1, ψ1, yp_same (hw1 hz) _, rfl, rfl, hI.mono _, hm, rfl, hq, hφ, hψ, fun x => (hd x).symm⟩ hS (lv_sub hl [2, 3, 4, 5, 6] rfl)
      · skip
        exact absurd c_5 (by omega)
    · skip
      exact absurd c_4 (by omega)
set_option maxHeartbeats 4000000 in
set_option maxRecDepth 100000 in
theorem law_count (l : Launch) (hfl : l.stackTraces = false) {p : Program} {e : Env} {s : State} {m : MethodId} {below : List Frame} {meth : Method} {c : Code} {b L : Nat} {xs : Nat → Int32} {D : va_G} {cA : Nat → ClassId} {ga : Nat → Nat → Nat} {Q : State → Prop} (S : CallFix p m c code 7 s #[.ref b] Wc RL) (hK : va_K D vwCl (tysL cA) s) (hX : Sx ga (fun q => s.heap.size ≤ q) s s.heap) (hN3 : Nc3 s) (hXs : va_X b L xs s s.heap) (hbl : b < s.heap.size) (hL : L ≤ 2048) {k9 i y mo ou cells slots : Nat} {H : Heap} {locs : List Loc} {ls : Array Slot} (hk : k9 < 512) (hi : i + 4 ≤ L) (hc : cells ≤ 30 + 10 * k9) (hs : slots ≤ 500 + 60 * k9)
    (hW : WLD cA ga D (fun q => s.heap.size ≤ q) y ou mo k9 H) (hS : va_S (fun q => s.heap.size ≤ q) s.heap H locs) (hl : lv_has ls 7 [(4, .int (nI i)), (3, .ref ou), (2, .ref mo), (1, .ref y), (0, .ref b)])
    (kk : ∀ (H1 : Heap) (locs1 : List Loc) (ls1 : Array Slot), WLD cA ga D (fun q => s.heap.size ≤ q) y ou mo (k9 + 1) H1 → va_S (fun q => s.heap.size ≤ q) s.heap H1 locs1 → lv_has ls1 7 [(4, .int (nI i)), (3, .ref ou), (2, .ref mo), (1, .ref y), (0, .ref b)] → W p l e room_1 s m #[.ref b] below meth c H1 locs1 (cells + 10) (slots + 60) Q (F0 m 1404 ls1 [])) :
    W p l e room_1 s m #[.ref b] below meth c H locs cells slots Q (F0 m 909 ls []) := by
  obtain ⟨sc, ar, w, ey, o, ad, q, φ, ψ, hP, rfl, rfl, hI, hm, rfl, hq, hφ, hψ, hd⟩ := hW
  have hj1 := hI.j1
  have hj0 := hI.j0.1
  have hA : ∀ q, s.heap.size ≤ q → (fun q => s.heap.size ≤ q) q := fun _ h => h
  refine lv_aload_n (pc := 909) S.1 S.2.1 dL_law_909 rfl (lv_at hl 3 rfl) ?_
  refine lv_aload_n (pc := 910) S.1 S.2.1 dL_law_910 rfl (lv_at hl 4 rfl) ?_
  refine lv_iload (pc := 911) S.1 S.2.1 dL_law_911 (lv_at hl 0 rfl) ?_
  refine lv_iconst (pc := 913) (v := nI 1) S.1 S.2.1 dL_law_913 (by decide) ?_
  refine lv_iadd (pc := 914) S.1 S.2.1 dL_law_914 ?_
  refine hv_ti (y := nI (i + 1)) (nI_add _ _) ?_
  refine va_sld (pc := 915) S.1 S.2.1 hXs hbl (Nat.not_le.mpr hbl) hS (vp_in_nI (by omega) (by omega)) dL_law_915 ?_
  refine hv_ti (y := xs (i + 1)) (by rw [nI_clamp (by omega)]) ?_
  refine lv_aload_n (pc := 916) S.1 S.2.1 dL_law_916 rfl (lv_at hl 1 rfl) ?_
  refine hv_callP (φ := φ) (ψ := ψ) (pc := 917) (vx_runSW (As := [.ref (ad 0 0), .int (xs (i + 1)), .ref (ad 0 9)]) (rest := []) S (lw_count l hfl D cA ga φ H.size k9 sc ar w ey o ad (xs (i + 1)) hP hI (by omega)) (vx_cwSW 3 S.2.2.2.2 (gSW tw_838 tw_839 tw_0 tw_840) rfl rfl rfl (by decide +kernel) ⟨Nat.le_of_ble_eq_true rfl, Nat.le_of_ble_eq_true rfl⟩) (pre1_S hφ hK hX hS hA hN3) rfl rfl hl.1 rfl (lv_room (Nat.le_of_ble_eq_true rfl)) dL_law_917 ⟨Nat.le_trans (show _ ≤ 20000 by omega) (Nat.le_of_ble_eq_true rfl), Nat.le_trans (show _ ≤ 200000 by omega) (Nat.le_of_ble_eq_true rfl)⟩) hS hA hφ hψ hd (fun v φ1 H locs hw hφ hψ hd hS => ?_)
  obtain ⟨rfl, hw1, hw2⟩ := hw
  have hM31 : mcd 1 9 9 (cntX (xs (i + 1))) < 10 := mcd_lt (by decide) (by decide) (by decide)
  refine lv_istore (pc := 920) (lv' := [(5, .int (nI (mcd 1 9 9 (cntX (xs (i + 1)))))), (4, .int (nI i)), (3, .ref (ad 0 9)), (2, .ref (q 0)), (1, .ref (ad 0 0)), (0, .ref b)]) S.1 S.2.1 dL_law_920 hl (by decide) rfl (fun ls hl => ?_)
  refine lv_aload_n (pc := 922) S.1 S.2.1 dL_law_922 rfl (lv_at hl 3 rfl) ?_
  refine lv_aload_n (pc := 923) S.1 S.2.1 dL_law_923 rfl (lv_at hl 5 rfl) ?_
  refine lv_iload (pc := 924) S.1 S.2.1 dL_law_924 (lv_at hl 1 rfl) ?_
  refine lv_iconst (pc := 926) (v := nI 1) S.1 S.2.1 dL_law_926 (by decide) ?_
  refine lv_iadd (pc := 927) S.1 S.2.1 dL_law_927 ?_
  refine hv_ti (y := nI (i + 1)) (nI_add _ _) ?_
  refine va_sld (pc := 928) S.1 S.2.1 hXs hbl (Nat.not_le.mpr hbl) hS (vp_in_nI (by omega) (by omega)) dL_law_928 ?_
  refine hv_ti (y := xs (i + 1)) (by rw [nI_clamp (by omega)]) ?_
  refine hv_callP (φ := ψ) (ψ := φ1) (pc := 929) (va_runV (As := [.int (xs (i + 1))]) (rest := []) S (c_m_count l D cA ga ψ H.size q sc ar (xs (i + 1)) hm hq hI.j0.ty) (cwV 1 S.2.2.2.2 (gV tw_1137 tw_1138 tw_1139 tw_7 tw_1140) rfl rfl rfl (by decide +kernel) ⟨Nat.le_of_ble_eq_true rfl, Nat.le_of_ble_eq_true rfl⟩) (pre0_V hψ hK hX hS hA (hψ.recv hK hm.1 rfl)) rfl rfl hl.1 rfl (lv_room (Nat.le_of_ble_eq_true rfl)) dL_law_929 ⟨Nat.le_trans (show _ ≤ 20000 by omega) (Nat.le_of_ble_eq_true rfl), Nat.le_trans (show _ ≤ 200000 by omega) (Nat.le_of_ble_eq_true rfl)⟩) hS hA hψ hφ (fun x => (hd x).symm) (fun v ψ1 H locs hw hψ hφ hd hS => ?_)
  by_cases hz : cntX (xs (i + 1)) = 0
  · skip
    have hM : mcd 1 9 9 (cntX (xs (i + 1))) = 0 := by rw [hz]; rfl
    rw [if_pos hz] at hw
    have hn := hw2 hz
    obtain ⟨x1, hx1, hbx, hN⟩ := hn
    obtain ⟨x2, hx2, hc0, rfl, hm⟩ := hw
    have hex : x2 = x1 := jI_inj (hx2.symm.trans hx1) (by omega) (by omega)
    subst hex
    obtain ⟨w', e', o', ad', ho', hy', hou', hP', hI'⟩ := hN
    refine lv_istore (pc := 932) (lv' := [(6, .int (ctR (wkO 7 (sc 1) 4 0) x2)), (5, .int (nI (mcd 1 9 9 (cntX (xs (i + 1)))))), (4, .int (nI i)), (3, .ref (ad 0 9)), (2, .ref (q 0)), (1, .ref (ad 0 0)), (0, .ref b)]) S.1 S.2.1 dL_law_932 hl (by decide) rfl (fun ls hl => ?_)
    refine lv_aload_n (pc := 934) S.1 S.2.1 dL_law_934 rfl (lv_at hl 4 rfl) ?_
    refine hv_callP (φ := ψ1) (ψ := φ1) (pc := 935) (va_runV (As := []) (rest := []) S (c_m_thrown l D cA ga ψ1 H.size q (va_up (va_up (va_up sc 0 (0)) 1 (0)) 7 (0)) (ar) hm hq) (cwV 0 S.2.2.2.2 (gV tw_1013 tw_1014 tw_1015 tw_7 tw_1016) rfl rfl rfl (by decide +kernel) ⟨Nat.le_of_ble_eq_true rfl, Nat.le_of_ble_eq_true rfl⟩) (pre0_V hψ hK hX hS hA (hψ.recv hK hm.1 rfl)) rfl rfl hl.1 rfl (lv_room (Nat.le_of_ble_eq_true rfl)) dL_law_935 ⟨Nat.le_trans (show _ ≤ 20000 by omega) (Nat.le_of_ble_eq_true rfl), Nat.le_trans (show _ ≤ 200000 by omega) (Nat.le_of_ble_eq_true rfl)⟩) hS hA hψ hφ hd (fun v ψ2 H locs hw hψ hφ hd hS => ?_)
    obtain ⟨rfl, hps⟩ := hw
    rw [hps] at hψ hd
    refine hv_ti (y := nI 0) (rfl) ?_
    refine lv_iload (pc := 938) S.1 S.2.1 dL_law_938 (lv_at hl 1 rfl) ?_
    refine hv_icmp_eq (pc := 940) (tgt := 945) (a := 0) (b := mcd 1 9 9 (cntX (xs (i + 1)))) S.1 S.2.1 (by omega) (by omega) dL_law_940 (by decide) (fun c_1 => ?_) (fun c_1 => ?_)
    · skip
      refine lv_iload (pc := 945) S.1 S.2.1 dL_law_945 (lv_at hl 1 rfl) ?_
      refine hv_if_ne (pc := 947) (tgt := 962) (a := mcd 1 9 9 (cntX (xs (i + 1)))) S.1 S.2.1 (by omega) dL_law_947 (by decide) (fun c_2 => ?_) (fun c_2 => ?_)
      · skip
        exact absurd c_2 (by omega)
      · skip
        refine lv_aload_n (pc := 950) S.1 S.2.1 dL_law_950 rfl (lv_at hl 3 rfl) ?_
        refine lv_iconst (pc := 951) (v := nI 0) S.1 S.2.1 dL_law_951 (by decide) ?_
        have hfo : φ1 (ad 0 9) = some (.inl (cA 3, 1, .inr (.inl o'))) := by rw [← hou']; exact hP'.at (r := 0) (j := 9) rfl
        have hH := hφ
        refine hv_lald (pc := 952) S hK hH 3 hfo rfl (vp_in_nI (by decide) (by decide)) dL_law_952 ?_
        refine hv_tv (y := .long ((ctR (wkO 7 (sc 1) 4 0) x2).toInt64)) (by rw [nI_clamp (by decide), ho']) ?_
        refine lv_iload (pc := 953) S.1 S.2.1 dL_law_953 (lv_at hl 0 rfl) ?_
        refine lv_i2l (pc := 955) (v := (ctR (wkO 7 (sc 1) 4 0) x2).toInt64) S.1 S.2.1 dL_law_955 rfl ?_
        refine W.lcmp S.1 S.2.1 dL_law_956 ?_
        refine hv_ti (y := nI 0) (lgc _) ?_
        refine hv_if_eq (pc := 957) (tgt := 962) (a := 0) S.1 S.2.1 (by omega) dL_law_957 (by decide) (fun c_3 => ?_) (fun c_3 => ?_)
        · skip
          refine lv_goto (pc := 962) (tgt := 1404) S.1 S.2.1 dL_law_962 (by decide) ?_
          refine W.widen (k := cells + 10) (n := slots + 60) (by omega) (by omega) ?_
          exact kk _ _ _ ⟨(va_up (va_up (va_up sc 0 (0)) 1 (0)) 7 (0)), ar, w', e', o', ad', q, φ1, ψ1, hP', hy', hou', hI', hm, rfl, hq, hφ, hψ, fun x => (hd x).symm⟩ hS (lv_sub hl [2, 3, 4, 5, 6] rfl)
        · skip
          exact absurd c_3 (by omega)
    · skip
      exact absurd c_1 (by omega)
  · skip
    have hor : cntX (xs (i + 1)) ≤ 3 := by unfold cntX; (repeat' split) <;> decide
    have hM0 := mcd_ne (a := 1) (b := 9) (c := 9) (by decide) (by decide) (by decide) hz hor
    rw [if_neg hz] at hw
    obtain ⟨rfl, hm⟩ := hw
    refine lv_istore (pc := 932) (lv' := [(6, .int (nI 0)), (5, .int (nI (mcd 1 9 9 (cntX (xs (i + 1)))))), (4, .int (nI i)), (3, .ref (ad 0 9)), (2, .ref (q 0)), (1, .ref (ad 0 0)), (0, .ref b)]) S.1 S.2.1 dL_law_932 hl (by decide) rfl (fun ls hl => ?_)
    refine lv_aload_n (pc := 934) S.1 S.2.1 dL_law_934 rfl (lv_at hl 4 rfl) ?_
    refine hv_callP (φ := ψ1) (ψ := φ1) (pc := 935) (va_runV (As := []) (rest := []) S (c_m_thrown l D cA ga ψ1 H.size q (va_up sc 7 (mcd 1 9 9 (cntX (xs (i + 1))))) (ar) hm hq) (cwV 0 S.2.2.2.2 (gV tw_1013 tw_1014 tw_1015 tw_7 tw_1016) rfl rfl rfl (by decide +kernel) ⟨Nat.le_of_ble_eq_true rfl, Nat.le_of_ble_eq_true rfl⟩) (pre0_V hψ hK hX hS hA (hψ.recv hK hm.1 rfl)) rfl rfl hl.1 rfl (lv_room (Nat.le_of_ble_eq_true rfl)) dL_law_935 ⟨Nat.le_trans (show _ ≤ 20000 by omega) (Nat.le_of_ble_eq_true rfl), Nat.le_trans (show _ ≤ 200000 by omega) (Nat.le_of_ble_eq_true rfl)⟩) hS hA hψ hφ hd (fun v ψ2 H locs hw hψ hφ hd hS => ?_)
    obtain ⟨rfl, hps⟩ := hw
    rw [hps] at hψ hd
    refine hv_ti (y := nI (mcd 1 9 9 (cntX (xs (i + 1))))) (rfl) ?_
    refine lv_iload (pc := 938) S.1 S.2.1 dL_law_938 (lv_at hl 1 rfl) ?_
    refine hv_icmp_eq (pc := 940) (tgt := 945) (a := mcd 1 9 9 (cntX (xs (i + 1)))) (b := mcd 1 9 9 (cntX (xs (i + 1)))) S.1 S.2.1 (by omega) (by omega) dL_law_940 (by decide) (fun c_4 => ?_) (fun c_4 => ?_)
    · skip
      refine lv_iload (pc := 945) S.1 S.2.1 dL_law_945 (lv_at hl 1 rfl) ?_
      refine hv_if_ne (pc := 947) (tgt := 962) (a := mcd 1 9 9 (cntX (xs (i + 1)))) S.1 S.2.1 (by omega) dL_law_947 (by decide) (fun c_5 => ?_) (fun c_5 => ?_)
      · skip
        refine lv_goto (pc := 962) (tgt := 1404) S.1 S.2.1 dL_law_962 (by decide) ?_
        refine W.widen (k := cells + 10) (n := slots + 60) (by omega) (by omega) ?_
        exact kk _ _ _ ⟨(va_up sc 7 (mcd 1 9 9 (cntX (xs (i + 1))))), ar, w, ey, o, ad, q, φ1, ψ1, yp_same (hw1 hz) _, rfl, rfl, hI.mono _, hm, rfl, hq, hφ, hψ, fun x => (hd x).symm⟩ hS (lv_sub hl [2, 3, 4, 5, 6] rfl)
      · skip
        exact absurd c_5 (by omega)
    · skip
      exact absurd c_4 (by omega)
set_option maxHeartbeats 4000000 in
set_option maxRecDepth 100000 in
theorem law_countAnew (l : Launch) (hfl : l.stackTraces = false) {p : Program} {e : Env} {s : State} {m : MethodId} {below : List Frame} {meth : Method} {c : Code} {b L : Nat} {xs : Nat → Int32} {D : va_G} {cA : Nat → ClassId} {ga : Nat → Nat → Nat} {Q : State → Prop} (S : CallFix p m c code 7 s #[.ref b] Wc RL) (hK : va_K D vwCl (tysL cA) s) (hX : Sx ga (fun q => s.heap.size ≤ q) s s.heap) (hN3 : Nc3 s) (hXs : va_X b L xs s s.heap) (hbl : b < s.heap.size) (hL : L ≤ 2048) {k9 i y mo ou cells slots : Nat} {H : Heap} {locs : List Loc} {ls : Array Slot} (hk : k9 < 512) (hi : i + 4 ≤ L) (hc : cells ≤ 30 + 10 * k9) (hs : slots ≤ 500 + 60 * k9)
    (hW : WLD cA ga D (fun q => s.heap.size ≤ q) y ou mo k9 H) (hS : va_S (fun q => s.heap.size ≤ q) s.heap H locs) (hl : lv_has ls 7 [(4, .int (nI i)), (3, .ref ou), (2, .ref mo), (1, .ref y), (0, .ref b)])
    (kk : ∀ (H1 : Heap) (locs1 : List Loc) (ls1 : Array Slot), WLD cA ga D (fun q => s.heap.size ≤ q) y ou mo (k9 + 1) H1 → va_S (fun q => s.heap.size ≤ q) s.heap H1 locs1 → lv_has ls1 7 [(4, .int (nI i)), (3, .ref ou), (2, .ref mo), (1, .ref y), (0, .ref b)] → W p l e room_1 s m #[.ref b] below meth c H1 locs1 (cells + 10) (slots + 60) Q (F0 m 1404 ls1 [])) :
    W p l e room_1 s m #[.ref b] below meth c H locs cells slots Q (F0 m 965 ls []) := by
  obtain ⟨sc, ar, w, ey, o, ad, q, φ, ψ, hP, rfl, rfl, hI, hm, rfl, hq, hφ, hψ, hd⟩ := hW
  have hj1 := hI.j1
  have hj0 := hI.j0.1
  have hA : ∀ q, s.heap.size ≤ q → (fun q => s.heap.size ≤ q) q := fun _ h => h
  refine lv_aload_n (pc := 965) S.1 S.2.1 dL_law_965 rfl (lv_at hl 3 rfl) ?_
  refine lv_aload_n (pc := 966) S.1 S.2.1 dL_law_966 rfl (lv_at hl 4 rfl) ?_
  refine lv_iload (pc := 967) S.1 S.2.1 dL_law_967 (lv_at hl 0 rfl) ?_
  refine lv_iconst (pc := 969) (v := nI 1) S.1 S.2.1 dL_law_969 (by decide) ?_
  refine lv_iadd (pc := 970) S.1 S.2.1 dL_law_970 ?_
  refine hv_ti (y := nI (i + 1)) (nI_add _ _) ?_
  refine va_sld (pc := 971) S.1 S.2.1 hXs hbl (Nat.not_le.mpr hbl) hS (vp_in_nI (by omega) (by omega)) dL_law_971 ?_
  refine hv_ti (y := xs (i + 1)) (by rw [nI_clamp (by omega)]) ?_
  refine lv_aload_n (pc := 972) S.1 S.2.1 dL_law_972 rfl (lv_at hl 1 rfl) ?_
  refine hv_callP (φ := φ) (ψ := ψ) (pc := 973) (vx_runSW (As := [.ref (ad 0 0), .int (xs (i + 1)), .ref (ad 0 9)]) (rest := []) S (lw_countAnew l hfl D cA ga φ H.size k9 sc ar w ey o ad (xs (i + 1)) hP hI (by omega)) (vx_cwSW 3 S.2.2.2.2 (gSW tw_861 tw_862 tw_0 tw_863) rfl rfl rfl (by decide +kernel) ⟨Nat.le_of_ble_eq_true rfl, Nat.le_of_ble_eq_true rfl⟩) (pre1_S hφ hK hX hS hA hN3) rfl rfl hl.1 rfl (lv_room (Nat.le_of_ble_eq_true rfl)) dL_law_973 ⟨Nat.le_trans (show _ ≤ 20000 by omega) (Nat.le_of_ble_eq_true rfl), Nat.le_trans (show _ ≤ 200000 by omega) (Nat.le_of_ble_eq_true rfl)⟩) hS hA hφ hψ hd (fun v φ1 H locs hw hφ hψ hd hS => ?_)
  obtain ⟨rfl, hw1, hw2⟩ := hw
  have hM31 : mcd 1 9 9 (cntX (xs (i + 1))) < 10 := mcd_lt (by decide) (by decide) (by decide)
  refine lv_istore (pc := 976) (lv' := [(5, .int (nI (mcd 1 9 9 (cntX (xs (i + 1)))))), (4, .int (nI i)), (3, .ref (ad 0 9)), (2, .ref (q 0)), (1, .ref (ad 0 0)), (0, .ref b)]) S.1 S.2.1 dL_law_976 hl (by decide) rfl (fun ls hl => ?_)
  refine lv_aload_n (pc := 978) S.1 S.2.1 dL_law_978 rfl (lv_at hl 3 rfl) ?_
  refine lv_aload_n (pc := 979) S.1 S.2.1 dL_law_979 rfl (lv_at hl 5 rfl) ?_
  refine lv_iload (pc := 980) S.1 S.2.1 dL_law_980 (lv_at hl 1 rfl) ?_
  refine lv_iconst (pc := 982) (v := nI 1) S.1 S.2.1 dL_law_982 (by decide) ?_
  refine lv_iadd (pc := 983) S.1 S.2.1 dL_law_983 ?_
  refine hv_ti (y := nI (i + 1)) (nI_add _ _) ?_
  refine va_sld (pc := 984) S.1 S.2.1 hXs hbl (Nat.not_le.mpr hbl) hS (vp_in_nI (by omega) (by omega)) dL_law_984 ?_
  refine hv_ti (y := xs (i + 1)) (by rw [nI_clamp (by omega)]) ?_
  refine hv_callP (φ := ψ) (ψ := φ1) (pc := 985) (va_runV (As := [.int (xs (i + 1))]) (rest := []) S (c_m_countAnew l D cA ga ψ H.size q sc ar (xs (i + 1)) hm hq hI.j0.ty) (cwV 1 S.2.2.2.2 (gV tw_1152 tw_1153 tw_1154 tw_7 tw_1155) rfl rfl rfl (by decide +kernel) ⟨Nat.le_of_ble_eq_true rfl, Nat.le_of_ble_eq_true rfl⟩) (pre0_V hψ hK hX hS hA (hψ.recv hK hm.1 rfl)) rfl rfl hl.1 rfl (lv_room (Nat.le_of_ble_eq_true rfl)) dL_law_985 ⟨Nat.le_trans (show _ ≤ 20000 by omega) (Nat.le_of_ble_eq_true rfl), Nat.le_trans (show _ ≤ 200000 by omega) (Nat.le_of_ble_eq_true rfl)⟩) hS hA hψ hφ (fun x => (hd x).symm) (fun v ψ1 H locs hw hψ hφ hd hS => ?_)
  by_cases hz : cntX (xs (i + 1)) = 0
  · skip
    have hM : mcd 1 9 9 (cntX (xs (i + 1))) = 0 := by rw [hz]; rfl
    rw [if_pos hz] at hw
    have hn := hw2 hz
    obtain ⟨x1, hx1, hbx, hN⟩ := hn
    obtain ⟨x2, hx2, hc0, rfl, hm⟩ := hw
    have hex : x2 = x1 := jI_inj (hx2.symm.trans hx1) (by omega) (by omega)
    subst hex
    obtain ⟨w', e', o', ad', ho', hy', hou', hP', hI'⟩ := hN
    refine lv_istore (pc := 988) (lv' := [(6, .int (ctR (wkO 7 (sc 1) 4 0) x2)), (5, .int (nI (mcd 1 9 9 (cntX (xs (i + 1)))))), (4, .int (nI i)), (3, .ref (ad 0 9)), (2, .ref (q 0)), (1, .ref (ad 0 0)), (0, .ref b)]) S.1 S.2.1 dL_law_988 hl (by decide) rfl (fun ls hl => ?_)
    refine lv_aload_n (pc := 990) S.1 S.2.1 dL_law_990 rfl (lv_at hl 4 rfl) ?_
    refine hv_callP (φ := ψ1) (ψ := φ1) (pc := 991) (va_runV (As := []) (rest := []) S (c_m_thrown l D cA ga ψ1 H.size q (va_up (va_up (va_up sc 0 (0)) 1 (0)) 7 (0)) (ar) hm hq) (cwV 0 S.2.2.2.2 (gV tw_1013 tw_1014 tw_1015 tw_7 tw_1016) rfl rfl rfl (by decide +kernel) ⟨Nat.le_of_ble_eq_true rfl, Nat.le_of_ble_eq_true rfl⟩) (pre0_V hψ hK hX hS hA (hψ.recv hK hm.1 rfl)) rfl rfl hl.1 rfl (lv_room (Nat.le_of_ble_eq_true rfl)) dL_law_991 ⟨Nat.le_trans (show _ ≤ 20000 by omega) (Nat.le_of_ble_eq_true rfl), Nat.le_trans (show _ ≤ 200000 by omega) (Nat.le_of_ble_eq_true rfl)⟩) hS hA hψ hφ hd (fun v ψ2 H locs hw hψ hφ hd hS => ?_)
    obtain ⟨rfl, hps⟩ := hw
    rw [hps] at hψ hd
    refine hv_ti (y := nI 0) (rfl) ?_
    refine lv_iload (pc := 994) S.1 S.2.1 dL_law_994 (lv_at hl 1 rfl) ?_
    refine hv_icmp_eq (pc := 996) (tgt := 1001) (a := 0) (b := mcd 1 9 9 (cntX (xs (i + 1)))) S.1 S.2.1 (by omega) (by omega) dL_law_996 (by decide) (fun c_1 => ?_) (fun c_1 => ?_)
    · skip
      refine lv_iload (pc := 1001) S.1 S.2.1 dL_law_1001 (lv_at hl 1 rfl) ?_
      refine hv_if_ne (pc := 1003) (tgt := 1018) (a := mcd 1 9 9 (cntX (xs (i + 1)))) S.1 S.2.1 (by omega) dL_law_1003 (by decide) (fun c_2 => ?_) (fun c_2 => ?_)
      · skip
        exact absurd c_2 (by omega)
      · skip
        refine lv_aload_n (pc := 1006) S.1 S.2.1 dL_law_1006 rfl (lv_at hl 3 rfl) ?_
        refine lv_iconst (pc := 1007) (v := nI 0) S.1 S.2.1 dL_law_1007 (by decide) ?_
        have hfo : φ1 (ad 0 9) = some (.inl (cA 3, 1, .inr (.inl o'))) := by rw [← hou']; exact hP'.at (r := 0) (j := 9) rfl
        have hH := hφ
        refine hv_lald (pc := 1008) S hK hH 3 hfo rfl (vp_in_nI (by decide) (by decide)) dL_law_1008 ?_
        refine hv_tv (y := .long ((ctR (wkO 7 (sc 1) 4 0) x2).toInt64)) (by rw [nI_clamp (by decide), ho']) ?_
        refine lv_iload (pc := 1009) S.1 S.2.1 dL_law_1009 (lv_at hl 0 rfl) ?_
        refine lv_i2l (pc := 1011) (v := (ctR (wkO 7 (sc 1) 4 0) x2).toInt64) S.1 S.2.1 dL_law_1011 rfl ?_
        refine W.lcmp S.1 S.2.1 dL_law_1012 ?_
        refine hv_ti (y := nI 0) (lgc _) ?_
        refine hv_if_eq (pc := 1013) (tgt := 1018) (a := 0) S.1 S.2.1 (by omega) dL_law_1013 (by decide) (fun c_3 => ?_) (fun c_3 => ?_)
        · skip
          refine lv_goto (pc := 1018) (tgt := 1404) S.1 S.2.1 dL_law_1018 (by decide) ?_
          refine W.widen (k := cells + 10) (n := slots + 60) (by omega) (by omega) ?_
          exact kk _ _ _ ⟨(va_up (va_up (va_up sc 0 (0)) 1 (0)) 7 (0)), ar, w', e', o', ad', q, φ1, ψ1, hP', hy', hou', hI', hm, rfl, hq, hφ, hψ, fun x => (hd x).symm⟩ hS (lv_sub hl [2, 3, 4, 5, 6] rfl)
        · skip
          exact absurd c_3 (by omega)
    · skip
      exact absurd c_1 (by omega)
  · skip
    have hor : cntX (xs (i + 1)) ≤ 3 := by unfold cntX; (repeat' split) <;> decide
    have hM0 := mcd_ne (a := 1) (b := 9) (c := 9) (by decide) (by decide) (by decide) hz hor
    rw [if_neg hz] at hw
    obtain ⟨rfl, hm⟩ := hw
    refine lv_istore (pc := 988) (lv' := [(6, .int (nI 0)), (5, .int (nI (mcd 1 9 9 (cntX (xs (i + 1)))))), (4, .int (nI i)), (3, .ref (ad 0 9)), (2, .ref (q 0)), (1, .ref (ad 0 0)), (0, .ref b)]) S.1 S.2.1 dL_law_988 hl (by decide) rfl (fun ls hl => ?_)
    refine lv_aload_n (pc := 990) S.1 S.2.1 dL_law_990 rfl (lv_at hl 4 rfl) ?_
    refine hv_callP (φ := ψ1) (ψ := φ1) (pc := 991) (va_runV (As := []) (rest := []) S (c_m_thrown l D cA ga ψ1 H.size q (va_up sc 7 (mcd 1 9 9 (cntX (xs (i + 1))))) (ar) hm hq) (cwV 0 S.2.2.2.2 (gV tw_1013 tw_1014 tw_1015 tw_7 tw_1016) rfl rfl rfl (by decide +kernel) ⟨Nat.le_of_ble_eq_true rfl, Nat.le_of_ble_eq_true rfl⟩) (pre0_V hψ hK hX hS hA (hψ.recv hK hm.1 rfl)) rfl rfl hl.1 rfl (lv_room (Nat.le_of_ble_eq_true rfl)) dL_law_991 ⟨Nat.le_trans (show _ ≤ 20000 by omega) (Nat.le_of_ble_eq_true rfl), Nat.le_trans (show _ ≤ 200000 by omega) (Nat.le_of_ble_eq_true rfl)⟩) hS hA hψ hφ hd (fun v ψ2 H locs hw hψ hφ hd hS => ?_)
    obtain ⟨rfl, hps⟩ := hw
    rw [hps] at hψ hd
    refine hv_ti (y := nI (mcd 1 9 9 (cntX (xs (i + 1))))) (rfl) ?_
    refine lv_iload (pc := 994) S.1 S.2.1 dL_law_994 (lv_at hl 1 rfl) ?_
    refine hv_icmp_eq (pc := 996) (tgt := 1001) (a := mcd 1 9 9 (cntX (xs (i + 1)))) (b := mcd 1 9 9 (cntX (xs (i + 1)))) S.1 S.2.1 (by omega) (by omega) dL_law_996 (by decide) (fun c_4 => ?_) (fun c_4 => ?_)
    · skip
      refine lv_iload (pc := 1001) S.1 S.2.1 dL_law_1001 (lv_at hl 1 rfl) ?_
      refine hv_if_ne (pc := 1003) (tgt := 1018) (a := mcd 1 9 9 (cntX (xs (i + 1)))) S.1 S.2.1 (by omega) dL_law_1003 (by decide) (fun c_5 => ?_) (fun c_5 => ?_)
      · skip
        refine lv_goto (pc := 1018) (tgt := 1404) S.1 S.2.1 dL_law_1018 (by decide) ?_
        refine W.widen (k := cells + 10) (n := slots + 60) (by omega) (by omega) ?_
        exact kk _ _ _ ⟨(va_up sc 7 (mcd 1 9 9 (cntX (xs (i + 1))))), ar, w, ey, o, ad, q, φ1, ψ1, yp_same (hw1 hz) _, rfl, rfl, hI.mono _, hm, rfl, hq, hφ, hψ, fun x => (hd x).symm⟩ hS (lv_sub hl [2, 3, 4, 5, 6] rfl)
      · skip
        exact absurd c_5 (by omega)
    · skip
      exact absurd c_4 (by omega)
set_option maxHeartbeats 4000000 in
set_option maxRecDepth 100000 in
theorem law_rows (l : Launch) (hfl : l.stackTraces = false) {p : Program} {e : Env} {s : State} {m : MethodId} {below : List Frame} {meth : Method} {c : Code} {b L : Nat} {xs : Nat → Int32} {D : va_G} {cA : Nat → ClassId} {ga : Nat → Nat → Nat} {Q : State → Prop} (S : CallFix p m c code 7 s #[.ref b] Wc RL) (hK : va_K D vwCl (tysL cA) s) (hX : Sx ga (fun q => s.heap.size ≤ q) s s.heap) (hN3 : Nc3 s) (hXs : va_X b L xs s s.heap) (hbl : b < s.heap.size) (hL : L ≤ 2048) {k9 i y mo ou cells slots : Nat} {H : Heap} {locs : List Loc} {ls : Array Slot} (hk : k9 < 512) (hi : i + 4 ≤ L) (hc : cells ≤ 30 + 10 * k9) (hs : slots ≤ 500 + 60 * k9)
    (hW : WLD cA ga D (fun q => s.heap.size ≤ q) y ou mo k9 H) (hS : va_S (fun q => s.heap.size ≤ q) s.heap H locs) (hl : lv_has ls 7 [(4, .int (nI i)), (3, .ref ou), (2, .ref mo), (1, .ref y), (0, .ref b)])
    (kk : ∀ (H1 : Heap) (locs1 : List Loc) (ls1 : Array Slot), WLD cA ga D (fun q => s.heap.size ≤ q) y ou mo (k9 + 1) H1 → va_S (fun q => s.heap.size ≤ q) s.heap H1 locs1 → lv_has ls1 7 [(4, .int (nI i)), (3, .ref ou), (2, .ref mo), (1, .ref y), (0, .ref b)] → W p l e room_1 s m #[.ref b] below meth c H1 locs1 (cells + 10) (slots + 60) Q (F0 m 1404 ls1 [])) :
    W p l e room_1 s m #[.ref b] below meth c H locs cells slots Q (F0 m 1021 ls []) := by
  obtain ⟨sc, ar, w, ey, o, ad, q, φ, ψ, hP, rfl, rfl, hI, hm, rfl, hq, hφ, hψ, hd⟩ := hW
  have hj1 := hI.j1
  have hj0 := hI.j0.1
  have hA : ∀ q, s.heap.size ≤ q → (fun q => s.heap.size ≤ q) q := fun _ h => h
  refine lv_aload_n (pc := 1021) S.1 S.2.1 dL_law_1021 rfl (lv_at hl 3 rfl) ?_
  refine lv_aload_n (pc := 1022) S.1 S.2.1 dL_law_1022 rfl (lv_at hl 4 rfl) ?_
  refine lv_iload (pc := 1023) S.1 S.2.1 dL_law_1023 (lv_at hl 0 rfl) ?_
  refine lv_iconst (pc := 1025) (v := nI 1) S.1 S.2.1 dL_law_1025 (by decide) ?_
  refine lv_iadd (pc := 1026) S.1 S.2.1 dL_law_1026 ?_
  refine hv_ti (y := nI (i + 1)) (nI_add _ _) ?_
  refine va_sld (pc := 1027) S.1 S.2.1 hXs hbl (Nat.not_le.mpr hbl) hS (vp_in_nI (by omega) (by omega)) dL_law_1027 ?_
  refine hv_ti (y := xs (i + 1)) (by rw [nI_clamp (by omega)]) ?_
  refine lv_aload_n (pc := 1028) S.1 S.2.1 dL_law_1028 rfl (lv_at hl 1 rfl) ?_
  refine hv_callP (φ := φ) (ψ := ψ) (pc := 1029) (vx_runSW (As := [.ref (ad 0 0), .int (xs (i + 1)), .ref (ad 0 9)]) (rest := []) S (lw_rows l hfl D cA ga φ H.size k9 sc ar w ey o ad (xs (i + 1)) hP hI (by omega)) (vx_cwSW 3 S.2.2.2.2 (gSW tw_876 tw_877 tw_0 tw_878) rfl rfl rfl (by decide +kernel) ⟨Nat.le_of_ble_eq_true rfl, Nat.le_of_ble_eq_true rfl⟩) (pre1_S hφ hK hX hS hA hN3) rfl rfl hl.1 rfl (lv_room (Nat.le_of_ble_eq_true rfl)) dL_law_1029 ⟨Nat.le_trans (show _ ≤ 20000 by omega) (Nat.le_of_ble_eq_true rfl), Nat.le_trans (show _ ≤ 200000 by omega) (Nat.le_of_ble_eq_true rfl)⟩) hS hA hφ hψ hd (fun v φ1 H locs hw hφ hψ hd hS => ?_)
  obtain ⟨rfl, hw1, hw2⟩ := hw
  have hM31 : mcd 1 9 9 (rowsX (xs (i + 1))) < 10 := mcd_lt (by decide) (by decide) (by decide)
  refine lv_istore (pc := 1032) (lv' := [(5, .int (nI (mcd 1 9 9 (rowsX (xs (i + 1)))))), (4, .int (nI i)), (3, .ref (ad 0 9)), (2, .ref (q 0)), (1, .ref (ad 0 0)), (0, .ref b)]) S.1 S.2.1 dL_law_1032 hl (by decide) rfl (fun ls hl => ?_)
  refine lv_aload_n (pc := 1034) S.1 S.2.1 dL_law_1034 rfl (lv_at hl 3 rfl) ?_
  refine lv_aload_n (pc := 1035) S.1 S.2.1 dL_law_1035 rfl (lv_at hl 5 rfl) ?_
  refine lv_iload (pc := 1036) S.1 S.2.1 dL_law_1036 (lv_at hl 1 rfl) ?_
  refine lv_iconst (pc := 1038) (v := nI 1) S.1 S.2.1 dL_law_1038 (by decide) ?_
  refine lv_iadd (pc := 1039) S.1 S.2.1 dL_law_1039 ?_
  refine hv_ti (y := nI (i + 1)) (nI_add _ _) ?_
  refine va_sld (pc := 1040) S.1 S.2.1 hXs hbl (Nat.not_le.mpr hbl) hS (vp_in_nI (by omega) (by omega)) dL_law_1040 ?_
  refine hv_ti (y := xs (i + 1)) (by rw [nI_clamp (by omega)]) ?_
  refine hv_callP (φ := ψ) (ψ := φ1) (pc := 1041) (va_runV (As := [.int (xs (i + 1))]) (rest := []) S (c_m_rows l D cA ga ψ H.size q sc ar (xs (i + 1)) hm hq hI.j0.ty) (cwV 1 S.2.2.2.2 (gV tw_1156 tw_1157 tw_1158 tw_7 tw_1159) rfl rfl rfl (by decide +kernel) ⟨Nat.le_of_ble_eq_true rfl, Nat.le_of_ble_eq_true rfl⟩) (pre0_V hψ hK hX hS hA (hψ.recv hK hm.1 rfl)) rfl rfl hl.1 rfl (lv_room (Nat.le_of_ble_eq_true rfl)) dL_law_1041 ⟨Nat.le_trans (show _ ≤ 20000 by omega) (Nat.le_of_ble_eq_true rfl), Nat.le_trans (show _ ≤ 200000 by omega) (Nat.le_of_ble_eq_true rfl)⟩) hS hA hψ hφ (fun x => (hd x).symm) (fun v ψ1 H locs hw hψ hφ hd hS => ?_)
  by_cases hz : rowsX (xs (i + 1)) = 0
  · skip
    have hM : mcd 1 9 9 (rowsX (xs (i + 1))) = 0 := by rw [hz]; rfl
    rw [if_pos hz] at hw
    have hn := hw2 hz
    obtain ⟨x1, hx1, hbx, hN⟩ := hn
    obtain ⟨x2, hx2, hc0, rfl, hm⟩ := hw
    have hex : x2 = x1 := jI_inj (hx2.symm.trans hx1) (by omega) (by omega)
    subst hex
    obtain ⟨w', e', o', ad', ho', hy', hou', hP', hI'⟩ := hN
    refine lv_istore (pc := 1044) (lv' := [(6, .int (rwR (wkO 7 (sc 1) 4 0) x2)), (5, .int (nI (mcd 1 9 9 (rowsX (xs (i + 1)))))), (4, .int (nI i)), (3, .ref (ad 0 9)), (2, .ref (q 0)), (1, .ref (ad 0 0)), (0, .ref b)]) S.1 S.2.1 dL_law_1044 hl (by decide) rfl (fun ls hl => ?_)
    refine lv_aload_n (pc := 1046) S.1 S.2.1 dL_law_1046 rfl (lv_at hl 4 rfl) ?_
    refine hv_callP (φ := ψ1) (ψ := φ1) (pc := 1047) (va_runV (As := []) (rest := []) S (c_m_thrown l D cA ga ψ1 H.size q (va_up (va_up (va_up sc 0 (0)) 1 (0)) 7 (0)) (ar) hm hq) (cwV 0 S.2.2.2.2 (gV tw_1013 tw_1014 tw_1015 tw_7 tw_1016) rfl rfl rfl (by decide +kernel) ⟨Nat.le_of_ble_eq_true rfl, Nat.le_of_ble_eq_true rfl⟩) (pre0_V hψ hK hX hS hA (hψ.recv hK hm.1 rfl)) rfl rfl hl.1 rfl (lv_room (Nat.le_of_ble_eq_true rfl)) dL_law_1047 ⟨Nat.le_trans (show _ ≤ 20000 by omega) (Nat.le_of_ble_eq_true rfl), Nat.le_trans (show _ ≤ 200000 by omega) (Nat.le_of_ble_eq_true rfl)⟩) hS hA hψ hφ hd (fun v ψ2 H locs hw hψ hφ hd hS => ?_)
    obtain ⟨rfl, hps⟩ := hw
    rw [hps] at hψ hd
    refine hv_ti (y := nI 0) (rfl) ?_
    refine lv_iload (pc := 1050) S.1 S.2.1 dL_law_1050 (lv_at hl 1 rfl) ?_
    refine hv_icmp_eq (pc := 1052) (tgt := 1057) (a := 0) (b := mcd 1 9 9 (rowsX (xs (i + 1)))) S.1 S.2.1 (by omega) (by omega) dL_law_1052 (by decide) (fun c_1 => ?_) (fun c_1 => ?_)
    · skip
      refine lv_iload (pc := 1057) S.1 S.2.1 dL_law_1057 (lv_at hl 1 rfl) ?_
      refine hv_if_ne (pc := 1059) (tgt := 1074) (a := mcd 1 9 9 (rowsX (xs (i + 1)))) S.1 S.2.1 (by omega) dL_law_1059 (by decide) (fun c_2 => ?_) (fun c_2 => ?_)
      · skip
        exact absurd c_2 (by omega)
      · skip
        refine lv_aload_n (pc := 1062) S.1 S.2.1 dL_law_1062 rfl (lv_at hl 3 rfl) ?_
        refine lv_iconst (pc := 1063) (v := nI 0) S.1 S.2.1 dL_law_1063 (by decide) ?_
        have hfo : φ1 (ad 0 9) = some (.inl (cA 3, 1, .inr (.inl o'))) := by rw [← hou']; exact hP'.at (r := 0) (j := 9) rfl
        have hH := hφ
        refine hv_lald (pc := 1064) S hK hH 3 hfo rfl (vp_in_nI (by decide) (by decide)) dL_law_1064 ?_
        refine hv_tv (y := .long ((rwR (wkO 7 (sc 1) 4 0) x2).toInt64)) (by rw [nI_clamp (by decide), ho']) ?_
        refine lv_iload (pc := 1065) S.1 S.2.1 dL_law_1065 (lv_at hl 0 rfl) ?_
        refine lv_i2l (pc := 1067) (v := (rwR (wkO 7 (sc 1) 4 0) x2).toInt64) S.1 S.2.1 dL_law_1067 rfl ?_
        refine W.lcmp S.1 S.2.1 dL_law_1068 ?_
        refine hv_ti (y := nI 0) (lgc _) ?_
        refine hv_if_eq (pc := 1069) (tgt := 1074) (a := 0) S.1 S.2.1 (by omega) dL_law_1069 (by decide) (fun c_3 => ?_) (fun c_3 => ?_)
        · skip
          refine lv_goto (pc := 1074) (tgt := 1404) S.1 S.2.1 dL_law_1074 (by decide) ?_
          refine W.widen (k := cells + 10) (n := slots + 60) (by omega) (by omega) ?_
          exact kk _ _ _ ⟨(va_up (va_up (va_up sc 0 (0)) 1 (0)) 7 (0)), ar, w', e', o', ad', q, φ1, ψ1, hP', hy', hou', hI', hm, rfl, hq, hφ, hψ, fun x => (hd x).symm⟩ hS (lv_sub hl [2, 3, 4, 5, 6] rfl)
        · skip
          exact absurd c_3 (by omega)
    · skip
      exact absurd c_1 (by omega)
  · skip
    have hor : rowsX (xs (i + 1)) ≤ 3 := by unfold rowsX; (repeat' split) <;> decide
    have hM0 := mcd_ne (a := 1) (b := 9) (c := 9) (by decide) (by decide) (by decide) hz hor
    rw [if_neg hz] at hw
    obtain ⟨rfl, hm⟩ := hw
    refine lv_istore (pc := 1044) (lv' := [(6, .int (nI 0)), (5, .int (nI (mcd 1 9 9 (rowsX (xs (i + 1)))))), (4, .int (nI i)), (3, .ref (ad 0 9)), (2, .ref (q 0)), (1, .ref (ad 0 0)), (0, .ref b)]) S.1 S.2.1 dL_law_1044 hl (by decide) rfl (fun ls hl => ?_)
    refine lv_aload_n (pc := 1046) S.1 S.2.1 dL_law_1046 rfl (lv_at hl 4 rfl) ?_
    refine hv_callP (φ := ψ1) (ψ := φ1) (pc := 1047) (va_runV (As := []) (rest := []) S (c_m_thrown l D cA ga ψ1 H.size q (va_up sc 7 (mcd 1 9 9 (rowsX (xs (i + 1))))) (ar) hm hq) (cwV 0 S.2.2.2.2 (gV tw_1013 tw_1014 tw_1015 tw_7 tw_1016) rfl rfl rfl (by decide +kernel) ⟨Nat.le_of_ble_eq_true rfl, Nat.le_of_ble_eq_true rfl⟩) (pre0_V hψ hK hX hS hA (hψ.recv hK hm.1 rfl)) rfl rfl hl.1 rfl (lv_room (Nat.le_of_ble_eq_true rfl)) dL_law_1047 ⟨Nat.le_trans (show _ ≤ 20000 by omega) (Nat.le_of_ble_eq_true rfl), Nat.le_trans (show _ ≤ 200000 by omega) (Nat.le_of_ble_eq_true rfl)⟩) hS hA hψ hφ hd (fun v ψ2 H locs hw hψ hφ hd hS => ?_)
    obtain ⟨rfl, hps⟩ := hw
    rw [hps] at hψ hd
    refine hv_ti (y := nI (mcd 1 9 9 (rowsX (xs (i + 1))))) (rfl) ?_
    refine lv_iload (pc := 1050) S.1 S.2.1 dL_law_1050 (lv_at hl 1 rfl) ?_
    refine hv_icmp_eq (pc := 1052) (tgt := 1057) (a := mcd 1 9 9 (rowsX (xs (i + 1)))) (b := mcd 1 9 9 (rowsX (xs (i + 1)))) S.1 S.2.1 (by omega) (by omega) dL_law_1052 (by decide) (fun c_4 => ?_) (fun c_4 => ?_)
    · skip
      refine lv_iload (pc := 1057) S.1 S.2.1 dL_law_1057 (lv_at hl 1 rfl) ?_
      refine hv_if_ne (pc := 1059) (tgt := 1074) (a := mcd 1 9 9 (rowsX (xs (i + 1)))) S.1 S.2.1 (by omega) dL_law_1059 (by decide) (fun c_5 => ?_) (fun c_5 => ?_)
      · skip
        refine lv_goto (pc := 1074) (tgt := 1404) S.1 S.2.1 dL_law_1074 (by decide) ?_
        refine W.widen (k := cells + 10) (n := slots + 60) (by omega) (by omega) ?_
        exact kk _ _ _ ⟨(va_up sc 7 (mcd 1 9 9 (rowsX (xs (i + 1))))), ar, w, ey, o, ad, q, φ1, ψ1, yp_same (hw1 hz) _, rfl, rfl, hI.mono _, hm, rfl, hq, hφ, hψ, fun x => (hd x).symm⟩ hS (lv_sub hl [2, 3, 4, 5, 6] rfl)
      · skip
        exact absurd c_5 (by omega)
    · skip
      exact absurd c_4 (by omega)
set_option maxHeartbeats 4000000 in
set_option maxRecDepth 100000 in
theorem law_measure (l : Launch) (hfl : l.stackTraces = false) {p : Program} {e : Env} {s : State} {m : MethodId} {below : List Frame} {meth : Method} {c : Code} {b L : Nat} {xs : Nat → Int32} {D : va_G} {cA : Nat → ClassId} {ga : Nat → Nat → Nat} {Q : State → Prop} (S : CallFix p m c code 7 s #[.ref b] Wc RL) (hK : va_K D vwCl (tysL cA) s) (hX : Sx ga (fun q => s.heap.size ≤ q) s s.heap) (hN3 : Nc3 s) (hXs : va_X b L xs s s.heap) (hbl : b < s.heap.size) (hL : L ≤ 2048) {k9 i y mo ou cells slots : Nat} {H : Heap} {locs : List Loc} {ls : Array Slot} (hk : k9 < 512) (hi : i + 4 ≤ L) (hc : cells ≤ 30 + 10 * k9) (hs : slots ≤ 500 + 60 * k9)
    (hW : WLD cA ga D (fun q => s.heap.size ≤ q) y ou mo k9 H) (hS : va_S (fun q => s.heap.size ≤ q) s.heap H locs) (hl : lv_has ls 7 [(4, .int (nI i)), (3, .ref ou), (2, .ref mo), (1, .ref y), (0, .ref b)])
    (kk : ∀ (H1 : Heap) (locs1 : List Loc) (ls1 : Array Slot), WLD cA ga D (fun q => s.heap.size ≤ q) y ou mo (k9 + 1) H1 → va_S (fun q => s.heap.size ≤ q) s.heap H1 locs1 → lv_has ls1 7 [(4, .int (nI i)), (3, .ref ou), (2, .ref mo), (1, .ref y), (0, .ref b)] → W p l e room_1 s m #[.ref b] below meth c H1 locs1 (cells + 10) (slots + 60) Q (F0 m 1404 ls1 [])) :
    W p l e room_1 s m #[.ref b] below meth c H locs cells slots Q (F0 m 1077 ls []) := by
  obtain ⟨sc, ar, w, ey, o, ad, q, φ, ψ, hP, rfl, rfl, hI, hm, rfl, hq, hφ, hψ, hd⟩ := hW
  have hj1 := hI.j1
  have hj0 := hI.j0.1
  have hA : ∀ q, s.heap.size ≤ q → (fun q => s.heap.size ≤ q) q := fun _ h => h
  refine lv_aload_n (pc := 1077) S.1 S.2.1 dL_law_1077 rfl (lv_at hl 3 rfl) ?_
  refine lv_aload_n (pc := 1078) S.1 S.2.1 dL_law_1078 rfl (lv_at hl 4 rfl) ?_
  refine lv_iload (pc := 1079) S.1 S.2.1 dL_law_1079 (lv_at hl 0 rfl) ?_
  refine lv_iconst (pc := 1081) (v := nI 1) S.1 S.2.1 dL_law_1081 (by decide) ?_
  refine lv_iadd (pc := 1082) S.1 S.2.1 dL_law_1082 ?_
  refine hv_ti (y := nI (i + 1)) (nI_add _ _) ?_
  refine va_sld (pc := 1083) S.1 S.2.1 hXs hbl (Nat.not_le.mpr hbl) hS (vp_in_nI (by omega) (by omega)) dL_law_1083 ?_
  refine hv_ti (y := xs (i + 1)) (by rw [nI_clamp (by omega)]) ?_
  refine lv_aload_n (pc := 1084) S.1 S.2.1 dL_law_1084 rfl (lv_at hl 4 rfl) ?_
  refine lv_iload (pc := 1085) S.1 S.2.1 dL_law_1085 (lv_at hl 0 rfl) ?_
  refine lv_iconst (pc := 1087) (v := nI 2) S.1 S.2.1 dL_law_1087 (by decide) ?_
  refine lv_iadd (pc := 1088) S.1 S.2.1 dL_law_1088 ?_
  refine hv_ti (y := nI (i + 2)) (nI_add _ _) ?_
  refine va_sld (pc := 1089) S.1 S.2.1 hXs hbl (Nat.not_le.mpr hbl) hS (vp_in_nI (by omega) (by omega)) dL_law_1089 ?_
  refine hv_ti (y := xs (i + 2)) (by rw [nI_clamp (by omega)]) ?_
  refine lv_aload_n (pc := 1090) S.1 S.2.1 dL_law_1090 rfl (lv_at hl 1 rfl) ?_
  refine hv_callP (φ := φ) (ψ := ψ) (pc := 1091) (vx_runSW (As := [.ref (ad 0 0), .int (xs (i + 1)), .int (xs (i + 2)), .ref (ad 0 9)]) (rest := []) S (lw_measure l hfl D cA ga φ H.size k9 sc ar w ey o ad (xs (i + 1)) (xs (i + 2)) hP hI (by omega)) (vx_cwSW 4 S.2.2.2.2 (gSW tw_887 tw_888 tw_0 tw_889) rfl rfl rfl (by decide +kernel) ⟨Nat.le_of_ble_eq_true rfl, Nat.le_of_ble_eq_true rfl⟩) (pre1_S hφ hK hX hS hA hN3) rfl rfl hl.1 rfl (lv_room (Nat.le_of_ble_eq_true rfl)) dL_law_1091 ⟨Nat.le_trans (show _ ≤ 20000 by omega) (Nat.le_of_ble_eq_true rfl), Nat.le_trans (show _ ≤ 200000 by omega) (Nat.le_of_ble_eq_true rfl)⟩) hS hA hφ hψ hd (fun v φ1 H locs hw hφ hψ hd hS => ?_)
  obtain ⟨rfl, hw1, hw2⟩ := hw
  have hM31 : mcd 2 9 1 (measX (xs (i + 1)) (xs (i + 2))) < 10 := mcd_lt (by decide) (by decide) (by decide)
  refine lv_istore (pc := 1094) (lv' := [(5, .int (nI (mcd 2 9 1 (measX (xs (i + 1)) (xs (i + 2)))))), (4, .int (nI i)), (3, .ref (ad 0 9)), (2, .ref (q 0)), (1, .ref (ad 0 0)), (0, .ref b)]) S.1 S.2.1 dL_law_1094 hl (by decide) rfl (fun ls hl => ?_)
  refine lv_aload_n (pc := 1096) S.1 S.2.1 dL_law_1096 rfl (lv_at hl 3 rfl) ?_
  refine lv_aload_n (pc := 1097) S.1 S.2.1 dL_law_1097 rfl (lv_at hl 5 rfl) ?_
  refine lv_iload (pc := 1098) S.1 S.2.1 dL_law_1098 (lv_at hl 1 rfl) ?_
  refine lv_iconst (pc := 1100) (v := nI 1) S.1 S.2.1 dL_law_1100 (by decide) ?_
  refine lv_iadd (pc := 1101) S.1 S.2.1 dL_law_1101 ?_
  refine hv_ti (y := nI (i + 1)) (nI_add _ _) ?_
  refine va_sld (pc := 1102) S.1 S.2.1 hXs hbl (Nat.not_le.mpr hbl) hS (vp_in_nI (by omega) (by omega)) dL_law_1102 ?_
  refine hv_ti (y := xs (i + 1)) (by rw [nI_clamp (by omega)]) ?_
  refine lv_aload_n (pc := 1103) S.1 S.2.1 dL_law_1103 rfl (lv_at hl 5 rfl) ?_
  refine lv_iload (pc := 1104) S.1 S.2.1 dL_law_1104 (lv_at hl 1 rfl) ?_
  refine lv_iconst (pc := 1106) (v := nI 2) S.1 S.2.1 dL_law_1106 (by decide) ?_
  refine lv_iadd (pc := 1107) S.1 S.2.1 dL_law_1107 ?_
  refine hv_ti (y := nI (i + 2)) (nI_add _ _) ?_
  refine va_sld (pc := 1108) S.1 S.2.1 hXs hbl (Nat.not_le.mpr hbl) hS (vp_in_nI (by omega) (by omega)) dL_law_1108 ?_
  refine hv_ti (y := xs (i + 2)) (by rw [nI_clamp (by omega)]) ?_
  refine hv_callP (φ := ψ) (ψ := φ1) (pc := 1109) (va_runV (As := [.int (xs (i + 1)), .int (xs (i + 2))]) (rest := []) S (c_m_measure l D cA ga ψ H.size q sc ar (xs (i + 1)) (xs (i + 2)) hm hq hI.j8) (cwV 2 S.2.2.2.2 (gV tw_1160 tw_1161 tw_1162 tw_7 tw_1163) rfl rfl rfl (by decide +kernel) ⟨Nat.le_of_ble_eq_true rfl, Nat.le_of_ble_eq_true rfl⟩) (pre0_V hψ hK hX hS hA (hψ.recv hK hm.1 rfl)) rfl rfl hl.1 rfl (lv_room (Nat.le_of_ble_eq_true rfl)) dL_law_1109 ⟨Nat.le_trans (show _ ≤ 20000 by omega) (Nat.le_of_ble_eq_true rfl), Nat.le_trans (show _ ≤ 200000 by omega) (Nat.le_of_ble_eq_true rfl)⟩) hS hA hψ hφ (fun x => (hd x).symm) (fun v ψ1 H locs hw hψ hφ hd hS => ?_)
  by_cases hz : measX (xs (i + 1)) (xs (i + 2)) = 0
  · skip
    have hM : mcd 2 9 1 (measX (xs (i + 1)) (xs (i + 2))) = 0 := by rw [hz]; rfl
    rw [if_pos hz] at hw
    have hn := hw2 hz
    obtain ⟨x1, z1, hx1, hz1, hbx, hbz, hN⟩ := hn
    obtain ⟨x2, z2, hx2, hz2, hc0, hc1, rfl, hm⟩ := hw
    have hex : x2 = x1 := jI_inj (hx2.symm.trans hx1) (by omega) (by omega)
    subst hex
    have hez : z2 = z1 := jI_inj (hz2.symm.trans hz1) (by omega) (by omega)
    subst hez
    obtain ⟨w', e', o', ad', ho', hy', hou', hP', hI'⟩ := hN
    refine lv_istore (pc := 1112) (lv' := [(6, .int (nI (smN (va_up (ar 14) x2 z2) 8 * 785 / 1000))), (5, .int (nI (mcd 2 9 1 (measX (xs (i + 1)) (xs (i + 2)))))), (4, .int (nI i)), (3, .ref (ad 0 9)), (2, .ref (q 0)), (1, .ref (ad 0 0)), (0, .ref b)]) S.1 S.2.1 dL_law_1112 hl (by decide) rfl (fun ls hl => ?_)
    refine lv_aload_n (pc := 1114) S.1 S.2.1 dL_law_1114 rfl (lv_at hl 4 rfl) ?_
    refine hv_callP (φ := ψ1) (ψ := φ1) (pc := 1115) (va_runV (As := []) (rest := []) S (c_m_thrown l D cA ga ψ1 H.size q (va_up sc 7 (0)) (va_up ar 14 (va_up (ar 14) x2 z2)) hm hq) (cwV 0 S.2.2.2.2 (gV tw_1013 tw_1014 tw_1015 tw_7 tw_1016) rfl rfl rfl (by decide +kernel) ⟨Nat.le_of_ble_eq_true rfl, Nat.le_of_ble_eq_true rfl⟩) (pre0_V hψ hK hX hS hA (hψ.recv hK hm.1 rfl)) rfl rfl hl.1 rfl (lv_room (Nat.le_of_ble_eq_true rfl)) dL_law_1115 ⟨Nat.le_trans (show _ ≤ 20000 by omega) (Nat.le_of_ble_eq_true rfl), Nat.le_trans (show _ ≤ 200000 by omega) (Nat.le_of_ble_eq_true rfl)⟩) hS hA hψ hφ hd (fun v ψ2 H locs hw hψ hφ hd hS => ?_)
    obtain ⟨rfl, hps⟩ := hw
    rw [hps] at hψ hd
    refine hv_ti (y := nI 0) (rfl) ?_
    refine lv_iload (pc := 1118) S.1 S.2.1 dL_law_1118 (lv_at hl 1 rfl) ?_
    refine hv_icmp_eq (pc := 1120) (tgt := 1125) (a := 0) (b := mcd 2 9 1 (measX (xs (i + 1)) (xs (i + 2)))) S.1 S.2.1 (by omega) (by omega) dL_law_1120 (by decide) (fun c_1 => ?_) (fun c_1 => ?_)
    · skip
      refine lv_iload (pc := 1125) S.1 S.2.1 dL_law_1125 (lv_at hl 1 rfl) ?_
      refine hv_if_ne (pc := 1127) (tgt := 1142) (a := mcd 2 9 1 (measX (xs (i + 1)) (xs (i + 2)))) S.1 S.2.1 (by omega) dL_law_1127 (by decide) (fun c_2 => ?_) (fun c_2 => ?_)
      · skip
        exact absurd c_2 (by omega)
      · skip
        refine lv_aload_n (pc := 1130) S.1 S.2.1 dL_law_1130 rfl (lv_at hl 3 rfl) ?_
        refine lv_iconst (pc := 1131) (v := nI 0) S.1 S.2.1 dL_law_1131 (by decide) ?_
        have hfo : φ1 (ad 0 9) = some (.inl (cA 3, 1, .inr (.inl o'))) := by rw [← hou']; exact hP'.at (r := 0) (j := 9) rfl
        have hH := hφ
        refine hv_lald (pc := 1132) S hK hH 3 hfo rfl (vp_in_nI (by decide) (by decide)) dL_law_1132 ?_
        refine hv_tv (y := .long ((nI (smN (va_up (ar 14) x2 z2) 8 * 785 / 1000)).toInt64)) (by rw [nI_clamp (by decide), ho']) ?_
        refine lv_iload (pc := 1133) S.1 S.2.1 dL_law_1133 (lv_at hl 0 rfl) ?_
        refine lv_i2l (pc := 1135) (v := (nI (smN (va_up (ar 14) x2 z2) 8 * 785 / 1000)).toInt64) S.1 S.2.1 dL_law_1135 rfl ?_
        refine W.lcmp S.1 S.2.1 dL_law_1136 ?_
        refine hv_ti (y := nI 0) (lgc _) ?_
        refine hv_if_eq (pc := 1137) (tgt := 1142) (a := 0) S.1 S.2.1 (by omega) dL_law_1137 (by decide) (fun c_3 => ?_) (fun c_3 => ?_)
        · skip
          refine lv_goto (pc := 1142) (tgt := 1404) S.1 S.2.1 dL_law_1142 (by decide) ?_
          refine W.widen (k := cells + 10) (n := slots + 60) (by omega) (by omega) ?_
          exact kk _ _ _ ⟨(va_up sc 7 (0)), (va_up ar 14 (va_up (ar 14) x2 z2)), w', e', o', ad', q, φ1, ψ1, hP', hy', hou', hI', hm, rfl, hq, hφ, hψ, fun x => (hd x).symm⟩ hS (lv_sub hl [2, 3, 4, 5, 6] rfl)
        · skip
          exact absurd c_3 (by omega)
    · skip
      exact absurd c_1 (by omega)
  · skip
    have hor : measX (xs (i + 1)) (xs (i + 2)) ≤ 3 := by unfold measX; (repeat' split) <;> decide
    have hM0 := mcd_ne (a := 2) (b := 9) (c := 1) (by decide) (by decide) (by decide) hz hor
    rw [if_neg hz] at hw
    obtain ⟨rfl, hm⟩ := hw
    refine lv_istore (pc := 1112) (lv' := [(6, .int (nI 0)), (5, .int (nI (mcd 2 9 1 (measX (xs (i + 1)) (xs (i + 2)))))), (4, .int (nI i)), (3, .ref (ad 0 9)), (2, .ref (q 0)), (1, .ref (ad 0 0)), (0, .ref b)]) S.1 S.2.1 dL_law_1112 hl (by decide) rfl (fun ls hl => ?_)
    refine lv_aload_n (pc := 1114) S.1 S.2.1 dL_law_1114 rfl (lv_at hl 4 rfl) ?_
    refine hv_callP (φ := ψ1) (ψ := φ1) (pc := 1115) (va_runV (As := []) (rest := []) S (c_m_thrown l D cA ga ψ1 H.size q (va_up sc 7 (mcd 2 9 1 (measX (xs (i + 1)) (xs (i + 2))))) (ar) hm hq) (cwV 0 S.2.2.2.2 (gV tw_1013 tw_1014 tw_1015 tw_7 tw_1016) rfl rfl rfl (by decide +kernel) ⟨Nat.le_of_ble_eq_true rfl, Nat.le_of_ble_eq_true rfl⟩) (pre0_V hψ hK hX hS hA (hψ.recv hK hm.1 rfl)) rfl rfl hl.1 rfl (lv_room (Nat.le_of_ble_eq_true rfl)) dL_law_1115 ⟨Nat.le_trans (show _ ≤ 20000 by omega) (Nat.le_of_ble_eq_true rfl), Nat.le_trans (show _ ≤ 200000 by omega) (Nat.le_of_ble_eq_true rfl)⟩) hS hA hψ hφ hd (fun v ψ2 H locs hw hψ hφ hd hS => ?_)
    obtain ⟨rfl, hps⟩ := hw
    rw [hps] at hψ hd
    refine hv_ti (y := nI (mcd 2 9 1 (measX (xs (i + 1)) (xs (i + 2))))) (rfl) ?_
    refine lv_iload (pc := 1118) S.1 S.2.1 dL_law_1118 (lv_at hl 1 rfl) ?_
    refine hv_icmp_eq (pc := 1120) (tgt := 1125) (a := mcd 2 9 1 (measX (xs (i + 1)) (xs (i + 2)))) (b := mcd 2 9 1 (measX (xs (i + 1)) (xs (i + 2)))) S.1 S.2.1 (by omega) (by omega) dL_law_1120 (by decide) (fun c_4 => ?_) (fun c_4 => ?_)
    · skip
      refine lv_iload (pc := 1125) S.1 S.2.1 dL_law_1125 (lv_at hl 1 rfl) ?_
      refine hv_if_ne (pc := 1127) (tgt := 1142) (a := mcd 2 9 1 (measX (xs (i + 1)) (xs (i + 2)))) S.1 S.2.1 (by omega) dL_law_1127 (by decide) (fun c_5 => ?_) (fun c_5 => ?_)
      · skip
        refine lv_goto (pc := 1142) (tgt := 1404) S.1 S.2.1 dL_law_1142 (by decide) ?_
        refine W.widen (k := cells + 10) (n := slots + 60) (by omega) (by omega) ?_
        exact kk _ _ _ ⟨(va_up sc 7 (mcd 2 9 1 (measX (xs (i + 1)) (xs (i + 2))))), ar, w, ey, o, ad, q, φ1, ψ1, yp_same (hw1 hz) _, rfl, rfl, hI.mono _, hm, rfl, hq, hφ, hψ, fun x => (hd x).symm⟩ hS (lv_sub hl [2, 3, 4, 5, 6] rfl)
      · skip
        exact absurd c_5 (by omega)
    · skip
      exact absurd c_4 (by omega)
set_option maxHeartbeats 4000000 in
set_option maxRecDepth 100000 in
theorem law_fits (l : Launch) (hfl : l.stackTraces = false) {p : Program} {e : Env} {s : State} {m : MethodId} {below : List Frame} {meth : Method} {c : Code} {b L : Nat} {xs : Nat → Int32} {D : va_G} {cA : Nat → ClassId} {ga : Nat → Nat → Nat} {Q : State → Prop} (S : CallFix p m c code 7 s #[.ref b] Wc RL) (hK : va_K D vwCl (tysL cA) s) (hX : Sx ga (fun q => s.heap.size ≤ q) s s.heap) (hN3 : Nc3 s) (hXs : va_X b L xs s s.heap) (hbl : b < s.heap.size) (hL : L ≤ 2048) {k9 i y mo ou cells slots : Nat} {H : Heap} {locs : List Loc} {ls : Array Slot} (hk : k9 < 512) (hi : i + 4 ≤ L) (hc : cells ≤ 30 + 10 * k9) (hs : slots ≤ 500 + 60 * k9)
    (hW : WLD cA ga D (fun q => s.heap.size ≤ q) y ou mo k9 H) (hS : va_S (fun q => s.heap.size ≤ q) s.heap H locs) (hl : lv_has ls 7 [(4, .int (nI i)), (3, .ref ou), (2, .ref mo), (1, .ref y), (0, .ref b)])
    (kk : ∀ (H1 : Heap) (locs1 : List Loc) (ls1 : Array Slot), WLD cA ga D (fun q => s.heap.size ≤ q) y ou mo (k9 + 1) H1 → va_S (fun q => s.heap.size ≤ q) s.heap H1 locs1 → lv_has ls1 7 [(4, .int (nI i)), (3, .ref ou), (2, .ref mo), (1, .ref y), (0, .ref b)] → W p l e room_1 s m #[.ref b] below meth c H1 locs1 (cells + 10) (slots + 60) Q (F0 m 1404 ls1 [])) :
    W p l e room_1 s m #[.ref b] below meth c H locs cells slots Q (F0 m 1145 ls []) := by
  obtain ⟨sc, ar, w, ey, o, ad, q, φ, ψ, hP, rfl, rfl, hI, hm, rfl, hq, hφ, hψ, hd⟩ := hW
  have hj1 := hI.j1
  have hj0 := hI.j0.1
  have hA : ∀ q, s.heap.size ≤ q → (fun q => s.heap.size ≤ q) q := fun _ h => h
  refine lv_aload_n (pc := 1145) S.1 S.2.1 dL_law_1145 rfl (lv_at hl 3 rfl) ?_
  refine lv_aload_n (pc := 1146) S.1 S.2.1 dL_law_1146 rfl (lv_at hl 4 rfl) ?_
  refine lv_iload (pc := 1147) S.1 S.2.1 dL_law_1147 (lv_at hl 0 rfl) ?_
  refine lv_iconst (pc := 1149) (v := nI 1) S.1 S.2.1 dL_law_1149 (by decide) ?_
  refine lv_iadd (pc := 1150) S.1 S.2.1 dL_law_1150 ?_
  refine hv_ti (y := nI (i + 1)) (nI_add _ _) ?_
  refine va_sld (pc := 1151) S.1 S.2.1 hXs hbl (Nat.not_le.mpr hbl) hS (vp_in_nI (by omega) (by omega)) dL_law_1151 ?_
  refine hv_ti (y := xs (i + 1)) (by rw [nI_clamp (by omega)]) ?_
  refine lv_aload_n (pc := 1152) S.1 S.2.1 dL_law_1152 rfl (lv_at hl 1 rfl) ?_
  refine hv_callP (φ := φ) (ψ := ψ) (pc := 1153) (vx_runSW (As := [.ref (ad 0 0), .int (xs (i + 1)), .ref (ad 0 9)]) (rest := []) S (lw_fits l hfl D cA ga φ H.size k9 sc ar w ey o ad (xs (i + 1)) hP hI (by omega)) (vx_cwSW 3 S.2.2.2.2 (gSW tw_902 tw_903 tw_0 tw_904) rfl rfl rfl (by decide +kernel) ⟨Nat.le_of_ble_eq_true rfl, Nat.le_of_ble_eq_true rfl⟩) (pre1_S hφ hK hX hS hA hN3) rfl rfl hl.1 rfl (lv_room (Nat.le_of_ble_eq_true rfl)) dL_law_1153 ⟨Nat.le_trans (show _ ≤ 20000 by omega) (Nat.le_of_ble_eq_true rfl), Nat.le_trans (show _ ≤ 200000 by omega) (Nat.le_of_ble_eq_true rfl)⟩) hS hA hφ hψ hd (fun v φ1 H locs hw hφ hψ hd hS => ?_)
  obtain ⟨rfl, hw1, hw2⟩ := hw
  have hM31 : mcd 9 9 1 (inX (sc 3) (xs (i + 1))) < 10 := mcd_lt (by decide) (by decide) (by decide)
  refine lv_istore (pc := 1156) (lv' := [(5, .int (nI (mcd 9 9 1 (inX (sc 3) (xs (i + 1)))))), (4, .int (nI i)), (3, .ref (ad 0 9)), (2, .ref (q 0)), (1, .ref (ad 0 0)), (0, .ref b)]) S.1 S.2.1 dL_law_1156 hl (by decide) rfl (fun ls hl => ?_)
  refine lv_aload_n (pc := 1158) S.1 S.2.1 dL_law_1158 rfl (lv_at hl 3 rfl) ?_
  refine lv_aload_n (pc := 1159) S.1 S.2.1 dL_law_1159 rfl (lv_at hl 5 rfl) ?_
  refine lv_iload (pc := 1160) S.1 S.2.1 dL_law_1160 (lv_at hl 1 rfl) ?_
  refine lv_iconst (pc := 1162) (v := nI 1) S.1 S.2.1 dL_law_1162 (by decide) ?_
  refine lv_iadd (pc := 1163) S.1 S.2.1 dL_law_1163 ?_
  refine hv_ti (y := nI (i + 1)) (nI_add _ _) ?_
  refine va_sld (pc := 1164) S.1 S.2.1 hXs hbl (Nat.not_le.mpr hbl) hS (vp_in_nI (by omega) (by omega)) dL_law_1164 ?_
  refine hv_ti (y := xs (i + 1)) (by rw [nI_clamp (by omega)]) ?_
  refine hv_callP (φ := ψ) (ψ := φ1) (pc := 1165) (va_runV (As := [.int (xs (i + 1))]) (rest := []) S (c_m_fits l D cA ga ψ H.size q sc ar (xs (i + 1)) hm hq (by omega) hI.j8 (fun i hi => (hI.hwb i hi).1.2)) (cwV 1 S.2.2.2.2 (gV tw_1168 tw_1169 tw_1170 tw_7 tw_1171) rfl rfl rfl (by decide +kernel) ⟨Nat.le_of_ble_eq_true rfl, Nat.le_of_ble_eq_true rfl⟩) (pre0_V hψ hK hX hS hA (hψ.recv hK hm.1 rfl)) rfl rfl hl.1 rfl (lv_room (Nat.le_of_ble_eq_true rfl)) dL_law_1165 ⟨Nat.le_trans (show _ ≤ 20000 by omega) (Nat.le_of_ble_eq_true rfl), Nat.le_trans (show _ ≤ 200000 by omega) (Nat.le_of_ble_eq_true rfl)⟩) hS hA hψ hφ (fun x => (hd x).symm) (fun v ψ1 H locs hw hψ hφ hd hS => ?_)
  by_cases hz : inX (sc 3) (xs (i + 1)) = 0
  · skip
    have hM : mcd 9 9 1 (inX (sc 3) (xs (i + 1))) = 0 := by rw [hz]; rfl
    rw [if_pos hz] at hw
    have hn := hw2 hz
    obtain ⟨x1, hx1, hbx, hN⟩ := hn
    obtain ⟨x2, hx2, hc0, rfl, hm⟩ := hw
    have hex : x2 = x1 := jI_inj (hx2.symm.trans hx1) (by omega) (by omega)
    subst hex
    obtain ⟨w', e', o', ad', ho', hy', hou', hP', hI'⟩ := hN
    refine lv_istore (pc := 1168) (lv' := [(6, .int (nI (fiR (ar 4 (6 * x2)) (smN (ar 14) 8 * 785 / 1000)))), (5, .int (nI (mcd 9 9 1 (inX (sc 3) (xs (i + 1)))))), (4, .int (nI i)), (3, .ref (ad 0 9)), (2, .ref (q 0)), (1, .ref (ad 0 0)), (0, .ref b)]) S.1 S.2.1 dL_law_1168 hl (by decide) rfl (fun ls hl => ?_)
    refine lv_aload_n (pc := 1170) S.1 S.2.1 dL_law_1170 rfl (lv_at hl 4 rfl) ?_
    refine hv_callP (φ := ψ1) (ψ := φ1) (pc := 1171) (va_runV (As := []) (rest := []) S (c_m_thrown l D cA ga ψ1 H.size q (va_up sc 7 (0)) (ar) hm hq) (cwV 0 S.2.2.2.2 (gV tw_1013 tw_1014 tw_1015 tw_7 tw_1016) rfl rfl rfl (by decide +kernel) ⟨Nat.le_of_ble_eq_true rfl, Nat.le_of_ble_eq_true rfl⟩) (pre0_V hψ hK hX hS hA (hψ.recv hK hm.1 rfl)) rfl rfl hl.1 rfl (lv_room (Nat.le_of_ble_eq_true rfl)) dL_law_1171 ⟨Nat.le_trans (show _ ≤ 20000 by omega) (Nat.le_of_ble_eq_true rfl), Nat.le_trans (show _ ≤ 200000 by omega) (Nat.le_of_ble_eq_true rfl)⟩) hS hA hψ hφ hd (fun v ψ2 H locs hw hψ hφ hd hS => ?_)
    obtain ⟨rfl, hps⟩ := hw
    rw [hps] at hψ hd
    refine hv_ti (y := nI 0) (rfl) ?_
    refine lv_iload (pc := 1174) S.1 S.2.1 dL_law_1174 (lv_at hl 1 rfl) ?_
    refine hv_icmp_eq (pc := 1176) (tgt := 1181) (a := 0) (b := mcd 9 9 1 (inX (sc 3) (xs (i + 1)))) S.1 S.2.1 (by omega) (by omega) dL_law_1176 (by decide) (fun c_1 => ?_) (fun c_1 => ?_)
    · skip
      refine lv_iload (pc := 1181) S.1 S.2.1 dL_law_1181 (lv_at hl 1 rfl) ?_
      refine hv_if_ne (pc := 1183) (tgt := 1205) (a := mcd 9 9 1 (inX (sc 3) (xs (i + 1)))) S.1 S.2.1 (by omega) dL_law_1183 (by decide) (fun c_2 => ?_) (fun c_2 => ?_)
      · skip
        exact absurd c_2 (by omega)
      · skip
        refine lv_aload_n (pc := 1186) S.1 S.2.1 dL_law_1186 rfl (lv_at hl 3 rfl) ?_
        refine lv_iconst (pc := 1187) (v := nI 0) S.1 S.2.1 dL_law_1187 (by decide) ?_
        have hfo : φ1 (ad 0 9) = some (.inl (cA 3, 1, .inr (.inl o'))) := by rw [← hou']; exact hP'.at (r := 0) (j := 9) rfl
        have hH := hφ
        refine hv_lald (pc := 1188) S hK hH 3 hfo rfl (vp_in_nI (by decide) (by decide)) dL_law_1188 ?_
        refine hv_tv (y := .long (Int64.ofNat (fiR (ar 4 (6 * x2)) (smN (ar 14) 8 * 785 / 1000)))) (by rw [nI_clamp (by decide), ho']) ?_
        have hle9 : fiR (ar 4 (6 * x2)) (smN (ar 14) 8 * 785 / 1000) ≤ 1 := fiR_le _ _
        refine lv_iload (pc := 1189) S.1 S.2.1 dL_law_1189 (lv_at hl 0 rfl) ?_
        refine hv_if_eq (pc := 1191) (tgt := 1198) (a := fiR (ar 4 (6 * x2)) (smN (ar 14) 8 * 785 / 1000)) S.1 S.2.1 (by omega) dL_law_1191 (by decide) (fun c_3 => ?_) (fun c_3 => ?_)
        · skip
          have hz9 : fiR (ar 4 (6 * x2)) (smN (ar 14) 8 * 785 / 1000) = 0 := c_3
          refine lv_lconst (pc := 1198) (v := Int64.ofNat 0) S.1 S.2.1 dL_law_1198 rfl ?_
          refine W.lcmp S.1 S.2.1 dL_law_1199 ?_
          refine hv_ti (y := nI 0) (by rw [hz9]; exact lgc _) ?_
          refine hv_if_eq (pc := 1200) (tgt := 1205) (a := 0) S.1 S.2.1 (by omega) dL_law_1200 (by decide) (fun c_4 => ?_) (fun c_4 => ?_)
          · skip
            refine lv_goto (pc := 1205) (tgt := 1404) S.1 S.2.1 dL_law_1205 (by decide) ?_
            refine W.widen (k := cells + 10) (n := slots + 60) (by omega) (by omega) ?_
            exact kk _ _ _ ⟨(va_up sc 7 (0)), ar, w', e', o', ad', q, φ1, ψ1, hP', hy', hou', hI', hm, rfl, hq, hφ, hψ, fun x => (hd x).symm⟩ hS (lv_sub hl [2, 3, 4, 5, 6] rfl)
          · skip
            exact absurd c_4 (by omega)
        · skip
          have hz9 : fiR (ar 4 (6 * x2)) (smN (ar 14) 8 * 785 / 1000) = 1 := by omega
          refine lv_lconst (pc := 1194) (v := Int64.ofNat 1) S.1 S.2.1 dL_law_1194 rfl ?_
          refine lv_goto (pc := 1195) (tgt := 1199) S.1 S.2.1 dL_law_1195 (by decide) ?_
          refine W.lcmp S.1 S.2.1 dL_law_1199 ?_
          refine hv_ti (y := nI 0) (by rw [hz9]; exact lgc _) ?_
          refine hv_if_eq (pc := 1200) (tgt := 1205) (a := 0) S.1 S.2.1 (by omega) dL_law_1200 (by decide) (fun c_5 => ?_) (fun c_5 => ?_)
          · skip
            refine lv_goto (pc := 1205) (tgt := 1404) S.1 S.2.1 dL_law_1205 (by decide) ?_
            refine W.widen (k := cells + 10) (n := slots + 60) (by omega) (by omega) ?_
            exact kk _ _ _ ⟨(va_up sc 7 (0)), ar, w', e', o', ad', q, φ1, ψ1, hP', hy', hou', hI', hm, rfl, hq, hφ, hψ, fun x => (hd x).symm⟩ hS (lv_sub hl [2, 3, 4, 5, 6] rfl)
          · skip
            exact absurd c_5 (by omega)
    · skip
      exact absurd c_1 (by omega)
  · skip
    have hor : inX (sc 3) (xs (i + 1)) ≤ 3 := by unfold inX; (repeat' split) <;> decide
    have hM0 := mcd_ne (a := 9) (b := 9) (c := 1) (by decide) (by decide) (by decide) hz hor
    rw [if_neg hz] at hw
    obtain ⟨rfl, hm⟩ := hw
    refine lv_istore (pc := 1168) (lv' := [(6, .int (nI 0)), (5, .int (nI (mcd 9 9 1 (inX (sc 3) (xs (i + 1)))))), (4, .int (nI i)), (3, .ref (ad 0 9)), (2, .ref (q 0)), (1, .ref (ad 0 0)), (0, .ref b)]) S.1 S.2.1 dL_law_1168 hl (by decide) rfl (fun ls hl => ?_)
    refine lv_aload_n (pc := 1170) S.1 S.2.1 dL_law_1170 rfl (lv_at hl 4 rfl) ?_
    refine hv_callP (φ := ψ1) (ψ := φ1) (pc := 1171) (va_runV (As := []) (rest := []) S (c_m_thrown l D cA ga ψ1 H.size q (va_up sc 7 (mcd 9 9 1 (inX (sc 3) (xs (i + 1))))) (ar) hm hq) (cwV 0 S.2.2.2.2 (gV tw_1013 tw_1014 tw_1015 tw_7 tw_1016) rfl rfl rfl (by decide +kernel) ⟨Nat.le_of_ble_eq_true rfl, Nat.le_of_ble_eq_true rfl⟩) (pre0_V hψ hK hX hS hA (hψ.recv hK hm.1 rfl)) rfl rfl hl.1 rfl (lv_room (Nat.le_of_ble_eq_true rfl)) dL_law_1171 ⟨Nat.le_trans (show _ ≤ 20000 by omega) (Nat.le_of_ble_eq_true rfl), Nat.le_trans (show _ ≤ 200000 by omega) (Nat.le_of_ble_eq_true rfl)⟩) hS hA hψ hφ hd (fun v ψ2 H locs hw hψ hφ hd hS => ?_)
    obtain ⟨rfl, hps⟩ := hw
    rw [hps] at hψ hd
    refine hv_ti (y := nI (mcd 9 9 1 (inX (sc 3) (xs (i + 1))))) (rfl) ?_
    refine lv_iload (pc := 1174) S.1 S.2.1 dL_law_1174 (lv_at hl 1 rfl) ?_
    refine hv_icmp_eq (pc := 1176) (tgt := 1181) (a := mcd 9 9 1 (inX (sc 3) (xs (i + 1)))) (b := mcd 9 9 1 (inX (sc 3) (xs (i + 1)))) S.1 S.2.1 (by omega) (by omega) dL_law_1176 (by decide) (fun c_6 => ?_) (fun c_6 => ?_)
    · skip
      refine lv_iload (pc := 1181) S.1 S.2.1 dL_law_1181 (lv_at hl 1 rfl) ?_
      refine hv_if_ne (pc := 1183) (tgt := 1205) (a := mcd 9 9 1 (inX (sc 3) (xs (i + 1)))) S.1 S.2.1 (by omega) dL_law_1183 (by decide) (fun c_7 => ?_) (fun c_7 => ?_)
      · skip
        refine lv_goto (pc := 1205) (tgt := 1404) S.1 S.2.1 dL_law_1205 (by decide) ?_
        refine W.widen (k := cells + 10) (n := slots + 60) (by omega) (by omega) ?_
        exact kk _ _ _ ⟨(va_up sc 7 (mcd 9 9 1 (inX (sc 3) (xs (i + 1))))), ar, w, ey, o, ad, q, φ1, ψ1, yp_same (hw1 hz) _, rfl, rfl, hI.mono _, hm, rfl, hq, hφ, hψ, fun x => (hd x).symm⟩ hS (lv_sub hl [2, 3, 4, 5, 6] rfl)
      · skip
        exact absurd c_7 (by omega)
    · skip
      exact absurd c_6 (by omega)
set_option maxHeartbeats 4000000 in
set_option maxRecDepth 100000 in
theorem law_size (l : Launch) (hfl : l.stackTraces = false) {p : Program} {e : Env} {s : State} {m : MethodId} {below : List Frame} {meth : Method} {c : Code} {b L : Nat} {xs : Nat → Int32} {D : va_G} {cA : Nat → ClassId} {ga : Nat → Nat → Nat} {Q : State → Prop} (S : CallFix p m c code 7 s #[.ref b] Wc RL) (hK : va_K D vwCl (tysL cA) s) (hX : Sx ga (fun q => s.heap.size ≤ q) s s.heap) (hN3 : Nc3 s) (hXs : va_X b L xs s s.heap) (hbl : b < s.heap.size) (hL : L ≤ 2048) {k9 i y mo ou cells slots : Nat} {H : Heap} {locs : List Loc} {ls : Array Slot} (hk : k9 < 512) (hi : i + 4 ≤ L) (hc : cells ≤ 30 + 10 * k9) (hs : slots ≤ 500 + 60 * k9)
    (hW : WLD cA ga D (fun q => s.heap.size ≤ q) y ou mo k9 H) (hS : va_S (fun q => s.heap.size ≤ q) s.heap H locs) (hl : lv_has ls 7 [(4, .int (nI i)), (3, .ref ou), (2, .ref mo), (1, .ref y), (0, .ref b)])
    (kk : ∀ (H1 : Heap) (locs1 : List Loc) (ls1 : Array Slot), WLD cA ga D (fun q => s.heap.size ≤ q) y ou mo (k9 + 1) H1 → va_S (fun q => s.heap.size ≤ q) s.heap H1 locs1 → lv_has ls1 7 [(4, .int (nI i)), (3, .ref ou), (2, .ref mo), (1, .ref y), (0, .ref b)] → W p l e room_1 s m #[.ref b] below meth c H1 locs1 (cells + 10) (slots + 60) Q (F0 m 1404 ls1 [])) :
    W p l e room_1 s m #[.ref b] below meth c H locs cells slots Q (F0 m 1208 ls []) := by
  obtain ⟨sc, ar, w, ey, o, ad, q, φ, ψ, hP, rfl, rfl, hI, hm, rfl, hq, hφ, hψ, hd⟩ := hW
  have hj1 := hI.j1
  have hj0 := hI.j0.1
  have hA : ∀ q, s.heap.size ≤ q → (fun q => s.heap.size ≤ q) q := fun _ h => h
  refine lv_aload_n (pc := 1208) S.1 S.2.1 dL_law_1208 rfl (lv_at hl 3 rfl) ?_
  refine lv_aload_n (pc := 1209) S.1 S.2.1 dL_law_1209 rfl (lv_at hl 4 rfl) ?_
  refine lv_iload (pc := 1210) S.1 S.2.1 dL_law_1210 (lv_at hl 0 rfl) ?_
  refine lv_iconst (pc := 1212) (v := nI 1) S.1 S.2.1 dL_law_1212 (by decide) ?_
  refine lv_iadd (pc := 1213) S.1 S.2.1 dL_law_1213 ?_
  refine hv_ti (y := nI (i + 1)) (nI_add _ _) ?_
  refine va_sld (pc := 1214) S.1 S.2.1 hXs hbl (Nat.not_le.mpr hbl) hS (vp_in_nI (by omega) (by omega)) dL_law_1214 ?_
  refine hv_ti (y := xs (i + 1)) (by rw [nI_clamp (by omega)]) ?_
  refine lv_aload_n (pc := 1215) S.1 S.2.1 dL_law_1215 rfl (lv_at hl 1 rfl) ?_
  refine hv_callP (φ := φ) (ψ := ψ) (pc := 1216) (vx_runSW (As := [.ref (ad 0 0), .int (xs (i + 1)), .ref (ad 0 9)]) (rest := []) S (lw_size l hfl D cA ga φ H.size k9 sc ar w ey o ad (xs (i + 1)) hP hI (by omega)) (vx_cwSW 3 S.2.2.2.2 (gSW tw_909 tw_910 tw_0 tw_911) rfl rfl rfl (by decide +kernel) ⟨Nat.le_of_ble_eq_true rfl, Nat.le_of_ble_eq_true rfl⟩) (pre1_S hφ hK hX hS hA hN3) rfl rfl hl.1 rfl (lv_room (Nat.le_of_ble_eq_true rfl)) dL_law_1216 ⟨Nat.le_trans (show _ ≤ 20000 by omega) (Nat.le_of_ble_eq_true rfl), Nat.le_trans (show _ ≤ 200000 by omega) (Nat.le_of_ble_eq_true rfl)⟩) hS hA hφ hψ hd (fun v φ1 H locs hw hφ hψ hd hS => ?_)
  obtain ⟨rfl, hw1, hw2⟩ := hw
  have hM31 : mcd 9 9 1 (inX 4 (xs (i + 1))) < 10 := mcd_lt (by decide) (by decide) (by decide)
  refine lv_istore (pc := 1219) (lv' := [(5, .int (nI (mcd 9 9 1 (inX 4 (xs (i + 1)))))), (4, .int (nI i)), (3, .ref (ad 0 9)), (2, .ref (q 0)), (1, .ref (ad 0 0)), (0, .ref b)]) S.1 S.2.1 dL_law_1219 hl (by decide) rfl (fun ls hl => ?_)
  refine lv_aload_n (pc := 1221) S.1 S.2.1 dL_law_1221 rfl (lv_at hl 3 rfl) ?_
  refine lv_aload_n (pc := 1222) S.1 S.2.1 dL_law_1222 rfl (lv_at hl 5 rfl) ?_
  refine lv_iload (pc := 1223) S.1 S.2.1 dL_law_1223 (lv_at hl 1 rfl) ?_
  refine lv_iconst (pc := 1225) (v := nI 1) S.1 S.2.1 dL_law_1225 (by decide) ?_
  refine lv_iadd (pc := 1226) S.1 S.2.1 dL_law_1226 ?_
  refine hv_ti (y := nI (i + 1)) (nI_add _ _) ?_
  refine va_sld (pc := 1227) S.1 S.2.1 hXs hbl (Nat.not_le.mpr hbl) hS (vp_in_nI (by omega) (by omega)) dL_law_1227 ?_
  refine hv_ti (y := xs (i + 1)) (by rw [nI_clamp (by omega)]) ?_
  refine hv_callP (φ := ψ) (ψ := φ1) (pc := 1228) (va_runV (As := [.int (xs (i + 1))]) (rest := []) S (c_m_size l D cA ga ψ H.size q sc ar (xs (i + 1)) hm hq hI.j8) (cwV 1 S.2.2.2.2 (gV tw_1172 tw_1173 tw_1174 tw_7 tw_1175) rfl rfl rfl (by decide +kernel) ⟨Nat.le_of_ble_eq_true rfl, Nat.le_of_ble_eq_true rfl⟩) (pre0_V hψ hK hX hS hA (hψ.recv hK hm.1 rfl)) rfl rfl hl.1 rfl (lv_room (Nat.le_of_ble_eq_true rfl)) dL_law_1228 ⟨Nat.le_trans (show _ ≤ 20000 by omega) (Nat.le_of_ble_eq_true rfl), Nat.le_trans (show _ ≤ 200000 by omega) (Nat.le_of_ble_eq_true rfl)⟩) hS hA hψ hφ (fun x => (hd x).symm) (fun v ψ1 H locs hw hψ hφ hd hS => ?_)
  by_cases hz : inX 4 (xs (i + 1)) = 0
  · skip
    have hM : mcd 9 9 1 (inX 4 (xs (i + 1))) = 0 := by rw [hz]; rfl
    rw [if_pos hz] at hw
    have hn := hw2 hz
    obtain ⟨x1, hx1, hbx, hN⟩ := hn
    obtain ⟨x2, hx2, hc0, rfl, hm⟩ := hw
    have hex : x2 = x1 := jI_inj (hx2.symm.trans hx1) (by omega) (by omega)
    subst hex
    obtain ⟨w', e', o', ad', ho', hy', hou', hP', hI'⟩ := hN
    refine lv_istore (pc := 1231) (lv' := [(6, .int (nI ((szF x2 (smN (ar 14) 8 * 785 / 1000)).toNat))), (5, .int (nI (mcd 9 9 1 (inX 4 (xs (i + 1)))))), (4, .int (nI i)), (3, .ref (ad 0 9)), (2, .ref (q 0)), (1, .ref (ad 0 0)), (0, .ref b)]) S.1 S.2.1 dL_law_1231 hl (by decide) rfl (fun ls hl => ?_)
    refine lv_aload_n (pc := 1233) S.1 S.2.1 dL_law_1233 rfl (lv_at hl 4 rfl) ?_
    refine hv_callP (φ := ψ1) (ψ := φ1) (pc := 1234) (va_runV (As := []) (rest := []) S (c_m_thrown l D cA ga ψ1 H.size q (va_up sc 7 (0)) (ar) hm hq) (cwV 0 S.2.2.2.2 (gV tw_1013 tw_1014 tw_1015 tw_7 tw_1016) rfl rfl rfl (by decide +kernel) ⟨Nat.le_of_ble_eq_true rfl, Nat.le_of_ble_eq_true rfl⟩) (pre0_V hψ hK hX hS hA (hψ.recv hK hm.1 rfl)) rfl rfl hl.1 rfl (lv_room (Nat.le_of_ble_eq_true rfl)) dL_law_1234 ⟨Nat.le_trans (show _ ≤ 20000 by omega) (Nat.le_of_ble_eq_true rfl), Nat.le_trans (show _ ≤ 200000 by omega) (Nat.le_of_ble_eq_true rfl)⟩) hS hA hψ hφ hd (fun v ψ2 H locs hw hψ hφ hd hS => ?_)
    obtain ⟨rfl, hps⟩ := hw
    rw [hps] at hψ hd
    refine hv_ti (y := nI 0) (rfl) ?_
    refine lv_iload (pc := 1237) S.1 S.2.1 dL_law_1237 (lv_at hl 1 rfl) ?_
    refine hv_icmp_eq (pc := 1239) (tgt := 1244) (a := 0) (b := mcd 9 9 1 (inX 4 (xs (i + 1)))) S.1 S.2.1 (by omega) (by omega) dL_law_1239 (by decide) (fun c_1 => ?_) (fun c_1 => ?_)
    · skip
      refine lv_iload (pc := 1244) S.1 S.2.1 dL_law_1244 (lv_at hl 1 rfl) ?_
      refine hv_if_ne (pc := 1246) (tgt := 1261) (a := mcd 9 9 1 (inX 4 (xs (i + 1)))) S.1 S.2.1 (by omega) dL_law_1246 (by decide) (fun c_2 => ?_) (fun c_2 => ?_)
      · skip
        exact absurd c_2 (by omega)
      · skip
        refine lv_aload_n (pc := 1249) S.1 S.2.1 dL_law_1249 rfl (lv_at hl 3 rfl) ?_
        refine lv_iconst (pc := 1250) (v := nI 0) S.1 S.2.1 dL_law_1250 (by decide) ?_
        have hfo : φ1 (ad 0 9) = some (.inl (cA 3, 1, .inr (.inl o'))) := by rw [← hou']; exact hP'.at (r := 0) (j := 9) rfl
        have hH := hφ
        refine hv_lald (pc := 1251) S hK hH 3 hfo rfl (vp_in_nI (by decide) (by decide)) dL_law_1251 ?_
        refine hv_tv (y := .long ((nI ((szF x2 (smN (ar 14) 8 * 785 / 1000)).toNat)).toInt64)) (by rw [nI_clamp (by decide), ho']) ?_
        refine lv_iload (pc := 1252) S.1 S.2.1 dL_law_1252 (lv_at hl 0 rfl) ?_
        refine lv_i2l (pc := 1254) (v := (nI ((szF x2 (smN (ar 14) 8 * 785 / 1000)).toNat)).toInt64) S.1 S.2.1 dL_law_1254 rfl ?_
        refine W.lcmp S.1 S.2.1 dL_law_1255 ?_
        refine hv_ti (y := nI 0) (lgc _) ?_
        refine hv_if_eq (pc := 1256) (tgt := 1261) (a := 0) S.1 S.2.1 (by omega) dL_law_1256 (by decide) (fun c_3 => ?_) (fun c_3 => ?_)
        · skip
          refine lv_goto (pc := 1261) (tgt := 1404) S.1 S.2.1 dL_law_1261 (by decide) ?_
          refine W.widen (k := cells + 10) (n := slots + 60) (by omega) (by omega) ?_
          exact kk _ _ _ ⟨(va_up sc 7 (0)), ar, w', e', o', ad', q, φ1, ψ1, hP', hy', hou', hI', hm, rfl, hq, hφ, hψ, fun x => (hd x).symm⟩ hS (lv_sub hl [2, 3, 4, 5, 6] rfl)
        · skip
          exact absurd c_3 (by omega)
    · skip
      exact absurd c_1 (by omega)
  · skip
    have hor : inX 4 (xs (i + 1)) ≤ 3 := by unfold inX; (repeat' split) <;> decide
    have hM0 := mcd_ne (a := 9) (b := 9) (c := 1) (by decide) (by decide) (by decide) hz hor
    rw [if_neg hz] at hw
    obtain ⟨rfl, hm⟩ := hw
    refine lv_istore (pc := 1231) (lv' := [(6, .int (nI 0)), (5, .int (nI (mcd 9 9 1 (inX 4 (xs (i + 1)))))), (4, .int (nI i)), (3, .ref (ad 0 9)), (2, .ref (q 0)), (1, .ref (ad 0 0)), (0, .ref b)]) S.1 S.2.1 dL_law_1231 hl (by decide) rfl (fun ls hl => ?_)
    refine lv_aload_n (pc := 1233) S.1 S.2.1 dL_law_1233 rfl (lv_at hl 4 rfl) ?_
    refine hv_callP (φ := ψ1) (ψ := φ1) (pc := 1234) (va_runV (As := []) (rest := []) S (c_m_thrown l D cA ga ψ1 H.size q (va_up sc 7 (mcd 9 9 1 (inX 4 (xs (i + 1))))) (ar) hm hq) (cwV 0 S.2.2.2.2 (gV tw_1013 tw_1014 tw_1015 tw_7 tw_1016) rfl rfl rfl (by decide +kernel) ⟨Nat.le_of_ble_eq_true rfl, Nat.le_of_ble_eq_true rfl⟩) (pre0_V hψ hK hX hS hA (hψ.recv hK hm.1 rfl)) rfl rfl hl.1 rfl (lv_room (Nat.le_of_ble_eq_true rfl)) dL_law_1234 ⟨Nat.le_trans (show _ ≤ 20000 by omega) (Nat.le_of_ble_eq_true rfl), Nat.le_trans (show _ ≤ 200000 by omega) (Nat.le_of_ble_eq_true rfl)⟩) hS hA hψ hφ hd (fun v ψ2 H locs hw hψ hφ hd hS => ?_)
    obtain ⟨rfl, hps⟩ := hw
    rw [hps] at hψ hd
    refine hv_ti (y := nI (mcd 9 9 1 (inX 4 (xs (i + 1))))) (rfl) ?_
    refine lv_iload (pc := 1237) S.1 S.2.1 dL_law_1237 (lv_at hl 1 rfl) ?_
    refine hv_icmp_eq (pc := 1239) (tgt := 1244) (a := mcd 9 9 1 (inX 4 (xs (i + 1)))) (b := mcd 9 9 1 (inX 4 (xs (i + 1)))) S.1 S.2.1 (by omega) (by omega) dL_law_1239 (by decide) (fun c_4 => ?_) (fun c_4 => ?_)
    · skip
      refine lv_iload (pc := 1244) S.1 S.2.1 dL_law_1244 (lv_at hl 1 rfl) ?_
      refine hv_if_ne (pc := 1246) (tgt := 1261) (a := mcd 9 9 1 (inX 4 (xs (i + 1)))) S.1 S.2.1 (by omega) dL_law_1246 (by decide) (fun c_5 => ?_) (fun c_5 => ?_)
      · skip
        refine lv_goto (pc := 1261) (tgt := 1404) S.1 S.2.1 dL_law_1261 (by decide) ?_
        refine W.widen (k := cells + 10) (n := slots + 60) (by omega) (by omega) ?_
        exact kk _ _ _ ⟨(va_up sc 7 (mcd 9 9 1 (inX 4 (xs (i + 1))))), ar, w, ey, o, ad, q, φ1, ψ1, yp_same (hw1 hz) _, rfl, rfl, hI.mono _, hm, rfl, hq, hφ, hψ, fun x => (hd x).symm⟩ hS (lv_sub hl [2, 3, 4, 5, 6] rfl)
      · skip
        exact absurd c_5 (by omega)
    · skip
      exact absurd c_4 (by omega)
set_option maxHeartbeats 4000000 in
set_option maxRecDepth 100000 in
theorem law_air0 (l : Launch) (hfl : l.stackTraces = false) {p : Program} {e : Env} {s : State} {m : MethodId} {below : List Frame} {meth : Method} {c : Code} {b L : Nat} {xs : Nat → Int32} {D : va_G} {cA : Nat → ClassId} {ga : Nat → Nat → Nat} {Q : State → Prop} (S : CallFix p m c code 7 s #[.ref b] Wc RL) (hK : va_K D vwCl (tysL cA) s) (hX : Sx ga (fun q => s.heap.size ≤ q) s s.heap) (hN3 : Nc3 s) (hXs : va_X b L xs s s.heap) (hbl : b < s.heap.size) (hL : L ≤ 2048) {k9 i y mo ou cells slots : Nat} {H : Heap} {locs : List Loc} {ls : Array Slot} (hk : k9 < 512) (hi : i + 4 ≤ L) (hc : cells ≤ 30 + 10 * k9) (hs : slots ≤ 500 + 60 * k9)
    (hW : WLD cA ga D (fun q => s.heap.size ≤ q) y ou mo k9 H) (hS : va_S (fun q => s.heap.size ≤ q) s.heap H locs) (hl : lv_has ls 7 [(4, .int (nI i)), (3, .ref ou), (2, .ref mo), (1, .ref y), (0, .ref b)])
    (kk : ∀ (H1 : Heap) (locs1 : List Loc) (ls1 : Array Slot), WLD cA ga D (fun q => s.heap.size ≤ q) y ou mo (k9 + 1) H1 → va_S (fun q => s.heap.size ≤ q) s.heap H1 locs1 → lv_has ls1 7 [(4, .int (nI i)), (3, .ref ou), (2, .ref mo), (1, .ref y), (0, .ref b)] → W p l e room_1 s m #[.ref b] below meth c H1 locs1 (cells + 10) (slots + 60) Q (F0 m 1404 ls1 [])) (hz0 : xs (i + 2) = 0) :
    W p l e room_1 s m #[.ref b] below meth c H locs cells slots Q (F0 m 1264 ls []) := by
  obtain ⟨sc, ar, w, ey, o, ad, q, φ, ψ, hP, rfl, rfl, hI, hm, rfl, hq, hφ, hψ, hd⟩ := hW
  have hj1 := hI.j1
  have hj0 := hI.j0.1
  have hA : ∀ q, s.heap.size ≤ q → (fun q => s.heap.size ≤ q) q := fun _ h => h
  refine lv_aload_n (pc := 1264) S.1 S.2.1 dL_law_1264 rfl (lv_at hl 3 rfl) ?_
  refine lv_aload_n (pc := 1265) S.1 S.2.1 dL_law_1265 rfl (lv_at hl 4 rfl) ?_
  refine lv_iload (pc := 1266) S.1 S.2.1 dL_law_1266 (lv_at hl 0 rfl) ?_
  refine lv_iconst (pc := 1268) (v := nI 1) S.1 S.2.1 dL_law_1268 (by decide) ?_
  refine lv_iadd (pc := 1269) S.1 S.2.1 dL_law_1269 ?_
  refine hv_ti (y := nI (i + 1)) (nI_add _ _) ?_
  refine va_sld (pc := 1270) S.1 S.2.1 hXs hbl (Nat.not_le.mpr hbl) hS (vp_in_nI (by omega) (by omega)) dL_law_1270 ?_
  refine hv_ti (y := xs (i + 1)) (by rw [nI_clamp (by omega)]) ?_
  refine lv_aload_n (pc := 1271) S.1 S.2.1 dL_law_1271 rfl (lv_at hl 4 rfl) ?_
  refine lv_iload (pc := 1272) S.1 S.2.1 dL_law_1272 (lv_at hl 0 rfl) ?_
  refine lv_iconst (pc := 1274) (v := nI 2) S.1 S.2.1 dL_law_1274 (by decide) ?_
  refine lv_iadd (pc := 1275) S.1 S.2.1 dL_law_1275 ?_
  refine hv_ti (y := nI (i + 2)) (nI_add _ _) ?_
  refine va_sld (pc := 1276) S.1 S.2.1 hXs hbl (Nat.not_le.mpr hbl) hS (vp_in_nI (by omega) (by omega)) dL_law_1276 ?_
  refine hv_ti (y := xs (i + 2)) (by rw [nI_clamp (by omega)]) ?_
  refine lv_if_eq (pc := 1277) (tgt := 1284) S.1 S.2.1 dL_law_1277 (by decide) (fun c_1 => ?_) (fun c_1 => ?_)
  · skip
    refine lv_iconst (pc := 1284) (v := nI 0) S.1 S.2.1 dL_law_1284 (by decide) ?_
    refine lv_aload_n (pc := 1285) S.1 S.2.1 dL_law_1285 rfl (lv_at hl 1 rfl) ?_
    refine hv_callP (φ := φ) (ψ := ψ) (pc := 1286) (vx_runSW (As := [.ref (ad 0 0), .int (xs (i + 1)), .int (nI 0), .ref (ad 0 9)]) (rest := []) S (lw_air l hfl D cA ga φ H.size k9 sc ar w ey o ad (xs (i + 1)) (nI 0) hP hI (by omega)) (vx_cwSW 4 S.2.2.2.2 (gSW tw_925 tw_926 tw_0 tw_927) rfl rfl rfl (by decide +kernel) ⟨Nat.le_of_ble_eq_true rfl, Nat.le_of_ble_eq_true rfl⟩) (pre1_S hφ hK hX hS hA hN3) rfl rfl hl.1 rfl (lv_room (Nat.le_of_ble_eq_true rfl)) dL_law_1286 ⟨Nat.le_trans (show _ ≤ 20000 by omega) (Nat.le_of_ble_eq_true rfl), Nat.le_trans (show _ ≤ 200000 by omega) (Nat.le_of_ble_eq_true rfl)⟩) hS hA hφ hψ hd (fun v φ1 H locs hw hφ hψ hd hS => ?_)
    obtain ⟨rfl, hw1, hw2⟩ := hw
    have hM31 : mcd 9 9 1 (inX (sc 5) (xs (i + 1))) < 10 := mcd_lt (by decide) (by decide) (by decide)
    refine lv_istore (pc := 1289) (lv' := [(5, .int (nI (mcd 9 9 1 (inX (sc 5) (xs (i + 1)))))), (4, .int (nI i)), (3, .ref (ad 0 9)), (2, .ref (q 0)), (1, .ref (ad 0 0)), (0, .ref b)]) S.1 S.2.1 dL_law_1289 hl (by decide) rfl (fun ls hl => ?_)
    refine lv_aload_n (pc := 1291) S.1 S.2.1 dL_law_1291 rfl (lv_at hl 3 rfl) ?_
    refine lv_aload_n (pc := 1292) S.1 S.2.1 dL_law_1292 rfl (lv_at hl 5 rfl) ?_
    refine lv_iload (pc := 1293) S.1 S.2.1 dL_law_1293 (lv_at hl 1 rfl) ?_
    refine lv_iconst (pc := 1295) (v := nI 1) S.1 S.2.1 dL_law_1295 (by decide) ?_
    refine lv_iadd (pc := 1296) S.1 S.2.1 dL_law_1296 ?_
    refine hv_ti (y := nI (i + 1)) (nI_add _ _) ?_
    refine va_sld (pc := 1297) S.1 S.2.1 hXs hbl (Nat.not_le.mpr hbl) hS (vp_in_nI (by omega) (by omega)) dL_law_1297 ?_
    refine hv_ti (y := xs (i + 1)) (by rw [nI_clamp (by omega)]) ?_
    refine lv_aload_n (pc := 1298) S.1 S.2.1 dL_law_1298 rfl (lv_at hl 5 rfl) ?_
    refine lv_iload (pc := 1299) S.1 S.2.1 dL_law_1299 (lv_at hl 1 rfl) ?_
    refine lv_iconst (pc := 1301) (v := nI 2) S.1 S.2.1 dL_law_1301 (by decide) ?_
    refine lv_iadd (pc := 1302) S.1 S.2.1 dL_law_1302 ?_
    refine hv_ti (y := nI (i + 2)) (nI_add _ _) ?_
    refine va_sld (pc := 1303) S.1 S.2.1 hXs hbl (Nat.not_le.mpr hbl) hS (vp_in_nI (by omega) (by omega)) dL_law_1303 ?_
    refine hv_ti (y := xs (i + 2)) (by rw [nI_clamp (by omega)]) ?_
    refine lv_if_eq (pc := 1304) (tgt := 1311) S.1 S.2.1 dL_law_1304 (by decide) (fun c_2 => ?_) (fun c_2 => ?_)
    · skip
      refine lv_iconst (pc := 1311) (v := nI 0) S.1 S.2.1 dL_law_1311 (by decide) ?_
      refine hv_callP (φ := ψ) (ψ := φ1) (pc := 1312) (va_runV (As := [.int (xs (i + 1)), .int (nI 0)]) (rest := []) S (c_m_air l D cA ga ψ H.size q sc ar (xs (i + 1)) (nI 0) hm hq (by omega)) (cwV 2 S.2.2.2.2 (gV tw_1180 tw_1181 tw_1182 tw_7 tw_1183) rfl rfl rfl (by decide +kernel) ⟨Nat.le_of_ble_eq_true rfl, Nat.le_of_ble_eq_true rfl⟩) (pre0_V hψ hK hX hS hA (hψ.recv hK hm.1 rfl)) rfl rfl hl.1 rfl (lv_room (Nat.le_of_ble_eq_true rfl)) dL_law_1312 ⟨Nat.le_trans (show _ ≤ 20000 by omega) (Nat.le_of_ble_eq_true rfl), Nat.le_trans (show _ ≤ 200000 by omega) (Nat.le_of_ble_eq_true rfl)⟩) hS hA hψ hφ (fun x => (hd x).symm) (fun v ψ1 H locs hw hψ hφ hd hS => ?_)
      by_cases hz : inX (sc 5) (xs (i + 1)) = 0
      · skip
        have hM : mcd 9 9 1 (inX (sc 5) (xs (i + 1))) = 0 := by rw [hz]; rfl
        rw [if_pos hz] at hw
        have hn := hw2 hz
        obtain ⟨x1, hx1, hbx, hN⟩ := hn
        obtain ⟨x2, hx2, hc0, rfl, hm⟩ := hw
        have hex : x2 = x1 := jI_inj (hx2.symm.trans hx1) (by omega) (by omega)
        subst hex
        obtain ⟨w', e', o', ad', ho', hy', hou', hP', hI'⟩ := hN
        refine lv_istore (pc := 1315) (lv' := [(6, .int (nI (if nI 0 = 0 then ar 13 x2 else ar 12 x2))), (5, .int (nI (mcd 9 9 1 (inX (sc 5) (xs (i + 1)))))), (4, .int (nI i)), (3, .ref (ad 0 9)), (2, .ref (q 0)), (1, .ref (ad 0 0)), (0, .ref b)]) S.1 S.2.1 dL_law_1315 hl (by decide) rfl (fun ls hl => ?_)
        refine lv_aload_n (pc := 1317) S.1 S.2.1 dL_law_1317 rfl (lv_at hl 4 rfl) ?_
        refine hv_callP (φ := ψ1) (ψ := φ1) (pc := 1318) (va_runV (As := []) (rest := []) S (c_m_thrown l D cA ga ψ1 H.size q (va_up sc 7 (0)) (ar) hm hq) (cwV 0 S.2.2.2.2 (gV tw_1013 tw_1014 tw_1015 tw_7 tw_1016) rfl rfl rfl (by decide +kernel) ⟨Nat.le_of_ble_eq_true rfl, Nat.le_of_ble_eq_true rfl⟩) (pre0_V hψ hK hX hS hA (hψ.recv hK hm.1 rfl)) rfl rfl hl.1 rfl (lv_room (Nat.le_of_ble_eq_true rfl)) dL_law_1318 ⟨Nat.le_trans (show _ ≤ 20000 by omega) (Nat.le_of_ble_eq_true rfl), Nat.le_trans (show _ ≤ 200000 by omega) (Nat.le_of_ble_eq_true rfl)⟩) hS hA hψ hφ hd (fun v ψ2 H locs hw hψ hφ hd hS => ?_)
        obtain ⟨rfl, hps⟩ := hw
        rw [hps] at hψ hd
        refine hv_ti (y := nI 0) (rfl) ?_
        refine lv_iload (pc := 1321) S.1 S.2.1 dL_law_1321 (lv_at hl 1 rfl) ?_
        refine hv_icmp_eq (pc := 1323) (tgt := 1328) (a := 0) (b := mcd 9 9 1 (inX (sc 5) (xs (i + 1)))) S.1 S.2.1 (by omega) (by omega) dL_law_1323 (by decide) (fun c_3 => ?_) (fun c_3 => ?_)
        · skip
          refine lv_iload (pc := 1328) S.1 S.2.1 dL_law_1328 (lv_at hl 1 rfl) ?_
          refine hv_if_ne (pc := 1330) (tgt := 1345) (a := mcd 9 9 1 (inX (sc 5) (xs (i + 1)))) S.1 S.2.1 (by omega) dL_law_1330 (by decide) (fun c_4 => ?_) (fun c_4 => ?_)
          · skip
            exact absurd c_4 (by omega)
          · skip
            refine lv_aload_n (pc := 1333) S.1 S.2.1 dL_law_1333 rfl (lv_at hl 3 rfl) ?_
            refine lv_iconst (pc := 1334) (v := nI 0) S.1 S.2.1 dL_law_1334 (by decide) ?_
            have hfo : φ1 (ad 0 9) = some (.inl (cA 3, 1, .inr (.inl o'))) := by rw [← hou']; exact hP'.at (r := 0) (j := 9) rfl
            have hH := hφ
            refine hv_lald (pc := 1335) S hK hH 3 hfo rfl (vp_in_nI (by decide) (by decide)) dL_law_1335 ?_
            refine hv_tv (y := .long ((nI (if nI 0 = 0 then ar 13 x2 else ar 12 x2)).toInt64)) (by rw [nI_clamp (by decide), ho']) ?_
            refine lv_iload (pc := 1336) S.1 S.2.1 dL_law_1336 (lv_at hl 0 rfl) ?_
            refine lv_i2l (pc := 1338) (v := (nI (if nI 0 = 0 then ar 13 x2 else ar 12 x2)).toInt64) S.1 S.2.1 dL_law_1338 rfl ?_
            refine W.lcmp S.1 S.2.1 dL_law_1339 ?_
            refine hv_ti (y := nI 0) (lgc _) ?_
            refine hv_if_eq (pc := 1340) (tgt := 1345) (a := 0) S.1 S.2.1 (by omega) dL_law_1340 (by decide) (fun c_5 => ?_) (fun c_5 => ?_)
            · skip
              refine lv_goto (pc := 1345) (tgt := 1404) S.1 S.2.1 dL_law_1345 (by decide) ?_
              refine W.widen (k := cells + 10) (n := slots + 60) (by omega) (by omega) ?_
              exact kk _ _ _ ⟨(va_up sc 7 (0)), ar, w', e', o', ad', q, φ1, ψ1, hP', hy', hou', hI', hm, rfl, hq, hφ, hψ, fun x => (hd x).symm⟩ hS (lv_sub hl [2, 3, 4, 5, 6] rfl)
            · skip
              exact absurd c_5 (by omega)
        · skip
          exact absurd c_3 (by omega)
      · skip
        have hor : inX (sc 5) (xs (i + 1)) ≤ 3 := by unfold inX; (repeat' split) <;> decide
        have hM0 := mcd_ne (a := 9) (b := 9) (c := 1) (by decide) (by decide) (by decide) hz hor
        rw [if_neg hz] at hw
        obtain ⟨rfl, hm⟩ := hw
        refine lv_istore (pc := 1315) (lv' := [(6, .int (nI 0)), (5, .int (nI (mcd 9 9 1 (inX (sc 5) (xs (i + 1)))))), (4, .int (nI i)), (3, .ref (ad 0 9)), (2, .ref (q 0)), (1, .ref (ad 0 0)), (0, .ref b)]) S.1 S.2.1 dL_law_1315 hl (by decide) rfl (fun ls hl => ?_)
        refine lv_aload_n (pc := 1317) S.1 S.2.1 dL_law_1317 rfl (lv_at hl 4 rfl) ?_
        refine hv_callP (φ := ψ1) (ψ := φ1) (pc := 1318) (va_runV (As := []) (rest := []) S (c_m_thrown l D cA ga ψ1 H.size q (va_up sc 7 (mcd 9 9 1 (inX (sc 5) (xs (i + 1))))) (ar) hm hq) (cwV 0 S.2.2.2.2 (gV tw_1013 tw_1014 tw_1015 tw_7 tw_1016) rfl rfl rfl (by decide +kernel) ⟨Nat.le_of_ble_eq_true rfl, Nat.le_of_ble_eq_true rfl⟩) (pre0_V hψ hK hX hS hA (hψ.recv hK hm.1 rfl)) rfl rfl hl.1 rfl (lv_room (Nat.le_of_ble_eq_true rfl)) dL_law_1318 ⟨Nat.le_trans (show _ ≤ 20000 by omega) (Nat.le_of_ble_eq_true rfl), Nat.le_trans (show _ ≤ 200000 by omega) (Nat.le_of_ble_eq_true rfl)⟩) hS hA hψ hφ hd (fun v ψ2 H locs hw hψ hφ hd hS => ?_)
        obtain ⟨rfl, hps⟩ := hw
        rw [hps] at hψ hd
        refine hv_ti (y := nI (mcd 9 9 1 (inX (sc 5) (xs (i + 1))))) (rfl) ?_
        refine lv_iload (pc := 1321) S.1 S.2.1 dL_law_1321 (lv_at hl 1 rfl) ?_
        refine hv_icmp_eq (pc := 1323) (tgt := 1328) (a := mcd 9 9 1 (inX (sc 5) (xs (i + 1)))) (b := mcd 9 9 1 (inX (sc 5) (xs (i + 1)))) S.1 S.2.1 (by omega) (by omega) dL_law_1323 (by decide) (fun c_6 => ?_) (fun c_6 => ?_)
        · skip
          refine lv_iload (pc := 1328) S.1 S.2.1 dL_law_1328 (lv_at hl 1 rfl) ?_
          refine hv_if_ne (pc := 1330) (tgt := 1345) (a := mcd 9 9 1 (inX (sc 5) (xs (i + 1)))) S.1 S.2.1 (by omega) dL_law_1330 (by decide) (fun c_7 => ?_) (fun c_7 => ?_)
          · skip
            refine lv_goto (pc := 1345) (tgt := 1404) S.1 S.2.1 dL_law_1345 (by decide) ?_
            refine W.widen (k := cells + 10) (n := slots + 60) (by omega) (by omega) ?_
            exact kk _ _ _ ⟨(va_up sc 7 (mcd 9 9 1 (inX (sc 5) (xs (i + 1))))), ar, w, ey, o, ad, q, φ1, ψ1, yp_same (hw1 hz) _, rfl, rfl, hI.mono _, hm, rfl, hq, hφ, hψ, fun x => (hd x).symm⟩ hS (lv_sub hl [2, 3, 4, 5, 6] rfl)
          · skip
            exact absurd c_7 (by omega)
        · skip
          exact absurd c_6 (by omega)
    · skip
      exact absurd c_2 (fun h => h hz0)
  · skip
    exact absurd c_1 (fun h => h hz0)
set_option maxHeartbeats 4000000 in
set_option maxRecDepth 100000 in
theorem law_air1 (l : Launch) (hfl : l.stackTraces = false) {p : Program} {e : Env} {s : State} {m : MethodId} {below : List Frame} {meth : Method} {c : Code} {b L : Nat} {xs : Nat → Int32} {D : va_G} {cA : Nat → ClassId} {ga : Nat → Nat → Nat} {Q : State → Prop} (S : CallFix p m c code 7 s #[.ref b] Wc RL) (hK : va_K D vwCl (tysL cA) s) (hX : Sx ga (fun q => s.heap.size ≤ q) s s.heap) (hN3 : Nc3 s) (hXs : va_X b L xs s s.heap) (hbl : b < s.heap.size) (hL : L ≤ 2048) {k9 i y mo ou cells slots : Nat} {H : Heap} {locs : List Loc} {ls : Array Slot} (hk : k9 < 512) (hi : i + 4 ≤ L) (hc : cells ≤ 30 + 10 * k9) (hs : slots ≤ 500 + 60 * k9)
    (hW : WLD cA ga D (fun q => s.heap.size ≤ q) y ou mo k9 H) (hS : va_S (fun q => s.heap.size ≤ q) s.heap H locs) (hl : lv_has ls 7 [(4, .int (nI i)), (3, .ref ou), (2, .ref mo), (1, .ref y), (0, .ref b)])
    (kk : ∀ (H1 : Heap) (locs1 : List Loc) (ls1 : Array Slot), WLD cA ga D (fun q => s.heap.size ≤ q) y ou mo (k9 + 1) H1 → va_S (fun q => s.heap.size ≤ q) s.heap H1 locs1 → lv_has ls1 7 [(4, .int (nI i)), (3, .ref ou), (2, .ref mo), (1, .ref y), (0, .ref b)] → W p l e room_1 s m #[.ref b] below meth c H1 locs1 (cells + 10) (slots + 60) Q (F0 m 1404 ls1 [])) (hz0 : ¬ xs (i + 2) = 0) :
    W p l e room_1 s m #[.ref b] below meth c H locs cells slots Q (F0 m 1264 ls []) := by
  obtain ⟨sc, ar, w, ey, o, ad, q, φ, ψ, hP, rfl, rfl, hI, hm, rfl, hq, hφ, hψ, hd⟩ := hW
  have hj1 := hI.j1
  have hj0 := hI.j0.1
  have hA : ∀ q, s.heap.size ≤ q → (fun q => s.heap.size ≤ q) q := fun _ h => h
  refine lv_aload_n (pc := 1264) S.1 S.2.1 dL_law_1264 rfl (lv_at hl 3 rfl) ?_
  refine lv_aload_n (pc := 1265) S.1 S.2.1 dL_law_1265 rfl (lv_at hl 4 rfl) ?_
  refine lv_iload (pc := 1266) S.1 S.2.1 dL_law_1266 (lv_at hl 0 rfl) ?_
  refine lv_iconst (pc := 1268) (v := nI 1) S.1 S.2.1 dL_law_1268 (by decide) ?_
  refine lv_iadd (pc := 1269) S.1 S.2.1 dL_law_1269 ?_
  refine hv_ti (y := nI (i + 1)) (nI_add _ _) ?_
  refine va_sld (pc := 1270) S.1 S.2.1 hXs hbl (Nat.not_le.mpr hbl) hS (vp_in_nI (by omega) (by omega)) dL_law_1270 ?_
  refine hv_ti (y := xs (i + 1)) (by rw [nI_clamp (by omega)]) ?_
  refine lv_aload_n (pc := 1271) S.1 S.2.1 dL_law_1271 rfl (lv_at hl 4 rfl) ?_
  refine lv_iload (pc := 1272) S.1 S.2.1 dL_law_1272 (lv_at hl 0 rfl) ?_
  refine lv_iconst (pc := 1274) (v := nI 2) S.1 S.2.1 dL_law_1274 (by decide) ?_
  refine lv_iadd (pc := 1275) S.1 S.2.1 dL_law_1275 ?_
  refine hv_ti (y := nI (i + 2)) (nI_add _ _) ?_
  refine va_sld (pc := 1276) S.1 S.2.1 hXs hbl (Nat.not_le.mpr hbl) hS (vp_in_nI (by omega) (by omega)) dL_law_1276 ?_
  refine hv_ti (y := xs (i + 2)) (by rw [nI_clamp (by omega)]) ?_
  refine lv_if_eq (pc := 1277) (tgt := 1284) S.1 S.2.1 dL_law_1277 (by decide) (fun c_1 => ?_) (fun c_1 => ?_)
  · skip
    exact absurd c_1 hz0
  · skip
    refine lv_iconst (pc := 1280) (v := nI 1) S.1 S.2.1 dL_law_1280 (by decide) ?_
    refine lv_goto (pc := 1281) (tgt := 1285) S.1 S.2.1 dL_law_1281 (by decide) ?_
    refine lv_aload_n (pc := 1285) S.1 S.2.1 dL_law_1285 rfl (lv_at hl 1 rfl) ?_
    refine hv_callP (φ := φ) (ψ := ψ) (pc := 1286) (vx_runSW (As := [.ref (ad 0 0), .int (xs (i + 1)), .int (nI 1), .ref (ad 0 9)]) (rest := []) S (lw_air l hfl D cA ga φ H.size k9 sc ar w ey o ad (xs (i + 1)) (nI 1) hP hI (by omega)) (vx_cwSW 4 S.2.2.2.2 (gSW tw_925 tw_926 tw_0 tw_927) rfl rfl rfl (by decide +kernel) ⟨Nat.le_of_ble_eq_true rfl, Nat.le_of_ble_eq_true rfl⟩) (pre1_S hφ hK hX hS hA hN3) rfl rfl hl.1 rfl (lv_room (Nat.le_of_ble_eq_true rfl)) dL_law_1286 ⟨Nat.le_trans (show _ ≤ 20000 by omega) (Nat.le_of_ble_eq_true rfl), Nat.le_trans (show _ ≤ 200000 by omega) (Nat.le_of_ble_eq_true rfl)⟩) hS hA hφ hψ hd (fun v φ1 H locs hw hφ hψ hd hS => ?_)
    obtain ⟨rfl, hw1, hw2⟩ := hw
    have hM31 : mcd 9 9 1 (inX (sc 5) (xs (i + 1))) < 10 := mcd_lt (by decide) (by decide) (by decide)
    refine lv_istore (pc := 1289) (lv' := [(5, .int (nI (mcd 9 9 1 (inX (sc 5) (xs (i + 1)))))), (4, .int (nI i)), (3, .ref (ad 0 9)), (2, .ref (q 0)), (1, .ref (ad 0 0)), (0, .ref b)]) S.1 S.2.1 dL_law_1289 hl (by decide) rfl (fun ls hl => ?_)
    refine lv_aload_n (pc := 1291) S.1 S.2.1 dL_law_1291 rfl (lv_at hl 3 rfl) ?_
    refine lv_aload_n (pc := 1292) S.1 S.2.1 dL_law_1292 rfl (lv_at hl 5 rfl) ?_
    refine lv_iload (pc := 1293) S.1 S.2.1 dL_law_1293 (lv_at hl 1 rfl) ?_
    refine lv_iconst (pc := 1295) (v := nI 1) S.1 S.2.1 dL_law_1295 (by decide) ?_
    refine lv_iadd (pc := 1296) S.1 S.2.1 dL_law_1296 ?_
    refine hv_ti (y := nI (i + 1)) (nI_add _ _) ?_
    refine va_sld (pc := 1297) S.1 S.2.1 hXs hbl (Nat.not_le.mpr hbl) hS (vp_in_nI (by omega) (by omega)) dL_law_1297 ?_
    refine hv_ti (y := xs (i + 1)) (by rw [nI_clamp (by omega)]) ?_
    refine lv_aload_n (pc := 1298) S.1 S.2.1 dL_law_1298 rfl (lv_at hl 5 rfl) ?_
    refine lv_iload (pc := 1299) S.1 S.2.1 dL_law_1299 (lv_at hl 1 rfl) ?_
    refine lv_iconst (pc := 1301) (v := nI 2) S.1 S.2.1 dL_law_1301 (by decide) ?_
    refine lv_iadd (pc := 1302) S.1 S.2.1 dL_law_1302 ?_
    refine hv_ti (y := nI (i + 2)) (nI_add _ _) ?_
    refine va_sld (pc := 1303) S.1 S.2.1 hXs hbl (Nat.not_le.mpr hbl) hS (vp_in_nI (by omega) (by omega)) dL_law_1303 ?_
    refine hv_ti (y := xs (i + 2)) (by rw [nI_clamp (by omega)]) ?_
    refine lv_if_eq (pc := 1304) (tgt := 1311) S.1 S.2.1 dL_law_1304 (by decide) (fun c_2 => ?_) (fun c_2 => ?_)
    · skip
      exact absurd c_2 hz0
    · skip
      refine lv_iconst (pc := 1307) (v := nI 1) S.1 S.2.1 dL_law_1307 (by decide) ?_
      refine lv_goto (pc := 1308) (tgt := 1312) S.1 S.2.1 dL_law_1308 (by decide) ?_
      refine hv_callP (φ := ψ) (ψ := φ1) (pc := 1312) (va_runV (As := [.int (xs (i + 1)), .int (nI 1)]) (rest := []) S (c_m_air l D cA ga ψ H.size q sc ar (xs (i + 1)) (nI 1) hm hq (by omega)) (cwV 2 S.2.2.2.2 (gV tw_1180 tw_1181 tw_1182 tw_7 tw_1183) rfl rfl rfl (by decide +kernel) ⟨Nat.le_of_ble_eq_true rfl, Nat.le_of_ble_eq_true rfl⟩) (pre0_V hψ hK hX hS hA (hψ.recv hK hm.1 rfl)) rfl rfl hl.1 rfl (lv_room (Nat.le_of_ble_eq_true rfl)) dL_law_1312 ⟨Nat.le_trans (show _ ≤ 20000 by omega) (Nat.le_of_ble_eq_true rfl), Nat.le_trans (show _ ≤ 200000 by omega) (Nat.le_of_ble_eq_true rfl)⟩) hS hA hψ hφ (fun x => (hd x).symm) (fun v ψ1 H locs hw hψ hφ hd hS => ?_)
      by_cases hz : inX (sc 5) (xs (i + 1)) = 0
      · skip
        have hM : mcd 9 9 1 (inX (sc 5) (xs (i + 1))) = 0 := by rw [hz]; rfl
        rw [if_pos hz] at hw
        have hn := hw2 hz
        obtain ⟨x1, hx1, hbx, hN⟩ := hn
        obtain ⟨x2, hx2, hc0, rfl, hm⟩ := hw
        have hex : x2 = x1 := jI_inj (hx2.symm.trans hx1) (by omega) (by omega)
        subst hex
        obtain ⟨w', e', o', ad', ho', hy', hou', hP', hI'⟩ := hN
        refine lv_istore (pc := 1315) (lv' := [(6, .int (nI (if nI 1 = 0 then ar 13 x2 else ar 12 x2))), (5, .int (nI (mcd 9 9 1 (inX (sc 5) (xs (i + 1)))))), (4, .int (nI i)), (3, .ref (ad 0 9)), (2, .ref (q 0)), (1, .ref (ad 0 0)), (0, .ref b)]) S.1 S.2.1 dL_law_1315 hl (by decide) rfl (fun ls hl => ?_)
        refine lv_aload_n (pc := 1317) S.1 S.2.1 dL_law_1317 rfl (lv_at hl 4 rfl) ?_
        refine hv_callP (φ := ψ1) (ψ := φ1) (pc := 1318) (va_runV (As := []) (rest := []) S (c_m_thrown l D cA ga ψ1 H.size q (va_up sc 7 (0)) (ar) hm hq) (cwV 0 S.2.2.2.2 (gV tw_1013 tw_1014 tw_1015 tw_7 tw_1016) rfl rfl rfl (by decide +kernel) ⟨Nat.le_of_ble_eq_true rfl, Nat.le_of_ble_eq_true rfl⟩) (pre0_V hψ hK hX hS hA (hψ.recv hK hm.1 rfl)) rfl rfl hl.1 rfl (lv_room (Nat.le_of_ble_eq_true rfl)) dL_law_1318 ⟨Nat.le_trans (show _ ≤ 20000 by omega) (Nat.le_of_ble_eq_true rfl), Nat.le_trans (show _ ≤ 200000 by omega) (Nat.le_of_ble_eq_true rfl)⟩) hS hA hψ hφ hd (fun v ψ2 H locs hw hψ hφ hd hS => ?_)
        obtain ⟨rfl, hps⟩ := hw
        rw [hps] at hψ hd
        refine hv_ti (y := nI 0) (rfl) ?_
        refine lv_iload (pc := 1321) S.1 S.2.1 dL_law_1321 (lv_at hl 1 rfl) ?_
        refine hv_icmp_eq (pc := 1323) (tgt := 1328) (a := 0) (b := mcd 9 9 1 (inX (sc 5) (xs (i + 1)))) S.1 S.2.1 (by omega) (by omega) dL_law_1323 (by decide) (fun c_3 => ?_) (fun c_3 => ?_)
        · skip
          refine lv_iload (pc := 1328) S.1 S.2.1 dL_law_1328 (lv_at hl 1 rfl) ?_
          refine hv_if_ne (pc := 1330) (tgt := 1345) (a := mcd 9 9 1 (inX (sc 5) (xs (i + 1)))) S.1 S.2.1 (by omega) dL_law_1330 (by decide) (fun c_4 => ?_) (fun c_4 => ?_)
          · skip
            exact absurd c_4 (by omega)
          · skip
            refine lv_aload_n (pc := 1333) S.1 S.2.1 dL_law_1333 rfl (lv_at hl 3 rfl) ?_
            refine lv_iconst (pc := 1334) (v := nI 0) S.1 S.2.1 dL_law_1334 (by decide) ?_
            have hfo : φ1 (ad 0 9) = some (.inl (cA 3, 1, .inr (.inl o'))) := by rw [← hou']; exact hP'.at (r := 0) (j := 9) rfl
            have hH := hφ
            refine hv_lald (pc := 1335) S hK hH 3 hfo rfl (vp_in_nI (by decide) (by decide)) dL_law_1335 ?_
            refine hv_tv (y := .long ((nI (if nI 1 = 0 then ar 13 x2 else ar 12 x2)).toInt64)) (by rw [nI_clamp (by decide), ho']) ?_
            refine lv_iload (pc := 1336) S.1 S.2.1 dL_law_1336 (lv_at hl 0 rfl) ?_
            refine lv_i2l (pc := 1338) (v := (nI (if nI 1 = 0 then ar 13 x2 else ar 12 x2)).toInt64) S.1 S.2.1 dL_law_1338 rfl ?_
            refine W.lcmp S.1 S.2.1 dL_law_1339 ?_
            refine hv_ti (y := nI 0) (lgc _) ?_
            refine hv_if_eq (pc := 1340) (tgt := 1345) (a := 0) S.1 S.2.1 (by omega) dL_law_1340 (by decide) (fun c_5 => ?_) (fun c_5 => ?_)
            · skip
              refine lv_goto (pc := 1345) (tgt := 1404) S.1 S.2.1 dL_law_1345 (by decide) ?_
              refine W.widen (k := cells + 10) (n := slots + 60) (by omega) (by omega) ?_
              exact kk _ _ _ ⟨(va_up sc 7 (0)), ar, w', e', o', ad', q, φ1, ψ1, hP', hy', hou', hI', hm, rfl, hq, hφ, hψ, fun x => (hd x).symm⟩ hS (lv_sub hl [2, 3, 4, 5, 6] rfl)
            · skip
              exact absurd c_5 (by omega)
        · skip
          exact absurd c_3 (by omega)
      · skip
        have hor : inX (sc 5) (xs (i + 1)) ≤ 3 := by unfold inX; (repeat' split) <;> decide
        have hM0 := mcd_ne (a := 9) (b := 9) (c := 1) (by decide) (by decide) (by decide) hz hor
        rw [if_neg hz] at hw
        obtain ⟨rfl, hm⟩ := hw
        refine lv_istore (pc := 1315) (lv' := [(6, .int (nI 0)), (5, .int (nI (mcd 9 9 1 (inX (sc 5) (xs (i + 1)))))), (4, .int (nI i)), (3, .ref (ad 0 9)), (2, .ref (q 0)), (1, .ref (ad 0 0)), (0, .ref b)]) S.1 S.2.1 dL_law_1315 hl (by decide) rfl (fun ls hl => ?_)
        refine lv_aload_n (pc := 1317) S.1 S.2.1 dL_law_1317 rfl (lv_at hl 4 rfl) ?_
        refine hv_callP (φ := ψ1) (ψ := φ1) (pc := 1318) (va_runV (As := []) (rest := []) S (c_m_thrown l D cA ga ψ1 H.size q (va_up sc 7 (mcd 9 9 1 (inX (sc 5) (xs (i + 1))))) (ar) hm hq) (cwV 0 S.2.2.2.2 (gV tw_1013 tw_1014 tw_1015 tw_7 tw_1016) rfl rfl rfl (by decide +kernel) ⟨Nat.le_of_ble_eq_true rfl, Nat.le_of_ble_eq_true rfl⟩) (pre0_V hψ hK hX hS hA (hψ.recv hK hm.1 rfl)) rfl rfl hl.1 rfl (lv_room (Nat.le_of_ble_eq_true rfl)) dL_law_1318 ⟨Nat.le_trans (show _ ≤ 20000 by omega) (Nat.le_of_ble_eq_true rfl), Nat.le_trans (show _ ≤ 200000 by omega) (Nat.le_of_ble_eq_true rfl)⟩) hS hA hψ hφ hd (fun v ψ2 H locs hw hψ hφ hd hS => ?_)
        obtain ⟨rfl, hps⟩ := hw
        rw [hps] at hψ hd
        refine hv_ti (y := nI (mcd 9 9 1 (inX (sc 5) (xs (i + 1))))) (rfl) ?_
        refine lv_iload (pc := 1321) S.1 S.2.1 dL_law_1321 (lv_at hl 1 rfl) ?_
        refine hv_icmp_eq (pc := 1323) (tgt := 1328) (a := mcd 9 9 1 (inX (sc 5) (xs (i + 1)))) (b := mcd 9 9 1 (inX (sc 5) (xs (i + 1)))) S.1 S.2.1 (by omega) (by omega) dL_law_1323 (by decide) (fun c_6 => ?_) (fun c_6 => ?_)
        · skip
          refine lv_iload (pc := 1328) S.1 S.2.1 dL_law_1328 (lv_at hl 1 rfl) ?_
          refine hv_if_ne (pc := 1330) (tgt := 1345) (a := mcd 9 9 1 (inX (sc 5) (xs (i + 1)))) S.1 S.2.1 (by omega) dL_law_1330 (by decide) (fun c_7 => ?_) (fun c_7 => ?_)
          · skip
            refine lv_goto (pc := 1345) (tgt := 1404) S.1 S.2.1 dL_law_1345 (by decide) ?_
            refine W.widen (k := cells + 10) (n := slots + 60) (by omega) (by omega) ?_
            exact kk _ _ _ ⟨(va_up sc 7 (mcd 9 9 1 (inX (sc 5) (xs (i + 1))))), ar, w, ey, o, ad, q, φ1, ψ1, yp_same (hw1 hz) _, rfl, rfl, hI.mono _, hm, rfl, hq, hφ, hψ, fun x => (hd x).symm⟩ hS (lv_sub hl [2, 3, 4, 5, 6] rfl)
          · skip
            exact absurd c_7 (by omega)
        · skip
          exact absurd c_6 (by omega)
set_option maxHeartbeats 4000000 in
set_option maxRecDepth 100000 in
theorem law_grams (l : Launch) (hfl : l.stackTraces = false) {p : Program} {e : Env} {s : State} {m : MethodId} {below : List Frame} {meth : Method} {c : Code} {b L : Nat} {xs : Nat → Int32} {D : va_G} {cA : Nat → ClassId} {ga : Nat → Nat → Nat} {Q : State → Prop} (S : CallFix p m c code 7 s #[.ref b] Wc RL) (hK : va_K D vwCl (tysL cA) s) (hX : Sx ga (fun q => s.heap.size ≤ q) s s.heap) (hN3 : Nc3 s) (hXs : va_X b L xs s s.heap) (hbl : b < s.heap.size) (hL : L ≤ 2048) {k9 i y mo ou cells slots : Nat} {H : Heap} {locs : List Loc} {ls : Array Slot} (hk : k9 < 512) (hi : i + 4 ≤ L) (hc : cells ≤ 30 + 10 * k9) (hs : slots ≤ 500 + 60 * k9)
    (hW : WLD cA ga D (fun q => s.heap.size ≤ q) y ou mo k9 H) (hS : va_S (fun q => s.heap.size ≤ q) s.heap H locs) (hl : lv_has ls 7 [(4, .int (nI i)), (3, .ref ou), (2, .ref mo), (1, .ref y), (0, .ref b)])
    (kk : ∀ (H1 : Heap) (locs1 : List Loc) (ls1 : Array Slot), WLD cA ga D (fun q => s.heap.size ≤ q) y ou mo (k9 + 1) H1 → va_S (fun q => s.heap.size ≤ q) s.heap H1 locs1 → lv_has ls1 7 [(4, .int (nI i)), (3, .ref ou), (2, .ref mo), (1, .ref y), (0, .ref b)] → W p l e room_1 s m #[.ref b] below meth c H1 locs1 (cells + 10) (slots + 60) Q (F0 m 1404 ls1 [])) :
    W p l e room_1 s m #[.ref b] below meth c H locs cells slots Q (F0 m 1348 ls []) := by
  obtain ⟨sc, ar, w, ey, o, ad, q, φ, ψ, hP, rfl, rfl, hI, hm, rfl, hq, hφ, hψ, hd⟩ := hW
  have hj1 := hI.j1
  have hj0 := hI.j0.1
  have hA : ∀ q, s.heap.size ≤ q → (fun q => s.heap.size ≤ q) q := fun _ h => h
  refine lv_aload_n (pc := 1348) S.1 S.2.1 dL_law_1348 rfl (lv_at hl 3 rfl) ?_
  refine lv_aload_n (pc := 1349) S.1 S.2.1 dL_law_1349 rfl (lv_at hl 4 rfl) ?_
  refine lv_iload (pc := 1350) S.1 S.2.1 dL_law_1350 (lv_at hl 0 rfl) ?_
  refine lv_iconst (pc := 1352) (v := nI 1) S.1 S.2.1 dL_law_1352 (by decide) ?_
  refine lv_iadd (pc := 1353) S.1 S.2.1 dL_law_1353 ?_
  refine hv_ti (y := nI (i + 1)) (nI_add _ _) ?_
  refine va_sld (pc := 1354) S.1 S.2.1 hXs hbl (Nat.not_le.mpr hbl) hS (vp_in_nI (by omega) (by omega)) dL_law_1354 ?_
  refine hv_ti (y := xs (i + 1)) (by rw [nI_clamp (by omega)]) ?_
  refine lv_aload_n (pc := 1355) S.1 S.2.1 dL_law_1355 rfl (lv_at hl 1 rfl) ?_
  refine hv_callP (φ := φ) (ψ := ψ) (pc := 1356) (vx_runSW (As := [.ref (ad 0 0), .int (xs (i + 1)), .ref (ad 0 9)]) (rest := []) S (lw_grams l hfl D cA ga φ H.size k9 sc ar w ey o ad (xs (i + 1)) hP hI (by omega)) (vx_cwSW 3 S.2.2.2.2 (gSW tw_932 tw_933 tw_0 tw_934) rfl rfl rfl (by decide +kernel) ⟨Nat.le_of_ble_eq_true rfl, Nat.le_of_ble_eq_true rfl⟩) (pre1_S hφ hK hX hS hA hN3) rfl rfl hl.1 rfl (lv_room (Nat.le_of_ble_eq_true rfl)) dL_law_1356 ⟨Nat.le_trans (show _ ≤ 20000 by omega) (Nat.le_of_ble_eq_true rfl), Nat.le_trans (show _ ≤ 200000 by omega) (Nat.le_of_ble_eq_true rfl)⟩) hS hA hφ hψ hd (fun v φ1 H locs hw hφ hψ hd hS => ?_)
  obtain ⟨rfl, hw1, hw2⟩ := hw
  have hM31 : mcd 9 9 1 (inX (sc 2) (xs (i + 1))) < 10 := mcd_lt (by decide) (by decide) (by decide)
  refine lv_istore (pc := 1359) (lv' := [(5, .int (nI (mcd 9 9 1 (inX (sc 2) (xs (i + 1)))))), (4, .int (nI i)), (3, .ref (ad 0 9)), (2, .ref (q 0)), (1, .ref (ad 0 0)), (0, .ref b)]) S.1 S.2.1 dL_law_1359 hl (by decide) rfl (fun ls hl => ?_)
  refine lv_aload_n (pc := 1361) S.1 S.2.1 dL_law_1361 rfl (lv_at hl 3 rfl) ?_
  refine lv_aload_n (pc := 1362) S.1 S.2.1 dL_law_1362 rfl (lv_at hl 5 rfl) ?_
  refine lv_iload (pc := 1363) S.1 S.2.1 dL_law_1363 (lv_at hl 1 rfl) ?_
  refine lv_iconst (pc := 1365) (v := nI 1) S.1 S.2.1 dL_law_1365 (by decide) ?_
  refine lv_iadd (pc := 1366) S.1 S.2.1 dL_law_1366 ?_
  refine hv_ti (y := nI (i + 1)) (nI_add _ _) ?_
  refine va_sld (pc := 1367) S.1 S.2.1 hXs hbl (Nat.not_le.mpr hbl) hS (vp_in_nI (by omega) (by omega)) dL_law_1367 ?_
  refine hv_ti (y := xs (i + 1)) (by rw [nI_clamp (by omega)]) ?_
  refine hv_callP (φ := ψ) (ψ := φ1) (pc := 1368) (va_runV (As := [.int (xs (i + 1))]) (rest := []) S (c_m_grams l D cA ga ψ H.size q sc ar (xs (i + 1)) hm hq (by omega)) (cwV 1 S.2.2.2.2 (gV tw_1184 tw_1185 tw_1186 tw_7 tw_1187) rfl rfl rfl (by decide +kernel) ⟨Nat.le_of_ble_eq_true rfl, Nat.le_of_ble_eq_true rfl⟩) (pre0_V hψ hK hX hS hA (hψ.recv hK hm.1 rfl)) rfl rfl hl.1 rfl (lv_room (Nat.le_of_ble_eq_true rfl)) dL_law_1368 ⟨Nat.le_trans (show _ ≤ 20000 by omega) (Nat.le_of_ble_eq_true rfl), Nat.le_trans (show _ ≤ 200000 by omega) (Nat.le_of_ble_eq_true rfl)⟩) hS hA hψ hφ (fun x => (hd x).symm) (fun v ψ1 H locs hw hψ hφ hd hS => ?_)
  by_cases hz : inX (sc 2) (xs (i + 1)) = 0
  · skip
    have hM : mcd 9 9 1 (inX (sc 2) (xs (i + 1))) = 0 := by rw [hz]; rfl
    rw [if_pos hz] at hw
    have hn := hw2 hz
    obtain ⟨x1, hx1, hbx, hN⟩ := hn
    obtain ⟨x2, hx2, hc0, rfl, hm⟩ := hw
    have hex : x2 = x1 := jI_inj (hx2.symm.trans hx1) (by omega) (by omega)
    subst hex
    obtain ⟨w', e', o', ad', ho', hy', hou', hP', hI'⟩ := hN
    refine lv_istore (pc := 1371) (lv' := [(6, .int (nI (ar 2 x2))), (5, .int (nI (mcd 9 9 1 (inX (sc 2) (xs (i + 1)))))), (4, .int (nI i)), (3, .ref (ad 0 9)), (2, .ref (q 0)), (1, .ref (ad 0 0)), (0, .ref b)]) S.1 S.2.1 dL_law_1371 hl (by decide) rfl (fun ls hl => ?_)
    refine lv_aload_n (pc := 1373) S.1 S.2.1 dL_law_1373 rfl (lv_at hl 4 rfl) ?_
    refine hv_callP (φ := ψ1) (ψ := φ1) (pc := 1374) (va_runV (As := []) (rest := []) S (c_m_thrown l D cA ga ψ1 H.size q (va_up sc 7 (0)) (ar) hm hq) (cwV 0 S.2.2.2.2 (gV tw_1013 tw_1014 tw_1015 tw_7 tw_1016) rfl rfl rfl (by decide +kernel) ⟨Nat.le_of_ble_eq_true rfl, Nat.le_of_ble_eq_true rfl⟩) (pre0_V hψ hK hX hS hA (hψ.recv hK hm.1 rfl)) rfl rfl hl.1 rfl (lv_room (Nat.le_of_ble_eq_true rfl)) dL_law_1374 ⟨Nat.le_trans (show _ ≤ 20000 by omega) (Nat.le_of_ble_eq_true rfl), Nat.le_trans (show _ ≤ 200000 by omega) (Nat.le_of_ble_eq_true rfl)⟩) hS hA hψ hφ hd (fun v ψ2 H locs hw hψ hφ hd hS => ?_)
    obtain ⟨rfl, hps⟩ := hw
    rw [hps] at hψ hd
    refine hv_ti (y := nI 0) (rfl) ?_
    refine lv_iload (pc := 1377) S.1 S.2.1 dL_law_1377 (lv_at hl 1 rfl) ?_
    refine hv_icmp_eq (pc := 1379) (tgt := 1384) (a := 0) (b := mcd 9 9 1 (inX (sc 2) (xs (i + 1)))) S.1 S.2.1 (by omega) (by omega) dL_law_1379 (by decide) (fun c_1 => ?_) (fun c_1 => ?_)
    · skip
      refine lv_iload (pc := 1384) S.1 S.2.1 dL_law_1384 (lv_at hl 1 rfl) ?_
      refine hv_if_ne (pc := 1386) (tgt := 1401) (a := mcd 9 9 1 (inX (sc 2) (xs (i + 1)))) S.1 S.2.1 (by omega) dL_law_1386 (by decide) (fun c_2 => ?_) (fun c_2 => ?_)
      · skip
        exact absurd c_2 (by omega)
      · skip
        refine lv_aload_n (pc := 1389) S.1 S.2.1 dL_law_1389 rfl (lv_at hl 3 rfl) ?_
        refine lv_iconst (pc := 1390) (v := nI 0) S.1 S.2.1 dL_law_1390 (by decide) ?_
        have hfo : φ1 (ad 0 9) = some (.inl (cA 3, 1, .inr (.inl o'))) := by rw [← hou']; exact hP'.at (r := 0) (j := 9) rfl
        have hH := hφ
        refine hv_lald (pc := 1391) S hK hH 3 hfo rfl (vp_in_nI (by decide) (by decide)) dL_law_1391 ?_
        refine hv_tv (y := .long ((nI (ar 2 x2)).toInt64)) (by rw [nI_clamp (by decide), ho']) ?_
        refine lv_iload (pc := 1392) S.1 S.2.1 dL_law_1392 (lv_at hl 0 rfl) ?_
        refine lv_i2l (pc := 1394) (v := (nI (ar 2 x2)).toInt64) S.1 S.2.1 dL_law_1394 rfl ?_
        refine W.lcmp S.1 S.2.1 dL_law_1395 ?_
        refine hv_ti (y := nI 0) (lgc _) ?_
        refine hv_if_eq (pc := 1396) (tgt := 1401) (a := 0) S.1 S.2.1 (by omega) dL_law_1396 (by decide) (fun c_3 => ?_) (fun c_3 => ?_)
        · skip
          refine lv_goto (pc := 1401) (tgt := 1404) S.1 S.2.1 dL_law_1401 (by decide) ?_
          refine W.widen (k := cells + 10) (n := slots + 60) (by omega) (by omega) ?_
          exact kk _ _ _ ⟨(va_up sc 7 (0)), ar, w', e', o', ad', q, φ1, ψ1, hP', hy', hou', hI', hm, rfl, hq, hφ, hψ, fun x => (hd x).symm⟩ hS (lv_sub hl [2, 3, 4, 5, 6] rfl)
        · skip
          exact absurd c_3 (by omega)
    · skip
      exact absurd c_1 (by omega)
  · skip
    have hor : inX (sc 2) (xs (i + 1)) ≤ 3 := by unfold inX; (repeat' split) <;> decide
    have hM0 := mcd_ne (a := 9) (b := 9) (c := 1) (by decide) (by decide) (by decide) hz hor
    rw [if_neg hz] at hw
    obtain ⟨rfl, hm⟩ := hw
    refine lv_istore (pc := 1371) (lv' := [(6, .int (nI 0)), (5, .int (nI (mcd 9 9 1 (inX (sc 2) (xs (i + 1)))))), (4, .int (nI i)), (3, .ref (ad 0 9)), (2, .ref (q 0)), (1, .ref (ad 0 0)), (0, .ref b)]) S.1 S.2.1 dL_law_1371 hl (by decide) rfl (fun ls hl => ?_)
    refine lv_aload_n (pc := 1373) S.1 S.2.1 dL_law_1373 rfl (lv_at hl 4 rfl) ?_
    refine hv_callP (φ := ψ1) (ψ := φ1) (pc := 1374) (va_runV (As := []) (rest := []) S (c_m_thrown l D cA ga ψ1 H.size q (va_up sc 7 (mcd 9 9 1 (inX (sc 2) (xs (i + 1))))) (ar) hm hq) (cwV 0 S.2.2.2.2 (gV tw_1013 tw_1014 tw_1015 tw_7 tw_1016) rfl rfl rfl (by decide +kernel) ⟨Nat.le_of_ble_eq_true rfl, Nat.le_of_ble_eq_true rfl⟩) (pre0_V hψ hK hX hS hA (hψ.recv hK hm.1 rfl)) rfl rfl hl.1 rfl (lv_room (Nat.le_of_ble_eq_true rfl)) dL_law_1374 ⟨Nat.le_trans (show _ ≤ 20000 by omega) (Nat.le_of_ble_eq_true rfl), Nat.le_trans (show _ ≤ 200000 by omega) (Nat.le_of_ble_eq_true rfl)⟩) hS hA hψ hφ hd (fun v ψ2 H locs hw hψ hφ hd hS => ?_)
    obtain ⟨rfl, hps⟩ := hw
    rw [hps] at hψ hd
    refine hv_ti (y := nI (mcd 9 9 1 (inX (sc 2) (xs (i + 1))))) (rfl) ?_
    refine lv_iload (pc := 1377) S.1 S.2.1 dL_law_1377 (lv_at hl 1 rfl) ?_
    refine hv_icmp_eq (pc := 1379) (tgt := 1384) (a := mcd 9 9 1 (inX (sc 2) (xs (i + 1)))) (b := mcd 9 9 1 (inX (sc 2) (xs (i + 1)))) S.1 S.2.1 (by omega) (by omega) dL_law_1379 (by decide) (fun c_4 => ?_) (fun c_4 => ?_)
    · skip
      refine lv_iload (pc := 1384) S.1 S.2.1 dL_law_1384 (lv_at hl 1 rfl) ?_
      refine hv_if_ne (pc := 1386) (tgt := 1401) (a := mcd 9 9 1 (inX (sc 2) (xs (i + 1)))) S.1 S.2.1 (by omega) dL_law_1386 (by decide) (fun c_5 => ?_) (fun c_5 => ?_)
      · skip
        refine lv_goto (pc := 1401) (tgt := 1404) S.1 S.2.1 dL_law_1401 (by decide) ?_
        refine W.widen (k := cells + 10) (n := slots + 60) (by omega) (by omega) ?_
        exact kk _ _ _ ⟨(va_up sc 7 (mcd 9 9 1 (inX (sc 2) (xs (i + 1))))), ar, w, ey, o, ad, q, φ1, ψ1, yp_same (hw1 hz) _, rfl, rfl, hI.mono _, hm, rfl, hq, hφ, hψ, fun x => (hd x).symm⟩ hS (lv_sub hl [2, 3, 4, 5, 6] rfl)
      · skip
        exact absurd c_5 (by omega)
    · skip
      exact absurd c_4 (by omega)
