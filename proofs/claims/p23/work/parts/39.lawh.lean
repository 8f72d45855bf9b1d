def noM : hpM := fun _ => none
theorem hp.no {D : va_G} {A : Nat → Prop} {H : Heap} : hp D A noM H := fun a e he => by cases he
theorem law_body (l : Launch) (hfl : l.stackTraces = false) {p : Program} {e : Env} {s : State} {m : MethodId} {below : List Frame} {meth : Method} {c : Code} {b : Nat} {D : va_G} {cA : Nat → ClassId} {ga : Nat → Nat → Nat} {Q : State → Prop} (S : CallFix p m c code 19 s #[.ref b] Wc RL) (hK : va_K D vwCl (tysL cA) s) (hX : Sx ga (fun q => s.heap.size ≤ q) s s.heap) {k x9 hw y9 cn z9 cells slots : Nat} {H : Heap} {locs : List Loc} {ls : Array Slot} {az : Nat → Nat} {tk tm : Nat} {tg sc : Nat → Nat} {ar : Nat → Nat → Nat} {w : Nat → Nat → Nat → Nat} {ez o : Nat → Nat → Nat} {φ : hpM} (hk : k < 130) (hc : cells ≤ 500000) (hs : slots ≤ 5000000) (hz9 : z9 < 2 ^ 27) (hw34 : hw < 34)
    (hY : YW cA ga az tk tm tg sc ar w ez o φ) (hI : LI k sc ar w ez o) (hT : TY tk tg) (h5 : o 0 5 = tk) (hH : hp D (fun q => s.heap.size ≤ q) φ H) (hS : va_S (fun q => s.heap.size ≤ q) s.heap H locs) (hcn : 0 < sc 3 → cn < sc 3) (hl : lv_has ls 19 [(13, .int (nI z9)), (12, .int (nI cn)), (11, .int (nI y9)), (10, .int (nI hw)), (9, .int (nI x9)), (8, .int (nI k)), (7, .int (nI 1)), (6, .ref (az 13)), (5, .ref (az 12)), (4, .ref (az 11)), (3, .ref (az 10)), (2, .ref (az 9)), (1, .ref (az 0)), (0, .ref b)])
    (kk : ∀ (H1 : Heap) (locs1 : List Loc) (ls1 : Array Slot), WLD cA ga D (fun q => s.heap.size ≤ q) az (k + 1) H1 → va_S (fun q => s.heap.size ≤ q) s.heap H1 locs1 → lv_has ls1 19 [(11, .int (nI y9)), (9, .int (nI x9)), (8, .int (nI k)), (7, .int (nI 1)), (6, .ref (az 13)), (5, .ref (az 12)), (4, .ref (az 11)), (3, .ref (az 10)), (2, .ref (az 9)), (1, .ref (az 0)), (0, .ref b)] → W p l e room_1 s m #[.ref b] below meth c H1 locs1 (cells + 130) (slots + 800) Q (F0 m 1489 ls1 [])) :
    W p l e room_1 s m #[.ref b] below meth c H locs cells slots Q (F0 m 201 ls []) := by
  refine (Classical.em (hw < 3)).elim (fun hh => ?_) (fun _ => ?_)
  · exact law_lot l hfl S hK hX hk hc hs hz9 hw34 hY hI hT h5 hH hS hcn hl kk hh
  refine (Classical.em (hw < 7 ∧ 0 < sc 2)).elim (fun hh => ?_) (fun _ => ?_)
  · exact law_cone l hfl S hK hX hk hc hs hz9 hw34 hY hI hT h5 hH hS hcn hl kk ⟨by omega, hh.1⟩ hh.2
  refine (Classical.em (hw < 9)).elim (fun hh => ?_) (fun _ => ?_)
  · exact law_hand l hfl S hK hX hk hc hs hz9 hw34 hY hI hT h5 hH hS hcn hl kk ⟨by omega, hh⟩ (fun z => by omega)
  refine (Classical.em (hw < 11)).elim (fun hh => ?_) (fun _ => ?_)
  · exact law_block l hfl S hK hX hk hc hs hz9 hw34 hY hI hT h5 hH hS hcn hl kk ⟨by omega, hh⟩
  refine (Classical.em (hw < 21 ∧ 0 < sc 3 ∧ 0 < sc 5)).elim (fun hh => ?_) (fun _ => ?_)
  · exact law_cycle l hfl S hK hX hk hc hs hz9 hw34 hY hI hT h5 hH hS hcn hl kk ⟨by omega, hh.1⟩ hh.2.1 hh.2.2
  refine (Classical.em (21 ≤ hw ∧ hw < 25 ∧ 0 < sc 3 ∧ 0 < sc 4)).elim (fun hh => ?_) (fun _ => ?_)
  · exact law_draw l hfl S hK hX hk hc hs hz9 hw34 hY hI hT h5 hH hS hcn hl kk ⟨hh.1, hh.2.1⟩ hh.2.2.1 hh.2.2.2
  refine (Classical.em (hw = 25 ∧ 0 < sc 3)).elim (fun hh => ?_) (fun _ => ?_)
  · exact law_trim l hfl S hK hX hk hc hs hz9 hw34 hY hI hT h5 hH hS hcn hl kk hh.1 hh.2
  refine (Classical.em (hw = 26)).elim (fun hh => ?_) (fun _ => ?_)
  · exact law_pass l hfl S hK hX hk hc hs hz9 hw34 hY hI hT h5 hH hS hcn hl kk hh
  refine (Classical.em (27 ≤ hw ∧ hw < 30)).elim (fun hh => ?_) (fun _ => ?_)
  · exact law_counted l hfl S hK hX hk hc hs hz9 hw34 hY hI hT h5 hH hS hcn hl kk hh
  refine (Classical.em (30 ≤ hw)).elim (fun hh => ?_) (fun _ => ?_)
  · exact law_measure l hfl S hK hX hk hc hs hz9 hw34 hY hI hT h5 hH hS hcn hl kk hh
  exact law_none l hfl S hK hX hk hc hs hz9 hw34 hY hI hT h5 hH hS hcn hl kk (by omega)
set_option maxHeartbeats 4000000 in
set_option maxRecDepth 100000 in
theorem law_t2 (l : Launch) (hfl : l.stackTraces = false) {p : Program} {e : Env} {s : State} {m : MethodId} {below : List Frame} {meth : Method} {c : Code} {b : Nat} {D : va_G} {cA : Nat → ClassId} {ga : Nat → Nat → Nat} {Q : State → Prop} (S : CallFix p m c code 19 s #[.ref b] Wc RL) (hK : va_K D vwCl (tysL cA) s) (hX : Sx ga (fun q => s.heap.size ≤ q) s s.heap) {k x9 hw y9 cells slots : Nat} {H : Heap} {locs : List Loc} {ls : Array Slot} {az : Nat → Nat} {tk tm : Nat} {tg sc : Nat → Nat} {ar : Nat → Nat → Nat} {w : Nat → Nat → Nat → Nat} {ez o : Nat → Nat → Nat} {φ : hpM} (hk : k < 130) (hc : cells ≤ 500000) (hs : slots ≤ 5000000) (hx9 : x9 < 2 ^ 31) (hy9 : y9 = x9 / 34) (hw34 : hw < 34)
    (hY : YW cA ga az tk tm tg sc ar w ez o φ) (hI : LI k sc ar w ez o) (hT : TY tk tg) (h5 : o 0 5 = tk) (hH : hp D (fun q => s.heap.size ≤ q) φ H) (hS : va_S (fun q => s.heap.size ≤ q) s.heap H locs) (hl : lv_has ls 19 [(9, .int (nI x9)), (8, .int (nI k)), (7, .int (nI 1)), (6, .ref (az 13)), (5, .ref (az 12)), (4, .ref (az 11)), (3, .ref (az 10)), (2, .ref (az 9)), (1, .ref (az 0)), (0, .ref b)])
    (kk : ∀ (H1 : Heap) (locs1 : List Loc) (ls1 : Array Slot), WLD cA ga D (fun q => s.heap.size ≤ q) az (k + 1) H1 → va_S (fun q => s.heap.size ≤ q) s.heap H1 locs1 → lv_has ls1 19 [(11, .int (nI y9)), (9, .int (nI x9)), (8, .int (nI k)), (7, .int (nI 1)), (6, .ref (az 13)), (5, .ref (az 12)), (4, .ref (az 11)), (3, .ref (az 10)), (2, .ref (az 9)), (1, .ref (az 0)), (0, .ref b)] → W p l e room_1 s m #[.ref b] below meth c H1 locs1 (cells + 130) (slots + 800) Q (F0 m 1489 ls1 [])) : W p l e room_1 s m #[.ref b] below meth c H locs (cells) (slots) Q (F0 m 150 ls [.int (nI hw)]) := by
  have hl1 := hI.l1
  have hm := hI.lm
  refine lv_istore (pc := 150) (lv' := [(10, .int (nI hw)), (9, .int (nI x9)), (8, .int (nI k)), (7, .int (nI 1)), (6, .ref (az 13)), (5, .ref (az 12)), (4, .ref (az 11)), (3, .ref (az 10)), (2, .ref (az 9)), (1, .ref (az 0)), (0, .ref b)]) S.1 S.2.1 dL_law_150 hl (by decide) rfl (fun ls hl => ?_)
  refine lv_iload (pc := 152) S.1 S.2.1 dL_law_152 (lv_at hl 1 rfl) ?_
  refine lv_bipush (pc := 154) (v := nI 34) S.1 S.2.1 dL_law_154 (by decide) ?_
  refine lv_idiv (pc := 156) S.1 S.2.1 dL_law_156 (by decide) ?_
  refine hv_ti (y := nI (x9 / 34)) (pk_div (by omega) (by omega) (by omega)) ?_
  refine hv_ti (y := nI y9) (by rw [hy9]) ?_
  have hy27 : y9 < 2 ^ 27 := by omega
  refine lv_istore (pc := 157) (lv' := [(11, .int (nI y9)), (10, .int (nI hw)), (9, .int (nI x9)), (8, .int (nI k)), (7, .int (nI 1)), (6, .ref (az 13)), (5, .ref (az 12)), (4, .ref (az 11)), (3, .ref (az 10)), (2, .ref (az 9)), (1, .ref (az 0)), (0, .ref b)]) S.1 S.2.1 dL_law_157 hl (by decide) rfl (fun ls hl => ?_)
  refine lv_aload_n (pc := 159) S.1 S.2.1 dL_law_159 rfl (lv_at hl 9 rfl) ?_
  refine lv_iconst (pc := 160) (v := nI 1) S.1 S.2.1 dL_law_160 (by decide) ?_
  refine hv_iald (pc := 161) S hK hH 1 (hY.a0) rfl (vp_in_nI (show 1 < 6 by omega) (by omega)) dL_law_161 ?_
  refine hv_ti (y := nI ((o 0) 1)) (hv_ld (by omega)) ?_
  refine hv_ti (y := nI (sc 3)) (congrArg nI hm.2.1) ?_
  by_cases h3 : sc 3 = 0
  · skip
    refine hv_if_ne (pc := 162) (tgt := 169) (a := sc 3) S.1 S.2.1 (by omega) dL_law_162 (by decide) (fun c9 => absurd c9 (by omega)) (fun c_1 => ?_)
    refine lv_iconst (pc := 165) (v := nI 0) S.1 S.2.1 dL_law_165 (by decide) ?_
    refine lv_goto (pc := 166) (tgt := 192) S.1 S.2.1 dL_law_166 (by decide) ?_
    obtain ⟨cn, hcn9⟩ : ∃ cn : Nat, cn = 0 := ⟨_, rfl⟩
    refine hv_ti (y := nI cn) (by rw [hcn9]) ?_
    have hcn : 0 < sc 3 → cn < sc 3 := fun z => by omega
    refine lv_istore (pc := 192) (lv' := [(12, .int (nI cn)), (11, .int (nI y9)), (10, .int (nI hw)), (9, .int (nI x9)), (8, .int (nI k)), (7, .int (nI 1)), (6, .ref (az 13)), (5, .ref (az 12)), (4, .ref (az 11)), (3, .ref (az 10)), (2, .ref (az 9)), (1, .ref (az 0)), (0, .ref b)]) S.1 S.2.1 dL_law_192 hl (by decide) rfl (fun ls hl => ?_)
    refine lv_iload (pc := 194) S.1 S.2.1 dL_law_194 (lv_at hl 1 rfl) ?_
    refine lv_bipush (pc := 196) (v := nI 36) S.1 S.2.1 dL_law_196 (by decide) ?_
    refine lv_idiv (pc := 198) S.1 S.2.1 dL_law_198 (by decide) ?_
    refine hv_ti (y := nI (y9 / 36)) (pk_div (by omega) (by omega) (by omega)) ?_
    obtain ⟨z9, hz99⟩ : ∃ z9 : Nat, z9 = y9 / 36 := ⟨_, rfl⟩
    refine hv_ti (y := nI z9) (by rw [hz99]) ?_
    have hz9 : z9 < 2 ^ 27 := by omega
    refine lv_istore (pc := 199) (lv' := [(13, .int (nI z9)), (12, .int (nI cn)), (11, .int (nI y9)), (10, .int (nI hw)), (9, .int (nI x9)), (8, .int (nI k)), (7, .int (nI 1)), (6, .ref (az 13)), (5, .ref (az 12)), (4, .ref (az 11)), (3, .ref (az 10)), (2, .ref (az 9)), (1, .ref (az 0)), (0, .ref b)]) S.1 S.2.1 dL_law_199 hl (by decide) rfl (fun ls hl => ?_)
    exact law_body l hfl S hK hX hk hc hs hz9 hw34 hY hI hT h5 hH hS hcn (lv_sub hl [0, 1, 2, 3, 4, 5, 6, 7, 8, 9, 10, 11, 12, 13] rfl) kk
  · skip
    refine hv_if_ne (pc := 162) (tgt := 169) (a := sc 3) S.1 S.2.1 (by omega) dL_law_162 (by decide) (fun c_2 => ?_) (fun c9 => absurd c9 (by omega))
    refine lv_iload (pc := 169) S.1 S.2.1 dL_law_169 (lv_at hl 0 rfl) ?_
    refine lv_iconst (pc := 171) (v := nI 3) S.1 S.2.1 dL_law_171 (by decide) ?_
    refine lv_irem (pc := 172) S.1 S.2.1 dL_law_172 (by decide) ?_
    refine hv_ti (y := nI (y9 % 3)) (pk_rem (by omega) (by omega) (by omega)) ?_
    by_cases hy3 : y9 % 3 = 0
    · skip
      refine hv_if_ne (pc := 173) (tgt := 187) (a := y9 % 3) S.1 S.2.1 (by omega) dL_law_173 (by decide) (fun c9 => absurd c9 (by omega)) (fun c_3 => ?_)
      refine lv_iload (pc := 176) S.1 S.2.1 dL_law_176 (lv_at hl 0 rfl) ?_
      refine lv_iconst (pc := 178) (v := nI 3) S.1 S.2.1 dL_law_178 (by decide) ?_
      refine lv_idiv (pc := 179) S.1 S.2.1 dL_law_179 (by decide) ?_
      refine hv_ti (y := nI (y9 / 3)) (pk_div (by omega) (by omega) (by omega)) ?_
      refine lv_aload_n (pc := 180) S.1 S.2.1 dL_law_180 rfl (lv_at hl 9 rfl) ?_
      refine lv_iconst (pc := 181) (v := nI 1) S.1 S.2.1 dL_law_181 (by decide) ?_
      refine hv_iald (pc := 182) S hK hH 1 (hY.a0) rfl (vp_in_nI (show 1 < 6 by omega) (by omega)) dL_law_182 ?_
      refine hv_ti (y := nI ((o 0) 1)) (hv_ld (by omega)) ?_
      refine hv_ti (y := nI (sc 3)) (congrArg nI hm.2.1) ?_
      have hp3 : 0 < sc 3 := by omega
      have hmod : (y9 / 3) % sc 3 < sc 3 := Nat.mod_lt _ hp3
      refine lv_irem (pc := 183) S.1 S.2.1 dL_law_183 (fun h9 => h3 (jI_inj (show nI (sc 3) = nI 0 from h9.trans nI_0.symm) (by omega) (by decide))) ?_
      refine hv_ti (y := nI ((y9 / 3) % (sc 3))) (pk_rem (by omega) (by omega) (by omega)) ?_
      refine lv_goto (pc := 184) (tgt := 192) S.1 S.2.1 dL_law_184 (by decide) ?_
      obtain ⟨cn, hcn9⟩ : ∃ cn : Nat, cn = (y9 / 3) % (sc 3) := ⟨_, rfl⟩
      refine hv_ti (y := nI cn) (by rw [hcn9]) ?_
      have hcn : 0 < sc 3 → cn < sc 3 := fun z => by rw [hcn9]; exact hmod
      refine lv_istore (pc := 192) (lv' := [(12, .int (nI cn)), (11, .int (nI y9)), (10, .int (nI hw)), (9, .int (nI x9)), (8, .int (nI k)), (7, .int (nI 1)), (6, .ref (az 13)), (5, .ref (az 12)), (4, .ref (az 11)), (3, .ref (az 10)), (2, .ref (az 9)), (1, .ref (az 0)), (0, .ref b)]) S.1 S.2.1 dL_law_192 hl (by decide) rfl (fun ls hl => ?_)
      refine lv_iload (pc := 194) S.1 S.2.1 dL_law_194 (lv_at hl 1 rfl) ?_
      refine lv_bipush (pc := 196) (v := nI 36) S.1 S.2.1 dL_law_196 (by decide) ?_
      refine lv_idiv (pc := 198) S.1 S.2.1 dL_law_198 (by decide) ?_
      refine hv_ti (y := nI (y9 / 36)) (pk_div (by omega) (by omega) (by omega)) ?_
      obtain ⟨z9, hz99⟩ : ∃ z9 : Nat, z9 = y9 / 36 := ⟨_, rfl⟩
      refine hv_ti (y := nI z9) (by rw [hz99]) ?_
      have hz9 : z9 < 2 ^ 27 := by omega
      refine lv_istore (pc := 199) (lv' := [(13, .int (nI z9)), (12, .int (nI cn)), (11, .int (nI y9)), (10, .int (nI hw)), (9, .int (nI x9)), (8, .int (nI k)), (7, .int (nI 1)), (6, .ref (az 13)), (5, .ref (az 12)), (4, .ref (az 11)), (3, .ref (az 10)), (2, .ref (az 9)), (1, .ref (az 0)), (0, .ref b)]) S.1 S.2.1 dL_law_199 hl (by decide) rfl (fun ls hl => ?_)
      exact law_body l hfl S hK hX hk hc hs hz9 hw34 hY hI hT h5 hH hS hcn (lv_sub hl [0, 1, 2, 3, 4, 5, 6, 7, 8, 9, 10, 11, 12, 13] rfl) kk
    · skip
      refine hv_if_ne (pc := 173) (tgt := 187) (a := y9 % 3) S.1 S.2.1 (by omega) dL_law_173 (by decide) (fun c_4 => ?_) (fun c9 => absurd c9 (by omega))
      refine lv_aload_n (pc := 187) S.1 S.2.1 dL_law_187 rfl (lv_at hl 9 rfl) ?_
      refine lv_iconst (pc := 188) (v := nI 1) S.1 S.2.1 dL_law_188 (by decide) ?_
      refine hv_iald (pc := 189) S hK hH 1 (hY.a0) rfl (vp_in_nI (show 1 < 6 by omega) (by omega)) dL_law_189 ?_
      refine hv_ti (y := nI ((o 0) 1)) (hv_ld (by omega)) ?_
      refine hv_ti (y := nI (sc 3)) (congrArg nI hm.2.1) ?_
      refine lv_iconst (pc := 190) (v := nI 1) S.1 S.2.1 dL_law_190 (by decide) ?_
      refine lv_isub (pc := 191) S.1 S.2.1 dL_law_191 ?_
      refine hv_ti (y := nI ((sc 3) - 1)) (pk_sub (by omega)) ?_
      obtain ⟨cn, hcn9⟩ : ∃ cn : Nat, cn = (sc 3) - 1 := ⟨_, rfl⟩
      refine hv_ti (y := nI cn) (by rw [hcn9]) ?_
      have hcn : 0 < sc 3 → cn < sc 3 := fun z => by omega
      refine lv_istore (pc := 192) (lv' := [(12, .int (nI cn)), (11, .int (nI y9)), (10, .int (nI hw)), (9, .int (nI x9)), (8, .int (nI k)), (7, .int (nI 1)), (6, .ref (az 13)), (5, .ref (az 12)), (4, .ref (az 11)), (3, .ref (az 10)), (2, .ref (az 9)), (1, .ref (az 0)), (0, .ref b)]) S.1 S.2.1 dL_law_192 hl (by decide) rfl (fun ls hl => ?_)
      refine lv_iload (pc := 194) S.1 S.2.1 dL_law_194 (lv_at hl 1 rfl) ?_
      refine lv_bipush (pc := 196) (v := nI 36) S.1 S.2.1 dL_law_196 (by decide) ?_
      refine lv_idiv (pc := 198) S.1 S.2.1 dL_law_198 (by decide) ?_
      refine hv_ti (y := nI (y9 / 36)) (pk_div (by omega) (by omega) (by omega)) ?_
      obtain ⟨z9, hz99⟩ : ∃ z9 : Nat, z9 = y9 / 36 := ⟨_, rfl⟩
      refine hv_ti (y := nI z9) (by rw [hz99]) ?_
      have hz9 : z9 < 2 ^ 27 := by omega
      refine lv_istore (pc := 199) (lv' := [(13, .int (nI z9)), (12, .int (nI cn)), (11, .int (nI y9)), (10, .int (nI hw)), (9, .int (nI x9)), (8, .int (nI k)), (7, .int (nI 1)), (6, .ref (az 13)), (5, .ref (az 12)), (4, .ref (az 11)), (3, .ref (az 10)), (2, .ref (az 9)), (1, .ref (az 0)), (0, .ref b)]) S.1 S.2.1 dL_law_199 hl (by decide) rfl (fun ls hl => ?_)
      exact law_body l hfl S hK hX hk hc hs hz9 hw34 hY hI hT h5 hH hS hcn (lv_sub hl [0, 1, 2, 3, 4, 5, 6, 7, 8, 9, 10, 11, 12, 13] rfl) kk
set_option maxHeartbeats 4000000 in
set_option maxRecDepth 100000 in
theorem law_turn (l : Launch) (hfl : l.stackTraces = false) {p : Program} {e : Env} {s : State} {m : MethodId} {below : List Frame} {meth : Method} {c : Code} {b : Nat} {D : va_G} {cA : Nat → ClassId} {ga : Nat → Nat → Nat} {Q : State → Prop} (S : CallFix p m c code 19 s #[.ref b] Wc RL) (hK : va_K D vwCl (tysL cA) s) (hX : Sx ga (fun q => s.heap.size ≤ q) s s.heap) {k cells slots : Nat} {H : Heap} {locs : List Loc} {ls : Array Slot} {az : Nat → Nat} (hgb : ga 7 0 = b) (hgL : ga 8 0 ≤ 260) (hk : k < 130) (hc : cells ≤ 500000) (hs : slots ≤ 5000000) (hW : WLD cA ga D (fun q => s.heap.size ≤ q) az k H) (hS : va_S (fun q => s.heap.size ≤ q) s.heap H locs) (hl : lv_has ls 19 [(8, .int (nI k)), (7, .int (nI 1)), (6, .ref (az 13)), (5, .ref (az 12)), (4, .ref (az 11)), (3, .ref (az 10)), (2, .ref (az 9)), (1, .ref (az 0)), (0, .ref b)])
    (kk : ∀ (x9 y9 : Nat), x9 < 2 ^ 31 → y9 < 2 ^ 27 → ∀ (H1 : Heap) (locs1 : List Loc) (ls1 : Array Slot), WLD cA ga D (fun q => s.heap.size ≤ q) az (k + 1) H1 → va_S (fun q => s.heap.size ≤ q) s.heap H1 locs1 → lv_has ls1 19 [(11, .int (nI y9)), (9, .int (nI x9)), (8, .int (nI k)), (7, .int (nI 1)), (6, .ref (az 13)), (5, .ref (az 12)), (4, .ref (az 11)), (3, .ref (az 10)), (2, .ref (az 9)), (1, .ref (az 0)), (0, .ref b)] → W p l e room_1 s m #[.ref b] below meth c H1 locs1 (cells + 130) (slots + 800) Q (F0 m 1489 ls1 [])) : W p l e room_1 s m #[.ref b] below meth c H locs (cells) (slots) Q (F0 m 80 ls []) := by
  subst hgb
  obtain ⟨tk, tm, tg, sc, ar, w, ez, o, φ, hY, hI, hT, h5, hH⟩ := hW
  have hA : ∀ q, s.heap.size ≤ q → (fun q => s.heap.size ≤ q) q := fun _ h => h
  refine lv_iload (pc := 80) S.1 S.2.1 dL_law_80 (lv_at hl 0 rfl) ?_
  refine lv_sipush (pc := 82) (v := nI 130) S.1 S.2.1 dL_law_82 (by decide) ?_
  refine hv_icmp_ge (pc := 85) (tgt := 1543) (a := k) (b := 130) S.1 S.2.1 (by omega) (by omega) dL_law_85 (by decide) (fun c9 => absurd c9 (by omega)) (fun c_1 => ?_)
  refine lv_iload (pc := 88) S.1 S.2.1 dL_law_88 (lv_at hl 1 rfl) ?_
  refine hv_if_eq (pc := 90) (tgt := 1543) (a := 1) S.1 S.2.1 (by omega) dL_law_90 (by decide) (fun c9 => absurd c9 (by omega)) (fun c_2 => ?_)
  refine lv_aload_n (pc := 93) S.1 S.2.1 dL_law_93 rfl (lv_at hl 8 rfl) ?_
  refine lv_iload (pc := 94) S.1 S.2.1 dL_law_94 (lv_at hl 0 rfl) ?_
  refine hv_call (pc := 96) (va_runS (As := [.ref (ga 7 0), .int (nI k)]) (rest := []) S (l_dice l hfl D cA ga φ H.size k (by omega) hgL) (va_cwS 2 S.2.2.2.2 (gS tw_256 tw_257 tw_0 tw_258) rfl rfl rfl (by decide +kernel) ⟨Nat.le_of_ble_eq_true rfl, Nat.le_of_ble_eq_true rfl⟩) (pre0_S hH hK hX hS hA) rfl rfl hl.1 rfl (lv_room (Nat.le_of_ble_eq_true rfl)) dL_law_96 ⟨Nat.le_trans (show _ ≤ 600000 by omega) (Nat.le_of_ble_eq_true rfl), Nat.le_trans (show _ ≤ 7000000 by omega) (Nat.le_of_ble_eq_true rfl)⟩) hS (af_le hH hS hA) (fun v_3 φ_4 H locs hw_v_3 hH hS => ?_)
  obtain ⟨⟨x9, hx9, rfl⟩, hq9⟩ := hw_v_3
  rw [hq9] at hH
  refine lv_istore (pc := 99) (lv' := [(9, .int (nI x9)), (8, .int (nI k)), (7, .int (nI 1)), (6, .ref (az 13)), (5, .ref (az 12)), (4, .ref (az 11)), (3, .ref (az 10)), (2, .ref (az 9)), (1, .ref (az 0)), (0, .ref (ga 7 0))]) S.1 S.2.1 dL_law_99 hl (by decide) rfl (fun ls hl => ?_)
  refine lv_iload (pc := 101) S.1 S.2.1 dL_law_101 (lv_at hl 1 rfl) ?_
  refine lv_iconst (pc := 103) (v := nI 2) S.1 S.2.1 dL_law_103 (by decide) ?_
  by_cases hk2 : k < 2
  · skip
    refine hv_icmp_ge (pc := 104) (tgt := 111) (a := k) (b := 2) S.1 S.2.1 (by omega) (by omega) dL_law_104 (by decide) (fun c9 => absurd c9 (by omega)) (fun c_5 => ?_)
    refine lv_iconst (pc := 107) (v := nI 0) S.1 S.2.1 dL_law_107 (by decide) ?_
    refine lv_goto (pc := 108) (tgt := 150) S.1 S.2.1 dL_law_108 (by decide) ?_
    exact law_t2 l hfl S hK hX (y9 := x9 / 34) hk hc hs hx9 rfl (by decide) hY hI hT h5 hH hS (lv_sub hl [0, 1, 2, 3, 4, 5, 6, 7, 8, 9] rfl) (kk x9 (x9 / 34) hx9 (by omega))
  · skip
    refine hv_icmp_ge (pc := 104) (tgt := 111) (a := k) (b := 2) S.1 S.2.1 (by omega) (by omega) dL_law_104 (by decide) (fun c_6 => ?_) (fun c9 => absurd c9 (by omega))
    refine lv_iload (pc := 111) S.1 S.2.1 dL_law_111 (lv_at hl 1 rfl) ?_
    refine lv_iconst (pc := 113) (v := nI 4) S.1 S.2.1 dL_law_113 (by decide) ?_
    by_cases hk4 : k < 4
    · skip
      refine hv_icmp_ge (pc := 114) (tgt := 121) (a := k) (b := 4) S.1 S.2.1 (by omega) (by omega) dL_law_114 (by decide) (fun c9 => absurd c9 (by omega)) (fun c_7 => ?_)
      refine lv_iconst (pc := 117) (v := nI 4) S.1 S.2.1 dL_law_117 (by decide) ?_
      refine lv_goto (pc := 118) (tgt := 150) S.1 S.2.1 dL_law_118 (by decide) ?_
      exact law_t2 l hfl S hK hX (y9 := x9 / 34) hk hc hs hx9 rfl (by decide) hY hI hT h5 hH hS (lv_sub hl [0, 1, 2, 3, 4, 5, 6, 7, 8, 9] rfl) (kk x9 (x9 / 34) hx9 (by omega))
    · skip
      refine hv_icmp_ge (pc := 114) (tgt := 121) (a := k) (b := 4) S.1 S.2.1 (by omega) (by omega) dL_law_114 (by decide) (fun c_8 => ?_) (fun c9 => absurd c9 (by omega))
      refine lv_iload (pc := 121) S.1 S.2.1 dL_law_121 (lv_at hl 1 rfl) ?_
      refine lv_bipush (pc := 123) (v := nI 6) S.1 S.2.1 dL_law_123 (by decide) ?_
      by_cases hk6 : k < 6
      · skip
        refine hv_icmp_ge (pc := 125) (tgt := 133) (a := k) (b := 6) S.1 S.2.1 (by omega) (by omega) dL_law_125 (by decide) (fun c9 => absurd c9 (by omega)) (fun c_9 => ?_)
        refine lv_bipush (pc := 128) (v := nI 7) S.1 S.2.1 dL_law_128 (by decide) ?_
        refine lv_goto (pc := 130) (tgt := 150) S.1 S.2.1 dL_law_130 (by decide) ?_
        exact law_t2 l hfl S hK hX (y9 := x9 / 34) hk hc hs hx9 rfl (by decide) hY hI hT h5 hH hS (lv_sub hl [0, 1, 2, 3, 4, 5, 6, 7, 8, 9] rfl) (kk x9 (x9 / 34) hx9 (by omega))
      · skip
        refine hv_icmp_ge (pc := 125) (tgt := 133) (a := k) (b := 6) S.1 S.2.1 (by omega) (by omega) dL_law_125 (by decide) (fun c_10 => ?_) (fun c9 => absurd c9 (by omega))
        refine lv_iload (pc := 133) S.1 S.2.1 dL_law_133 (lv_at hl 1 rfl) ?_
        refine lv_bipush (pc := 135) (v := nI 8) S.1 S.2.1 dL_law_135 (by decide) ?_
        by_cases hk8 : k < 8
        · skip
          refine hv_icmp_ge (pc := 137) (tgt := 145) (a := k) (b := 8) S.1 S.2.1 (by omega) (by omega) dL_law_137 (by decide) (fun c9 => absurd c9 (by omega)) (fun c_11 => ?_)
          refine lv_bipush (pc := 140) (v := nI 9) S.1 S.2.1 dL_law_140 (by decide) ?_
          refine lv_goto (pc := 142) (tgt := 150) S.1 S.2.1 dL_law_142 (by decide) ?_
          exact law_t2 l hfl S hK hX (y9 := x9 / 34) hk hc hs hx9 rfl (by decide) hY hI hT h5 hH hS (lv_sub hl [0, 1, 2, 3, 4, 5, 6, 7, 8, 9] rfl) (kk x9 (x9 / 34) hx9 (by omega))
        · skip
          refine hv_icmp_ge (pc := 137) (tgt := 145) (a := k) (b := 8) S.1 S.2.1 (by omega) (by omega) dL_law_137 (by decide) (fun c_12 => ?_) (fun c9 => absurd c9 (by omega))
          refine lv_iload (pc := 145) S.1 S.2.1 dL_law_145 (lv_at hl 0 rfl) ?_
          refine lv_bipush (pc := 147) (v := nI 34) S.1 S.2.1 dL_law_147 (by decide) ?_
          refine lv_irem (pc := 149) S.1 S.2.1 dL_law_149 (by decide) ?_
          refine hv_ti (y := nI (x9 % 34)) (pk_rem (by omega) (by omega) (by omega)) ?_
          exact law_t2 l hfl S hK hX (y9 := x9 / 34) hk hc hs hx9 rfl (Nat.mod_lt _ (by decide)) hY hI hT h5 hH hS (lv_sub hl [0, 1, 2, 3, 4, 5, 6, 7, 8, 9] rfl) (kk x9 (x9 / 34) hx9 (by omega))
set_option maxHeartbeats 4000000 in
set_option maxRecDepth 100000 in
theorem law_tail (l : Launch) (hfl : l.stackTraces = false) {p : Program} {e : Env} {s : State} {m : MethodId} {below : List Frame} {meth : Method} {c : Code} {b : Nat} {D : va_G} {cA : Nat → ClassId} {ga : Nat → Nat → Nat} {Q : State → Prop} (S : CallFix p m c code 19 s #[.ref b] Wc RL) (hK : va_K D vwCl (tysL cA) s) (hX : Sx ga (fun q => s.heap.size ≤ q) s s.heap) {k x9 y9 cells slots : Nat} {H : Heap} {locs : List Loc} {ls : Array Slot} {az : Nat → Nat} (hk : k < 130) (hc : cells ≤ 500000) (hs : slots ≤ 5000000) (hx9 : x9 < 2 ^ 31) (hy9 : y9 < 2 ^ 27) (hW : WLD cA ga D (fun q => s.heap.size ≤ q) az (k + 1) H) (hS : va_S (fun q => s.heap.size ≤ q) s.heap H locs) (hl : lv_has ls 19 [(11, .int (nI y9)), (9, .int (nI x9)), (8, .int (nI k)), (7, .int (nI 1)), (6, .ref (az 13)), (5, .ref (az 12)), (4, .ref (az 11)), (3, .ref (az 10)), (2, .ref (az 9)), (1, .ref (az 0)), (0, .ref b)])
    (kk : ∀ (c1 s1 : Nat) (H1 : Heap) (locs1 : List Loc) (ls1 : Array Slot), c1 ≤ cells + 2320 + 2600 * ((k + 40) / 40 - (k + 39) / 40) → s1 ≤ slots + 13800 + 17000 * ((k + 40) / 40 - (k + 39) / 40) → WLD cA ga D (fun q => s.heap.size ≤ q) az (k + 1) H1 → va_S (fun q => s.heap.size ≤ q) s.heap H1 locs1 → lv_has ls1 19 [(8, .int (nI (k + 1))), (7, .int (nI 1)), (6, .ref (az 13)), (5, .ref (az 12)), (4, .ref (az 11)), (3, .ref (az 10)), (2, .ref (az 9)), (1, .ref (az 0)), (0, .ref b)] → W p l e room_1 s m #[.ref b] below meth c H1 locs1 (c1) (s1) Q (F0 m 80 ls1 [])) : W p l e room_1 s m #[.ref b] below meth c H locs (cells) (slots) Q (F0 m 1489 ls []) := by
  obtain ⟨tk, tm, tg, sc, ar, w, ez, o, φ, hY, hI, hT, h5, hH⟩ := hW
  have hA : ∀ q, s.heap.size ≤ q → (fun q => s.heap.size ≤ q) q := fun _ h => h
  have h200 : k + 1 ≤ 200 := by omega
  refine lv_iload (pc := 1489) S.1 S.2.1 dL_law_1489 (lv_at hl 3 rfl) ?_
  refine hv_if_eq (pc := 1491) (tgt := 1534) (a := 1) S.1 S.2.1 (by omega) dL_law_1491 (by decide) (fun c9 => absurd c9 (by omega)) (fun c_1 => ?_)
  refine lv_aload_n (pc := 1494) S.1 S.2.1 dL_law_1494 rfl (lv_at hl 9 rfl) ?_
  refine lv_aload_n (pc := 1495) S.1 S.2.1 dL_law_1495 rfl (lv_at hl 8 rfl) ?_
  refine lv_aload_n (pc := 1496) S.1 S.2.1 dL_law_1496 rfl (lv_at hl 7 rfl) ?_
  refine lv_aload (pc := 1497) S.1 S.2.1 dL_law_1497 (lv_at hl 5 rfl) ?_
  refine lv_aload (pc := 1499) S.1 S.2.1 dL_law_1499 (lv_at hl 4 rfl) ?_
  refine lv_iload (pc := 1501) S.1 S.2.1 dL_law_1501 (lv_at hl 0 rfl) ?_
  refine hv_call (pc := 1503) (va_runS (As := [.ref (az 0), .ref (az 9), .ref (az 10), .ref (az 12), .ref (az 13), .int (nI y9)]) (rest := []) S (l_areSound l hfl D cA ga φ H.size az (k + 1) tk tm tg sc ar w ez o y9 hY hI hT h200 (by omega)) (va_cwS 6 S.2.2.2.2 (gS tw_896 tw_897 tw_0 tw_898) rfl rfl rfl (by decide +kernel) ⟨Nat.le_of_ble_eq_true rfl, Nat.le_of_ble_eq_true rfl⟩) (pre0_S hH hK hX hS hA) rfl rfl hl.1 rfl (lv_room (Nat.le_of_ble_eq_true rfl)) dL_law_1503 ⟨Nat.le_trans (show _ ≤ 600000 by omega) (Nat.le_of_ble_eq_true rfl), Nat.le_trans (show _ ≤ 7000000 by omega) (Nat.le_of_ble_eq_true rfl)⟩) hS (af_le hH hS hA) (fun v_2 φ_3 H locs hw_v_2 hH hS => ?_)
  obtain ⟨rfl, hqv_2⟩ := hw_v_2
  rw [hqv_2] at hH
  refine hv_if_eq (pc := 1506) (tgt := 1534) (a := 1) S.1 S.2.1 (by omega) dL_law_1506 (by decide) (fun c9 => absurd c9 (by omega)) (fun c_4 => ?_)
  refine lv_iload (pc := 1509) S.1 S.2.1 dL_law_1509 (lv_at hl 2 rfl) ?_
  refine lv_bipush (pc := 1511) (v := nI 40) S.1 S.2.1 dL_law_1511 (by decide) ?_
  refine lv_irem (pc := 1513) S.1 S.2.1 dL_law_1513 (by decide) ?_
  refine hv_ti (y := nI (k % 40)) (pk_rem (by omega) (by omega) (by omega)) ?_
  by_cases h40 : k % 40 = 0
  · skip
    refine hv_if_gt (pc := 1514) (tgt := 1530) (a := k % 40) S.1 S.2.1 (by omega) dL_law_1514 (by decide) (fun c9 => absurd c9 (by omega)) (fun c_5 => ?_)
    refine lv_aload_n (pc := 1517) S.1 S.2.1 dL_law_1517 rfl (lv_at hl 9 rfl) ?_
    refine lv_aload_n (pc := 1518) S.1 S.2.1 dL_law_1518 rfl (lv_at hl 8 rfl) ?_
    refine lv_aload_n (pc := 1519) S.1 S.2.1 dL_law_1519 rfl (lv_at hl 7 rfl) ?_
    refine lv_iload (pc := 1520) S.1 S.2.1 dL_law_1520 (lv_at hl 1 rfl) ?_
    refine lv_iconst (pc := 1522) (v := nI 3) S.1 S.2.1 dL_law_1522 (by decide) ?_
    refine lv_idiv (pc := 1523) S.1 S.2.1 dL_law_1523 (by decide) ?_
    refine hv_ti (y := nI (x9 / 3)) (pk_div (by omega) (by omega) (by omega)) ?_
    refine hv_call (pc := 1524) (va_runS (As := [.ref (az 0), .ref (az 9), .ref (az 10), .int (nI (x9 / 3))]) (rest := []) S (l_isRefused l hfl D cA ga φ H.size az (k + 1) tk tm tg sc ar w ez o (x9 / 3) hY hI hT h200 h5 (by omega)) (va_cwS 4 S.2.2.2.2 (gS tw_888 tw_889 tw_0 tw_890) rfl rfl rfl (by decide +kernel) ⟨Nat.le_of_ble_eq_true rfl, Nat.le_of_ble_eq_true rfl⟩) (pre0_S hH hK hX hS hA) rfl rfl hl.1 rfl (lv_room (Nat.le_of_ble_eq_true rfl)) dL_law_1524 ⟨Nat.le_trans (show _ ≤ 600000 by omega) (Nat.le_of_ble_eq_true rfl), Nat.le_trans (show _ ≤ 7000000 by omega) (Nat.le_of_ble_eq_true rfl)⟩) hS (af_le hH hS hA) (fun v_6 φ_7 H locs hw_v_6 hH hS => ?_)
    obtain ⟨rfl, hqv_6⟩ := hw_v_6
    rw [hqv_6] at hH
    refine hv_if_eq (pc := 1527) (tgt := 1534) (a := 1) S.1 S.2.1 (by omega) dL_law_1527 (by decide) (fun c9 => absurd c9 (by omega)) (fun c_8 => ?_)
    refine lv_iconst (pc := 1530) (v := nI 1) S.1 S.2.1 dL_law_1530 (by decide) ?_
    refine lv_goto (pc := 1531) (tgt := 1535) S.1 S.2.1 dL_law_1531 (by decide) ?_
    refine lv_istore (pc := 1535) (lv' := [(7, .int (nI 1)), (11, .int (nI y9)), (9, .int (nI x9)), (8, .int (nI k)), (6, .ref (az 13)), (5, .ref (az 12)), (4, .ref (az 11)), (3, .ref (az 10)), (2, .ref (az 9)), (1, .ref (az 0)), (0, .ref b)]) S.1 S.2.1 dL_law_1535 hl (by decide) rfl (fun ls hl => ?_)
    refine lv_iinc (pc := 1537) (v := nI (k + 1)) (lv' := [(8, .int (nI (k + 1))), (7, .int (nI 1)), (11, .int (nI y9)), (9, .int (nI x9)), (6, .ref (az 13)), (5, .ref (az 12)), (4, .ref (az 11)), (3, .ref (az 10)), (2, .ref (az 9)), (1, .ref (az 0)), (0, .ref b)]) S.1 S.2.1 dL_law_1537 hl (k := 3) rfl (by first | rfl | exact nI_add _ _) (by decide) rfl (fun ls hl => ?_)
    refine lv_goto (pc := 1540) (tgt := 80) S.1 S.2.1 dL_law_1540 (by decide) ?_
    exact kk _ _ _ _ _ (by omega) (by omega) ⟨tk, tm, tg, sc, ar, w, ez, o, φ, hY, hI, hT, h5, hH⟩ hS (lv_sub hl [0, 1, 4, 5, 6, 7, 8, 9, 10] rfl)
  · skip
    refine hv_if_gt (pc := 1514) (tgt := 1530) (a := k % 40) S.1 S.2.1 (by omega) dL_law_1514 (by decide) (fun c_9 => ?_) (fun c9 => absurd c9 (by omega))
    refine lv_iconst (pc := 1530) (v := nI 1) S.1 S.2.1 dL_law_1530 (by decide) ?_
    refine lv_goto (pc := 1531) (tgt := 1535) S.1 S.2.1 dL_law_1531 (by decide) ?_
    refine lv_istore (pc := 1535) (lv' := [(7, .int (nI 1)), (11, .int (nI y9)), (9, .int (nI x9)), (8, .int (nI k)), (6, .ref (az 13)), (5, .ref (az 12)), (4, .ref (az 11)), (3, .ref (az 10)), (2, .ref (az 9)), (1, .ref (az 0)), (0, .ref b)]) S.1 S.2.1 dL_law_1535 hl (by decide) rfl (fun ls hl => ?_)
    refine lv_iinc (pc := 1537) (v := nI (k + 1)) (lv' := [(8, .int (nI (k + 1))), (7, .int (nI 1)), (11, .int (nI y9)), (9, .int (nI x9)), (6, .ref (az 13)), (5, .ref (az 12)), (4, .ref (az 11)), (3, .ref (az 10)), (2, .ref (az 9)), (1, .ref (az 0)), (0, .ref b)]) S.1 S.2.1 dL_law_1537 hl (k := 3) rfl (by first | rfl | exact nI_add _ _) (by decide) rfl (fun ls hl => ?_)
    refine lv_goto (pc := 1540) (tgt := 80) S.1 S.2.1 dL_law_1540 (by decide) ?_
    exact kk _ _ _ _ _ (by omega) (by omega) ⟨tk, tm, tg, sc, ar, w, ez, o, φ, hY, hI, hT, h5, hH⟩ hS (lv_sub hl [0, 1, 4, 5, 6, 7, 8, 9, 10] rfl)
theorem reF_0 (a : Nat → Nat) : (fun _ => none) = reF 0 a := by
  funext j
  simp [reF]
set_option maxHeartbeats 4000000 in
/-- the first picture, out of its cells -/
theorem pic_init {cA : Nat → ClassId} {ga : Nat → Nat → Nat} {φ : hpM} {y sb bq la ca ha ba hd rq mq cq bb hq rr : Nat} (h0 : φ y = some (.inr (12, [.ref sb, .ref la, .ref ca, .ref ha, .ref ba, .ref hd, .int (nI 0), .int (nI 0), .int (nI 0), .int (nI 0), .int (nI 0)]))) (h1 : φ sb = some (.inr (1, [.ref bq, .int (nI 0), .int (nI 0), .int (nI 0)]))) (h2 : φ bq = some (.inl (cA 0, 16, .inl (fun j => nI (zr j))))) (h3 : φ la = some (.inl (cA 7, 10, .inr (.inr (.inr (.inr (fun _ => none))))))) (h4 : φ ca = some (.inl (cA 5, 12, .inr (.inr (.inr (.inr (fun _ => none))))))) (h5 : φ ha = some (.inl (cA 6, 6, .inr (.inr (.inr (.inr (fun _ => none))))))) (h6 : φ ba = some (.inl (cA 4, 8, .inr (.inr (.inr (.inr (fun _ => none))))))) (h7 : φ hd = some (.inr (9, [.ref rq]))) (h8 : φ rq = some (.inl (cA 1, 8, .inl (fun j => nI (zr j))))) (h9 : φ mq = some (.inl (cA 1, 6, .inl (fun j => nI (zr j))))) (h10 : φ cq = some (.inl (cA 1, 48, .inl (fun j => nI (zr j))))) (h11 : φ bb = some (.inl (cA 1, 16, .inl (fun j => nI (zr j))))) (h12 : φ hq = some (.inl (cA 1, 6, .inl (fun j => nI (zr j))))) (h13 : φ rr = some (.inl (cA 1, 9, .inl (fun j => nI (zr j))))) (hmh : mq ≠ hq) (hbb : bq ≠ bb) :
    ∃ az : Nat → Nat, az 0 = y ∧ az 9 = mq ∧ az 10 = cq ∧ az 11 = bb ∧ az 12 = hq ∧ az 13 = rr ∧ YW cA ga az 0 0 zr (fun _ => 0) (fun _ _ => 0) (fun _ _ _ => 0) (fun _ _ => 0) (fun _ => zr) φ := by
  obtain ⟨ad, had⟩ : ∃ ad : Nat → Nat → Nat, ad = fun r j => if r = 0 then [y, sb, bq, la, ca, ha, ba, hd, rq, mq, cq, bb, hq, rr].getD j 0 else 0 := ⟨_, rfl⟩
  have e0 : ad 0 0 = y := by rw [had]; rfl
  have e1 : ad 0 1 = sb := by rw [had]; rfl
  have e2 : ad 0 2 = bq := by rw [had]; rfl
  have e3 : ad 0 3 = la := by rw [had]; rfl
  have e4 : ad 0 4 = ca := by rw [had]; rfl
  have e5 : ad 0 5 = ha := by rw [had]; rfl
  have e6 : ad 0 6 = ba := by rw [had]; rfl
  have e7 : ad 0 7 = hd := by rw [had]; rfl
  have e8 : ad 0 8 = rq := by rw [had]; rfl
  have e9 : ad 0 9 = mq := by rw [had]; rfl
  have e10 : ad 0 10 = cq := by rw [had]; rfl
  have e11 : ad 0 11 = bb := by rw [had]; rfl
  have e12 : ad 0 12 = hq := by rw [had]; rfl
  have e13 : ad 0 13 = rr := by rw [had]; rfl
  refine ⟨ad 0, e0, e9, e10, e11, e12, e13, ad, rfl, ?_⟩
  have hC : ∀ r j x, yC cA ga 0 0 zr (fun _ => 0) (fun _ _ => 0) (fun _ _ _ => 0) (fun _ _ => 0) (fun _ => zr) ad r j = some x → r = 0 ∧ j < 14 ∧ φ (ad 0 j) = some x := fun r j x hx => by
    have hf : ∀ (c : Nat → va_E), ¬ fam 0 c j = some x := fun c z => by
      unfold fam at z
      rw [if_neg (Nat.not_lt_zero j)] at z
      cases z
    rcases r with _ | _ | _ | _ | _ | _ | _ | r
    · refine ⟨rfl, ?_⟩
      rcases j with _ | _ | _ | _ | _ | _ | _ | _ | _ | _ | _ | _ | _ | _ | j
      · refine ⟨by omega, ?_⟩; show φ (ad 0 0) = _; rw [e0, h0, ← e1, ← e3, ← e4, ← e5, ← e6, ← e7]; exact hx
      · refine ⟨by omega, ?_⟩; show φ (ad 0 1) = _; rw [e1, h1, ← e2]; exact hx
      · refine ⟨by omega, ?_⟩; show φ (ad 0 2) = _; rw [e2, h2]; exact hx
      · refine ⟨by omega, ?_⟩; show φ (ad 0 3) = _; rw [e3, h3, reF_0 (ad 1)]; exact hx
      · refine ⟨by omega, ?_⟩; show φ (ad 0 4) = _; rw [e4, h4, reF_0 (ad 2)]; exact hx
      · refine ⟨by omega, ?_⟩; show φ (ad 0 5) = _; rw [e5, h5, reF_0 (ad 5)]; exact hx
      · refine ⟨by omega, ?_⟩; show φ (ad 0 6) = _; rw [e6, h6, reF_0 (ad 6)]; exact hx
      · refine ⟨by omega, ?_⟩; show φ (ad 0 7) = _; rw [e7, h7, ← e8]; exact hx
      · refine ⟨by omega, ?_⟩; show φ (ad 0 8) = _; rw [e8, h8]; exact hx
      · refine ⟨by omega, ?_⟩; show φ (ad 0 9) = _; rw [e9, h9]; exact hx
      · refine ⟨by omega, ?_⟩; show φ (ad 0 10) = _; rw [e10, h10]; exact hx
      · refine ⟨by omega, ?_⟩; show φ (ad 0 11) = _; rw [e11, h11]; exact hx
      · refine ⟨by omega, ?_⟩; show φ (ad 0 12) = _; rw [e12, h12]; exact hx
      · refine ⟨by omega, ?_⟩; show φ (ad 0 13) = _; rw [e13, h13]; exact hx
      · cases hx
    · exact absurd hx (hf _)
    · exact absurd hx (hf _)
    · exact absurd hx (hf _)
    · exact absurd hx (hf _)
    · exact absurd hx (hf _)
    · exact absurd hx (hf _)
    · cases hx
  have hd9 : ad 0 9 ≠ ad 0 12 := by rw [e9, e12]; exact hmh
  have hd2 : ad 0 2 ≠ ad 0 11 := by rw [e2, e11]; exact hbb
  refine ⟨fun r j x hx => ?_, fun r j r' j' hc hc' ee => ?_⟩
  · obtain ⟨hr, -, h⟩ := hC r j x hx
    rw [hr]; exact h
  · cases hx : yC cA ga 0 0 zr (fun _ => 0) (fun _ _ => 0) (fun _ _ _ => 0) (fun _ _ => 0) (fun _ => zr) ad r j with
    | none => exact absurd hx hc
    | some x =>
      cases hx' : yC cA ga 0 0 zr (fun _ => 0) (fun _ _ => 0) (fun _ _ _ => 0) (fun _ _ => 0) (fun _ => zr) ad r' j' with
      | none => exact absurd hx' hc'
      | some x' =>
        obtain ⟨hr, hj, h⟩ := hC r j x hx
        obtain ⟨hr', hj', h'⟩ := hC r' j' x' hx'
        subst hr
        subst hr'
        rw [ee, h'] at h
        have hxx : x' = x := Option.some.inj h
        rw [← hxx, ← hx'] at hx
        refine ⟨rfl, ?_⟩
        have hx9 : yC0 cA 0 0 zr (fun _ => 0) (fun _ _ => 0) (fun _ => zr) ad j = yC0 cA 0 0 zr (fun _ => 0) (fun _ _ => 0) (fun _ => zr) ad j' := hx
        rcases j with _ | _ | _ | _ | _ | _ | _ | _ | _ | _ | _ | _ | _ | _ | j <;> rcases j' with _ | _ | _ | _ | _ | _ | _ | _ | _ | _ | _ | _ | _ | _ | j' <;> first | rfl | (exfalso; exact hd9 ee) | (exfalso; exact hd9 ee.symm) | (exfalso; exact hd2 ee) | (exfalso; exact hd2 ee.symm) | (exfalso; omega) | (exfalso; simp [yC0] at hx9)
