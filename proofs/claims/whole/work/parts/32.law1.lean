/-- words of a method with handlers; its contract -/
abbrev wlW (y : MethodName) (cc : ByteArray) (n : Nat) (ret : Option FieldType) (hh : List (Nat × Nat × Nat × Nat)) : List Cond := .codeWith y cc n ret hh :: Wc
def Nc3 (U : State) : Prop := va_Nc "java/lang/IllegalStateException" "java/lang/IllegalArgumentException" U ∧ va_Nc "java/lang/IllegalArgumentException" "java/lang/IndexOutOfBoundsException" U ∧ va_Nc "java/lang/IllegalStateException" "java/lang/IndexOutOfBoundsException" U
theorem Nc3.moved {u U : State} (hvm : u.vm.Alike U.vm) (h : Nc3 u) : Nc3 U := ⟨h.1.moved hvm, h.2.1.moved hvm, h.2.2.moved hvm⟩
def Pre1 (D : va_G) (cA : Nat → ClassId) (ga : Nat → Nat → Nat) (φ : hpM) (sz : Nat) (U : State) : Prop := Pre0 D cA ga φ sz U ∧ Nc3 U
theorem Pre1.blind {D : va_G} {cA : Nat → ClassId} {ga : Nat → Nat → Nat} {φ : hpM} {sz : Nat} (av : List Value) : FrameBlind (va_Pc av (Pre1 D cA ga φ sz)) := fun a U g mk h => by
  obtain ⟨h1, h2, h3⟩ := h
  obtain ⟨h4, h5⟩ := Pre0.blind (D := D) (cA := cA) (ga := ga) (φ := φ) (sz := sz) av a U g mk ⟨h1, h2⟩
  exact ⟨h4, h5, Nc3.moved (u := U) (U := U.calling g mk a) (Vm.Alike.refl U.vm) h3⟩
theorem pre1_S {D : va_G} {cA : Nat → ClassId} {ga : Nat → Nat → Nat} {φ : hpM} {A : Nat → Prop} {s : State} {H : Heap} {locs : List Loc} {As : List Value} (hH : hp D A φ H) (hK : va_K D vwCl (tysL cA) s) (hX : Sx ga A s s.heap) (hS : va_S A s.heap H locs) (hA : ∀ q, s.heap.size ≤ q → A q) (hN : Nc3 s) : PreS s H (va_Pc As (Pre1 D cA ga φ H.size)) As :=
  ⟨Pre1.blind As, fun _ hU hW => ⟨rfl, Pre0.at hH hK hX hS hA hU hW, hN.moved hW.alike⟩⟩
abbrev hW (l : Launch) (y : MethodName) (cc : ByteArray) (maxL : Nat) (ret : Option FieldType) (hh : List (Nat × Nat × Nat × Nat)) (rm : Room) (av : List Value) (D : va_G) (cA : Nat → ClassId) (ga : Nat → Nat → Nat) (φ : hpM) (sz : Nat) (post : Option Value → hpM → Prop) (mc ms : Nat) : Prop := Met l y (wlW y cc maxL ret hh) rm (va_Pc av (Pre1 D cA ga φ sz)) (hQ post D (Af φ sz)) mc ms (Af φ sz)
theorem hW.of {l : Launch} {y : MethodName} {rm : Room} {av : List Value} {D : va_G} {cA : Nat → ClassId} {ga : Nat → Nat → Nat} {φ : hpM} {sz : Nat} {post : Option Value → hpM → Prop} {mc ms : Nat} {cc : ByteArray} {maxL : Nat} {ret : Option FieldType} {hh : List (Nat × Nat × Nat × Nat)} {lv : List (Nat × Value)}
    (hy : plainName y.cls = true) (hn : (lg_sl av).length ≤ maxL) (hlv : lv_args 0 av = lv)
    (body : ∀ (p : Program) (e : Env) (s : State) (m : MethodId) (args : Array Value) (below : List Frame) (meth : Method) (c : Code) (ls : Array Slot) (H : Heap) (locs : List Loc), CallFix p m c cc maxL s args Wc y.cls → meth.sig.returnType = ret → meth.locks = false → c.exceptionTable.toList = tableOf hh → Nc3 s → s.heap.size = sz → H.size = sz → hp D (Af φ sz) φ H → va_K D vwCl (tysL cA) s → Sx ga (Af φ sz) s s.heap → va_S (Af φ sz) s.heap H locs → (∀ q, s.heap.size ≤ q → Af φ sz q) → lv_has ls maxL lv →
      W p l e rm s m args below meth c H locs 0 0 (MQ below (hQ post D (Af φ sz)) args s mc ms (Af φ sz)) (F0 m 0 ls [])) : hW l y cc maxL ret hh rm av D cA ga φ sz post mc ms := by
  refine MetFree.of_bodyS (code := cc) (maxLocals := maxL) (ret := ret) hy ?_ ?_
  · intro args s m h hn
    obtain ⟨m9, meth, c, hn9, h1, h2, h3, h4, -, h5, h6, -⟩ := Cond.codeWith_spec (atoms_spec (ws := wlW y cc maxL ret hh) h _ List.mem_cons_self)
    cases hn.symm.trans hn9
    exact ⟨meth, c, h1, h2, h3, h4, h5, h6⟩
  · intro p e s m args below meth c s₁ B hml hv _
    have hh0 : s₁.heap = s.heap := by rw [B.state]; rfl
    obtain ⟨rfl, ⟨hsz, hH, hK, hX⟩, hN3⟩ := hv
    have hl := lv_entry av (n := maxL) hn
    have ht9 := vx_table (x := y) B (atoms_spec (ws := wlW y cc maxL ret hh) B.pre _ List.mem_cons_self)
    rw [lg_entry_eq]
    obtain ⟨t, a1, o, b1, b2, b3⟩ := body p e s m _ below meth c _ s.heap [] ⟨B.exec, B.bytes, hml, findClass_of_methodNamed B.named, fun w hw => atoms_spec (ws := wlW y cc maxL ret hh) B.pre w (List.mem_cons_of_mem _ hw)⟩ B.returns B.notSynchronized ht9 hN3 hsz hsz hH hK hX va_S.rf (fun q h => Or.inr (by rw [← hsz]; exact h)) (hlv ▸ hl) s₁ hh0 (Stand.of_body B)
    exact ⟨t, o, a1, b1, b2, ⟨b3.1, b3.2⟩⟩
section PICY
variable {cA : Nat → ClassId} {ga : Nat → Nat → Nat} {sc : Nat → Nat} {ar : Nat → Nat → Nat} {w : Nat → Nat → Nat → Nat} {e : Nat → Nat → Nat} {o : Nat → Int64} {ad : Nat → Nat → Nat} {φ : hpM}
theorem PIC.lt (h : PIC (yC cA ga sc ar w e o ad) ad φ) : ∀ i, i < sc 2 → φ (ad 1 i) = some (.inr (10, [.ref (ga 0 (ar 1 i)), .int (nI (ar 2 i))])) := fun i hi => h.at (r := 1) (fam_at hi)
theorem PIC.ha (h : PIC (yC cA ga sc ar w e o ad) ad φ) : ∀ i, i < sc 5 → φ (ad 5 i) = some (.inr (8, [.int (nI (ar 12 i)), .int (nI (ar 13 i))])) := fun i hi => h.at (r := 5) (fam_at hi)
theorem PIC.bl (h : PIC (yC cA ga sc ar w e o ad) ad φ) : ∀ i, i < sc 4 → φ (ad 6 i) = some (.inr (4, [.int (nI (ar 10 i)), .int (nI (ar 11 i))])) := fun i hi => h.at (r := 6) (fam_at hi)
theorem PIC.hai (h : PIC (yC cA ga sc ar w e o ad) ad φ) : ∀ i j, i < sc 5 → j < sc 5 → ad 5 i = ad 5 j → i = j := fun i j hi hj q => (h.2 5 i 5 j (fam_ne hi) (fam_ne hj) q).2
theorem PIC.cn (h : PIC (yC cA ga sc ar w e o ad) ad φ) : ∀ i, i < sc 3 → φ (ad 2 i) = some (.inr (5, [.ref (ga 0 (ar 3 i)), .ref (ad 3 i), .ref (ad 4 i), .int (nI (e 1 i)), .int (nI (ar 7 i)), lbV (ad 6) (e 2 i), .int (nI (ar 9 i))])) ∧ φ (ad 3 i) = some (.inl (cA 1, 6, .inl (fun j => nI ((w 0 i) j)))) ∧ φ (ad 4 i) = some (.inl (cA 1, 6, .inl (fun j => nI ((w 1 i) j)))) ∧ ad 4 i ≠ ad 3 i := fun i hi =>
  ⟨h.at (r := 2) (fam_at hi), h.at (r := 3) (fam_at hi), h.at (r := 4) (fam_at hi), fun q => absurd (h.2 4 i 3 i (fam_ne hi) (fam_ne hi) q).1 (by decide)⟩
end PICY
/-- the yard as it is behind t steps, of sc and ar; a: what lies in the law's array -/
def NXT (cA : Nat → ClassId) (ga : Nat → Nat → Nat) (t y ou : Nat) (sc : Nat → Nat) (ar : Nat → Nat → Nat) (a : Int64) (φ : hpM) : Prop := ∃ (w : Nat → Nat → Nat → Nat) (e : Nat → Nat → Nat) (o : Nat → Int64) (ad : Nat → Nat → Nat), o 0 = a ∧ ad 0 0 = y ∧ ad 0 9 = ou ∧ PIC (yC cA ga sc ar w e o ad) ad φ ∧ INV t sc ar w e
theorem updL0 (o : Nat → Int64) (v : Int64) : vp_updL o (nI 0).toNatClampNeg v 0 = v := by
  rw [nI_clamp (by decide)]
  simp [vp_updL]
theorem tabIAE : Cond.castable "java/lang/IllegalArgumentException" "java/lang/IllegalArgumentException" ∈ tabW := by decide +kernel
theorem tabISE : Cond.castable "java/lang/IllegalStateException" "java/lang/IllegalStateException" ∈ tabW := by decide +kernel
theorem tabIOOBE : Cond.castable "java/lang/IndexOutOfBoundsException" "java/lang/IndexOutOfBoundsException" ∈ tabW := by decide +kernel
theorem trM_le (o : Option Nat) (d : Nat) : trM o d ≤ 1 := by unfold trM; split <;> omega
theorem fiR_le (a b : Nat) : fiR a b ≤ 1 := by unfold fiR; split <;> omega
theorem letterX_0 {k : Nat} {x : Int32} (h : letterX k x = 0) : k < 7 := by
  unfold letterX at h
  split at h
  · split at h
    · assumption
    · cases h
  · cases h
theorem lotX_0 {k : Nat} {x : Int32} (h : lotX k x = 0) : k < 10 := by
  unfold lotX at h
  split at h
  · split at h
    · assumption
    · cases h
  · cases h
set_option maxHeartbeats 4000000 in
set_option maxRecDepth 100000 in
/-- the law's letter -/
theorem lw_letter (l : Launch) (hfl : l.stackTraces = false) (D : va_G) (cA : Nat → ClassId) (ga : Nat → Nat → Nat) (φ : hpM) (sz : Nat) (k9 : Nat) (sc : Nat → Nat) (ar : Nat → Nat → Nat) (w : Nat → Nat → Nat → Nat) (ey : Nat → Nat → Nat) (o : Nat → Int64) (ad : Nat → Nat → Nat) (x : Int32) (hP : PIC (yC cA ga sc ar w ey o ad) ad φ) (hI : INV k9 sc ar w ey) (h512 : k9 ≤ 512) : hW l yL_letter cL_letter 4 (some .int) [(0, 9, 12, 13), (0, 9, 15, 15)] { frames := 12, cells := 2, slots := 12, locals := 440 } [.ref (ad 0 0), .int (x), .ref (ad 0 9)] D cA ga φ sz (fun v φ' => v = some (.int (nI (mcd 1 2 9 (letterX (sc 0) x)))) ∧ (letterX (sc 0) x ≠ 0 → PIC (yC cA ga sc ar w ey o ad) ad φ') ∧ (letterX (sc 0) x = 0 → ∃ x1 : Nat, x = nI x1 ∧ x1 < 2 ^ 31 ∧ NXT cA ga (k9 + 1) (ad 0 0) (ad 0 9) (va_up (va_up (va_up sc 0 (sc 0 + 1)) 1 (27 * sc 1 + (x1 - 96))) 7 (0)) (ar) ((nI (sc 0 + 1)).toInt64) φ')) 2 12 := by
  refine hW.of (by decide) (Nat.le_of_ble_eq_true rfl) rfl ?_
  intro p e s m args below meth c ls H locs S hr hlocks ht9 hN3 hsz hHz hH hK hX hS hA hl
  refine lv_aload_n (pc := 0) S.1 S.2.1 dL_letter_0 rfl (lv_at hl 2 rfl) ?_
  refine lv_iconst (pc := 1) (v := nI 0) S.1 S.2.1 dL_letter_1 (by decide) ?_
  refine lv_aload_n (pc := 2) S.1 S.2.1 dL_letter_2 rfl (lv_at hl 0 rfl) ?_
  refine lv_iload_n (pc := 3) S.1 S.2.1 dL_letter_3 rfl (lv_at hl 1 rfl) ?_
  refine hv_callX (pc := 4) (vx_runV (As := [.int (x)]) (rest := [.int (nI 0), .ref (ad 0 9)]) S (c_letter l hfl D cA ga φ H.size (ad 0 0) (ad 0 1) (ad 0 3) (ad 0 4) (ad 0 5) (ad 0 6) (ad 0 7) (sc 2) (sc 3) (sc 5) (sc 4) (sc 6) (ad 0 2) (ey 3 0) (sc 0) (ey 0) x (hP.at (r := 0) (j := 0) rfl) (hP.at (r := 0) (j := 1) rfl) (hP.at (r := 0) (j := 2) rfl) hI.j0.1) (cwV 1 S.2.2.2.2 (gV tw_129 tw_130 tw_131 tw_1 tw_132) rfl rfl rfl (by decide +kernel) ⟨Nat.le_of_ble_eq_true rfl, Nat.le_of_ble_eq_true rfl⟩) (pre0_V hH hK hX hS hA (hH.recv hK (hP.at (r := 0) (j := 0) rfl) rfl)) rfl rfl hl.1 rfl (lv_room (Nat.le_of_ble_eq_true rfl)) dL_letter_4 ⟨Nat.le_of_ble_eq_true rfl, Nat.le_of_ble_eq_true rfl⟩) hS (af_le hH hS hA) (fun E ce q9 φ_2x H locs hx hH hS hce hcv hcl => ?_) (fun v_1 φ_2 H locs hw_v_1 hH hS => ?_)
  · skip
    have hor : letterX (sc 0) x = 0 ∨ letterX (sc 0) x = 1 ∨ letterX (sc 0) x = 2 := by unfold letterX; (repeat' split) <;> decide
    rcases hor with hv9 | hv9 | hv9
    · exact absurd hv9 hx.2.2
    · have hE : E = "java/lang/IllegalArgumentException" := by rw [hx.2.1, hv9]; rfl
      subst hE
      have hxp := hx.1
      refine vx_catch (own := RL) (name := "java/lang/IllegalArgumentException") S.2.2.2.1 [] ⟨0, 9, 12, 13⟩ [⟨0, 9, 15, 15⟩] (by rw [ht9]; rfl) (fun z hz => by cases hz) (by decide) (by decide) (S.2.2.2.2 _ tw_127) (va_Nw.use (tabW_on tabIAE) (hX.tabs _ tabIAE)) hce hcv hcl ?_
      refine lv_astore_n (pc := 12) (lv' := [(3, .ref q9), (0, .ref (ad 0 0)), (1, .int (x)), (2, .ref (ad 0 9))]) S.1 S.2.1 dL_letter_12 rfl hl (by decide) rfl (fun ls hl => ?_)
      refine lv_iconst (pc := 13) (v := nI 1) S.1 S.2.1 dL_letter_13 (by decide) ?_
      rw [hxp] at hH
      exact hv_ret (pc := 14) (v := nI 1) S hr rfl hlocks hH hS (⟨by rw [hv9]; rfl, fun _ => hP, fun z => absurd (hv9.symm.trans z) (by decide)⟩) (Nat.le_of_ble_eq_true rfl) (Nat.le_of_ble_eq_true rfl) dL_letter_14
    · have hE : E = "java/lang/IllegalStateException" := by rw [hx.2.1, hv9]; rfl
      subst hE
      have hxp := hx.1
      refine vx_catch (own := RL) (name := "java/lang/IllegalStateException") S.2.2.2.1 [⟨0, 9, 12, 13⟩] ⟨0, 9, 15, 15⟩ [] (by rw [ht9]; rfl) (fun z hz => by obtain rfl := List.mem_singleton.mp hz; exact Or.inr ⟨by decide, _, S.2.2.2.2 _ tw_127, hN3.1⟩) (by decide) (by decide) (S.2.2.2.2 _ tw_128) (va_Nw.use (tabW_on tabISE) (hX.tabs _ tabISE)) hce hcv hcl ?_
      refine lv_astore_n (pc := 15) (lv' := [(3, .ref q9), (0, .ref (ad 0 0)), (1, .int (x)), (2, .ref (ad 0 9))]) S.1 S.2.1 dL_letter_15 rfl hl (by decide) rfl (fun ls hl => ?_)
      refine lv_iconst (pc := 16) (v := nI 2) S.1 S.2.1 dL_letter_16 (by decide) ?_
      rw [hxp] at hH
      exact hv_ret (pc := 17) (v := nI 2) S hr rfl hlocks hH hS (⟨by rw [hv9]; rfl, fun _ => hP, fun z => absurd (hv9.symm.trans z) (by decide)⟩) (Nat.le_of_ble_eq_true rfl) (Nat.le_of_ble_eq_true rfl) dL_letter_17
  · skip
    obtain ⟨e0, x1, rfl, hxlo, hxhi, rfl, hp9⟩ := hw_v_1
    have hP2 : PIC (yC cA ga (va_up (va_up (va_up sc 0 (sc 0 + 1)) 1 (27 * sc 1 + (x1 - 96))) 7 (0)) ar w (va_up ey 0 (va_up (ey 0) (sc 0) x1)) o ad) ad φ_2 := by rw [hp9]; exact yp_letter hP x1 _
    refine lv_i2l (pc := 7) (v := (nI (sc 0 + 1)).toInt64) S.1 S.2.1 dL_letter_7 rfl ?_
    refine hv_last (pc := 8) S hK hH hS 3 (hP2.at (r := 0) (j := 9) rfl) rfl (vp_in_nI (by decide) (by decide)) dL_letter_8 (fun H locs hH hS => ?_)
    replace hH := nup (e := .inl (cA 3, 1, .inr (.inl (vp_updL o (nI 0).toNatClampNeg ((nI (sc 0 + 1)).toInt64))))) hH
    obtain ⟨φ_3, hφ_3, fa_φ_3, fr_φ_3, hH⟩ := hH
    refine lv_goto (pc := 9) (tgt := 18) S.1 S.2.1 dL_letter_9 (by decide) ?_
    refine lv_iconst (pc := 18) (v := nI 0) S.1 S.2.1 dL_letter_18 (by decide) ?_
    exact hv_ret (pc := 19) (v := nI 0) S hr rfl hlocks hH hS (⟨by rw [e0]; rfl, fun z => absurd e0 z, fun _ => ⟨x1, rfl, by omega, ⟨w, va_up ey 0 (va_up (ey 0) (sc 0) x1), _, ad, updL0 _ _, rfl, rfl, by rw [hφ_3]; exact yp_out hP2 _, hI.letter (letterX_0 e0) hxlo hxhi⟩⟩⟩) (Nat.le_of_ble_eq_true rfl) (Nat.le_of_ble_eq_true rfl) dL_letter_19

set_option maxHeartbeats 4000000 in
set_option maxRecDepth 100000 in
/-- the law's lot -/
theorem lw_lot (l : Launch) (hfl : l.stackTraces = false) (D : va_G) (cA : Nat → ClassId) (ga : Nat → Nat → Nat) (φ : hpM) (sz : Nat) (k9 : Nat) (sc : Nat → Nat) (ar : Nat → Nat → Nat) (w : Nat → Nat → Nat → Nat) (ey : Nat → Nat → Nat) (o : Nat → Int64) (ad : Nat → Nat → Nat) (x : Int32) (hP : PIC (yC cA ga sc ar w ey o ad) ad φ) (hI : INV k9 sc ar w ey) (h512 : k9 ≤ 512) : hW l yL_lot cL_lot 4 (some .int) [(0, 9, 12, 13), (0, 9, 15, 15)] { frames := 15, cells := 3, slots := 14, locals := 620 } [.ref (ad 0 0), .int (x), .ref (ad 0 9)] D cA ga φ sz (fun v φ' => v = some (.int (nI (mcd 1 2 9 (lotX (sc 2) x)))) ∧ (lotX (sc 2) x ≠ 0 → PIC (yC cA ga sc ar w ey o ad) ad φ') ∧ (lotX (sc 2) x = 0 → (wkO 0 (sc 1) 4 0 = none ∧ NXT cA ga (k9 + 1) (ad 0 0) (ad 0 9) (va_up (va_up (va_up sc 0 (0)) 1 (0)) 7 (0)) (ar) ((-1 : Int32).toInt64) φ') ∨ (∃ fu x1 : Nat, wkO 0 (sc 1) 4 0 = some fu ∧ x = nI x1 ∧ x1 < 2 ^ 31 ∧ NXT cA ga (k9 + 1) (ad 0 0) (ad 0 9) (va_up (va_up (va_up (va_up sc 0 (0)) 1 (0)) 2 (sc 2 + 1)) 7 (0)) (va_up (va_up ar 1 (va_up (ar 1) (sc 2) fu)) 2 (va_up (ar 2) (sc 2) x1)) ((nI (sc 2)).toInt64) φ'))) 3 14 := by
  refine hW.of (by decide) (Nat.le_of_ble_eq_true rfl) rfl ?_
  intro p e s m args below meth c ls H locs S hr hlocks ht9 hN3 hsz hHz hH hK hX hS hA hl
  refine lv_aload_n (pc := 0) S.1 S.2.1 dL_lot_0 rfl (lv_at hl 2 rfl) ?_
  refine lv_iconst (pc := 1) (v := nI 0) S.1 S.2.1 dL_lot_1 (by decide) ?_
  refine lv_aload_n (pc := 2) S.1 S.2.1 dL_lot_2 rfl (lv_at hl 0 rfl) ?_
  refine lv_iload_n (pc := 3) S.1 S.2.1 dL_lot_3 rfl (lv_at hl 1 rfl) ?_
  refine hv_callX (pc := 4) (vx_runV (As := [.int (x)]) (rest := [.int (nI 0), .ref (ad 0 9)]) S (c_lot l hfl D cA ga φ H.size (ad 0 0) (ad 0 1) (ad 0 3) (ad 0 4) (ad 0 5) (ad 0 6) (ad 0 7) (sc 2) (sc 3) (sc 5) (sc 4) (sc 6) (ad 0 2) (ey 3 0) (sc 0) (ey 0) (ad 1) x (hP.at (r := 0) (j := 0) rfl) (hP.at (r := 0) (j := 1) rfl) (hP.at (r := 0) (j := 2) rfl) (hP.at (r := 0) (j := 3) rfl) hI.j0.1 hI.j0.g hI.j1.1) (cwV 1 S.2.2.2.2 (gV tw_329 tw_330 tw_331 tw_1 tw_332) rfl rfl rfl (by decide +kernel) ⟨Nat.le_of_ble_eq_true rfl, Nat.le_of_ble_eq_true rfl⟩) (pre0_V hH hK hX hS hA (hH.recv hK (hP.at (r := 0) (j := 0) rfl) rfl)) rfl rfl hl.1 rfl (lv_room (Nat.le_of_ble_eq_true rfl)) dL_lot_4 ⟨Nat.le_of_ble_eq_true rfl, Nat.le_of_ble_eq_true rfl⟩) hS (af_le hH hS hA) (fun E ce q9 φ_2x H locs hx hH hS hce hcv hcl => ?_) (fun v_1 φ_2 H locs hw_v_1 hH hS => ?_)
  · skip
    have hor : lotX (sc 2) x = 0 ∨ lotX (sc 2) x = 1 ∨ lotX (sc 2) x = 2 := by unfold lotX; (repeat' split) <;> decide
    rcases hor with hv9 | hv9 | hv9
    · exact absurd hv9 hx.2.2
    · have hE : E = "java/lang/IllegalArgumentException" := by rw [hx.2.1, hv9]; rfl
      subst hE
      have hxp := hx.1
      refine vx_catch (own := RL) (name := "java/lang/IllegalArgumentException") S.2.2.2.1 [] ⟨0, 9, 12, 13⟩ [⟨0, 9, 15, 15⟩] (by rw [ht9]; rfl) (fun z hz => by cases hz) (by decide) (by decide) (S.2.2.2.2 _ tw_127) (va_Nw.use (tabW_on tabIAE) (hX.tabs _ tabIAE)) hce hcv hcl ?_
      refine lv_astore_n (pc := 12) (lv' := [(3, .ref q9), (0, .ref (ad 0 0)), (1, .int (x)), (2, .ref (ad 0 9))]) S.1 S.2.1 dL_lot_12 rfl hl (by decide) rfl (fun ls hl => ?_)
      refine lv_iconst (pc := 13) (v := nI 1) S.1 S.2.1 dL_lot_13 (by decide) ?_
      rw [hxp] at hH
      exact hv_ret (pc := 14) (v := nI 1) S hr rfl hlocks hH hS (⟨by rw [hv9]; rfl, fun _ => hP, fun z => absurd (hv9.symm.trans z) (by decide)⟩) (Nat.le_of_ble_eq_true rfl) (Nat.le_of_ble_eq_true rfl) dL_lot_14
    · have hE : E = "java/lang/IllegalStateException" := by rw [hx.2.1, hv9]; rfl
      subst hE
      have hxp := hx.1
      refine vx_catch (own := RL) (name := "java/lang/IllegalStateException") S.2.2.2.1 [⟨0, 9, 12, 13⟩] ⟨0, 9, 15, 15⟩ [] (by rw [ht9]; rfl) (fun z hz => by obtain rfl := List.mem_singleton.mp hz; exact Or.inr ⟨by decide, _, S.2.2.2.2 _ tw_127, hN3.1⟩) (by decide) (by decide) (S.2.2.2.2 _ tw_128) (va_Nw.use (tabW_on tabISE) (hX.tabs _ tabISE)) hce hcv hcl ?_
      refine lv_astore_n (pc := 15) (lv' := [(3, .ref q9), (0, .ref (ad 0 0)), (1, .int (x)), (2, .ref (ad 0 9))]) S.1 S.2.1 dL_lot_15 rfl hl (by decide) rfl (fun ls hl => ?_)
      refine lv_iconst (pc := 16) (v := nI 2) S.1 S.2.1 dL_lot_16 (by decide) ?_
      rw [hxp] at hH
      exact hv_ret (pc := 17) (v := nI 2) S hr rfl hlocks hH hS (⟨by rw [hv9]; rfl, fun _ => hP, fun z => absurd (hv9.symm.trans z) (by decide)⟩) (Nat.le_of_ble_eq_true rfl) (Nat.le_of_ble_eq_true rfl) dL_lot_17
  · skip
    obtain ⟨e0, x1, rfl, hxlo, hxhi, hw9⟩ := hw_v_1
    rw [hI.j0.fi 0 4 0 (by decide)] at hw9
    have hlt9 := wkO_lt 0 (sc 1) 4 0
    have hlx := lotX_0 e0
    rcases hw9 with ⟨hno, rfl, hp9⟩ | ⟨fu, q, hso, hq, rfl, hp9⟩
    · skip
      have hP2 : PIC (yC cA ga (va_up (va_up (va_up sc 0 (0)) 1 (0)) 7 (0)) ar w (va_up ey 3 (va_up (ey 3) 0 (if sc 0 = 0 then ey 3 0 else 1))) o ad) ad φ_2 := by rw [hp9]; exact yp_clear hP
      refine lv_i2l (pc := 7) (v := ((-1 : Int32)).toInt64) S.1 S.2.1 dL_lot_7 rfl ?_
      refine hv_last (pc := 8) S hK hH hS 3 (hP2.at (r := 0) (j := 9) rfl) rfl (vp_in_nI (by decide) (by decide)) dL_lot_8 (fun H locs hH hS => ?_)
      replace hH := nup (e := .inl (cA 3, 1, .inr (.inl (vp_updL o (nI 0).toNatClampNeg (((-1 : Int32)).toInt64))))) hH
      obtain ⟨φ_3, hφ_3, fa_φ_3, fr_φ_3, hH⟩ := hH
      refine lv_goto (pc := 9) (tgt := 18) S.1 S.2.1 dL_lot_9 (by decide) ?_
      refine lv_iconst (pc := 18) (v := nI 0) S.1 S.2.1 dL_lot_18 (by decide) ?_
      exact hv_ret (pc := 19) (v := nI 0) S hr rfl hlocks hH hS (⟨by rw [e0]; rfl, fun z => absurd e0 z, fun _ => Or.inl ⟨hno, ⟨w, va_up ey 3 (va_up (ey 3) 0 (if sc 0 = 0 then ey 3 0 else 1)), _, ad, updL0 _ _, rfl, rfl, by rw [hφ_3]; exact yp_out hP2 _, hI.clear _⟩⟩⟩) (Nat.le_of_ble_eq_true rfl) (Nat.le_of_ble_eq_true rfl) dL_lot_19
    · skip
      have hP2 : PIC (yC cA ga (va_up (va_up (va_up (va_up sc 0 (0)) 1 (0)) 2 (sc 2 + 1)) 7 (0)) (va_up (va_up ar 1 (va_up (ar 1) (sc 2) fu)) 2 (va_up (ar 2) (sc 2) x1)) w (va_up ey 3 (va_up (ey 3) 0 (if sc 0 = 0 then ey 3 0 else 1))) o (va_up ad 1 (va_up (ad 1) (sc 2) q))) (va_up ad 1 (va_up (ad 1) (sc 2) q)) φ_2 := by rw [hp9]; exact yp_lot hP fu x1 q hq
      refine lv_i2l (pc := 7) (v := (nI (sc 2)).toInt64) S.1 S.2.1 dL_lot_7 rfl ?_
      refine hv_last (pc := 8) S hK hH hS 3 (hP2.at (r := 0) (j := 9) rfl) rfl (vp_in_nI (by decide) (by decide)) dL_lot_8 (fun H locs hH hS => ?_)
      replace hH := nup (e := .inl (cA 3, 1, .inr (.inl (vp_updL o (nI 0).toNatClampNeg ((nI (sc 2)).toInt64))))) hH
      obtain ⟨φ_4, hφ_4, fa_φ_4, fr_φ_4, hH⟩ := hH
      refine lv_goto (pc := 9) (tgt := 18) S.1 S.2.1 dL_lot_9 (by decide) ?_
      refine lv_iconst (pc := 18) (v := nI 0) S.1 S.2.1 dL_lot_18 (by decide) ?_
      exact hv_ret (pc := 19) (v := nI 0) S hr rfl hlocks hH hS (⟨by rw [e0]; rfl, fun z => absurd e0 z, fun _ => Or.inr ⟨fu, x1, hso, rfl, by omega, ⟨w, va_up ey 3 (va_up (ey 3) 0 (if sc 0 = 0 then ey 3 0 else 1)), _, (va_up ad 1 (va_up (ad 1) (sc 2) q)), updL0 _ _, rfl, rfl, by rw [hφ_4]; exact yp_out hP2 _, hI.lot hlx _ (by have := hlt9 fu hso; omega) hxhi⟩⟩⟩) (Nat.le_of_ble_eq_true rfl) (Nat.le_of_ble_eq_true rfl) dL_lot_19

set_option maxHeartbeats 4000000 in
set_option maxRecDepth 100000 in
/-- the law's cone -/
theorem lw_cone (l : Launch) (hfl : l.stackTraces = false) (D : va_G) (cA : Nat → ClassId) (ga : Nat → Nat → Nat) (φ : hpM) (sz : Nat) (k9 : Nat) (sc : Nat → Nat) (ar : Nat → Nat → Nat) (w : Nat → Nat → Nat → Nat) (ey : Nat → Nat → Nat) (o : Nat → Int64) (ad : Nat → Nat → Nat) (x : Int32) (z : Int32) (t : Int32) (hP : PIC (yC cA ga sc ar w ey o ad) ad φ) (hI : INV k9 sc ar w ey) (h512 : k9 ≤ 512) : hW l yL_cone cL_cone 6 (some .int) [(0, 12, 15, 25), (0, 12, 19, 13), (0, 12, 23, 15)] { frames := 11, cells := 9, slots := 55, locals := 380 } [.ref (ad 0 0), .int (x), .int (z), .int (t), .ref (ad 0 9)] D cA ga φ sz (fun v φ' => v = some (.int (nI (mcd 2 3 1 (coneX (sc 2) (sc 3) (ar 2) x z t)))) ∧ (coneX (sc 2) (sc 3) (ar 2) x z t ≠ 0 → PIC (yC cA ga sc ar w ey o ad) ad φ') ∧ (coneX (sc 2) (sc 3) (ar 2) x z t = 0 → ∃ x1 z1 t1 : Nat, x = nI x1 ∧ z = nI z1 ∧ t = nI t1 ∧ x1 < 2 ^ 31 ∧ z1 < 2 ^ 31 ∧ t1 < 2 ^ 31 ∧ NXT cA ga (k9 + 1) (ad 0 0) (ad 0 9) (va_up (va_up sc 3 (sc 3 + 1)) 7 (0)) (va_up (va_up (va_up (va_up (va_up ar 2 (va_up (ar 2) x1 (ar 2 x1 - z1))) 3 (va_up (ar 3) (sc 3) (ar 1 x1))) 4 (pfy (ar 4) (6 * sc 3) (fun b => 1200 - 150 * b) 6)) 5 (pfy (ar 5) (6 * sc 3) (fun _ => 60) 6)) 6 (va_up (pfy (ar 6) (6 * sc 3) (gB z1 t1) 6) (6 * sc 3) (gB z1 t1 0 + (z1 - smN (gB z1 t1) 6)))) ((nI (sc 3)).toInt64) φ')) 9 55 := by
  refine hW.of (by decide) (Nat.le_of_ble_eq_true rfl) rfl ?_
  intro p e s m args below meth c ls H locs S hr hlocks ht9 hN3 hsz hHz hH hK hX hS hA hl
  refine lv_aload (pc := 0) S.1 S.2.1 dL_cone_0 (lv_at hl 4 rfl) ?_
  refine lv_iconst (pc := 2) (v := nI 0) S.1 S.2.1 dL_cone_2 (by decide) ?_
  refine lv_aload_n (pc := 3) S.1 S.2.1 dL_cone_3 rfl (lv_at hl 0 rfl) ?_
  refine lv_iload_n (pc := 4) S.1 S.2.1 dL_cone_4 rfl (lv_at hl 1 rfl) ?_
  refine lv_iload_n (pc := 5) S.1 S.2.1 dL_cone_5 rfl (lv_at hl 2 rfl) ?_
  refine lv_iload_n (pc := 6) S.1 S.2.1 dL_cone_6 rfl (lv_at hl 3 rfl) ?_
  refine hv_callX (pc := 7) (vx_runV (As := [.int (x), .int (z), .int (t)]) (rest := [.int (nI 0), .ref (ad 0 9)]) S (c_cone l hfl D cA ga φ H.size (ad 0 0) (ad 0 1) (ad 0 3) (ad 0 4) (ad 0 5) (ad 0 6) (ad 0 7) (sc 2) (sc 3) (sc 5) (sc 4) (sc 6) (ad 1) (ad 2) (ar 1) (ar 2) x z t (hP.at (r := 0) (j := 0) rfl) (hP.at (r := 0) (j := 4) rfl) (hP.at (r := 0) (j := 3) rfl) hP.lt (fun i _ => hI.j2 i) hI.j1.1 hI.j1.2.1) (cwV 3 S.2.2.2.2 (gV tw_589 tw_590 tw_591 tw_1 tw_592) rfl rfl rfl (by decide +kernel) ⟨Nat.le_of_ble_eq_true rfl, Nat.le_of_ble_eq_true rfl⟩) (pre0_V hH hK hX hS hA (hH.recv hK (hP.at (r := 0) (j := 0) rfl) rfl)) rfl rfl hl.1 rfl (lv_room (Nat.le_of_ble_eq_true rfl)) dL_cone_7 ⟨Nat.le_of_ble_eq_true rfl, Nat.le_of_ble_eq_true rfl⟩) hS (af_le hH hS hA) (fun E ce q9 φ_2x H locs hx hH hS hce hcv hcl => ?_) (fun v_1 φ_2 H locs hw_v_1 hH hS => ?_)
  · skip
    have hor : coneX (sc 2) (sc 3) (ar 2) x z t = 0 ∨ coneX (sc 2) (sc 3) (ar 2) x z t = 1 ∨ coneX (sc 2) (sc 3) (ar 2) x z t = 2 ∨ coneX (sc 2) (sc 3) (ar 2) x z t = 3 := by unfold coneX; (repeat' split) <;> decide
    rcases hor with hv9 | hv9 | hv9 | hv9
    · exact absurd hv9 hx.2.2
    · have hE : E = "java/lang/IllegalArgumentException" := by rw [hx.2.1, hv9]; rfl
      subst hE
      have hxp := hx.1
      refine vx_catch (own := RL) (name := "java/lang/IllegalArgumentException") S.2.2.2.1 [⟨0, 12, 15, 25⟩] ⟨0, 12, 19, 13⟩ [⟨0, 12, 23, 15⟩] (by rw [ht9]; rfl) (fun z hz => by obtain rfl := List.mem_singleton.mp hz; exact Or.inr ⟨by decide, _, S.2.2.2.2 _ tw_588, hN3.2.1⟩) (by decide) (by decide) (S.2.2.2.2 _ tw_127) (va_Nw.use (tabW_on tabIAE) (hX.tabs _ tabIAE)) hce hcv hcl ?_
      refine lv_astore (pc := 19) (lv' := [(5, .ref q9), (0, .ref (ad 0 0)), (1, .int (x)), (2, .int (z)), (3, .int (t)), (4, .ref (ad 0 9))]) S.1 S.2.1 dL_cone_19 hl (by decide) rfl (fun ls hl => ?_)
      refine lv_iconst (pc := 21) (v := nI 2) S.1 S.2.1 dL_cone_21 (by decide) ?_
      rw [hxp] at hH
      exact hv_ret (pc := 22) (v := nI 2) S hr rfl hlocks hH hS (⟨by rw [hv9]; rfl, fun _ => hP, fun z => absurd (hv9.symm.trans z) (by decide)⟩) (Nat.le_of_ble_eq_true rfl) (Nat.le_of_ble_eq_true rfl) dL_cone_22
    · have hE : E = "java/lang/IllegalStateException" := by rw [hx.2.1, hv9]; rfl
      subst hE
      have hxp := hx.1
      refine vx_catch (own := RL) (name := "java/lang/IllegalStateException") S.2.2.2.1 [⟨0, 12, 15, 25⟩, ⟨0, 12, 19, 13⟩] ⟨0, 12, 23, 15⟩ [] (by rw [ht9]; rfl) (List.forall_mem_cons.mpr ⟨Or.inr ⟨by decide, _, S.2.2.2.2 _ tw_588, hN3.2.2⟩, List.forall_mem_cons.mpr ⟨Or.inr ⟨by decide, _, S.2.2.2.2 _ tw_127, hN3.1⟩, fun z hz => by cases hz⟩⟩) (by decide) (by decide) (S.2.2.2.2 _ tw_128) (va_Nw.use (tabW_on tabISE) (hX.tabs _ tabISE)) hce hcv hcl ?_
      refine lv_astore (pc := 23) (lv' := [(5, .ref q9), (0, .ref (ad 0 0)), (1, .int (x)), (2, .int (z)), (3, .int (t)), (4, .ref (ad 0 9))]) S.1 S.2.1 dL_cone_23 hl (by decide) rfl (fun ls hl => ?_)
      refine lv_iconst (pc := 25) (v := nI 3) S.1 S.2.1 dL_cone_25 (by decide) ?_
      rw [hxp] at hH
      exact hv_ret (pc := 26) (v := nI 3) S hr rfl hlocks hH hS (⟨by rw [hv9]; rfl, fun _ => hP, fun z => absurd (hv9.symm.trans z) (by decide)⟩) (Nat.le_of_ble_eq_true rfl) (Nat.le_of_ble_eq_true rfl) dL_cone_26
    · have hE : E = "java/lang/IndexOutOfBoundsException" := by rw [hx.2.1, hv9]; rfl
      subst hE
      have hxp := hx.1
      refine vx_catch (own := RL) (name := "java/lang/IndexOutOfBoundsException") S.2.2.2.1 [] ⟨0, 12, 15, 25⟩ [⟨0, 12, 19, 13⟩, ⟨0, 12, 23, 15⟩] (by rw [ht9]; rfl) (fun z hz => by cases hz) (by decide) (by decide) (S.2.2.2.2 _ tw_588) (va_Nw.use (tabW_on tabIOOBE) (hX.tabs _ tabIOOBE)) hce hcv hcl ?_
      refine lv_astore (pc := 15) (lv' := [(5, .ref q9), (0, .ref (ad 0 0)), (1, .int (x)), (2, .int (z)), (3, .int (t)), (4, .ref (ad 0 9))]) S.1 S.2.1 dL_cone_15 hl (by decide) rfl (fun ls hl => ?_)
      refine lv_iconst (pc := 17) (v := nI 1) S.1 S.2.1 dL_cone_17 (by decide) ?_
      rw [hxp] at hH
      exact hv_ret (pc := 18) (v := nI 1) S hr rfl hlocks hH hS (⟨by rw [hv9]; rfl, fun _ => hP, fun z => absurd (hv9.symm.trans z) (by decide)⟩) (Nat.le_of_ble_eq_true rfl) (Nat.le_of_ble_eq_true rfl) dL_cone_18
  · skip
    obtain ⟨e0, x1, z1, t1, rfl, rfl, rfl, hxn, hzlo, hzhi, hthi, hzg, hn12, rfl, q, q1, q2, hq, hq1, hq2, hqn, hp9⟩ := hw_v_1
    have hl2 := hI.j1.1
    have hP2 : PIC (yC cA ga (va_up (va_up sc 3 (sc 3 + 1)) 7 (0)) (va_up (va_up (va_up (va_up (va_up ar 2 (va_up (ar 2) x1 (ar 2 x1 - z1))) 3 (va_up (ar 3) (sc 3) (ar 1 x1))) 4 (pfy (ar 4) (6 * sc 3) (fun b => 1200 - 150 * b) 6)) 5 (pfy (ar 5) (6 * sc 3) (fun _ => 60) 6)) 6 (va_up (pfy (ar 6) (6 * sc 3) (gB z1 t1) 6) (6 * sc 3) (gB z1 t1 0 + (z1 - smN (gB z1 t1) 6)))) (va_up (va_up w 0 (va_up (w 0) (sc 3) (pfx (fun b => 1200 - 150 * b) zr 6))) 1 (va_up (w 1) (sc 3) (va_up (pfx (gB z1 t1) zr 6) 0 (gB z1 t1 0 + (z1 - smN (gB z1 t1) 6))))) (va_up (va_up ey 1 (va_up (ey 1) (sc 3) 60)) 2 (va_up (ey 2) (sc 3) 0)) o (va_up (va_up (va_up ad 2 (va_up (ad 2) (sc 3) q)) 3 (va_up (ad 3) (sc 3) q1)) 4 (va_up (ad 4) (sc 3) q2))) (va_up (va_up (va_up ad 2 (va_up (ad 2) (sc 3) q)) 3 (va_up (ad 3) (sc 3) q1)) 4 (va_up (ad 4) (sc 3) q2)) φ_2 := by rw [hp9]; exact yp_cone hP x1 z1 t1 q q1 q2 _ _ _ hxn hq hq1 hq2 hqn (hI.j4 _ (Nat.le_refl _)).1 (hI.j4 _ (Nat.le_refl _)).2.2
    refine lv_i2l (pc := 10) (v := (nI (sc 3)).toInt64) S.1 S.2.1 dL_cone_10 rfl ?_
    refine hv_last (pc := 11) S hK hH hS 3 (hP2.at (r := 0) (j := 9) rfl) rfl (vp_in_nI (by decide) (by decide)) dL_cone_11 (fun H locs hH hS => ?_)
    replace hH := nup (e := .inl (cA 3, 1, .inr (.inl (vp_updL o (nI 0).toNatClampNeg ((nI (sc 3)).toInt64))))) hH
    obtain ⟨φ_3, hφ_3, fa_φ_3, fr_φ_3, hH⟩ := hH
    refine lv_goto (pc := 12) (tgt := 27) S.1 S.2.1 dL_cone_12 (by decide) ?_
    refine lv_iconst (pc := 27) (v := nI 0) S.1 S.2.1 dL_cone_27 (by decide) ?_
    exact hv_ret (pc := 28) (v := nI 0) S hr rfl hlocks hH hS (⟨by rw [e0]; rfl, fun z => absurd e0 z, fun _ => ⟨x1, z1, t1, rfl, rfl, rfl, by omega, by omega, by omega, ⟨va_up (va_up w 0 (va_up (w 0) (sc 3) (pfx (fun b => 1200 - 150 * b) zr 6))) 1 (va_up (w 1) (sc 3) (va_up (pfx (gB z1 t1) zr 6) 0 (gB z1 t1 0 + (z1 - smN (gB z1 t1) 6)))), va_up (va_up ey 1 (va_up (ey 1) (sc 3) 60)) 2 (va_up (ey 2) (sc 3) 0), _, (va_up (va_up (va_up ad 2 (va_up (ad 2) (sc 3) q)) 3 (va_up (ad 3) (sc 3) q1)) 4 (va_up (ad 4) (sc 3) q2)), updL0 _ _, rfl, rfl, by rw [hφ_3]; exact yp_out hP2 _, hI.cone hxn hzhi hn12⟩⟩⟩) (Nat.le_of_ble_eq_true rfl) (Nat.le_of_ble_eq_true rfl) dL_cone_28

set_option maxHeartbeats 4000000 in
set_option maxRecDepth 100000 in
/-- the law's hand -/
theorem lw_hand (l : Launch) (hfl : l.stackTraces = false) (D : va_G) (cA : Nat → ClassId) (ga : Nat → Nat → Nat) (φ : hpM) (sz : Nat) (k9 : Nat) (sc : Nat → Nat) (ar : Nat → Nat → Nat) (w : Nat → Nat → Nat → Nat) (ey : Nat → Nat → Nat) (o : Nat → Int64) (ad : Nat → Nat → Nat) (hP : PIC (yC cA ga sc ar w ey o ad) ad φ) (hI : INV k9 sc ar w ey) (h512 : k9 ≤ 512) : hW l yL_hand cL_hand 3 (some .int) [(0, 8, 11, 15)] { frames := 10, cells := 2, slots := 8, locals := 320 } [.ref (ad 0 0), .ref (ad 0 9)] D cA ga φ sz (fun v φ' => v = some (.int (nI (mcd 9 1 9 (handX (sc 5))))) ∧ (handX (sc 5) ≠ 0 → PIC (yC cA ga sc ar w ey o ad) ad φ') ∧ (handX (sc 5) = 0 → NXT cA ga (k9 + 1) (ad 0 0) (ad 0 9) (va_up (va_up sc 5 (sc 5 + 1)) 7 (0)) (ar) ((nI (sc 5)).toInt64) φ')) 2 8 := by
  refine hW.of (by decide) (Nat.le_of_ble_eq_true rfl) rfl ?_
  intro p e s m args below meth c ls H locs S hr hlocks ht9 hN3 hsz hHz hH hK hX hS hA hl
  refine lv_aload_n (pc := 0) S.1 S.2.1 dL_hand_0 rfl (lv_at hl 1 rfl) ?_
  refine lv_iconst (pc := 1) (v := nI 0) S.1 S.2.1 dL_hand_1 (by decide) ?_
  refine lv_aload_n (pc := 2) S.1 S.2.1 dL_hand_2 rfl (lv_at hl 0 rfl) ?_
  refine hv_callX (pc := 3) (vx_runV (As := []) (rest := [.int (nI 0), .ref (ad 0 9)]) S (c_hand l hfl D cA ga φ H.size (ad 0 0) (ad 0 1) (ad 0 3) (ad 0 4) (ad 0 5) (ad 0 6) (ad 0 7) (sc 2) (sc 3) (sc 5) (sc 4) (sc 6) (ad 5) (hP.at (r := 0) (j := 0) rfl) (hP.at (r := 0) (j := 5) rfl) hI.j1.2.2.2) (cwV 0 S.2.2.2.2 (gV tw_656 tw_657 tw_658 tw_1 tw_659) rfl rfl rfl (by decide +kernel) ⟨Nat.le_of_ble_eq_true rfl, Nat.le_of_ble_eq_true rfl⟩) (pre0_V hH hK hX hS hA (hH.recv hK (hP.at (r := 0) (j := 0) rfl) rfl)) rfl rfl hl.1 rfl (lv_room (Nat.le_of_ble_eq_true rfl)) dL_hand_3 ⟨Nat.le_of_ble_eq_true rfl, Nat.le_of_ble_eq_true rfl⟩) hS (af_le hH hS hA) (fun E ce q9 φ_2x H locs hx hH hS hce hcv hcl => ?_) (fun v_1 φ_2 H locs hw_v_1 hH hS => ?_)
  · skip
    have hor : handX (sc 5) = 0 ∨ handX (sc 5) = 2 := by unfold handX; (repeat' split) <;> decide
    rcases hor with hv9 | hv9
    · exact absurd hv9 hx.2.2
    · have hE : E = "java/lang/IllegalStateException" := by rw [hx.2.1, hv9]; rfl
      subst hE
      have hxp := hx.1
      refine vx_catch (own := RL) (name := "java/lang/IllegalStateException") S.2.2.2.1 [] ⟨0, 8, 11, 15⟩ [] (by rw [ht9]; rfl) (fun z hz => by cases hz) (by decide) (by decide) (S.2.2.2.2 _ tw_128) (va_Nw.use (tabW_on tabISE) (hX.tabs _ tabISE)) hce hcv hcl ?_
      refine lv_astore_n (pc := 11) (lv' := [(2, .ref q9), (0, .ref (ad 0 0)), (1, .ref (ad 0 9))]) S.1 S.2.1 dL_hand_11 rfl hl (by decide) rfl (fun ls hl => ?_)
      refine lv_iconst (pc := 12) (v := nI 1) S.1 S.2.1 dL_hand_12 (by decide) ?_
      rw [hxp] at hH
      exact hv_ret (pc := 13) (v := nI 1) S hr rfl hlocks hH hS (⟨by rw [hv9]; rfl, fun _ => hP, fun z => absurd (hv9.symm.trans z) (by decide)⟩) (Nat.le_of_ble_eq_true rfl) (Nat.le_of_ble_eq_true rfl) dL_hand_13
  · skip
    obtain ⟨e0, hn6, rfl, q, hq, hp9⟩ := hw_v_1
    have hP2 : PIC (yC cA ga (va_up (va_up sc 5 (sc 5 + 1)) 7 (0)) ar w ey o (va_up ad 5 (va_up (ad 5) (sc 5) q))) (va_up ad 5 (va_up (ad 5) (sc 5) q)) φ_2 := by rw [hp9]; exact yp_hand hP q hq (hI.j7.2 _ (Nat.le_refl _)).1 (hI.j7.2 _ (Nat.le_refl _)).2
    refine lv_i2l (pc := 6) (v := (nI (sc 5)).toInt64) S.1 S.2.1 dL_hand_6 rfl ?_
    refine hv_last (pc := 7) S hK hH hS 3 (hP2.at (r := 0) (j := 9) rfl) rfl (vp_in_nI (by decide) (by decide)) dL_hand_7 (fun H locs hH hS => ?_)
    replace hH := nup (e := .inl (cA 3, 1, .inr (.inl (vp_updL o (nI 0).toNatClampNeg ((nI (sc 5)).toInt64))))) hH
    obtain ⟨φ_3, hφ_3, fa_φ_3, fr_φ_3, hH⟩ := hH
    refine lv_goto (pc := 8) (tgt := 14) S.1 S.2.1 dL_hand_8 (by decide) ?_
    refine lv_iconst (pc := 14) (v := nI 0) S.1 S.2.1 dL_hand_14 (by decide) ?_
    exact hv_ret (pc := 15) (v := nI 0) S hr rfl hlocks hH hS (⟨by rw [e0]; rfl, fun z => absurd e0 z, fun _ => ⟨w, ey, _, (va_up ad 5 (va_up (ad 5) (sc 5) q)), updL0 _ _, rfl, rfl, by rw [hφ_3]; exact yp_out hP2 _, hI.hand hn6⟩⟩) (Nat.le_of_ble_eq_true rfl) (Nat.le_of_ble_eq_true rfl) dL_hand_15

set_option maxHeartbeats 4000000 in
set_option maxRecDepth 100000 in
/-- the law's cycle -/
theorem lw_cycle (l : Launch) (hfl : l.stackTraces = false) (D : va_G) (cA : Nat → ClassId) (ga : Nat → Nat → Nat) (φ : hpM) (sz : Nat) (k9 : Nat) (sc : Nat → Nat) (ar : Nat → Nat → Nat) (w : Nat → Nat → Nat → Nat) (ey : Nat → Nat → Nat) (o : Nat → Int64) (ad : Nat → Nat → Nat) (x : Int32) (z : Int32) (hP : PIC (yC cA ga sc ar w ey o ad) ad φ) (hI : INV k9 sc ar w ey) (h512 : k9 ≤ 512) : hW l yL_cycle cL_cycle 5 (some .int) [(0, 10, 13, 25), (0, 10, 17, 15)] { frames := 11, cells := 8, slots := 48, locals := 380 } [.ref (ad 0 0), .int (x), .int (z), .ref (ad 0 9)] D cA ga φ sz (fun v φ' => v = some (.int (nI (mcd 9 2 1 (cycleX (sc 3) (sc 5) (ar 3) (ar 7) (ar 12) (ar 8) x z)))) ∧ (cycleX (sc 3) (sc 5) (ar 3) (ar 7) (ar 12) (ar 8) x z ≠ 0 → PIC (yC cA ga sc ar w ey o ad) ad φ') ∧ (cycleX (sc 3) (sc 5) (ar 3) (ar 7) (ar 12) (ar 8) x z = 0 → ∃ x1 z1 : Nat, x = nI x1 ∧ z = nI z1 ∧ x1 < 2 ^ 31 ∧ z1 < 2 ^ 31 ∧ NXT cA ga (k9 + 1) (ad 0 0) (ad 0 9) (va_up sc 7 (0)) (va_up (va_up (va_up (va_up (va_up ar 4 (pfy (ar 4) (6 * x1) (fun b => shA (ar 3 x1) (ar 4 (6 * x1 + b))) 6)) 5 (pfy (ar 5) (6 * x1) (fun b => shL (ar 3 x1) (ar 5 (6 * x1 + b))) 6)) 7 (va_up (ar 7) x1 (ar 7 x1 + 1))) 12 (va_up (ar 12) z1 (ar 12 z1 + fAir (ar 3 x1)))) 13 (va_up (ar 13) z1 (ar 13 z1 + fAir (ar 3 x1)))) ((nI (shA (ar 3 x1) (ar 4 (6 * x1)))).toInt64) φ')) 8 48 := by
  refine hW.of (by decide) (Nat.le_of_ble_eq_true rfl) rfl ?_
  intro p e s m args below meth c ls H locs S hr hlocks ht9 hN3 hsz hHz hH hK hX hS hA hl
  refine lv_aload_n (pc := 0) S.1 S.2.1 dL_cycle_0 rfl (lv_at hl 3 rfl) ?_
  refine lv_iconst (pc := 1) (v := nI 0) S.1 S.2.1 dL_cycle_1 (by decide) ?_
  refine lv_aload_n (pc := 2) S.1 S.2.1 dL_cycle_2 rfl (lv_at hl 0 rfl) ?_
  refine lv_iload_n (pc := 3) S.1 S.2.1 dL_cycle_3 rfl (lv_at hl 1 rfl) ?_
  refine lv_iload_n (pc := 4) S.1 S.2.1 dL_cycle_4 rfl (lv_at hl 2 rfl) ?_
  refine hv_callX (pc := 5) (vx_runV (As := [.int (x), .int (z)]) (rest := [.int (nI 0), .ref (ad 0 9)]) S (c_cycle l hfl D cA ga φ H.size (ad 0 0) (ad 0 1) (ad 0 3) (ad 0 4) (ad 0 5) (ad 0 6) (ad 0 7) (sc 2) (sc 3) (sc 5) (sc 4) (sc 6) (ad 2) (ad 3) (ad 4) (ar 3) (ey 1) (ar 7) (ar 9) (ad 6) (ey 2) (w 0) (w 1) (ad 5) (ar 12) (ar 13) x z (hP.at (r := 0) (j := 0) rfl) (hP.at (r := 0) (j := 4) rfl) (hP.at (r := 0) (j := 5) rfl) hP.cn hI.hcb hI.j1.2.1 hP.ha hI.j1.2.2.2 (fun i _ => hI.j7.1 i)) (cwV 2 S.2.2.2.2 (gV tw_677 tw_678 tw_679 tw_1 tw_680) rfl rfl rfl (by decide +kernel) ⟨Nat.le_of_ble_eq_true rfl, Nat.le_of_ble_eq_true rfl⟩) (pre0_V hH hK hX hS hA (hH.recv hK (hP.at (r := 0) (j := 0) rfl) rfl)) rfl rfl hl.1 rfl (lv_room (Nat.le_of_ble_eq_true rfl)) dL_cycle_5 ⟨Nat.le_of_ble_eq_true rfl, Nat.le_of_ble_eq_true rfl⟩) hS (af_le hH hS hA) (fun E ce q9 φ_2x H locs hx hH hS hce hcv hcl => ?_) (fun v_1 φ_2 H locs hw_v_1 hH hS => ?_)
  · skip
    have hor : cycleX (sc 3) (sc 5) (ar 3) (ar 7) (ar 12) (ar 8) x z = 0 ∨ cycleX (sc 3) (sc 5) (ar 3) (ar 7) (ar 12) (ar 8) x z = 2 ∨ cycleX (sc 3) (sc 5) (ar 3) (ar 7) (ar 12) (ar 8) x z = 3 := by unfold cycleX; (repeat' split) <;> decide
    rw [hI.cyc] at hx
    rcases hor with hv9 | hv9 | hv9
    · exact absurd hv9 hx.2.2
    · have hE : E = "java/lang/IllegalStateException" := by rw [hx.2.1, hv9]; rfl
      subst hE
      have hxp := hx.1
      refine vx_catch (own := RL) (name := "java/lang/IllegalStateException") S.2.2.2.1 [⟨0, 10, 13, 25⟩] ⟨0, 10, 17, 15⟩ [] (by rw [ht9]; rfl) (fun z hz => by obtain rfl := List.mem_singleton.mp hz; exact Or.inr ⟨by decide, _, S.2.2.2.2 _ tw_588, hN3.2.2⟩) (by decide) (by decide) (S.2.2.2.2 _ tw_128) (va_Nw.use (tabW_on tabISE) (hX.tabs _ tabISE)) hce hcv hcl ?_
      refine lv_astore (pc := 17) (lv' := [(4, .ref q9), (0, .ref (ad 0 0)), (1, .int (x)), (2, .int (z)), (3, .ref (ad 0 9))]) S.1 S.2.1 dL_cycle_17 hl (by decide) rfl (fun ls hl => ?_)
      refine lv_iconst (pc := 19) (v := nI 2) S.1 S.2.1 dL_cycle_19 (by decide) ?_
      rw [hxp] at hH
      exact hv_ret (pc := 20) (v := nI 2) S hr rfl hlocks hH hS (⟨by rw [hv9]; rfl, fun _ => hP, fun z => absurd (hv9.symm.trans z) (by decide)⟩) (Nat.le_of_ble_eq_true rfl) (Nat.le_of_ble_eq_true rfl) dL_cycle_20
    · have hE : E = "java/lang/IndexOutOfBoundsException" := by rw [hx.2.1, hv9]; rfl
      subst hE
      have hxp := hx.1
      refine vx_catch (own := RL) (name := "java/lang/IndexOutOfBoundsException") S.2.2.2.1 [] ⟨0, 10, 13, 25⟩ [⟨0, 10, 17, 15⟩] (by rw [ht9]; rfl) (fun z hz => by cases hz) (by decide) (by decide) (S.2.2.2.2 _ tw_588) (va_Nw.use (tabW_on tabIOOBE) (hX.tabs _ tabIOOBE)) hce hcv hcl ?_
      refine lv_astore (pc := 13) (lv' := [(4, .ref q9), (0, .ref (ad 0 0)), (1, .int (x)), (2, .int (z)), (3, .ref (ad 0 9))]) S.1 S.2.1 dL_cycle_13 hl (by decide) rfl (fun ls hl => ?_)
      refine lv_iconst (pc := 15) (v := nI 1) S.1 S.2.1 dL_cycle_15 (by decide) ?_
      rw [hxp] at hH
      exact hv_ret (pc := 16) (v := nI 1) S hr rfl hlocks hH hS (⟨by rw [hv9]; rfl, fun _ => hP, fun z => absurd (hv9.symm.trans z) (by decide)⟩) (Nat.le_of_ble_eq_true rfl) (Nat.le_of_ble_eq_true rfl) dL_cycle_16
  · skip
    obtain ⟨e0, x1, z1, rfl, rfl, hxn, hzn, hair, hd0, hc12, rfl, hp9⟩ := hw_v_1
    rw [hI.cyc] at e0
    have hw0 : w 0 x1 0 = ar 4 (6 * x1) := ((hI.j5 x1 hxn).2.1 0 (by decide)).1.symm
    rw [hw0]
    have hj1 := hI.j1
    have hP2 : PIC (yC cA ga (va_up sc 7 (0)) (va_up (va_up (va_up (va_up (va_up ar 4 (pfy (ar 4) (6 * x1) (fun b => shA (ar 3 x1) (ar 4 (6 * x1 + b))) 6)) 5 (pfy (ar 5) (6 * x1) (fun b => shL (ar 3 x1) (ar 5 (6 * x1 + b))) 6)) 7 (va_up (ar 7) x1 (ar 7 x1 + 1))) 12 (va_up (ar 12) z1 (ar 12 z1 + fAir (ar 3 x1)))) 13 (va_up (ar 13) z1 (ar 13 z1 + fAir (ar 3 x1)))) (va_up w 0 (va_up (w 0) x1 (shP (ar 3 x1) (w 0 x1) 6))) (va_up ey 1 (va_up (ey 1) x1 (shL (ar 3 x1) (ey 1 x1)))) o ad) ad φ_2 := by rw [hp9]; exact yp_cycle hP x1 z1 _ _ hxn hzn
    refine lv_i2l (pc := 8) (v := (nI (shA (ar 3 x1) (ar 4 (6 * x1)))).toInt64) S.1 S.2.1 dL_cycle_8 rfl ?_
    refine hv_last (pc := 9) S hK hH hS 3 (hP2.at (r := 0) (j := 9) rfl) rfl (vp_in_nI (by decide) (by decide)) dL_cycle_9 (fun H locs hH hS => ?_)
    replace hH := nup (e := .inl (cA 3, 1, .inr (.inl (vp_updL o (nI 0).toNatClampNeg ((nI (shA (ar 3 x1) (ar 4 (6 * x1)))).toInt64))))) hH
    obtain ⟨φ_3, hφ_3, fa_φ_3, fr_φ_3, hH⟩ := hH
    refine lv_goto (pc := 10) (tgt := 21) S.1 S.2.1 dL_cycle_10 (by decide) ?_
    refine lv_iconst (pc := 21) (v := nI 0) S.1 S.2.1 dL_cycle_21 (by decide) ?_
    exact hv_ret (pc := 22) (v := nI 0) S hr rfl hlocks hH hS (⟨by rw [e0]; rfl, fun z => absurd e0 z, fun _ => ⟨x1, z1, rfl, rfl, by omega, by omega, ⟨va_up w 0 (va_up (w 0) x1 (shP (ar 3 x1) (w 0 x1) 6)), va_up ey 1 (va_up (ey 1) x1 (shL (ar 3 x1) (ey 1 x1))), _, ad, updL0 _ _, rfl, rfl, by rw [hφ_3]; exact yp_out hP2 _, hI.cycle hxn hzn hd0 hc12 hair⟩⟩⟩) (Nat.le_of_ble_eq_true rfl) (Nat.le_of_ble_eq_true rfl) dL_cycle_22

set_option maxHeartbeats 4000000 in
set_option maxRecDepth 100000 in
/-- the law's block -/
theorem lw_block (l : Launch) (hfl : l.stackTraces = false) (D : va_G) (cA : Nat → ClassId) (ga : Nat → Nat → Nat) (φ : hpM) (sz : Nat) (k9 : Nat) (sc : Nat → Nat) (ar : Nat → Nat → Nat) (w : Nat → Nat → Nat → Nat) (ey : Nat → Nat → Nat) (o : Nat → Int64) (ad : Nat → Nat → Nat) (x : Int32) (z : Int32) (hP : PIC (yC cA ga sc ar w ey o ad) ad φ) (hI : INV k9 sc ar w ey) (h512 : k9 ≤ 512) : hW l yL_block cL_block 5 (some .int) [(0, 10, 13, 13), (0, 10, 17, 15)] { frames := 10, cells := 4, slots := 20, locals := 320 } [.ref (ad 0 0), .int (x), .int (z), .ref (ad 0 9)] D cA ga φ sz (fun v φ' => v = some (.int (nI (mcd 1 2 9 (blockX (sc 4) x z)))) ∧ (blockX (sc 4) x z ≠ 0 → PIC (yC cA ga sc ar w ey o ad) ad φ') ∧ (blockX (sc 4) x z = 0 → ∃ x1 z1 : Nat, x = nI x1 ∧ z = nI z1 ∧ x1 < 2 ^ 31 ∧ z1 < 2 ^ 31 ∧ NXT cA ga (k9 + 1) (ad 0 0) (ad 0 9) (va_up (va_up sc 4 (sc 4 + 1)) 7 (0)) (va_up (va_up ar 10 (va_up (ar 10) (sc 4) x1)) 11 (va_up (ar 11) (sc 4) z1)) ((nI (sc 4)).toInt64) φ')) 4 20 := by
  refine hW.of (by decide) (Nat.le_of_ble_eq_true rfl) rfl ?_
  intro p e s m args below meth c ls H locs S hr hlocks ht9 hN3 hsz hHz hH hK hX hS hA hl
  refine lv_aload_n (pc := 0) S.1 S.2.1 dL_block_0 rfl (lv_at hl 3 rfl) ?_
  refine lv_iconst (pc := 1) (v := nI 0) S.1 S.2.1 dL_block_1 (by decide) ?_
  refine lv_aload_n (pc := 2) S.1 S.2.1 dL_block_2 rfl (lv_at hl 0 rfl) ?_
  refine lv_iload_n (pc := 3) S.1 S.2.1 dL_block_3 rfl (lv_at hl 1 rfl) ?_
  refine lv_iload_n (pc := 4) S.1 S.2.1 dL_block_4 rfl (lv_at hl 2 rfl) ?_
  refine hv_callX (pc := 5) (vx_runV (As := [.int (x), .int (z)]) (rest := [.int (nI 0), .ref (ad 0 9)]) S (c_block l hfl D cA ga φ H.size (ad 0 0) (ad 0 1) (ad 0 3) (ad 0 4) (ad 0 5) (ad 0 6) (ad 0 7) (sc 2) (sc 3) (sc 5) (sc 4) (sc 6) (ad 6) x z (hP.at (r := 0) (j := 0) rfl) (hP.at (r := 0) (j := 6) rfl) hI.j1.2.2.1) (cwV 2 S.2.2.2.2 (gV tw_717 tw_718 tw_719 tw_1 tw_720) rfl rfl rfl (by decide +kernel) ⟨Nat.le_of_ble_eq_true rfl, Nat.le_of_ble_eq_true rfl⟩) (pre0_V hH hK hX hS hA (hH.recv hK (hP.at (r := 0) (j := 0) rfl) rfl)) rfl rfl hl.1 rfl (lv_room (Nat.le_of_ble_eq_true rfl)) dL_block_5 ⟨Nat.le_of_ble_eq_true rfl, Nat.le_of_ble_eq_true rfl⟩) hS (af_le hH hS hA) (fun E ce q9 φ_2x H locs hx hH hS hce hcv hcl => ?_) (fun v_1 φ_2 H locs hw_v_1 hH hS => ?_)
  · skip
    have hor : blockX (sc 4) x z = 0 ∨ blockX (sc 4) x z = 1 ∨ blockX (sc 4) x z = 2 := by unfold blockX; (repeat' split) <;> decide
    rcases hor with hv9 | hv9 | hv9
    · exact absurd hv9 hx.2.2
    · have hE : E = "java/lang/IllegalArgumentException" := by rw [hx.2.1, hv9]; rfl
      subst hE
      have hxp := hx.1
      refine vx_catch (own := RL) (name := "java/lang/IllegalArgumentException") S.2.2.2.1 [] ⟨0, 10, 13, 13⟩ [⟨0, 10, 17, 15⟩] (by rw [ht9]; rfl) (fun z hz => by cases hz) (by decide) (by decide) (S.2.2.2.2 _ tw_127) (va_Nw.use (tabW_on tabIAE) (hX.tabs _ tabIAE)) hce hcv hcl ?_
      refine lv_astore (pc := 13) (lv' := [(4, .ref q9), (0, .ref (ad 0 0)), (1, .int (x)), (2, .int (z)), (3, .ref (ad 0 9))]) S.1 S.2.1 dL_block_13 hl (by decide) rfl (fun ls hl => ?_)
      refine lv_iconst (pc := 15) (v := nI 1) S.1 S.2.1 dL_block_15 (by decide) ?_
      rw [hxp] at hH
      exact hv_ret (pc := 16) (v := nI 1) S hr rfl hlocks hH hS (⟨by rw [hv9]; rfl, fun _ => hP, fun z => absurd (hv9.symm.trans z) (by decide)⟩) (Nat.le_of_ble_eq_true rfl) (Nat.le_of_ble_eq_true rfl) dL_block_16
    · have hE : E = "java/lang/IllegalStateException" := by rw [hx.2.1, hv9]; rfl
      subst hE
      have hxp := hx.1
      refine vx_catch (own := RL) (name := "java/lang/IllegalStateException") S.2.2.2.1 [⟨0, 10, 13, 13⟩] ⟨0, 10, 17, 15⟩ [] (by rw [ht9]; rfl) (fun z hz => by obtain rfl := List.mem_singleton.mp hz; exact Or.inr ⟨by decide, _, S.2.2.2.2 _ tw_127, hN3.1⟩) (by decide) (by decide) (S.2.2.2.2 _ tw_128) (va_Nw.use (tabW_on tabISE) (hX.tabs _ tabISE)) hce hcv hcl ?_
      refine lv_astore (pc := 17) (lv' := [(4, .ref q9), (0, .ref (ad 0 0)), (1, .int (x)), (2, .int (z)), (3, .ref (ad 0 9))]) S.1 S.2.1 dL_block_17 hl (by decide) rfl (fun ls hl => ?_)
      refine lv_iconst (pc := 19) (v := nI 2) S.1 S.2.1 dL_block_19 (by decide) ?_
      rw [hxp] at hH
      exact hv_ret (pc := 20) (v := nI 2) S hr rfl hlocks hH hS (⟨by rw [hv9]; rfl, fun _ => hP, fun z => absurd (hv9.symm.trans z) (by decide)⟩) (Nat.le_of_ble_eq_true rfl) (Nat.le_of_ble_eq_true rfl) dL_block_20
  · skip
    obtain ⟨e0, x1, z1, rfl, rfl, hxlo, hxhi, hzlo, hzhi, hn8, rfl, q, hq, hp9⟩ := hw_v_1
    have hP2 : PIC (yC cA ga (va_up (va_up sc 4 (sc 4 + 1)) 7 (0)) (va_up (va_up ar 10 (va_up (ar 10) (sc 4) x1)) 11 (va_up (ar 11) (sc 4) z1)) w ey o (va_up ad 6 (va_up (ad 6) (sc 4) q))) (va_up ad 6 (va_up (ad 6) (sc 4) q)) φ_2 := by rw [hp9]; exact yp_block hP x1 z1 q hq hI.hdr
    refine lv_i2l (pc := 8) (v := (nI (sc 4)).toInt64) S.1 S.2.1 dL_block_8 rfl ?_
    refine hv_last (pc := 9) S hK hH hS 3 (hP2.at (r := 0) (j := 9) rfl) rfl (vp_in_nI (by decide) (by decide)) dL_block_9 (fun H locs hH hS => ?_)
    replace hH := nup (e := .inl (cA 3, 1, .inr (.inl (vp_updL o (nI 0).toNatClampNeg ((nI (sc 4)).toInt64))))) hH
    obtain ⟨φ_3, hφ_3, fa_φ_3, fr_φ_3, hH⟩ := hH
    refine lv_goto (pc := 10) (tgt := 21) S.1 S.2.1 dL_block_10 (by decide) ?_
    refine lv_iconst (pc := 21) (v := nI 0) S.1 S.2.1 dL_block_21 (by decide) ?_
    exact hv_ret (pc := 22) (v := nI 0) S hr rfl hlocks hH hS (⟨by rw [e0]; rfl, fun z => absurd e0 z, fun _ => ⟨x1, z1, rfl, rfl, by omega, by omega, ⟨w, ey, _, (va_up ad 6 (va_up (ad 6) (sc 4) q)), updL0 _ _, rfl, rfl, by rw [hφ_3]; exact yp_out hP2 _, hI.block hn8 ⟨hxlo, hxhi⟩ ⟨hzlo, hzhi⟩⟩⟩⟩) (Nat.le_of_ble_eq_true rfl) (Nat.le_of_ble_eq_true rfl) dL_block_22

set_option maxHeartbeats 4000000 in
set_option maxRecDepth 100000 in
/-- the law's draw -/
theorem lw_draw (l : Launch) (hfl : l.stackTraces = false) (D : va_G) (cA : Nat → ClassId) (ga : Nat → Nat → Nat) (φ : hpM) (sz : Nat) (k9 : Nat) (sc : Nat → Nat) (ar : Nat → Nat → Nat) (w : Nat → Nat → Nat → Nat) (ey : Nat → Nat → Nat) (o : Nat → Int64) (ad : Nat → Nat → Nat) (x : Int32) (z : Int32) (hP : PIC (yC cA ga sc ar w ey o ad) ad φ) (hI : INV k9 sc ar w ey) (h512 : k9 ≤ 512) : hW l yL_draw cL_draw 5 (some .int) [(0, 10, 13, 25)] { frames := 13, cells := 4, slots := 24, locals := 500 } [.ref (ad 0 0), .int (x), .int (z), .ref (ad 0 9)] D cA ga φ sz (fun v φ' => v = some (.int (nI (mcd 9 9 1 (drawX (sc 3) (sc 4) x z)))) ∧ (drawX (sc 3) (sc 4) x z ≠ 0 → PIC (yC cA ga sc ar w ey o ad) ad φ') ∧ (drawX (sc 3) (sc 4) x z = 0 → ∃ x1 z1 : Nat, x = nI x1 ∧ z = nI z1 ∧ x1 < 2 ^ 31 ∧ z1 < 2 ^ 31 ∧ (mhR (ar 3 x1) (fun j => ar 6 (6 * x1 + j) * 100000 / (ar 4 (6 * x1 + j) * ar 5 (6 * x1 + j))) (fun j => ar 4 (6 * x1 + j)) (bW (ar 10 z1) (ar 11 z1)) ≠ 0 → NXT cA ga (k9 + 1) (ad 0 0) (ad 0 9) (va_up sc 7 (0)) (ar) ((nI (mhR (ar 3 x1) (fun j => ar 6 (6 * x1 + j) * 100000 / (ar 4 (6 * x1 + j) * ar 5 (6 * x1 + j))) (fun j => ar 4 (6 * x1 + j)) (bW (ar 10 z1) (ar 11 z1)))).toInt64) φ') ∧ (mhR (ar 3 x1) (fun j => ar 6 (6 * x1 + j) * 100000 / (ar 4 (6 * x1 + j) * ar 5 (6 * x1 + j))) (fun j => ar 4 (6 * x1 + j)) (bW (ar 10 z1) (ar 11 z1)) = 0 → NXT cA ga (k9 + 1) (ad 0 0) (ad 0 9) (va_up sc 7 (0)) (va_up (va_up ar 4 (pfy (ar 4) (6 * x1) (bW (ar 10 z1) (ar 11 z1)) 6)) 8 (va_up (ar 8) x1 1)) ((nI (mhR (ar 3 x1) (fun j => ar 6 (6 * x1 + j) * 100000 / (ar 4 (6 * x1 + j) * ar 5 (6 * x1 + j))) (fun j => ar 4 (6 * x1 + j)) (bW (ar 10 z1) (ar 11 z1)))).toInt64) φ'))) 4 24 := by
  refine hW.of (by decide) (Nat.le_of_ble_eq_true rfl) rfl ?_
  intro p e s m args below meth c ls H locs S hr hlocks ht9 hN3 hsz hHz hH hK hX hS hA hl
  refine lv_aload_n (pc := 0) S.1 S.2.1 dL_draw_0 rfl (lv_at hl 3 rfl) ?_
  refine lv_iconst (pc := 1) (v := nI 0) S.1 S.2.1 dL_draw_1 (by decide) ?_
  refine lv_aload_n (pc := 2) S.1 S.2.1 dL_draw_2 rfl (lv_at hl 0 rfl) ?_
  refine lv_iload_n (pc := 3) S.1 S.2.1 dL_draw_3 rfl (lv_at hl 1 rfl) ?_
  refine lv_iload_n (pc := 4) S.1 S.2.1 dL_draw_4 rfl (lv_at hl 2 rfl) ?_
  refine hv_callX (pc := 5) (vx_runV (As := [.int (x), .int (z)]) (rest := [.int (nI 0), .ref (ad 0 9)]) S (c_draw l hfl D cA ga φ H.size (ad 0 0) (ad 0 1) (ad 0 3) (ad 0 4) (ad 0 5) (ad 0 6) (ad 0 7) (sc 2) (sc 3) (sc 5) (sc 4) (sc 6) (ad 2) (ad 3) (ad 4) (ar 3) (ey 1) (ar 7) (ar 9) (ad 6) (ey 2) (w 0) (w 1) (ar 10) (ar 11) x z (hP.at (r := 0) (j := 0) rfl) (hP.at (r := 0) (j := 4) rfl) (hP.at (r := 0) (j := 6) rfl) hP.cn hI.hcb hI.j1.2.1 hP.bl (fun i hi => ⟨(hI.j6 i hi).1.2, (hI.j6 i hi).2.2⟩) hI.j1.2.2.1) (cwV 2 S.2.2.2.2 (gV tw_736 tw_737 tw_738 tw_1 tw_739) rfl rfl rfl (by decide +kernel) ⟨Nat.le_of_ble_eq_true rfl, Nat.le_of_ble_eq_true rfl⟩) (pre0_V hH hK hX hS hA (hH.recv hK (hP.at (r := 0) (j := 0) rfl) rfl)) rfl rfl hl.1 rfl (lv_room (Nat.le_of_ble_eq_true rfl)) dL_draw_5 ⟨Nat.le_of_ble_eq_true rfl, Nat.le_of_ble_eq_true rfl⟩) hS (af_le hH hS hA) (fun E ce q9 φ_2x H locs hx hH hS hce hcv hcl => ?_) (fun v_1 φ_2 H locs hw_v_1 hH hS => ?_)
  · skip
    have hor : drawX (sc 3) (sc 4) x z = 0 ∨ drawX (sc 3) (sc 4) x z = 3 := by unfold drawX; (repeat' split) <;> decide
    rcases hor with hv9 | hv9
    · exact absurd hv9 hx.2.2
    · have hE : E = "java/lang/IndexOutOfBoundsException" := by rw [hx.2.1, hv9]; rfl
      subst hE
      have hxp := hx.1
      refine vx_catch (own := RL) (name := "java/lang/IndexOutOfBoundsException") S.2.2.2.1 [] ⟨0, 10, 13, 25⟩ [] (by rw [ht9]; rfl) (fun z hz => by cases hz) (by decide) (by decide) (S.2.2.2.2 _ tw_588) (va_Nw.use (tabW_on tabIOOBE) (hX.tabs _ tabIOOBE)) hce hcv hcl ?_
      refine lv_astore (pc := 13) (lv' := [(4, .ref q9), (0, .ref (ad 0 0)), (1, .int (x)), (2, .int (z)), (3, .ref (ad 0 9))]) S.1 S.2.1 dL_draw_13 hl (by decide) rfl (fun ls hl => ?_)
      refine lv_iconst (pc := 15) (v := nI 1) S.1 S.2.1 dL_draw_15 (by decide) ?_
      rw [hxp] at hH
      exact hv_ret (pc := 16) (v := nI 1) S hr rfl hlocks hH hS (⟨by rw [hv9]; rfl, fun _ => hP, fun z => absurd (hv9.symm.trans z) (by decide)⟩) (Nat.le_of_ble_eq_true rfl) (Nat.le_of_ble_eq_true rfl) dL_draw_16
  · skip
    obtain ⟨e0, x1, z1, rfl, rfl, hxn, hzn, rfl, hp9⟩ := hw_v_1
    have hj1 := hI.j1
    have hre : refR (ar 3 x1) (ey 1 x1) (w 0 x1) (w 1 x1) (bW (ar 10 z1) (ar 11 z1)) = mhR (ar 3 x1) (fun j => ar 6 (6 * x1 + j) * 100000 / (ar 4 (6 * x1 + j) * ar 5 (6 * x1 + j))) (fun j => ar 4 (6 * x1 + j)) (bW (ar 10 z1) (ar 11 z1)) := ref_eq (fun i hi => ⟨hI.wp hxn hi, ((hI.j5 x1 hxn).2.1 i hi).1, by show ar 6 (6 * x1 + i) * 100000 / (ar 4 (6 * x1 + i) * ar 5 (6 * x1 + i)) = _; obtain ⟨q4, q5, q6⟩ := (hI.j5 x1 hxn).2.1 i hi; rw [q4, q5, q6]⟩)
    rw [hre] at hp9 ⊢
    by_cases hr0 : mhR (ar 3 x1) (fun j => ar 6 (6 * x1 + j) * 100000 / (ar 4 (6 * x1 + j) * ar 5 (6 * x1 + j))) (fun j => ar 4 (6 * x1 + j)) (bW (ar 10 z1) (ar 11 z1)) = 0
    · skip
      rw [if_pos hr0] at hp9
      have hP2 : PIC (yC cA ga (va_up sc 7 (0)) (va_up (va_up ar 4 (pfy (ar 4) (6 * x1) (bW (ar 10 z1) (ar 11 z1)) 6)) 8 (va_up (ar 8) x1 1)) (va_up w 0 (va_up (w 0) x1 (pfx (bW (ar 10 z1) (ar 11 z1)) (w 0 x1) 6))) (va_up ey 2 (va_up (ey 2) x1 (z1 + 1))) o ad) ad φ_2 := by rw [hp9]; exact yp_draw hP x1 z1 _ _ hxn hzn
      refine lv_i2l (pc := 8) (v := (nI (mhR (ar 3 x1) (fun j => ar 6 (6 * x1 + j) * 100000 / (ar 4 (6 * x1 + j) * ar 5 (6 * x1 + j))) (fun j => ar 4 (6 * x1 + j)) (bW (ar 10 z1) (ar 11 z1)))).toInt64) S.1 S.2.1 dL_draw_8 rfl ?_
      refine hv_last (pc := 9) S hK hH hS 3 (hP2.at (r := 0) (j := 9) rfl) rfl (vp_in_nI (by decide) (by decide)) dL_draw_9 (fun H locs hH hS => ?_)
      replace hH := nup (e := .inl (cA 3, 1, .inr (.inl (vp_updL o (nI 0).toNatClampNeg ((nI (mhR (ar 3 x1) (fun j => ar 6 (6 * x1 + j) * 100000 / (ar 4 (6 * x1 + j) * ar 5 (6 * x1 + j))) (fun j => ar 4 (6 * x1 + j)) (bW (ar 10 z1) (ar 11 z1)))).toInt64))))) hH
      obtain ⟨φ_3, hφ_3, fa_φ_3, fr_φ_3, hH⟩ := hH
      refine lv_goto (pc := 10) (tgt := 17) S.1 S.2.1 dL_draw_10 (by decide) ?_
      refine lv_iconst (pc := 17) (v := nI 0) S.1 S.2.1 dL_draw_17 (by decide) ?_
      exact hv_ret (pc := 18) (v := nI 0) S hr rfl hlocks hH hS (⟨by rw [e0]; rfl, fun z => absurd e0 z, fun _ => ⟨x1, z1, rfl, rfl, by omega, by omega, fun z => absurd hr0 z, fun _ => ⟨va_up w 0 (va_up (w 0) x1 (pfx (bW (ar 10 z1) (ar 11 z1)) (w 0 x1) 6)), va_up ey 2 (va_up (ey 2) x1 (z1 + 1)), _, ad, updL0 _ _, rfl, rfl, by rw [hφ_3]; exact yp_out hP2 _, hI.draw hxn hzn⟩⟩⟩) (Nat.le_of_ble_eq_true rfl) (Nat.le_of_ble_eq_true rfl) dL_draw_18
    · skip
      rw [if_neg hr0] at hp9
      have hP2 : PIC (yC cA ga (va_up sc 7 (0)) ar w ey o ad) ad φ_2 := by rw [hp9]; exact yp_same hP 0
      refine lv_i2l (pc := 8) (v := (nI (mhR (ar 3 x1) (fun j => ar 6 (6 * x1 + j) * 100000 / (ar 4 (6 * x1 + j) * ar 5 (6 * x1 + j))) (fun j => ar 4 (6 * x1 + j)) (bW (ar 10 z1) (ar 11 z1)))).toInt64) S.1 S.2.1 dL_draw_8 rfl ?_
      refine hv_last (pc := 9) S hK hH hS 3 (hP2.at (r := 0) (j := 9) rfl) rfl (vp_in_nI (by decide) (by decide)) dL_draw_9 (fun H locs hH hS => ?_)
      replace hH := nup (e := .inl (cA 3, 1, .inr (.inl (vp_updL o (nI 0).toNatClampNeg ((nI (mhR (ar 3 x1) (fun j => ar 6 (6 * x1 + j) * 100000 / (ar 4 (6 * x1 + j) * ar 5 (6 * x1 + j))) (fun j => ar 4 (6 * x1 + j)) (bW (ar 10 z1) (ar 11 z1)))).toInt64))))) hH
      obtain ⟨φ_4, hφ_4, fa_φ_4, fr_φ_4, hH⟩ := hH
      refine lv_goto (pc := 10) (tgt := 17) S.1 S.2.1 dL_draw_10 (by decide) ?_
      refine lv_iconst (pc := 17) (v := nI 0) S.1 S.2.1 dL_draw_17 (by decide) ?_
      exact hv_ret (pc := 18) (v := nI 0) S hr rfl hlocks hH hS (⟨by rw [e0]; rfl, fun z => absurd e0 z, fun _ => ⟨x1, z1, rfl, rfl, by omega, by omega, fun _ => ⟨w, ey, _, ad, updL0 _ _, rfl, rfl, by rw [hφ_4]; exact yp_out hP2 _, hI.mono 0⟩, fun z => absurd z hr0⟩⟩) (Nat.le_of_ble_eq_true rfl) (Nat.le_of_ble_eq_true rfl) dL_draw_18

set_option maxHeartbeats 4000000 in
set_option maxRecDepth 100000 in
/-- the law's trim -/
theorem lw_trim (l : Launch) (hfl : l.stackTraces = false) (D : va_G) (cA : Nat → ClassId) (ga : Nat → Nat → Nat) (φ : hpM) (sz : Nat) (k9 : Nat) (sc : Nat → Nat) (ar : Nat → Nat → Nat) (w : Nat → Nat → Nat → Nat) (ey : Nat → Nat → Nat) (o : Nat → Int64) (ad : Nat → Nat → Nat) (x : Int32) (hP : PIC (yC cA ga sc ar w ey o ad) ad φ) (hI : INV k9 sc ar w ey) (h512 : k9 ≤ 512) : hW l yL_trim cL_trim 4 (some .int) [(0, 16, 19, 25), (0, 16, 22, 15)] { frames := 15, cells := 3, slots := 18, locals := 620 } [.ref (ad 0 0), .int (x), .ref (ad 0 9)] D cA ga φ sz (fun v φ' => v = some (.int (nI (mcd 9 2 1 (trimX (sc 3) (ar 9) x)))) ∧ (trimX (sc 3) (ar 9) x ≠ 0 → PIC (yC cA ga sc ar w ey o ad) ad φ') ∧ (trimX (sc 3) (ar 9) x = 0 → ∃ x1 : Nat, x = nI x1 ∧ x1 < 2 ^ 31 ∧ NXT cA ga (k9 + 1) (ad 0 0) (ad 0 9) (va_up (va_up (va_up sc 0 (0)) 1 (0)) 7 (0)) (va_up ar 9 (va_up (ar 9) x1 (trM (wkO 4 (sc 1) 3 0) (sc 6)))) (Int64.ofNat (trM (wkO 4 (sc 1) 3 0) (sc 6))) φ')) 3 18 := by
  refine hW.of (by decide) (Nat.le_of_ble_eq_true rfl) rfl ?_
  intro p e s m args below meth c ls H locs S hr hlocks ht9 hN3 hsz hHz hH hK hX hS hA hl
  refine lv_aload_n (pc := 0) S.1 S.2.1 dL_trim_0 rfl (lv_at hl 2 rfl) ?_
  refine lv_iconst (pc := 1) (v := nI 0) S.1 S.2.1 dL_trim_1 (by decide) ?_
  refine lv_aload_n (pc := 2) S.1 S.2.1 dL_trim_2 rfl (lv_at hl 0 rfl) ?_
  refine lv_iload_n (pc := 3) S.1 S.2.1 dL_trim_3 rfl (lv_at hl 1 rfl) ?_
  refine hv_callX (pc := 4) (vx_runV (As := [.int (x)]) (rest := [.int (nI 0), .ref (ad 0 9)]) S (c_trim l hfl D cA ga φ H.size (ad 0 0) (ad 0 1) (ad 0 3) (ad 0 4) (ad 0 5) (ad 0 6) (ad 0 7) (sc 2) (sc 3) (sc 5) (sc 4) (sc 6) (ad 0 2) (ey 3 0) (sc 0) (ey 0) (ad 2) (ad 3) (ad 4) (ar 3) (ey 1) (ar 7) (ar 9) (ad 6) (ey 2) (w 0) (w 1) x (hP.at (r := 0) (j := 0) rfl) (hP.at (r := 0) (j := 1) rfl) (hP.at (r := 0) (j := 2) rfl) (hP.at (r := 0) (j := 4) rfl) hP.cn hI.hcb hI.j1.2.1 hI.j0.1 hI.j0.g (by have := hI.j9.1; omega)) (cwV 1 S.2.2.2.2 (gV tw_779 tw_780 tw_781 tw_1 tw_782) rfl rfl rfl (by decide +kernel) ⟨Nat.le_of_ble_eq_true rfl, Nat.le_of_ble_eq_true rfl⟩) (pre0_V hH hK hX hS hA (hH.recv hK (hP.at (r := 0) (j := 0) rfl) rfl)) rfl rfl hl.1 rfl (lv_room (Nat.le_of_ble_eq_true rfl)) dL_trim_4 ⟨Nat.le_of_ble_eq_true rfl, Nat.le_of_ble_eq_true rfl⟩) hS (af_le hH hS hA) (fun E ce q9 φ_2x H locs hx hH hS hce hcv hcl => ?_) (fun v_1 φ_2 H locs hw_v_1 hH hS => ?_)
  · skip
    have hor : trimX (sc 3) (ar 9) x = 0 ∨ trimX (sc 3) (ar 9) x = 2 ∨ trimX (sc 3) (ar 9) x = 3 := by unfold trimX; (repeat' split) <;> decide
    rcases hor with hv9 | hv9 | hv9
    · exact absurd hv9 hx.2.2
    · have hE : E = "java/lang/IllegalStateException" := by rw [hx.2.1, hv9]; rfl
      subst hE
      have hxp := hx.1
      refine vx_catch (own := RL) (name := "java/lang/IllegalStateException") S.2.2.2.1 [⟨0, 16, 19, 25⟩] ⟨0, 16, 22, 15⟩ [] (by rw [ht9]; rfl) (fun z hz => by obtain rfl := List.mem_singleton.mp hz; exact Or.inr ⟨by decide, _, S.2.2.2.2 _ tw_588, hN3.2.2⟩) (by decide) (by decide) (S.2.2.2.2 _ tw_128) (va_Nw.use (tabW_on tabISE) (hX.tabs _ tabISE)) hce hcv hcl ?_
      refine lv_astore_n (pc := 22) (lv' := [(3, .ref q9), (0, .ref (ad 0 0)), (1, .int (x)), (2, .ref (ad 0 9))]) S.1 S.2.1 dL_trim_22 rfl hl (by decide) rfl (fun ls hl => ?_)
      refine lv_iconst (pc := 23) (v := nI 2) S.1 S.2.1 dL_trim_23 (by decide) ?_
      rw [hxp] at hH
      exact hv_ret (pc := 24) (v := nI 2) S hr rfl hlocks hH hS (⟨by rw [hv9]; rfl, fun _ => hP, fun z => absurd (hv9.symm.trans z) (by decide)⟩) (Nat.le_of_ble_eq_true rfl) (Nat.le_of_ble_eq_true rfl) dL_trim_24
    · have hE : E = "java/lang/IndexOutOfBoundsException" := by rw [hx.2.1, hv9]; rfl
      subst hE
      have hxp := hx.1
      refine vx_catch (own := RL) (name := "java/lang/IndexOutOfBoundsException") S.2.2.2.1 [] ⟨0, 16, 19, 25⟩ [⟨0, 16, 22, 15⟩] (by rw [ht9]; rfl) (fun z hz => by cases hz) (by decide) (by decide) (S.2.2.2.2 _ tw_588) (va_Nw.use (tabW_on tabIOOBE) (hX.tabs _ tabIOOBE)) hce hcv hcl ?_
      refine lv_astore_n (pc := 19) (lv' := [(3, .ref q9), (0, .ref (ad 0 0)), (1, .int (x)), (2, .ref (ad 0 9))]) S.1 S.2.1 dL_trim_19 rfl hl (by decide) rfl (fun ls hl => ?_)
      refine lv_iconst (pc := 20) (v := nI 1) S.1 S.2.1 dL_trim_20 (by decide) ?_
      rw [hxp] at hH
      exact hv_ret (pc := 21) (v := nI 1) S hr rfl hlocks hH hS (⟨by rw [hv9]; rfl, fun _ => hP, fun z => absurd (hv9.symm.trans z) (by decide)⟩) (Nat.le_of_ble_eq_true rfl) (Nat.le_of_ble_eq_true rfl) dL_trim_21
  · skip
    obtain ⟨e0, x1, rfl, hxn, htr0, rfl, hp9⟩ := hw_v_1
    have hj1 := hI.j1
    have htm : trR (fiF 4 (ey 0) (sc 0) 3 0) (sc 6) = trM (wkO 4 (sc 1) 3 0) (sc 6) := by rw [hI.j0.fi 4 3 0 (by decide)]; exact tr_eq (fun f hf => by have := wkO_lt 4 (sc 1) 3 0 f hf; omega) (by have := hI.j9.1; omega)
    rw [htm] at hp9 ⊢
    have hP2 : PIC (yC cA ga (va_up (va_up (va_up sc 0 (0)) 1 (0)) 7 (0)) (va_up ar 9 (va_up (ar 9) x1 (trM (wkO 4 (sc 1) 3 0) (sc 6)))) w (va_up ey 3 (va_up (ey 3) 0 (if sc 0 = 0 then ey 3 0 else 1))) o ad) ad φ_2 := by rw [hp9]; exact yp_trim hP x1 _ hxn
    have hle9 := trM_le (wkO 4 (sc 1) 3 0) (sc 6)
    refine hv_if_eq (pc := 7) (tgt := 14) (a := trM (wkO 4 (sc 1) 3 0) (sc 6)) S.1 S.2.1 (by omega) dL_trim_7 (by decide) (fun c_3 => ?_) (fun c_3 => ?_)
    · skip
      refine lv_lconst (pc := 14) (v := Int64.ofNat 0) S.1 S.2.1 dL_trim_14 rfl ?_
      have hz9 : trM (wkO 4 (sc 1) 3 0) (sc 6) = 0 := c_3
      refine hv_last (pc := 15) S hK hH hS 3 (hP2.at (r := 0) (j := 9) rfl) rfl (vp_in_nI (by decide) (by decide)) dL_trim_15 (fun H locs hH hS => ?_)
      replace hH := nup (e := .inl (cA 3, 1, .inr (.inl (vp_updL o (nI 0).toNatClampNeg (Int64.ofNat 0))))) hH
      obtain ⟨φ_4, hφ_4, fa_φ_4, fr_φ_4, hH⟩ := hH
      refine lv_goto (pc := 16) (tgt := 25) S.1 S.2.1 dL_trim_16 (by decide) ?_
      refine lv_iconst (pc := 25) (v := nI 0) S.1 S.2.1 dL_trim_25 (by decide) ?_
      exact hv_ret (pc := 26) (v := nI 0) S hr rfl hlocks hH hS (⟨by rw [e0]; rfl, fun z => absurd e0 z, fun _ => ⟨x1, rfl, by omega, ⟨w, va_up ey 3 (va_up (ey 3) 0 (if sc 0 = 0 then ey 3 0 else 1)), _, ad, (updL0 _ _).trans (by rw [hz9]), rfl, rfl, by rw [hφ_4]; exact yp_out hP2 _, hI.trim _ hxn (trM_le _ _)⟩⟩⟩) (Nat.le_of_ble_eq_true rfl) (Nat.le_of_ble_eq_true rfl) dL_trim_26
    · skip
      refine lv_lconst (pc := 10) (v := Int64.ofNat 1) S.1 S.2.1 dL_trim_10 rfl ?_
      refine lv_goto (pc := 11) (tgt := 15) S.1 S.2.1 dL_trim_11 (by decide) ?_
      have hz9 : trM (wkO 4 (sc 1) 3 0) (sc 6) = 1 := by omega
      refine hv_last (pc := 15) S hK hH hS 3 (hP2.at (r := 0) (j := 9) rfl) rfl (vp_in_nI (by decide) (by decide)) dL_trim_15 (fun H locs hH hS => ?_)
      replace hH := nup (e := .inl (cA 3, 1, .inr (.inl (vp_updL o (nI 0).toNatClampNeg (Int64.ofNat 1))))) hH
      obtain ⟨φ_5, hφ_5, fa_φ_5, fr_φ_5, hH⟩ := hH
      refine lv_goto (pc := 16) (tgt := 25) S.1 S.2.1 dL_trim_16 (by decide) ?_
      refine lv_iconst (pc := 25) (v := nI 0) S.1 S.2.1 dL_trim_25 (by decide) ?_
      exact hv_ret (pc := 26) (v := nI 0) S hr rfl hlocks hH hS (⟨by rw [e0]; rfl, fun z => absurd e0 z, fun _ => ⟨x1, rfl, by omega, ⟨w, va_up ey 3 (va_up (ey 3) 0 (if sc 0 = 0 then ey 3 0 else 1)), _, ad, (updL0 _ _).trans (by rw [hz9]), rfl, rfl, by rw [hφ_5]; exact yp_out hP2 _, hI.trim _ hxn (trM_le _ _)⟩⟩⟩) (Nat.le_of_ble_eq_true rfl) (Nat.le_of_ble_eq_true rfl) dL_trim_26

set_option maxHeartbeats 4000000 in
set_option maxRecDepth 100000 in
/-- the law's pass -/
theorem lw_pass (l : Launch) (hfl : l.stackTraces = false) (D : va_G) (cA : Nat → ClassId) (ga : Nat → Nat → Nat) (φ : hpM) (sz : Nat) (k9 : Nat) (sc : Nat → Nat) (ar : Nat → Nat → Nat) (w : Nat → Nat → Nat → Nat) (ey : Nat → Nat → Nat) (o : Nat → Int64) (ad : Nat → Nat → Nat) (x : Int32) (hP : PIC (yC cA ga sc ar w ey o ad) ad φ) (hI : INV k9 sc ar w ey) (h512 : k9 ≤ 512) : hW l yL_pass cL_pass 4 (some .int) [(0, 9, 12, 13)] { frames := 10, cells := 1, slots := 6, locals := 320 } [.ref (ad 0 0), .int (x), .ref (ad 0 9)] D cA ga φ sz (fun v φ' => v = some (.int (nI (mcd 1 9 9 (passX x)))) ∧ (passX x ≠ 0 → PIC (yC cA ga sc ar w ey o ad) ad φ') ∧ (passX x = 0 → ∃ x1 : Nat, x = nI x1 ∧ x1 < 2 ^ 31 ∧ NXT cA ga (k9 + 1) (ad 0 0) (ad 0 9) (va_up (va_up sc 6 (sc 6 + x1)) 7 (0)) (va_up ar 12 (pfx zr (ar 12) 6)) ((nI ((sc 6 + x1) / 10)).toInt64) φ')) 1 6 := by
  refine hW.of (by decide) (Nat.le_of_ble_eq_true rfl) rfl ?_
  intro p e s m args below meth c ls H locs S hr hlocks ht9 hN3 hsz hHz hH hK hX hS hA hl
  refine lv_aload_n (pc := 0) S.1 S.2.1 dL_pass_0 rfl (lv_at hl 2 rfl) ?_
  refine lv_iconst (pc := 1) (v := nI 0) S.1 S.2.1 dL_pass_1 (by decide) ?_
  refine lv_aload_n (pc := 2) S.1 S.2.1 dL_pass_2 rfl (lv_at hl 0 rfl) ?_
  refine lv_iload_n (pc := 3) S.1 S.2.1 dL_pass_3 rfl (lv_at hl 1 rfl) ?_
  refine hv_callX (pc := 4) (vx_runV (As := [.int (x)]) (rest := [.int (nI 0), .ref (ad 0 9)]) S (c_pass l hfl D cA ga φ H.size (ad 0 0) (ad 0 1) (ad 0 3) (ad 0 4) (ad 0 5) (ad 0 6) (ad 0 7) (sc 2) (sc 3) (sc 5) (sc 4) (sc 6) (ad 5) (ar 12) (ar 13) x (hP.at (r := 0) (j := 0) rfl) (hP.at (r := 0) (j := 5) rfl) hP.ha hP.hai (by have := hI.j9.1; omega)) (cwV 1 S.2.2.2.2 (gV tw_802 tw_803 tw_804 tw_1 tw_805) rfl rfl rfl (by decide +kernel) ⟨Nat.le_of_ble_eq_true rfl, Nat.le_of_ble_eq_true rfl⟩) (pre0_V hH hK hX hS hA (hH.recv hK (hP.at (r := 0) (j := 0) rfl) rfl)) rfl rfl hl.1 rfl (lv_room (Nat.le_of_ble_eq_true rfl)) dL_pass_4 ⟨Nat.le_of_ble_eq_true rfl, Nat.le_of_ble_eq_true rfl⟩) hS (af_le hH hS hA) (fun E ce q9 φ_2x H locs hx hH hS hce hcv hcl => ?_) (fun v_1 φ_2 H locs hw_v_1 hH hS => ?_)
  · skip
    have hor : passX x = 0 ∨ passX x = 1 := by unfold passX; (repeat' split) <;> decide
    rcases hor with hv9 | hv9
    · exact absurd hv9 hx.2.2
    · have hE : E = "java/lang/IllegalArgumentException" := by rw [hx.2.1, hv9]; rfl
      subst hE
      have hxp := hx.1
      refine vx_catch (own := RL) (name := "java/lang/IllegalArgumentException") S.2.2.2.1 [] ⟨0, 9, 12, 13⟩ [] (by rw [ht9]; rfl) (fun z hz => by cases hz) (by decide) (by decide) (S.2.2.2.2 _ tw_127) (va_Nw.use (tabW_on tabIAE) (hX.tabs _ tabIAE)) hce hcv hcl ?_
      refine lv_astore_n (pc := 12) (lv' := [(3, .ref q9), (0, .ref (ad 0 0)), (1, .int (x)), (2, .ref (ad 0 9))]) S.1 S.2.1 dL_pass_12 rfl hl (by decide) rfl (fun ls hl => ?_)
      refine lv_iconst (pc := 13) (v := nI 1) S.1 S.2.1 dL_pass_13 (by decide) ?_
      rw [hxp] at hH
      exact hv_ret (pc := 14) (v := nI 1) S hr rfl hlocks hH hS (⟨by rw [hv9]; rfl, fun _ => hP, fun z => absurd (hv9.symm.trans z) (by decide)⟩) (Nat.le_of_ble_eq_true rfl) (Nat.le_of_ble_eq_true rfl) dL_pass_14
  · skip
    obtain ⟨e0, x1, rfl, hxlo, hxhi, rfl, hp9⟩ := hw_v_1
    have hP2 : PIC (yC cA ga (va_up (va_up sc 6 (sc 6 + x1)) 7 (0)) (va_up ar 12 (pfx zr (ar 12) 6)) w ey o ad) ad φ_2 := by rw [hp9]; exact yp_pass hP x1 hI.j1.2.2.2
    refine lv_i2l (pc := 7) (v := (nI ((sc 6 + x1) / 10)).toInt64) S.1 S.2.1 dL_pass_7 rfl ?_
    refine hv_last (pc := 8) S hK hH hS 3 (hP2.at (r := 0) (j := 9) rfl) rfl (vp_in_nI (by decide) (by decide)) dL_pass_8 (fun H locs hH hS => ?_)
    replace hH := nup (e := .inl (cA 3, 1, .inr (.inl (vp_updL o (nI 0).toNatClampNeg ((nI ((sc 6 + x1) / 10)).toInt64))))) hH
    obtain ⟨φ_3, hφ_3, fa_φ_3, fr_φ_3, hH⟩ := hH
    refine lv_goto (pc := 9) (tgt := 15) S.1 S.2.1 dL_pass_9 (by decide) ?_
    refine lv_iconst (pc := 15) (v := nI 0) S.1 S.2.1 dL_pass_15 (by decide) ?_
    exact hv_ret (pc := 16) (v := nI 0) S hr rfl hlocks hH hS (⟨by rw [e0]; rfl, fun z => absurd e0 z, fun _ => ⟨x1, rfl, by omega, ⟨w, ey, _, ad, updL0 _ _, rfl, rfl, by rw [hφ_3]; exact yp_out hP2 _, hI.pass hxhi⟩⟩⟩) (Nat.le_of_ble_eq_true rfl) (Nat.le_of_ble_eq_true rfl) dL_pass_16

set_option maxHeartbeats 4000000 in
set_option maxRecDepth 100000 in
/-- the law's about -/
theorem lw_about (l : Launch) (hfl : l.stackTraces = false) (D : va_G) (cA : Nat → ClassId) (ga : Nat → Nat → Nat) (φ : hpM) (sz : Nat) (k9 : Nat) (sc : Nat → Nat) (ar : Nat → Nat → Nat) (w : Nat → Nat → Nat → Nat) (ey : Nat → Nat → Nat) (o : Nat → Int64) (ad : Nat → Nat → Nat) (x : Int32) (z : Int32) (t : Int32) (hP : PIC (yC cA ga sc ar w ey o ad) ad φ) (hI : INV k9 sc ar w ey) (h512 : k9 ≤ 512) : hW l yL_about cL_about 6 (some .int) [(0, 12, 15, 25), (0, 12, 19, 13)] { frames := 11, cells := 5, slots := 30, locals := 380 } [.ref (ad 0 0), .int (x), .int (z), .int (t), .ref (ad 0 9)] D cA ga φ sz (fun v φ' => v = some (.int (nI (mcd 2 9 1 (aboutX (sc 3) x z t)))) ∧ (aboutX (sc 3) x z t ≠ 0 → PIC (yC cA ga sc ar w ey o ad) ad φ') ∧ (aboutX (sc 3) x z t = 0 → ∃ x1 z1 t1 : Nat, x = nI x1 ∧ z = nI z1 ∧ t = nI t1 ∧ x1 < 2 ^ 31 ∧ z1 < 2 ^ 31 ∧ t1 < 2 ^ 31 ∧ NXT cA ga (k9 + 1) (ad 0 0) (ad 0 9) (va_up sc 7 (0)) (ar) ((nI (abR (ar 4 (6 * x1 + z1)) (ar 5 (6 * x1 + z1)) (ar 6 (6 * x1 + z1)) t1)).toInt64) φ')) 5 30 := by
  refine hW.of (by decide) (Nat.le_of_ble_eq_true rfl) rfl ?_
  intro p e s m args below meth c ls H locs S hr hlocks ht9 hN3 hsz hHz hH hK hX hS hA hl
  refine lv_aload (pc := 0) S.1 S.2.1 dL_about_0 (lv_at hl 4 rfl) ?_
  refine lv_iconst (pc := 2) (v := nI 0) S.1 S.2.1 dL_about_2 (by decide) ?_
  refine lv_aload_n (pc := 3) S.1 S.2.1 dL_about_3 rfl (lv_at hl 0 rfl) ?_
  refine lv_iload_n (pc := 4) S.1 S.2.1 dL_about_4 rfl (lv_at hl 1 rfl) ?_
  refine lv_iload_n (pc := 5) S.1 S.2.1 dL_about_5 rfl (lv_at hl 2 rfl) ?_
  refine lv_iload_n (pc := 6) S.1 S.2.1 dL_about_6 rfl (lv_at hl 3 rfl) ?_
  refine hv_callX (pc := 7) (vx_runV (As := [.int (x), .int (z), .int (t)]) (rest := [.int (nI 0), .ref (ad 0 9)]) S (c_about l hfl D cA ga φ H.size (ad 0 0) (ad 0 1) (ad 0 3) (ad 0 4) (ad 0 5) (ad 0 6) (ad 0 7) (sc 2) (sc 3) (sc 5) (sc 4) (sc 6) (ad 2) (ad 3) (ad 4) (ar 3) (ey 1) (ar 7) (ar 9) (ad 6) (ey 2) (w 0) (w 1) x z t (hP.at (r := 0) (j := 0) rfl) (hP.at (r := 0) (j := 4) rfl) hP.cn hI.hcb hI.j1.2.1) (cwV 3 S.2.2.2.2 (gV tw_809 tw_810 tw_811 tw_1 tw_812) rfl rfl rfl (by decide +kernel) ⟨Nat.le_of_ble_eq_true rfl, Nat.le_of_ble_eq_true rfl⟩) (pre0_V hH hK hX hS hA (hH.recv hK (hP.at (r := 0) (j := 0) rfl) rfl)) rfl rfl hl.1 rfl (lv_room (Nat.le_of_ble_eq_true rfl)) dL_about_7 ⟨Nat.le_of_ble_eq_true rfl, Nat.le_of_ble_eq_true rfl⟩) hS (af_le hH hS hA) (fun E ce q9 φ_2x H locs hx hH hS hce hcv hcl => ?_) (fun v_1 φ_2 H locs hw_v_1 hH hS => ?_)
  · skip
    have hor : aboutX (sc 3) x z t = 0 ∨ aboutX (sc 3) x z t = 1 ∨ aboutX (sc 3) x z t = 3 := by unfold aboutX; (repeat' split) <;> decide
    rcases hor with hv9 | hv9 | hv9
    · exact absurd hv9 hx.2.2
    · have hE : E = "java/lang/IllegalArgumentException" := by rw [hx.2.1, hv9]; rfl
      subst hE
      have hxp := hx.1
      refine vx_catch (own := RL) (name := "java/lang/IllegalArgumentException") S.2.2.2.1 [⟨0, 12, 15, 25⟩] ⟨0, 12, 19, 13⟩ [] (by rw [ht9]; rfl) (fun z hz => by obtain rfl := List.mem_singleton.mp hz; exact Or.inr ⟨by decide, _, S.2.2.2.2 _ tw_588, hN3.2.1⟩) (by decide) (by decide) (S.2.2.2.2 _ tw_127) (va_Nw.use (tabW_on tabIAE) (hX.tabs _ tabIAE)) hce hcv hcl ?_
      refine lv_astore (pc := 19) (lv' := [(5, .ref q9), (0, .ref (ad 0 0)), (1, .int (x)), (2, .int (z)), (3, .int (t)), (4, .ref (ad 0 9))]) S.1 S.2.1 dL_about_19 hl (by decide) rfl (fun ls hl => ?_)
      refine lv_iconst (pc := 21) (v := nI 2) S.1 S.2.1 dL_about_21 (by decide) ?_
      rw [hxp] at hH
      exact hv_ret (pc := 22) (v := nI 2) S hr rfl hlocks hH hS (⟨by rw [hv9]; rfl, fun _ => hP, fun z => absurd (hv9.symm.trans z) (by decide)⟩) (Nat.le_of_ble_eq_true rfl) (Nat.le_of_ble_eq_true rfl) dL_about_22
    · have hE : E = "java/lang/IndexOutOfBoundsException" := by rw [hx.2.1, hv9]; rfl
      subst hE
      have hxp := hx.1
      refine vx_catch (own := RL) (name := "java/lang/IndexOutOfBoundsException") S.2.2.2.1 [] ⟨0, 12, 15, 25⟩ [⟨0, 12, 19, 13⟩] (by rw [ht9]; rfl) (fun z hz => by cases hz) (by decide) (by decide) (S.2.2.2.2 _ tw_588) (va_Nw.use (tabW_on tabIOOBE) (hX.tabs _ tabIOOBE)) hce hcv hcl ?_
      refine lv_astore (pc := 15) (lv' := [(5, .ref q9), (0, .ref (ad 0 0)), (1, .int (x)), (2, .int (z)), (3, .int (t)), (4, .ref (ad 0 9))]) S.1 S.2.1 dL_about_15 hl (by decide) rfl (fun ls hl => ?_)
      refine lv_iconst (pc := 17) (v := nI 1) S.1 S.2.1 dL_about_17 (by decide) ?_
      rw [hxp] at hH
      exact hv_ret (pc := 18) (v := nI 1) S hr rfl hlocks hH hS (⟨by rw [hv9]; rfl, fun _ => hP, fun z => absurd (hv9.symm.trans z) (by decide)⟩) (Nat.le_of_ble_eq_true rfl) (Nat.le_of_ble_eq_true rfl) dL_about_18
  · skip
    obtain ⟨e0, x1, z1, t1, rfl, rfl, rfl, hxn, hzn, ht3, rfl, hp9⟩ := hw_v_1
    have hj1 := hI.j1
    obtain ⟨q4, q5, q6⟩ := (hI.j5 x1 hxn).2.1 z1 hzn
    rw [show abR (w 0 x1 z1) (ey 1 x1) (w 1 x1 z1) t1 = abR (ar 4 (6 * x1 + z1)) (ar 5 (6 * x1 + z1)) (ar 6 (6 * x1 + z1)) t1 by rw [q4, q5, q6]]
    have hP2 : PIC (yC cA ga (va_up sc 7 (0)) ar w ey o ad) ad φ_2 := by rw [hp9]; exact yp_same hP 0
    refine lv_i2l (pc := 10) (v := (nI (abR (ar 4 (6 * x1 + z1)) (ar 5 (6 * x1 + z1)) (ar 6 (6 * x1 + z1)) t1)).toInt64) S.1 S.2.1 dL_about_10 rfl ?_
    refine hv_last (pc := 11) S hK hH hS 3 (hP2.at (r := 0) (j := 9) rfl) rfl (vp_in_nI (by decide) (by decide)) dL_about_11 (fun H locs hH hS => ?_)
    replace hH := nup (e := .inl (cA 3, 1, .inr (.inl (vp_updL o (nI 0).toNatClampNeg ((nI (abR (ar 4 (6 * x1 + z1)) (ar 5 (6 * x1 + z1)) (ar 6 (6 * x1 + z1)) t1)).toInt64))))) hH
    obtain ⟨φ_3, hφ_3, fa_φ_3, fr_φ_3, hH⟩ := hH
    refine lv_goto (pc := 12) (tgt := 23) S.1 S.2.1 dL_about_12 (by decide) ?_
    refine lv_iconst (pc := 23) (v := nI 0) S.1 S.2.1 dL_about_23 (by decide) ?_
    exact hv_ret (pc := 24) (v := nI 0) S hr rfl hlocks hH hS (⟨by rw [e0]; rfl, fun z => absurd e0 z, fun _ => ⟨x1, z1, t1, rfl, rfl, rfl, by omega, by omega, by omega, ⟨w, ey, _, ad, updL0 _ _, rfl, rfl, by rw [hφ_3]; exact yp_out hP2 _, hI.mono 0⟩⟩⟩) (Nat.le_of_ble_eq_true rfl) (Nat.le_of_ble_eq_true rfl) dL_about_24

set_option maxHeartbeats 4000000 in
set_option maxRecDepth 100000 in
/-- the law's widthAnew -/
theorem lw_widthAnew (l : Launch) (hfl : l.stackTraces = false) (D : va_G) (cA : Nat → ClassId) (ga : Nat → Nat → Nat) (φ : hpM) (sz : Nat) (k9 : Nat) (sc : Nat → Nat) (ar : Nat → Nat → Nat) (w : Nat → Nat → Nat → Nat) (ey : Nat → Nat → Nat) (o : Nat → Int64) (ad : Nat → Nat → Nat) (x : Int32) (z : Int32) (hP : PIC (yC cA ga sc ar w ey o ad) ad φ) (hI : INV k9 sc ar w ey) (h512 : k9 ≤ 512) : hW l yL_widthAnew cL_widthAnew 5 (some .int) [(0, 10, 13, 25)] { frames := 11, cells := 4, slots := 24, locals := 380 } [.ref (ad 0 0), .int (x), .int (z), .ref (ad 0 9)] D cA ga φ sz (fun v φ' => v = some (.int (nI (mcd 9 9 1 (anewX (sc 3) x z)))) ∧ (anewX (sc 3) x z ≠ 0 → PIC (yC cA ga sc ar w ey o ad) ad φ') ∧ (anewX (sc 3) x z = 0 → ∃ x1 z1 : Nat, x = nI x1 ∧ z = nI z1 ∧ x1 < 2 ^ 31 ∧ z1 < 2 ^ 31 ∧ NXT cA ga (k9 + 1) (ad 0 0) (ad 0 9) (va_up sc 7 (0)) (ar) ((nI (ar 4 (6 * x1 + z1))).toInt64) φ')) 4 24 := by
  refine hW.of (by decide) (Nat.le_of_ble_eq_true rfl) rfl ?_
  intro p e s m args below meth c ls H locs S hr hlocks ht9 hN3 hsz hHz hH hK hX hS hA hl
  refine lv_aload_n (pc := 0) S.1 S.2.1 dL_widthAnew_0 rfl (lv_at hl 3 rfl) ?_
  refine lv_iconst (pc := 1) (v := nI 0) S.1 S.2.1 dL_widthAnew_1 (by decide) ?_
  refine lv_aload_n (pc := 2) S.1 S.2.1 dL_widthAnew_2 rfl (lv_at hl 0 rfl) ?_
  refine lv_iload_n (pc := 3) S.1 S.2.1 dL_widthAnew_3 rfl (lv_at hl 1 rfl) ?_
  refine lv_iload_n (pc := 4) S.1 S.2.1 dL_widthAnew_4 rfl (lv_at hl 2 rfl) ?_
  refine hv_callX (pc := 5) (vx_runV (As := [.int (x), .int (z)]) (rest := [.int (nI 0), .ref (ad 0 9)]) S (c_widthAnew l hfl D cA ga φ H.size (ad 0 0) (ad 0 1) (ad 0 3) (ad 0 4) (ad 0 5) (ad 0 6) (ad 0 7) (sc 2) (sc 3) (sc 5) (sc 4) (sc 6) (ad 2) (ad 3) (ad 4) (ar 3) (ey 1) (ar 7) (ar 9) (ad 6) (ey 2) (w 0) (w 1) (ar 10) (ar 11) x z (hP.at (r := 0) (j := 0) rfl) (hP.at (r := 0) (j := 4) rfl) hP.cn hI.hcb hI.j1.2.1 hP.bl (fun i hi => ⟨(hI.j6 i hi).1.2, (hI.j6 i hi).2.2⟩) hI.hdr) (cwV 2 S.2.2.2.2 (gV tw_818 tw_819 tw_820 tw_1 tw_821) rfl rfl rfl (by decide +kernel) ⟨Nat.le_of_ble_eq_true rfl, Nat.le_of_ble_eq_true rfl⟩) (pre0_V hH hK hX hS hA (hH.recv hK (hP.at (r := 0) (j := 0) rfl) rfl)) rfl rfl hl.1 rfl (lv_room (Nat.le_of_ble_eq_true rfl)) dL_widthAnew_5 ⟨Nat.le_of_ble_eq_true rfl, Nat.le_of_ble_eq_true rfl⟩) hS (af_le hH hS hA) (fun E ce q9 φ_2x H locs hx hH hS hce hcv hcl => ?_) (fun v_1 φ_2 H locs hw_v_1 hH hS => ?_)
  · skip
    have hor : anewX (sc 3) x z = 0 ∨ anewX (sc 3) x z = 3 := by unfold anewX; (repeat' split) <;> decide
    rcases hor with hv9 | hv9
    · exact absurd hv9 hx.2.2
    · have hE : E = "java/lang/IndexOutOfBoundsException" := by rw [hx.2.1, hv9]; rfl
      subst hE
      have hxp := hx.1
      refine vx_catch (own := RL) (name := "java/lang/IndexOutOfBoundsException") S.2.2.2.1 [] ⟨0, 10, 13, 25⟩ [] (by rw [ht9]; rfl) (fun z hz => by cases hz) (by decide) (by decide) (S.2.2.2.2 _ tw_588) (va_Nw.use (tabW_on tabIOOBE) (hX.tabs _ tabIOOBE)) hce hcv hcl ?_
      refine lv_astore (pc := 13) (lv' := [(4, .ref q9), (0, .ref (ad 0 0)), (1, .int (x)), (2, .int (z)), (3, .ref (ad 0 9))]) S.1 S.2.1 dL_widthAnew_13 hl (by decide) rfl (fun ls hl => ?_)
      refine lv_iconst (pc := 15) (v := nI 1) S.1 S.2.1 dL_widthAnew_15 (by decide) ?_
      rw [hxp] at hH
      exact hv_ret (pc := 16) (v := nI 1) S hr rfl hlocks hH hS (⟨by rw [hv9]; rfl, fun _ => hP, fun z => absurd (hv9.symm.trans z) (by decide)⟩) (Nat.le_of_ble_eq_true rfl) (Nat.le_of_ble_eq_true rfl) dL_widthAnew_16
  · skip
    obtain ⟨e0, x1, z1, rfl, rfl, hxn, hzn, rfl, hp9⟩ := hw_v_1
    have hj1 := hI.j1
    obtain ⟨q4, q5, q6⟩ := (hI.j5 x1 hxn).2.1 z1 hzn
    have ha9 : (if ey 2 x1 = 0 then wS (ar 3 x1) (ar 7 x1) (1200 - 150 * z1) else bW (ar 10 (ey 2 x1 - 1)) (ar 11 (ey 2 x1 - 1)) z1) = ar 4 (6 * x1 + z1) := by rw [q4]; exact (Classical.em (ey 2 x1 = 0)).elim (fun z => by rw [if_pos z]; exact ((hI.j5 x1 hxn).2.2.2.2.1 z z1 hzn).symm) (fun z => by rw [if_neg z]; exact ((hI.j5 x1 hxn).2.2.2.2.2 z z1 hzn).symm)
    rw [ha9]
    have hP2 : PIC (yC cA ga (va_up sc 7 (0)) ar w ey o ad) ad φ_2 := by rw [hp9]; exact yp_same hP 0
    refine lv_i2l (pc := 8) (v := (nI (ar 4 (6 * x1 + z1))).toInt64) S.1 S.2.1 dL_widthAnew_8 rfl ?_
    refine hv_last (pc := 9) S hK hH hS 3 (hP2.at (r := 0) (j := 9) rfl) rfl (vp_in_nI (by decide) (by decide)) dL_widthAnew_9 (fun H locs hH hS => ?_)
    replace hH := nup (e := .inl (cA 3, 1, .inr (.inl (vp_updL o (nI 0).toNatClampNeg ((nI (ar 4 (6 * x1 + z1))).toInt64))))) hH
    obtain ⟨φ_3, hφ_3, fa_φ_3, fr_φ_3, hH⟩ := hH
    refine lv_goto (pc := 10) (tgt := 17) S.1 S.2.1 dL_widthAnew_10 (by decide) ?_
    refine lv_iconst (pc := 17) (v := nI 0) S.1 S.2.1 dL_widthAnew_17 (by decide) ?_
    exact hv_ret (pc := 18) (v := nI 0) S hr rfl hlocks hH hS (⟨by rw [e0]; rfl, fun z => absurd e0 z, fun _ => ⟨x1, z1, rfl, rfl, by omega, by omega, ⟨w, ey, _, ad, updL0 _ _, rfl, rfl, by rw [hφ_3]; exact yp_out hP2 _, hI.mono 0⟩⟩⟩) (Nat.le_of_ble_eq_true rfl) (Nat.le_of_ble_eq_true rfl) dL_widthAnew_18

set_option maxHeartbeats 4000000 in
set_option maxRecDepth 100000 in
/-- the law's brim -/
theorem lw_brim (l : Launch) (hfl : l.stackTraces = false) (D : va_G) (cA : Nat → ClassId) (ga : Nat → Nat → Nat) (φ : hpM) (sz : Nat) (k9 : Nat) (sc : Nat → Nat) (ar : Nat → Nat → Nat) (w : Nat → Nat → Nat → Nat) (ey : Nat → Nat → Nat) (o : Nat → Int64) (ad : Nat → Nat → Nat) (x : Int32) (z : Int32) (hP : PIC (yC cA ga sc ar w ey o ad) ad φ) (hI : INV k9 sc ar w ey) (h512 : k9 ≤ 512) : hW l yL_brim cL_brim 5 (some .int) [(0, 10, 13, 25), (0, 10, 17, 13)] { frames := 11, cells := 3, slots := 18, locals := 380 } [.ref (ad 0 0), .int (x), .int (z), .ref (ad 0 9)] D cA ga φ sz (fun v φ' => v = some (.int (nI (mcd 2 9 1 (brimX (sc 3) x z)))) ∧ (brimX (sc 3) x z ≠ 0 → PIC (yC cA ga sc ar w ey o ad) ad φ') ∧ (brimX (sc 3) x z = 0 → ∃ x1 z1 : Nat, x = nI x1 ∧ z = nI z1 ∧ x1 < 2 ^ 31 ∧ z1 < 2 ^ 31 ∧ NXT cA ga (k9 + 1) (ad 0 0) (ad 0 9) (va_up sc 7 (0)) (ar) ((nI (puF z1 (ar 4 (6 * x1))).toNat).toInt64) φ')) 3 18 := by
  refine hW.of (by decide) (Nat.le_of_ble_eq_true rfl) rfl ?_
  intro p e s m args below meth c ls H locs S hr hlocks ht9 hN3 hsz hHz hH hK hX hS hA hl
  refine lv_aload_n (pc := 0) S.1 S.2.1 dL_brim_0 rfl (lv_at hl 3 rfl) ?_
  refine lv_iconst (pc := 1) (v := nI 0) S.1 S.2.1 dL_brim_1 (by decide) ?_
  refine lv_aload_n (pc := 2) S.1 S.2.1 dL_brim_2 rfl (lv_at hl 0 rfl) ?_
  refine lv_iload_n (pc := 3) S.1 S.2.1 dL_brim_3 rfl (lv_at hl 1 rfl) ?_
  refine lv_iload_n (pc := 4) S.1 S.2.1 dL_brim_4 rfl (lv_at hl 2 rfl) ?_
  refine hv_callX (pc := 5) (vx_runV (As := [.int (x), .int (z)]) (rest := [.int (nI 0), .ref (ad 0 9)]) S (c_brim l hfl D cA ga φ H.size (ad 0 0) (ad 0 1) (ad 0 3) (ad 0 4) (ad 0 5) (ad 0 6) (ad 0 7) (sc 2) (sc 3) (sc 5) (sc 4) (sc 6) (ad 2) (ad 3) (ad 4) (ar 3) (ey 1) (ar 7) (ar 9) (ad 6) (ey 2) (w 0) (w 1) x z (hP.at (r := 0) (j := 0) rfl) (hP.at (r := 0) (j := 4) rfl) hP.cn hI.hcb hI.j1.2.1 (fun i hi => hI.wp hi (by decide))) (cwV 2 S.2.2.2.2 (gV tw_829 tw_830 tw_831 tw_1 tw_832) rfl rfl rfl (by decide +kernel) ⟨Nat.le_of_ble_eq_true rfl, Nat.le_of_ble_eq_true rfl⟩) (pre0_V hH hK hX hS hA (hH.recv hK (hP.at (r := 0) (j := 0) rfl) rfl)) rfl rfl hl.1 rfl (lv_room (Nat.le_of_ble_eq_true rfl)) dL_brim_5 ⟨Nat.le_of_ble_eq_true rfl, Nat.le_of_ble_eq_true rfl⟩) hS (af_le hH hS hA) (fun E ce q9 φ_2x H locs hx hH hS hce hcv hcl => ?_) (fun v_1 φ_2 H locs hw_v_1 hH hS => ?_)
  · skip
    have hor : brimX (sc 3) x z = 0 ∨ brimX (sc 3) x z = 1 ∨ brimX (sc 3) x z = 3 := by unfold brimX; (repeat' split) <;> decide
    rcases hor with hv9 | hv9 | hv9
    · exact absurd hv9 hx.2.2
    · have hE : E = "java/lang/IllegalArgumentException" := by rw [hx.2.1, hv9]; rfl
      subst hE
      have hxp := hx.1
      refine vx_catch (own := RL) (name := "java/lang/IllegalArgumentException") S.2.2.2.1 [⟨0, 10, 13, 25⟩] ⟨0, 10, 17, 13⟩ [] (by rw [ht9]; rfl) (fun z hz => by obtain rfl := List.mem_singleton.mp hz; exact Or.inr ⟨by decide, _, S.2.2.2.2 _ tw_588, hN3.2.1⟩) (by decide) (by decide) (S.2.2.2.2 _ tw_127) (va_Nw.use (tabW_on tabIAE) (hX.tabs _ tabIAE)) hce hcv hcl ?_
      refine lv_astore (pc := 17) (lv' := [(4, .ref q9), (0, .ref (ad 0 0)), (1, .int (x)), (2, .int (z)), (3, .ref (ad 0 9))]) S.1 S.2.1 dL_brim_17 hl (by decide) rfl (fun ls hl => ?_)
      refine lv_iconst (pc := 19) (v := nI 2) S.1 S.2.1 dL_brim_19 (by decide) ?_
      rw [hxp] at hH
      exact hv_ret (pc := 20) (v := nI 2) S hr rfl hlocks hH hS (⟨by rw [hv9]; rfl, fun _ => hP, fun z => absurd (hv9.symm.trans z) (by decide)⟩) (Nat.le_of_ble_eq_true rfl) (Nat.le_of_ble_eq_true rfl) dL_brim_20
    · have hE : E = "java/lang/IndexOutOfBoundsException" := by rw [hx.2.1, hv9]; rfl
      subst hE
      have hxp := hx.1
      refine vx_catch (own := RL) (name := "java/lang/IndexOutOfBoundsException") S.2.2.2.1 [] ⟨0, 10, 13, 25⟩ [⟨0, 10, 17, 13⟩] (by rw [ht9]; rfl) (fun z hz => by cases hz) (by decide) (by decide) (S.2.2.2.2 _ tw_588) (va_Nw.use (tabW_on tabIOOBE) (hX.tabs _ tabIOOBE)) hce hcv hcl ?_
      refine lv_astore (pc := 13) (lv' := [(4, .ref q9), (0, .ref (ad 0 0)), (1, .int (x)), (2, .int (z)), (3, .ref (ad 0 9))]) S.1 S.2.1 dL_brim_13 hl (by decide) rfl (fun ls hl => ?_)
      refine lv_iconst (pc := 15) (v := nI 1) S.1 S.2.1 dL_brim_15 (by decide) ?_
      rw [hxp] at hH
      exact hv_ret (pc := 16) (v := nI 1) S hr rfl hlocks hH hS (⟨by rw [hv9]; rfl, fun _ => hP, fun z => absurd (hv9.symm.trans z) (by decide)⟩) (Nat.le_of_ble_eq_true rfl) (Nat.le_of_ble_eq_true rfl) dL_brim_16
  · skip
    obtain ⟨e0, x1, z1, rfl, rfl, hxn, hzlo, hzhi, rfl, hp9⟩ := hw_v_1
    have hj1 := hI.j1
    have hw0 : w 0 x1 0 = ar 4 (6 * x1) := ((hI.j5 x1 hxn).2.1 0 (by decide)).1.symm
    rw [hw0]
    have hP2 : PIC (yC cA ga (va_up sc 7 (0)) ar w ey o ad) ad φ_2 := by rw [hp9]; exact yp_same hP 0
    refine lv_i2l (pc := 8) (v := (nI ((puF z1 (ar 4 (6 * x1))).toNat)).toInt64) S.1 S.2.1 dL_brim_8 rfl ?_
    refine hv_last (pc := 9) S hK hH hS 3 (hP2.at (r := 0) (j := 9) rfl) rfl (vp_in_nI (by decide) (by decide)) dL_brim_9 (fun H locs hH hS => ?_)
    replace hH := nup (e := .inl (cA 3, 1, .inr (.inl (vp_updL o (nI 0).toNatClampNeg ((nI ((puF z1 (ar 4 (6 * x1))).toNat)).toInt64))))) hH
    obtain ⟨φ_3, hφ_3, fa_φ_3, fr_φ_3, hH⟩ := hH
    refine lv_goto (pc := 10) (tgt := 21) S.1 S.2.1 dL_brim_10 (by decide) ?_
    refine lv_iconst (pc := 21) (v := nI 0) S.1 S.2.1 dL_brim_21 (by decide) ?_
    exact hv_ret (pc := 22) (v := nI 0) S hr rfl hlocks hH hS (⟨by rw [e0]; rfl, fun z => absurd e0 z, fun _ => ⟨x1, z1, rfl, rfl, by omega, by omega, ⟨w, ey, _, ad, updL0 _ _, rfl, rfl, by rw [hφ_3]; exact yp_out hP2 _, hI.mono 0⟩⟩⟩) (Nat.le_of_ble_eq_true rfl) (Nat.le_of_ble_eq_true rfl) dL_brim_22

set_option maxHeartbeats 4000000 in
set_option maxRecDepth 100000 in
/-- the law's count -/
theorem lw_count (l : Launch) (hfl : l.stackTraces = false) (D : va_G) (cA : Nat → ClassId) (ga : Nat → Nat → Nat) (φ : hpM) (sz : Nat) (k9 : Nat) (sc : Nat → Nat) (ar : Nat → Nat → Nat) (w : Nat → Nat → Nat → Nat) (ey : Nat → Nat → Nat) (o : Nat → Int64) (ad : Nat → Nat → Nat) (x : Int32) (hP : PIC (yC cA ga sc ar w ey o ad) ad φ) (hI : INV k9 sc ar w ey) (h512 : k9 ≤ 512) : hW l yL_count cL_count 4 (some .int) [(0, 9, 12, 13)] { frames := 15, cells := 1, slots := 6, locals := 620 } [.ref (ad 0 0), .int (x), .ref (ad 0 9)] D cA ga φ sz (fun v φ' => v = some (.int (nI (mcd 1 9 9 (cntX x)))) ∧ (cntX x ≠ 0 → PIC (yC cA ga sc ar w ey o ad) ad φ') ∧ (cntX x = 0 → ∃ x1 : Nat, x = nI x1 ∧ x1 < 2 ^ 31 ∧ NXT cA ga (k9 + 1) (ad 0 0) (ad 0 9) (va_up (va_up (va_up sc 0 (0)) 1 (0)) 7 (0)) (ar) ((ctR (wkO 7 (sc 1) 4 0) x1).toInt64) φ')) 1 6 := by
  refine hW.of (by decide) (Nat.le_of_ble_eq_true rfl) rfl ?_
  intro p e s m args below meth c ls H locs S hr hlocks ht9 hN3 hsz hHz hH hK hX hS hA hl
  refine lv_aload_n (pc := 0) S.1 S.2.1 dL_count_0 rfl (lv_at hl 2 rfl) ?_
  refine lv_iconst (pc := 1) (v := nI 0) S.1 S.2.1 dL_count_1 (by decide) ?_
  refine lv_aload_n (pc := 2) S.1 S.2.1 dL_count_2 rfl (lv_at hl 0 rfl) ?_
  refine lv_iload_n (pc := 3) S.1 S.2.1 dL_count_3 rfl (lv_at hl 1 rfl) ?_
  refine hv_callX (pc := 4) (vx_runV (As := [.int (x)]) (rest := [.int (nI 0), .ref (ad 0 9)]) S (c_count l hfl D cA ga φ H.size (ad 0 0) (ad 0 1) (ad 0 3) (ad 0 4) (ad 0 5) (ad 0 6) (ad 0 7) (sc 2) (sc 3) (sc 5) (sc 4) (sc 6) (ad 0 2) (ey 3 0) (sc 0) (ey 0) x (hP.at (r := 0) (j := 0) rfl) (hP.at (r := 0) (j := 1) rfl) (hP.at (r := 0) (j := 2) rfl) hI.j0.1 hI.j0.g) (cwV 1 S.2.2.2.2 (gV tw_841 tw_842 tw_843 tw_1 tw_844) rfl rfl rfl (by decide +kernel) ⟨Nat.le_of_ble_eq_true rfl, Nat.le_of_ble_eq_true rfl⟩) (pre0_V hH hK hX hS hA (hH.recv hK (hP.at (r := 0) (j := 0) rfl) rfl)) rfl rfl hl.1 rfl (lv_room (Nat.le_of_ble_eq_true rfl)) dL_count_4 ⟨Nat.le_of_ble_eq_true rfl, Nat.le_of_ble_eq_true rfl⟩) hS (af_le hH hS hA) (fun E ce q9 φ_2x H locs hx hH hS hce hcv hcl => ?_) (fun v_1 φ_2 H locs hw_v_1 hH hS => ?_)
  · skip
    have hor : cntX x = 0 ∨ cntX x = 1 := by unfold cntX; (repeat' split) <;> decide
    rcases hor with hv9 | hv9
    · exact absurd hv9 hx.2.2
    · have hE : E = "java/lang/IllegalArgumentException" := by rw [hx.2.1, hv9]; rfl
      subst hE
      have hxp := hx.1
      refine vx_catch (own := RL) (name := "java/lang/IllegalArgumentException") S.2.2.2.1 [] ⟨0, 9, 12, 13⟩ [] (by rw [ht9]; rfl) (fun z hz => by cases hz) (by decide) (by decide) (S.2.2.2.2 _ tw_127) (va_Nw.use (tabW_on tabIAE) (hX.tabs _ tabIAE)) hce hcv hcl ?_
      refine lv_astore_n (pc := 12) (lv' := [(3, .ref q9), (0, .ref (ad 0 0)), (1, .int (x)), (2, .ref (ad 0 9))]) S.1 S.2.1 dL_count_12 rfl hl (by decide) rfl (fun ls hl => ?_)
      refine lv_iconst (pc := 13) (v := nI 1) S.1 S.2.1 dL_count_13 (by decide) ?_
      rw [hxp] at hH
      exact hv_ret (pc := 14) (v := nI 1) S hr rfl hlocks hH hS (⟨by rw [hv9]; rfl, fun _ => hP, fun z => absurd (hv9.symm.trans z) (by decide)⟩) (Nat.le_of_ble_eq_true rfl) (Nat.le_of_ble_eq_true rfl) dL_count_14
  · skip
    obtain ⟨e0, x1, rfl, hxlo, hxhi, rfl, hp9⟩ := hw_v_1
    rw [hI.j0.fi 7 4 0 (by decide)]
    have hP2 : PIC (yC cA ga (va_up (va_up (va_up sc 0 (0)) 1 (0)) 7 (0)) ar w (va_up ey 3 (va_up (ey 3) 0 (if sc 0 = 0 then ey 3 0 else 1))) o ad) ad φ_2 := by rw [hp9]; exact yp_clear hP
    refine lv_i2l (pc := 7) (v := (ctR (wkO 7 (sc 1) 4 0) x1).toInt64) S.1 S.2.1 dL_count_7 rfl ?_
    refine hv_last (pc := 8) S hK hH hS 3 (hP2.at (r := 0) (j := 9) rfl) rfl (vp_in_nI (by decide) (by decide)) dL_count_8 (fun H locs hH hS => ?_)
    replace hH := nup (e := .inl (cA 3, 1, .inr (.inl (vp_updL o (nI 0).toNatClampNeg ((ctR (wkO 7 (sc 1) 4 0) x1).toInt64))))) hH
    obtain ⟨φ_3, hφ_3, fa_φ_3, fr_φ_3, hH⟩ := hH
    refine lv_goto (pc := 9) (tgt := 15) S.1 S.2.1 dL_count_9 (by decide) ?_
    refine lv_iconst (pc := 15) (v := nI 0) S.1 S.2.1 dL_count_15 (by decide) ?_
    exact hv_ret (pc := 16) (v := nI 0) S hr rfl hlocks hH hS (⟨by rw [e0]; rfl, fun z => absurd e0 z, fun _ => ⟨x1, rfl, by omega, ⟨w, va_up ey 3 (va_up (ey 3) 0 (if sc 0 = 0 then ey 3 0 else 1)), _, ad, updL0 _ _, rfl, rfl, by rw [hφ_3]; exact yp_out hP2 _, hI.clear _⟩⟩⟩) (Nat.le_of_ble_eq_true rfl) (Nat.le_of_ble_eq_true rfl) dL_count_16

set_option maxHeartbeats 4000000 in
set_option maxRecDepth 100000 in
/-- the law's countAnew -/
theorem lw_countAnew (l : Launch) (hfl : l.stackTraces = false) (D : va_G) (cA : Nat → ClassId) (ga : Nat → Nat → Nat) (φ : hpM) (sz : Nat) (k9 : Nat) (sc : Nat → Nat) (ar : Nat → Nat → Nat) (w : Nat → Nat → Nat → Nat) (ey : Nat → Nat → Nat) (o : Nat → Int64) (ad : Nat → Nat → Nat) (x : Int32) (hP : PIC (yC cA ga sc ar w ey o ad) ad φ) (hI : INV k9 sc ar w ey) (h512 : k9 ≤ 512) : hW l yL_countAnew cL_countAnew 4 (some .int) [(0, 9, 12, 13)] { frames := 15, cells := 1, slots := 6, locals := 620 } [.ref (ad 0 0), .int (x), .ref (ad 0 9)] D cA ga φ sz (fun v φ' => v = some (.int (nI (mcd 1 9 9 (cntX x)))) ∧ (cntX x ≠ 0 → PIC (yC cA ga sc ar w ey o ad) ad φ') ∧ (cntX x = 0 → ∃ x1 : Nat, x = nI x1 ∧ x1 < 2 ^ 31 ∧ NXT cA ga (k9 + 1) (ad 0 0) (ad 0 9) (va_up (va_up (va_up sc 0 (0)) 1 (0)) 7 (0)) (ar) ((ctR (wkO 7 (sc 1) 4 0) x1).toInt64) φ')) 1 6 := by
  refine hW.of (by decide) (Nat.le_of_ble_eq_true rfl) rfl ?_
  intro p e s m args below meth c ls H locs S hr hlocks ht9 hN3 hsz hHz hH hK hX hS hA hl
  refine lv_aload_n (pc := 0) S.1 S.2.1 dL_countAnew_0 rfl (lv_at hl 2 rfl) ?_
  refine lv_iconst (pc := 1) (v := nI 0) S.1 S.2.1 dL_countAnew_1 (by decide) ?_
  refine lv_aload_n (pc := 2) S.1 S.2.1 dL_countAnew_2 rfl (lv_at hl 0 rfl) ?_
  refine lv_iload_n (pc := 3) S.1 S.2.1 dL_countAnew_3 rfl (lv_at hl 1 rfl) ?_
  refine hv_callX (pc := 4) (vx_runV (As := [.int (x)]) (rest := [.int (nI 0), .ref (ad 0 9)]) S (c_countAnew l hfl D cA ga φ H.size (ad 0 0) (ad 0 1) (ad 0 3) (ad 0 4) (ad 0 5) (ad 0 6) (ad 0 7) (sc 2) (sc 3) (sc 5) (sc 4) (sc 6) (ad 0 2) (ey 3 0) (sc 0) (ey 0) x (hP.at (r := 0) (j := 0) rfl) (hP.at (r := 0) (j := 1) rfl) (hP.at (r := 0) (j := 2) rfl) hI.j0.1 hI.j0.g) (cwV 1 S.2.2.2.2 (gV tw_864 tw_865 tw_866 tw_1 tw_867) rfl rfl rfl (by decide +kernel) ⟨Nat.le_of_ble_eq_true rfl, Nat.le_of_ble_eq_true rfl⟩) (pre0_V hH hK hX hS hA (hH.recv hK (hP.at (r := 0) (j := 0) rfl) rfl)) rfl rfl hl.1 rfl (lv_room (Nat.le_of_ble_eq_true rfl)) dL_countAnew_4 ⟨Nat.le_of_ble_eq_true rfl, Nat.le_of_ble_eq_true rfl⟩) hS (af_le hH hS hA) (fun E ce q9 φ_2x H locs hx hH hS hce hcv hcl => ?_) (fun v_1 φ_2 H locs hw_v_1 hH hS => ?_)
  · skip
    have hor : cntX x = 0 ∨ cntX x = 1 := by unfold cntX; (repeat' split) <;> decide
    rcases hor with hv9 | hv9
    · exact absurd hv9 hx.2.2
    · have hE : E = "java/lang/IllegalArgumentException" := by rw [hx.2.1, hv9]; rfl
      subst hE
      have hxp := hx.1
      refine vx_catch (own := RL) (name := "java/lang/IllegalArgumentException") S.2.2.2.1 [] ⟨0, 9, 12, 13⟩ [] (by rw [ht9]; rfl) (fun z hz => by cases hz) (by decide) (by decide) (S.2.2.2.2 _ tw_127) (va_Nw.use (tabW_on tabIAE) (hX.tabs _ tabIAE)) hce hcv hcl ?_
      refine lv_astore_n (pc := 12) (lv' := [(3, .ref q9), (0, .ref (ad 0 0)), (1, .int (x)), (2, .ref (ad 0 9))]) S.1 S.2.1 dL_countAnew_12 rfl hl (by decide) rfl (fun ls hl => ?_)
      refine lv_iconst (pc := 13) (v := nI 1) S.1 S.2.1 dL_countAnew_13 (by decide) ?_
      rw [hxp] at hH
      exact hv_ret (pc := 14) (v := nI 1) S hr rfl hlocks hH hS (⟨by rw [hv9]; rfl, fun _ => hP, fun z => absurd (hv9.symm.trans z) (by decide)⟩) (Nat.le_of_ble_eq_true rfl) (Nat.le_of_ble_eq_true rfl) dL_countAnew_14
  · skip
    obtain ⟨e0, x1, rfl, hxlo, hxhi, rfl, hp9⟩ := hw_v_1
    rw [hI.j0.fi 7 4 0 (by decide)]
    have hP2 : PIC (yC cA ga (va_up (va_up (va_up sc 0 (0)) 1 (0)) 7 (0)) ar w (va_up ey 3 (va_up (ey 3) 0 (if sc 0 = 0 then ey 3 0 else 1))) o ad) ad φ_2 := by rw [hp9]; exact yp_clear hP
    refine lv_i2l (pc := 7) (v := (ctR (wkO 7 (sc 1) 4 0) x1).toInt64) S.1 S.2.1 dL_countAnew_7 rfl ?_
    refine hv_last (pc := 8) S hK hH hS 3 (hP2.at (r := 0) (j := 9) rfl) rfl (vp_in_nI (by decide) (by decide)) dL_countAnew_8 (fun H locs hH hS => ?_)
    replace hH := nup (e := .inl (cA 3, 1, .inr (.inl (vp_updL o (nI 0).toNatClampNeg ((ctR (wkO 7 (sc 1) 4 0) x1).toInt64))))) hH
    obtain ⟨φ_3, hφ_3, fa_φ_3, fr_φ_3, hH⟩ := hH
    refine lv_goto (pc := 9) (tgt := 15) S.1 S.2.1 dL_countAnew_9 (by decide) ?_
    refine lv_iconst (pc := 15) (v := nI 0) S.1 S.2.1 dL_countAnew_15 (by decide) ?_
    exact hv_ret (pc := 16) (v := nI 0) S hr rfl hlocks hH hS (⟨by rw [e0]; rfl, fun z => absurd e0 z, fun _ => ⟨x1, rfl, by omega, ⟨w, va_up ey 3 (va_up (ey 3) 0 (if sc 0 = 0 then ey 3 0 else 1)), _, ad, updL0 _ _, rfl, rfl, by rw [hφ_3]; exact yp_out hP2 _, hI.clear _⟩⟩⟩) (Nat.le_of_ble_eq_true rfl) (Nat.le_of_ble_eq_true rfl) dL_countAnew_16

set_option maxHeartbeats 4000000 in
set_option maxRecDepth 100000 in
/-- the law's rows -/
theorem lw_rows (l : Launch) (hfl : l.stackTraces = false) (D : va_G) (cA : Nat → ClassId) (ga : Nat → Nat → Nat) (φ : hpM) (sz : Nat) (k9 : Nat) (sc : Nat → Nat) (ar : Nat → Nat → Nat) (w : Nat → Nat → Nat → Nat) (ey : Nat → Nat → Nat) (o : Nat → Int64) (ad : Nat → Nat → Nat) (x : Int32) (hP : PIC (yC cA ga sc ar w ey o ad) ad φ) (hI : INV k9 sc ar w ey) (h512 : k9 ≤ 512) : hW l yL_rows cL_rows 4 (some .int) [(0, 9, 12, 13)] { frames := 15, cells := 1, slots := 6, locals := 620 } [.ref (ad 0 0), .int (x), .ref (ad 0 9)] D cA ga φ sz (fun v φ' => v = some (.int (nI (mcd 1 9 9 (rowsX x)))) ∧ (rowsX x ≠ 0 → PIC (yC cA ga sc ar w ey o ad) ad φ') ∧ (rowsX x = 0 → ∃ x1 : Nat, x = nI x1 ∧ x1 < 2 ^ 31 ∧ NXT cA ga (k9 + 1) (ad 0 0) (ad 0 9) (va_up (va_up (va_up sc 0 (0)) 1 (0)) 7 (0)) (ar) ((rwR (wkO 7 (sc 1) 4 0) x1).toInt64) φ')) 1 6 := by
  refine hW.of (by decide) (Nat.le_of_ble_eq_true rfl) rfl ?_
  intro p e s m args below meth c ls H locs S hr hlocks ht9 hN3 hsz hHz hH hK hX hS hA hl
  refine lv_aload_n (pc := 0) S.1 S.2.1 dL_rows_0 rfl (lv_at hl 2 rfl) ?_
  refine lv_iconst (pc := 1) (v := nI 0) S.1 S.2.1 dL_rows_1 (by decide) ?_
  refine lv_aload_n (pc := 2) S.1 S.2.1 dL_rows_2 rfl (lv_at hl 0 rfl) ?_
  refine lv_iload_n (pc := 3) S.1 S.2.1 dL_rows_3 rfl (lv_at hl 1 rfl) ?_
  refine hv_callX (pc := 4) (vx_runV (As := [.int (x)]) (rest := [.int (nI 0), .ref (ad 0 9)]) S (c_rows l hfl D cA ga φ H.size (ad 0 0) (ad 0 1) (ad 0 3) (ad 0 4) (ad 0 5) (ad 0 6) (ad 0 7) (sc 2) (sc 3) (sc 5) (sc 4) (sc 6) (ad 0 2) (ey 3 0) (sc 0) (ey 0) x (hP.at (r := 0) (j := 0) rfl) (hP.at (r := 0) (j := 1) rfl) (hP.at (r := 0) (j := 2) rfl) hI.j0.1 hI.j0.g) (cwV 1 S.2.2.2.2 (gV tw_879 tw_880 tw_881 tw_1 tw_882) rfl rfl rfl (by decide +kernel) ⟨Nat.le_of_ble_eq_true rfl, Nat.le_of_ble_eq_true rfl⟩) (pre0_V hH hK hX hS hA (hH.recv hK (hP.at (r := 0) (j := 0) rfl) rfl)) rfl rfl hl.1 rfl (lv_room (Nat.le_of_ble_eq_true rfl)) dL_rows_4 ⟨Nat.le_of_ble_eq_true rfl, Nat.le_of_ble_eq_true rfl⟩) hS (af_le hH hS hA) (fun E ce q9 φ_2x H locs hx hH hS hce hcv hcl => ?_) (fun v_1 φ_2 H locs hw_v_1 hH hS => ?_)
  · skip
    have hor : rowsX x = 0 ∨ rowsX x = 1 := by unfold rowsX; (repeat' split) <;> decide
    rcases hor with hv9 | hv9
    · exact absurd hv9 hx.2.2
    · have hE : E = "java/lang/IllegalArgumentException" := by rw [hx.2.1, hv9]; rfl
      subst hE
      have hxp := hx.1
      refine vx_catch (own := RL) (name := "java/lang/IllegalArgumentException") S.2.2.2.1 [] ⟨0, 9, 12, 13⟩ [] (by rw [ht9]; rfl) (fun z hz => by cases hz) (by decide) (by decide) (S.2.2.2.2 _ tw_127) (va_Nw.use (tabW_on tabIAE) (hX.tabs _ tabIAE)) hce hcv hcl ?_
      refine lv_astore_n (pc := 12) (lv' := [(3, .ref q9), (0, .ref (ad 0 0)), (1, .int (x)), (2, .ref (ad 0 9))]) S.1 S.2.1 dL_rows_12 rfl hl (by decide) rfl (fun ls hl => ?_)
      refine lv_iconst (pc := 13) (v := nI 1) S.1 S.2.1 dL_rows_13 (by decide) ?_
      rw [hxp] at hH
      exact hv_ret (pc := 14) (v := nI 1) S hr rfl hlocks hH hS (⟨by rw [hv9]; rfl, fun _ => hP, fun z => absurd (hv9.symm.trans z) (by decide)⟩) (Nat.le_of_ble_eq_true rfl) (Nat.le_of_ble_eq_true rfl) dL_rows_14
  · skip
    obtain ⟨e0, x1, rfl, hxlo, hxhi, rfl, hp9⟩ := hw_v_1
    rw [hI.j0.fi 7 4 0 (by decide)]
    have hP2 : PIC (yC cA ga (va_up (va_up (va_up sc 0 (0)) 1 (0)) 7 (0)) ar w (va_up ey 3 (va_up (ey 3) 0 (if sc 0 = 0 then ey 3 0 else 1))) o ad) ad φ_2 := by rw [hp9]; exact yp_clear hP
    refine lv_i2l (pc := 7) (v := (rwR (wkO 7 (sc 1) 4 0) x1).toInt64) S.1 S.2.1 dL_rows_7 rfl ?_
    refine hv_last (pc := 8) S hK hH hS 3 (hP2.at (r := 0) (j := 9) rfl) rfl (vp_in_nI (by decide) (by decide)) dL_rows_8 (fun H locs hH hS => ?_)
    replace hH := nup (e := .inl (cA 3, 1, .inr (.inl (vp_updL o (nI 0).toNatClampNeg ((rwR (wkO 7 (sc 1) 4 0) x1).toInt64))))) hH
    obtain ⟨φ_3, hφ_3, fa_φ_3, fr_φ_3, hH⟩ := hH
    refine lv_goto (pc := 9) (tgt := 15) S.1 S.2.1 dL_rows_9 (by decide) ?_
    refine lv_iconst (pc := 15) (v := nI 0) S.1 S.2.1 dL_rows_15 (by decide) ?_
    exact hv_ret (pc := 16) (v := nI 0) S hr rfl hlocks hH hS (⟨by rw [e0]; rfl, fun z => absurd e0 z, fun _ => ⟨x1, rfl, by omega, ⟨w, va_up ey 3 (va_up (ey 3) 0 (if sc 0 = 0 then ey 3 0 else 1)), _, ad, updL0 _ _, rfl, rfl, by rw [hφ_3]; exact yp_out hP2 _, hI.clear _⟩⟩⟩) (Nat.le_of_ble_eq_true rfl) (Nat.le_of_ble_eq_true rfl) dL_rows_16

set_option maxHeartbeats 4000000 in
set_option maxRecDepth 100000 in
/-- the law's measure -/
theorem lw_measure (l : Launch) (hfl : l.stackTraces = false) (D : va_G) (cA : Nat → ClassId) (ga : Nat → Nat → Nat) (φ : hpM) (sz : Nat) (k9 : Nat) (sc : Nat → Nat) (ar : Nat → Nat → Nat) (w : Nat → Nat → Nat → Nat) (ey : Nat → Nat → Nat) (o : Nat → Int64) (ad : Nat → Nat → Nat) (x : Int32) (z : Int32) (hP : PIC (yC cA ga sc ar w ey o ad) ad φ) (hI : INV k9 sc ar w ey) (h512 : k9 ≤ 512) : hW l yL_measure cL_measure 5 (some .int) [(0, 10, 13, 25), (0, 10, 17, 13)] { frames := 10, cells := 2, slots := 12, locals := 320 } [.ref (ad 0 0), .int (x), .int (z), .ref (ad 0 9)] D cA ga φ sz (fun v φ' => v = some (.int (nI (mcd 2 9 1 (measX x z)))) ∧ (measX x z ≠ 0 → PIC (yC cA ga sc ar w ey o ad) ad φ') ∧ (measX x z = 0 → ∃ x1 z1 : Nat, x = nI x1 ∧ z = nI z1 ∧ x1 < 2 ^ 31 ∧ z1 < 2 ^ 31 ∧ NXT cA ga (k9 + 1) (ad 0 0) (ad 0 9) (va_up sc 7 (0)) (va_up ar 14 (va_up (ar 14) x1 z1)) ((nI (smN (va_up (ar 14) x1 z1) 8 * 785 / 1000)).toInt64) φ')) 2 12 := by
  refine hW.of (by decide) (Nat.le_of_ble_eq_true rfl) rfl ?_
  intro p e s m args below meth c ls H locs S hr hlocks ht9 hN3 hsz hHz hH hK hX hS hA hl
  refine lv_aload_n (pc := 0) S.1 S.2.1 dL_measure_0 rfl (lv_at hl 3 rfl) ?_
  refine lv_iconst (pc := 1) (v := nI 0) S.1 S.2.1 dL_measure_1 (by decide) ?_
  refine lv_aload_n (pc := 2) S.1 S.2.1 dL_measure_2 rfl (lv_at hl 0 rfl) ?_
  refine lv_iload_n (pc := 3) S.1 S.2.1 dL_measure_3 rfl (lv_at hl 1 rfl) ?_
  refine lv_iload_n (pc := 4) S.1 S.2.1 dL_measure_4 rfl (lv_at hl 2 rfl) ?_
  refine hv_callX (pc := 5) (vx_runV (As := [.int (x), .int (z)]) (rest := [.int (nI 0), .ref (ad 0 9)]) S (c_measure l hfl D cA ga φ H.size (ad 0 0) (ad 0 1) (ad 0 3) (ad 0 4) (ad 0 5) (ad 0 6) (ad 0 7) (sc 2) (sc 3) (sc 5) (sc 4) (sc 6) (ad 0 8) (ar 14) x z (hP.at (r := 0) (j := 0) rfl) (hP.at (r := 0) (j := 7) rfl) (hP.at (r := 0) (j := 8) rfl) hI.j8) (cwV 2 S.2.2.2.2 (gV tw_890 tw_891 tw_892 tw_1 tw_893) rfl rfl rfl (by decide +kernel) ⟨Nat.le_of_ble_eq_true rfl, Nat.le_of_ble_eq_true rfl⟩) (pre0_V hH hK hX hS hA (hH.recv hK (hP.at (r := 0) (j := 0) rfl) rfl)) rfl rfl hl.1 rfl (lv_room (Nat.le_of_ble_eq_true rfl)) dL_measure_5 ⟨Nat.le_of_ble_eq_true rfl, Nat.le_of_ble_eq_true rfl⟩) hS (af_le hH hS hA) (fun E ce q9 φ_2x H locs hx hH hS hce hcv hcl => ?_) (fun v_1 φ_2 H locs hw_v_1 hH hS => ?_)
  · skip
    have hor : measX x z = 0 ∨ measX x z = 1 ∨ measX x z = 3 := by unfold measX; (repeat' split) <;> decide
    rcases hor with hv9 | hv9 | hv9
    · exact absurd hv9 hx.2.2
    · have hE : E = "java/lang/IllegalArgumentException" := by rw [hx.2.1, hv9]; rfl
      subst hE
      have hxp := hx.1
      refine vx_catch (own := RL) (name := "java/lang/IllegalArgumentException") S.2.2.2.1 [⟨0, 10, 13, 25⟩] ⟨0, 10, 17, 13⟩ [] (by rw [ht9]; rfl) (fun z hz => by obtain rfl := List.mem_singleton.mp hz; exact Or.inr ⟨by decide, _, S.2.2.2.2 _ tw_588, hN3.2.1⟩) (by decide) (by decide) (S.2.2.2.2 _ tw_127) (va_Nw.use (tabW_on tabIAE) (hX.tabs _ tabIAE)) hce hcv hcl ?_
      refine lv_astore (pc := 17) (lv' := [(4, .ref q9), (0, .ref (ad 0 0)), (1, .int (x)), (2, .int (z)), (3, .ref (ad 0 9))]) S.1 S.2.1 dL_measure_17 hl (by decide) rfl (fun ls hl => ?_)
      refine lv_iconst (pc := 19) (v := nI 2) S.1 S.2.1 dL_measure_19 (by decide) ?_
      rw [hxp] at hH
      exact hv_ret (pc := 20) (v := nI 2) S hr rfl hlocks hH hS (⟨by rw [hv9]; rfl, fun _ => hP, fun z => absurd (hv9.symm.trans z) (by decide)⟩) (Nat.le_of_ble_eq_true rfl) (Nat.le_of_ble_eq_true rfl) dL_measure_20
    · have hE : E = "java/lang/IndexOutOfBoundsException" := by rw [hx.2.1, hv9]; rfl
      subst hE
      have hxp := hx.1
      refine vx_catch (own := RL) (name := "java/lang/IndexOutOfBoundsException") S.2.2.2.1 [] ⟨0, 10, 13, 25⟩ [⟨0, 10, 17, 13⟩] (by rw [ht9]; rfl) (fun z hz => by cases hz) (by decide) (by decide) (S.2.2.2.2 _ tw_588) (va_Nw.use (tabW_on tabIOOBE) (hX.tabs _ tabIOOBE)) hce hcv hcl ?_
      refine lv_astore (pc := 13) (lv' := [(4, .ref q9), (0, .ref (ad 0 0)), (1, .int (x)), (2, .int (z)), (3, .ref (ad 0 9))]) S.1 S.2.1 dL_measure_13 hl (by decide) rfl (fun ls hl => ?_)
      refine lv_iconst (pc := 15) (v := nI 1) S.1 S.2.1 dL_measure_15 (by decide) ?_
      rw [hxp] at hH
      exact hv_ret (pc := 16) (v := nI 1) S hr rfl hlocks hH hS (⟨by rw [hv9]; rfl, fun _ => hP, fun z => absurd (hv9.symm.trans z) (by decide)⟩) (Nat.le_of_ble_eq_true rfl) (Nat.le_of_ble_eq_true rfl) dL_measure_16
  · skip
    obtain ⟨e0, x1, z1, rfl, rfl, hxn, hz2, rfl, hp9⟩ := hw_v_1
    have hP2 : PIC (yC cA ga (va_up sc 7 (0)) (va_up ar 14 (va_up (ar 14) x1 z1)) w ey o ad) ad φ_2 := by rw [hp9]; exact yp_measure hP x1 z1
    refine lv_i2l (pc := 8) (v := (nI (smN (va_up (ar 14) x1 z1) 8 * 785 / 1000)).toInt64) S.1 S.2.1 dL_measure_8 rfl ?_
    refine hv_last (pc := 9) S hK hH hS 3 (hP2.at (r := 0) (j := 9) rfl) rfl (vp_in_nI (by decide) (by decide)) dL_measure_9 (fun H locs hH hS => ?_)
    replace hH := nup (e := .inl (cA 3, 1, .inr (.inl (vp_updL o (nI 0).toNatClampNeg ((nI (smN (va_up (ar 14) x1 z1) 8 * 785 / 1000)).toInt64))))) hH
    obtain ⟨φ_3, hφ_3, fa_φ_3, fr_φ_3, hH⟩ := hH
    refine lv_goto (pc := 10) (tgt := 21) S.1 S.2.1 dL_measure_10 (by decide) ?_
    refine lv_iconst (pc := 21) (v := nI 0) S.1 S.2.1 dL_measure_21 (by decide) ?_
    exact hv_ret (pc := 22) (v := nI 0) S hr rfl hlocks hH hS (⟨by rw [e0]; rfl, fun z => absurd e0 z, fun _ => ⟨x1, z1, rfl, rfl, by omega, by omega, ⟨w, ey, _, ad, updL0 _ _, rfl, rfl, by rw [hφ_3]; exact yp_out hP2 _, hI.measure hz2⟩⟩⟩) (Nat.le_of_ble_eq_true rfl) (Nat.le_of_ble_eq_true rfl) dL_measure_22

set_option maxHeartbeats 4000000 in
set_option maxRecDepth 100000 in
/-- the law's fits -/
theorem lw_fits (l : Launch) (hfl : l.stackTraces = false) (D : va_G) (cA : Nat → ClassId) (ga : Nat → Nat → Nat) (φ : hpM) (sz : Nat) (k9 : Nat) (sc : Nat → Nat) (ar : Nat → Nat → Nat) (w : Nat → Nat → Nat → Nat) (ey : Nat → Nat → Nat) (o : Nat → Int64) (ad : Nat → Nat → Nat) (x : Int32) (hP : PIC (yC cA ga sc ar w ey o ad) ad φ) (hI : INV k9 sc ar w ey) (h512 : k9 ≤ 512) : hW l yL_fits cL_fits 4 (some .int) [(0, 16, 19, 25)] { frames := 11, cells := 2, slots := 12, locals := 380 } [.ref (ad 0 0), .int (x), .ref (ad 0 9)] D cA ga φ sz (fun v φ' => v = some (.int (nI (mcd 9 9 1 (inX (sc 3) x)))) ∧ (inX (sc 3) x ≠ 0 → PIC (yC cA ga sc ar w ey o ad) ad φ') ∧ (inX (sc 3) x = 0 → ∃ x1 : Nat, x = nI x1 ∧ x1 < 2 ^ 31 ∧ NXT cA ga (k9 + 1) (ad 0 0) (ad 0 9) (va_up sc 7 (0)) (ar) (Int64.ofNat (fiR (ar 4 (6 * x1)) (smN (ar 14) 8 * 785 / 1000))) φ')) 2 12 := by
  refine hW.of (by decide) (Nat.le_of_ble_eq_true rfl) rfl ?_
  intro p e s m args below meth c ls H locs S hr hlocks ht9 hN3 hsz hHz hH hK hX hS hA hl
  refine lv_aload_n (pc := 0) S.1 S.2.1 dL_fits_0 rfl (lv_at hl 2 rfl) ?_
  refine lv_iconst (pc := 1) (v := nI 0) S.1 S.2.1 dL_fits_1 (by decide) ?_
  refine lv_aload_n (pc := 2) S.1 S.2.1 dL_fits_2 rfl (lv_at hl 0 rfl) ?_
  refine lv_iload_n (pc := 3) S.1 S.2.1 dL_fits_3 rfl (lv_at hl 1 rfl) ?_
  refine hv_callX (pc := 4) (vx_runV (As := [.int (x)]) (rest := [.int (nI 0), .ref (ad 0 9)]) S (c_fits l hfl D cA ga φ H.size (ad 0 0) (ad 0 1) (ad 0 3) (ad 0 4) (ad 0 5) (ad 0 6) (ad 0 7) (sc 2) (sc 3) (sc 5) (sc 4) (sc 6) (ad 2) (ad 3) (ad 4) (ar 3) (ey 1) (ar 7) (ar 9) (ad 6) (ey 2) (w 0) (w 1) (ad 0 8) (ar 14) x (hP.at (r := 0) (j := 0) rfl) (hP.at (r := 0) (j := 4) rfl) (hP.at (r := 0) (j := 7) rfl) (hP.at (r := 0) (j := 8) rfl) hP.cn hI.hcb hI.j1.2.1 hI.j8) (cwV 1 S.2.2.2.2 (gV tw_905 tw_906 tw_907 tw_1 tw_908) rfl rfl rfl (by decide +kernel) ⟨Nat.le_of_ble_eq_true rfl, Nat.le_of_ble_eq_true rfl⟩) (pre0_V hH hK hX hS hA (hH.recv hK (hP.at (r := 0) (j := 0) rfl) rfl)) rfl rfl hl.1 rfl (lv_room (Nat.le_of_ble_eq_true rfl)) dL_fits_4 ⟨Nat.le_of_ble_eq_true rfl, Nat.le_of_ble_eq_true rfl⟩) hS (af_le hH hS hA) (fun E ce q9 φ_2x H locs hx hH hS hce hcv hcl => ?_) (fun v_1 φ_2 H locs hw_v_1 hH hS => ?_)
  · skip
    have hor : inX (sc 3) x = 0 ∨ inX (sc 3) x = 3 := by unfold inX; (repeat' split) <;> decide
    rcases hor with hv9 | hv9
    · exact absurd hv9 hx.2.2
    · have hE : E = "java/lang/IndexOutOfBoundsException" := by rw [hx.2.1, hv9]; rfl
      subst hE
      have hxp := hx.1
      refine vx_catch (own := RL) (name := "java/lang/IndexOutOfBoundsException") S.2.2.2.1 [] ⟨0, 16, 19, 25⟩ [] (by rw [ht9]; rfl) (fun z hz => by cases hz) (by decide) (by decide) (S.2.2.2.2 _ tw_588) (va_Nw.use (tabW_on tabIOOBE) (hX.tabs _ tabIOOBE)) hce hcv hcl ?_
      refine lv_astore_n (pc := 19) (lv' := [(3, .ref q9), (0, .ref (ad 0 0)), (1, .int (x)), (2, .ref (ad 0 9))]) S.1 S.2.1 dL_fits_19 rfl hl (by decide) rfl (fun ls hl => ?_)
      refine lv_iconst (pc := 20) (v := nI 1) S.1 S.2.1 dL_fits_20 (by decide) ?_
      rw [hxp] at hH
      exact hv_ret (pc := 21) (v := nI 1) S hr rfl hlocks hH hS (⟨by rw [hv9]; rfl, fun _ => hP, fun z => absurd (hv9.symm.trans z) (by decide)⟩) (Nat.le_of_ble_eq_true rfl) (Nat.le_of_ble_eq_true rfl) dL_fits_21
  · skip
    obtain ⟨e0, x1, rfl, hxn, rfl, hp9⟩ := hw_v_1
    have hj1 := hI.j1
    have hw0 : w 0 x1 0 = ar 4 (6 * x1) := ((hI.j5 x1 hxn).2.1 0 (by decide)).1.symm
    rw [hw0]
    have hP2 : PIC (yC cA ga (va_up sc 7 (0)) ar w ey o ad) ad φ_2 := by rw [hp9]; exact yp_same hP 0
    have hle9 := fiR_le (ar 4 (6 * x1)) (smN (ar 14) 8 * 785 / 1000)
    refine hv_if_eq (pc := 7) (tgt := 14) (a := fiR (ar 4 (6 * x1)) (smN (ar 14) 8 * 785 / 1000)) S.1 S.2.1 (by omega) dL_fits_7 (by decide) (fun c_3 => ?_) (fun c_3 => ?_)
    · skip
      refine lv_lconst (pc := 14) (v := Int64.ofNat 0) S.1 S.2.1 dL_fits_14 rfl ?_
      have hz9 : fiR (ar 4 (6 * x1)) (smN (ar 14) 8 * 785 / 1000) = 0 := c_3
      refine hv_last (pc := 15) S hK hH hS 3 (hP2.at (r := 0) (j := 9) rfl) rfl (vp_in_nI (by decide) (by decide)) dL_fits_15 (fun H locs hH hS => ?_)
      replace hH := nup (e := .inl (cA 3, 1, .inr (.inl (vp_updL o (nI 0).toNatClampNeg (Int64.ofNat 0))))) hH
      obtain ⟨φ_4, hφ_4, fa_φ_4, fr_φ_4, hH⟩ := hH
      refine lv_goto (pc := 16) (tgt := 22) S.1 S.2.1 dL_fits_16 (by decide) ?_
      refine lv_iconst (pc := 22) (v := nI 0) S.1 S.2.1 dL_fits_22 (by decide) ?_
      exact hv_ret (pc := 23) (v := nI 0) S hr rfl hlocks hH hS (⟨by rw [e0]; rfl, fun z => absurd e0 z, fun _ => ⟨x1, rfl, by omega, ⟨w, ey, _, ad, (updL0 _ _).trans (by rw [hz9]), rfl, rfl, by rw [hφ_4]; exact yp_out hP2 _, hI.mono 0⟩⟩⟩) (Nat.le_of_ble_eq_true rfl) (Nat.le_of_ble_eq_true rfl) dL_fits_23
    · skip
      refine lv_lconst (pc := 10) (v := Int64.ofNat 1) S.1 S.2.1 dL_fits_10 rfl ?_
      refine lv_goto (pc := 11) (tgt := 15) S.1 S.2.1 dL_fits_11 (by decide) ?_
      have hz9 : fiR (ar 4 (6 * x1)) (smN (ar 14) 8 * 785 / 1000) = 1 := by omega
      refine hv_last (pc := 15) S hK hH hS 3 (hP2.at (r := 0) (j := 9) rfl) rfl (vp_in_nI (by decide) (by decide)) dL_fits_15 (fun H locs hH hS => ?_)
      replace hH := nup (e := .inl (cA 3, 1, .inr (.inl (vp_updL o (nI 0).toNatClampNeg (Int64.ofNat 1))))) hH
      obtain ⟨φ_5, hφ_5, fa_φ_5, fr_φ_5, hH⟩ := hH
      refine lv_goto (pc := 16) (tgt := 22) S.1 S.2.1 dL_fits_16 (by decide) ?_
      refine lv_iconst (pc := 22) (v := nI 0) S.1 S.2.1 dL_fits_22 (by decide) ?_
      exact hv_ret (pc := 23) (v := nI 0) S hr rfl hlocks hH hS (⟨by rw [e0]; rfl, fun z => absurd e0 z, fun _ => ⟨x1, rfl, by omega, ⟨w, ey, _, ad, (updL0 _ _).trans (by rw [hz9]), rfl, rfl, by rw [hφ_5]; exact yp_out hP2 _, hI.mono 0⟩⟩⟩) (Nat.le_of_ble_eq_true rfl) (Nat.le_of_ble_eq_true rfl) dL_fits_23

set_option maxHeartbeats 4000000 in
set_option maxRecDepth 100000 in
/-- the law's size -/
theorem lw_size (l : Launch) (hfl : l.stackTraces = false) (D : va_G) (cA : Nat → ClassId) (ga : Nat → Nat → Nat) (φ : hpM) (sz : Nat) (k9 : Nat) (sc : Nat → Nat) (ar : Nat → Nat → Nat) (w : Nat → Nat → Nat → Nat) (ey : Nat → Nat → Nat) (o : Nat → Int64) (ad : Nat → Nat → Nat) (x : Int32) (hP : PIC (yC cA ga sc ar w ey o ad) ad φ) (hI : INV k9 sc ar w ey) (h512 : k9 ≤ 512) : hW l yL_size cL_size 4 (some .int) [(0, 9, 12, 25)] { frames := 11, cells := 2, slots := 12, locals := 380 } [.ref (ad 0 0), .int (x), .ref (ad 0 9)] D cA ga φ sz (fun v φ' => v = some (.int (nI (mcd 9 9 1 (inX 4 x)))) ∧ (inX 4 x ≠ 0 → PIC (yC cA ga sc ar w ey o ad) ad φ') ∧ (inX 4 x = 0 → ∃ x1 : Nat, x = nI x1 ∧ x1 < 2 ^ 31 ∧ NXT cA ga (k9 + 1) (ad 0 0) (ad 0 9) (va_up sc 7 (0)) (ar) ((nI (szF x1 (smN (ar 14) 8 * 785 / 1000)).toNat).toInt64) φ')) 2 12 := by
  refine hW.of (by decide) (Nat.le_of_ble_eq_true rfl) rfl ?_
  intro p e s m args below meth c ls H locs S hr hlocks ht9 hN3 hsz hHz hH hK hX hS hA hl
  refine lv_aload_n (pc := 0) S.1 S.2.1 dL_size_0 rfl (lv_at hl 2 rfl) ?_
  refine lv_iconst (pc := 1) (v := nI 0) S.1 S.2.1 dL_size_1 (by decide) ?_
  refine lv_aload_n (pc := 2) S.1 S.2.1 dL_size_2 rfl (lv_at hl 0 rfl) ?_
  refine lv_iload_n (pc := 3) S.1 S.2.1 dL_size_3 rfl (lv_at hl 1 rfl) ?_
  refine hv_callX (pc := 4) (vx_runV (As := [.int (x)]) (rest := [.int (nI 0), .ref (ad 0 9)]) S (c_size l hfl D cA ga φ H.size (ad 0 0) (ad 0 1) (ad 0 3) (ad 0 4) (ad 0 5) (ad 0 6) (ad 0 7) (sc 2) (sc 3) (sc 5) (sc 4) (sc 6) (ad 0 8) (ar 14) x (hP.at (r := 0) (j := 0) rfl) (hP.at (r := 0) (j := 7) rfl) (hP.at (r := 0) (j := 8) rfl) hI.j8) (cwV 1 S.2.2.2.2 (gV tw_912 tw_913 tw_914 tw_1 tw_915) rfl rfl rfl (by decide +kernel) ⟨Nat.le_of_ble_eq_true rfl, Nat.le_of_ble_eq_true rfl⟩) (pre0_V hH hK hX hS hA (hH.recv hK (hP.at (r := 0) (j := 0) rfl) rfl)) rfl rfl hl.1 rfl (lv_room (Nat.le_of_ble_eq_true rfl)) dL_size_4 ⟨Nat.le_of_ble_eq_true rfl, Nat.le_of_ble_eq_true rfl⟩) hS (af_le hH hS hA) (fun E ce q9 φ_2x H locs hx hH hS hce hcv hcl => ?_) (fun v_1 φ_2 H locs hw_v_1 hH hS => ?_)
  · skip
    have hor : inX 4 x = 0 ∨ inX 4 x = 3 := by unfold inX; (repeat' split) <;> decide
    rcases hor with hv9 | hv9
    · exact absurd hv9 hx.2.2
    · have hE : E = "java/lang/IndexOutOfBoundsException" := by rw [hx.2.1, hv9]; rfl
      subst hE
      have hxp := hx.1
      refine vx_catch (own := RL) (name := "java/lang/IndexOutOfBoundsException") S.2.2.2.1 [] ⟨0, 9, 12, 25⟩ [] (by rw [ht9]; rfl) (fun z hz => by cases hz) (by decide) (by decide) (S.2.2.2.2 _ tw_588) (va_Nw.use (tabW_on tabIOOBE) (hX.tabs _ tabIOOBE)) hce hcv hcl ?_
      refine lv_astore_n (pc := 12) (lv' := [(3, .ref q9), (0, .ref (ad 0 0)), (1, .int (x)), (2, .ref (ad 0 9))]) S.1 S.2.1 dL_size_12 rfl hl (by decide) rfl (fun ls hl => ?_)
      refine lv_iconst (pc := 13) (v := nI 1) S.1 S.2.1 dL_size_13 (by decide) ?_
      rw [hxp] at hH
      exact hv_ret (pc := 14) (v := nI 1) S hr rfl hlocks hH hS (⟨by rw [hv9]; rfl, fun _ => hP, fun z => absurd (hv9.symm.trans z) (by decide)⟩) (Nat.le_of_ble_eq_true rfl) (Nat.le_of_ble_eq_true rfl) dL_size_14
  · skip
    obtain ⟨e0, x1, rfl, hxn, rfl, hp9⟩ := hw_v_1
    have hP2 : PIC (yC cA ga (va_up sc 7 (0)) ar w ey o ad) ad φ_2 := by rw [hp9]; exact yp_same hP 0
    refine lv_i2l (pc := 7) (v := (nI ((szF x1 (smN (ar 14) 8 * 785 / 1000)).toNat)).toInt64) S.1 S.2.1 dL_size_7 rfl ?_
    refine hv_last (pc := 8) S hK hH hS 3 (hP2.at (r := 0) (j := 9) rfl) rfl (vp_in_nI (by decide) (by decide)) dL_size_8 (fun H locs hH hS => ?_)
    replace hH := nup (e := .inl (cA 3, 1, .inr (.inl (vp_updL o (nI 0).toNatClampNeg ((nI ((szF x1 (smN (ar 14) 8 * 785 / 1000)).toNat)).toInt64))))) hH
    obtain ⟨φ_3, hφ_3, fa_φ_3, fr_φ_3, hH⟩ := hH
    refine lv_goto (pc := 9) (tgt := 15) S.1 S.2.1 dL_size_9 (by decide) ?_
    refine lv_iconst (pc := 15) (v := nI 0) S.1 S.2.1 dL_size_15 (by decide) ?_
    exact hv_ret (pc := 16) (v := nI 0) S hr rfl hlocks hH hS (⟨by rw [e0]; rfl, fun z => absurd e0 z, fun _ => ⟨x1, rfl, by omega, ⟨w, ey, _, ad, updL0 _ _, rfl, rfl, by rw [hφ_3]; exact yp_out hP2 _, hI.mono 0⟩⟩⟩) (Nat.le_of_ble_eq_true rfl) (Nat.le_of_ble_eq_true rfl) dL_size_16

set_option maxHeartbeats 4000000 in
set_option maxRecDepth 100000 in
/-- the law's air -/
theorem lw_air (l : Launch) (hfl : l.stackTraces = false) (D : va_G) (cA : Nat → ClassId) (ga : Nat → Nat → Nat) (φ : hpM) (sz : Nat) (k9 : Nat) (sc : Nat → Nat) (ar : Nat → Nat → Nat) (w : Nat → Nat → Nat → Nat) (ey : Nat → Nat → Nat) (o : Nat → Int64) (ad : Nat → Nat → Nat) (x : Int32) (z : Int32) (hP : PIC (yC cA ga sc ar w ey o ad) ad φ) (hI : INV k9 sc ar w ey) (h512 : k9 ≤ 512) : hW l yL_air cL_air 5 (some .int) [(0, 10, 13, 25)] { frames := 11, cells := 2, slots := 12, locals := 380 } [.ref (ad 0 0), .int (x), .int (z), .ref (ad 0 9)] D cA ga φ sz (fun v φ' => v = some (.int (nI (mcd 9 9 1 (inX (sc 5) x)))) ∧ (inX (sc 5) x ≠ 0 → PIC (yC cA ga sc ar w ey o ad) ad φ') ∧ (inX (sc 5) x = 0 → ∃ x1 : Nat, x = nI x1 ∧ x1 < 2 ^ 31 ∧ NXT cA ga (k9 + 1) (ad 0 0) (ad 0 9) (va_up sc 7 (0)) (ar) ((nI (if z = 0 then ar 13 x1 else ar 12 x1)).toInt64) φ')) 2 12 := by
  refine hW.of (by decide) (Nat.le_of_ble_eq_true rfl) rfl ?_
  intro p e s m args below meth c ls H locs S hr hlocks ht9 hN3 hsz hHz hH hK hX hS hA hl
  refine lv_aload_n (pc := 0) S.1 S.2.1 dL_air_0 rfl (lv_at hl 3 rfl) ?_
  refine lv_iconst (pc := 1) (v := nI 0) S.1 S.2.1 dL_air_1 (by decide) ?_
  refine lv_aload_n (pc := 2) S.1 S.2.1 dL_air_2 rfl (lv_at hl 0 rfl) ?_
  refine lv_iload_n (pc := 3) S.1 S.2.1 dL_air_3 rfl (lv_at hl 1 rfl) ?_
  refine lv_iload_n (pc := 4) S.1 S.2.1 dL_air_4 rfl (lv_at hl 2 rfl) ?_
  refine hv_callX (pc := 5) (vx_runV (As := [.int (x), .int (z)]) (rest := [.int (nI 0), .ref (ad 0 9)]) S (c_air l hfl D cA ga φ H.size (ad 0 0) (ad 0 1) (ad 0 3) (ad 0 4) (ad 0 5) (ad 0 6) (ad 0 7) (sc 2) (sc 3) (sc 5) (sc 4) (sc 6) (ad 5) (ar 12) (ar 13) x z (hP.at (r := 0) (j := 0) rfl) (hP.at (r := 0) (j := 5) rfl) hP.ha hI.j1.2.2.2) (cwV 2 S.2.2.2.2 (gV tw_928 tw_929 tw_930 tw_1 tw_931) rfl rfl rfl (by decide +kernel) ⟨Nat.le_of_ble_eq_true rfl, Nat.le_of_ble_eq_true rfl⟩) (pre0_V hH hK hX hS hA (hH.recv hK (hP.at (r := 0) (j := 0) rfl) rfl)) rfl rfl hl.1 rfl (lv_room (Nat.le_of_ble_eq_true rfl)) dL_air_5 ⟨Nat.le_of_ble_eq_true rfl, Nat.le_of_ble_eq_true rfl⟩) hS (af_le hH hS hA) (fun E ce q9 φ_2x H locs hx hH hS hce hcv hcl => ?_) (fun v_1 φ_2 H locs hw_v_1 hH hS => ?_)
  · skip
    have hor : inX (sc 5) x = 0 ∨ inX (sc 5) x = 3 := by unfold inX; (repeat' split) <;> decide
    rcases hor with hv9 | hv9
    · exact absurd hv9 hx.2.2
    · have hE : E = "java/lang/IndexOutOfBoundsException" := by rw [hx.2.1, hv9]; rfl
      subst hE
      have hxp := hx.1
      refine vx_catch (own := RL) (name := "java/lang/IndexOutOfBoundsException") S.2.2.2.1 [] ⟨0, 10, 13, 25⟩ [] (by rw [ht9]; rfl) (fun z hz => by cases hz) (by decide) (by decide) (S.2.2.2.2 _ tw_588) (va_Nw.use (tabW_on tabIOOBE) (hX.tabs _ tabIOOBE)) hce hcv hcl ?_
      refine lv_astore (pc := 13) (lv' := [(4, .ref q9), (0, .ref (ad 0 0)), (1, .int (x)), (2, .int (z)), (3, .ref (ad 0 9))]) S.1 S.2.1 dL_air_13 hl (by decide) rfl (fun ls hl => ?_)
      refine lv_iconst (pc := 15) (v := nI 1) S.1 S.2.1 dL_air_15 (by decide) ?_
      rw [hxp] at hH
      exact hv_ret (pc := 16) (v := nI 1) S hr rfl hlocks hH hS (⟨by rw [hv9]; rfl, fun _ => hP, fun z => absurd (hv9.symm.trans z) (by decide)⟩) (Nat.le_of_ble_eq_true rfl) (Nat.le_of_ble_eq_true rfl) dL_air_16
  · skip
    obtain ⟨e0, x1, rfl, hxn, rfl, hp9⟩ := hw_v_1
    have hj1 := hI.j1
    have hP2 : PIC (yC cA ga (va_up sc 7 (0)) ar w ey o ad) ad φ_2 := by rw [hp9]; exact yp_same hP 0
    refine lv_i2l (pc := 8) (v := (nI (if z = 0 then ar 13 x1 else ar 12 x1)).toInt64) S.1 S.2.1 dL_air_8 rfl ?_
    refine hv_last (pc := 9) S hK hH hS 3 (hP2.at (r := 0) (j := 9) rfl) rfl (vp_in_nI (by decide) (by decide)) dL_air_9 (fun H locs hH hS => ?_)
    replace hH := nup (e := .inl (cA 3, 1, .inr (.inl (vp_updL o (nI 0).toNatClampNeg ((nI (if z = 0 then ar 13 x1 else ar 12 x1)).toInt64))))) hH
    obtain ⟨φ_3, hφ_3, fa_φ_3, fr_φ_3, hH⟩ := hH
    refine lv_goto (pc := 10) (tgt := 17) S.1 S.2.1 dL_air_10 (by decide) ?_
    refine lv_iconst (pc := 17) (v := nI 0) S.1 S.2.1 dL_air_17 (by decide) ?_
    exact hv_ret (pc := 18) (v := nI 0) S hr rfl hlocks hH hS (⟨by rw [e0]; rfl, fun z => absurd e0 z, fun _ => ⟨x1, rfl, by omega, ⟨w, ey, _, ad, updL0 _ _, rfl, rfl, by rw [hφ_3]; exact yp_out hP2 _, hI.mono 0⟩⟩⟩) (Nat.le_of_ble_eq_true rfl) (Nat.le_of_ble_eq_true rfl) dL_air_18

set_option maxHeartbeats 4000000 in
set_option maxRecDepth 100000 in
/-- the law's grams -/
theorem lw_grams (l : Launch) (hfl : l.stackTraces = false) (D : va_G) (cA : Nat → ClassId) (ga : Nat → Nat → Nat) (φ : hpM) (sz : Nat) (k9 : Nat) (sc : Nat → Nat) (ar : Nat → Nat → Nat) (w : Nat → Nat → Nat → Nat) (ey : Nat → Nat → Nat) (o : Nat → Int64) (ad : Nat → Nat → Nat) (x : Int32) (hP : PIC (yC cA ga sc ar w ey o ad) ad φ) (hI : INV k9 sc ar w ey) (h512 : k9 ≤ 512) : hW l yL_grams cL_grams 4 (some .int) [(0, 9, 12, 25)] { frames := 11, cells := 2, slots := 12, locals := 380 } [.ref (ad 0 0), .int (x), .ref (ad 0 9)] D cA ga φ sz (fun v φ' => v = some (.int (nI (mcd 9 9 1 (inX (sc 2) x)))) ∧ (inX (sc 2) x ≠ 0 → PIC (yC cA ga sc ar w ey o ad) ad φ') ∧ (inX (sc 2) x = 0 → ∃ x1 : Nat, x = nI x1 ∧ x1 < 2 ^ 31 ∧ NXT cA ga (k9 + 1) (ad 0 0) (ad 0 9) (va_up sc 7 (0)) (ar) ((nI (ar 2 x1)).toInt64) φ')) 2 12 := by
  refine hW.of (by decide) (Nat.le_of_ble_eq_true rfl) rfl ?_
  intro p e s m args below meth c ls H locs S hr hlocks ht9 hN3 hsz hHz hH hK hX hS hA hl
  refine lv_aload_n (pc := 0) S.1 S.2.1 dL_grams_0 rfl (lv_at hl 2 rfl) ?_
  refine lv_iconst (pc := 1) (v := nI 0) S.1 S.2.1 dL_grams_1 (by decide) ?_
  refine lv_aload_n (pc := 2) S.1 S.2.1 dL_grams_2 rfl (lv_at hl 0 rfl) ?_
  refine lv_iload_n (pc := 3) S.1 S.2.1 dL_grams_3 rfl (lv_at hl 1 rfl) ?_
  refine hv_callX (pc := 4) (vx_runV (As := [.int (x)]) (rest := [.int (nI 0), .ref (ad 0 9)]) S (c_grams l hfl D cA ga φ H.size (ad 0 0) (ad 0 1) (ad 0 3) (ad 0 4) (ad 0 5) (ad 0 6) (ad 0 7) (sc 2) (sc 3) (sc 5) (sc 4) (sc 6) (ad 1) (ar 1) (ar 2) x (hP.at (r := 0) (j := 0) rfl) (hP.at (r := 0) (j := 3) rfl) hP.lt hI.j1.1) (cwV 1 S.2.2.2.2 (gV tw_935 tw_936 tw_937 tw_1 tw_938) rfl rfl rfl (by decide +kernel) ⟨Nat.le_of_ble_eq_true rfl, Nat.le_of_ble_eq_true rfl⟩) (pre0_V hH hK hX hS hA (hH.recv hK (hP.at (r := 0) (j := 0) rfl) rfl)) rfl rfl hl.1 rfl (lv_room (Nat.le_of_ble_eq_true rfl)) dL_grams_4 ⟨Nat.le_of_ble_eq_true rfl, Nat.le_of_ble_eq_true rfl⟩) hS (af_le hH hS hA) (fun E ce q9 φ_2x H locs hx hH hS hce hcv hcl => ?_) (fun v_1 φ_2 H locs hw_v_1 hH hS => ?_)
  · skip
    have hor : inX (sc 2) x = 0 ∨ inX (sc 2) x = 3 := by unfold inX; (repeat' split) <;> decide
    rcases hor with hv9 | hv9
    · exact absurd hv9 hx.2.2
    · have hE : E = "java/lang/IndexOutOfBoundsException" := by rw [hx.2.1, hv9]; rfl
      subst hE
      have hxp := hx.1
      refine vx_catch (own := RL) (name := "java/lang/IndexOutOfBoundsException") S.2.2.2.1 [] ⟨0, 9, 12, 25⟩ [] (by rw [ht9]; rfl) (fun z hz => by cases hz) (by decide) (by decide) (S.2.2.2.2 _ tw_588) (va_Nw.use (tabW_on tabIOOBE) (hX.tabs _ tabIOOBE)) hce hcv hcl ?_
      refine lv_astore_n (pc := 12) (lv' := [(3, .ref q9), (0, .ref (ad 0 0)), (1, .int (x)), (2, .ref (ad 0 9))]) S.1 S.2.1 dL_grams_12 rfl hl (by decide) rfl (fun ls hl => ?_)
      refine lv_iconst (pc := 13) (v := nI 1) S.1 S.2.1 dL_grams_13 (by decide) ?_
      rw [hxp] at hH
      exact hv_ret (pc := 14) (v := nI 1) S hr rfl hlocks hH hS (⟨by rw [hv9]; rfl, fun _ => hP, fun z => absurd (hv9.symm.trans z) (by decide)⟩) (Nat.le_of_ble_eq_true rfl) (Nat.le_of_ble_eq_true rfl) dL_grams_14
  · skip
    obtain ⟨e0, x1, rfl, hxn, rfl, hp9⟩ := hw_v_1
    have hj1 := hI.j1
    have hP2 : PIC (yC cA ga (va_up sc 7 (0)) ar w ey o ad) ad φ_2 := by rw [hp9]; exact yp_same hP 0
    refine lv_i2l (pc := 7) (v := (nI (ar 2 x1)).toInt64) S.1 S.2.1 dL_grams_7 rfl ?_
    refine hv_last (pc := 8) S hK hH hS 3 (hP2.at (r := 0) (j := 9) rfl) rfl (vp_in_nI (by decide) (by decide)) dL_grams_8 (fun H locs hH hS => ?_)
    replace hH := nup (e := .inl (cA 3, 1, .inr (.inl (vp_updL o (nI 0).toNatClampNeg ((nI (ar 2 x1)).toInt64))))) hH
    obtain ⟨φ_3, hφ_3, fa_φ_3, fr_φ_3, hH⟩ := hH
    refine lv_goto (pc := 9) (tgt := 15) S.1 S.2.1 dL_grams_9 (by decide) ?_
    refine lv_iconst (pc := 15) (v := nI 0) S.1 S.2.1 dL_grams_15 (by decide) ?_
    exact hv_ret (pc := 16) (v := nI 0) S hr rfl hlocks hH hS (⟨by rw [e0]; rfl, fun z => absurd e0 z, fun _ => ⟨x1, rfl, by omega, ⟨w, ey, _, ad, updL0 _ _, rfl, rfl, by rw [hφ_3]; exact yp_out hP2 _, hI.mono 0⟩⟩⟩) (Nat.le_of_ble_eq_true rfl) (Nat.le_of_ble_eq_true rfl) dL_grams_16

