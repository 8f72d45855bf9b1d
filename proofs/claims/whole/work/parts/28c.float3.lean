section LFW
variable {p : Program} {l : Launch} {e : Env} {R : Room} {s : State} {m : MethodId} {args : Array Value} {below : List Frame} {meth : Method} {c : Code} {H : Heap} {locs : List Loc} {cells slots : Nat} {Q : State → Prop}
variable {cc : ByteArray} {pc : Nat} {ls : Array Slot} {rest : List Value}
theorem lf_ldcwC {T : State} (X : Stand p l e R s m args below meth c T locs cells slots) (hexec : p.tables.exec = Jvm.exec) {own : String} {index : Nat} {b : UInt32} (hown : s.vm.findClass own = some m.cls)
    (hconst : (Cond.constantFloat own index b).before args s = true) {g : JFrame} (hg : g.method = m) (hdg : decode c.code g.pc = .ok (.ldc_w index, 3)) :
    ∀ target, Steps p.tables e below (T.setTop { g with pc := g.pc + 3, stack := .float b :: g.stack }) target → Steps p.tables e below (T.setTop g) target := by
  obtain ⟨k, cf, hk, hcf, hcp⟩ := Cond.constantFloat_spec hown hconst
  obtain ⟨k', hk', he⟩ := X.warmed.alike.2.2 _ _ hk
  intro target hrest
  subst hg
  jvm_step X.here [hexec, hdg, ldc_w.wp_float (s := T) (f := g) X.here.top hk' (by rw [he]; exact hcf) hcp]
  exact hrest
theorem lf_ldcw (hexec : p.tables.exec = Jvm.exec) (hb : c.code = cc) {own : String} {index : Nat} {v : UInt32} (hown : s.vm.findClass own = some m.cls) (hconst : (Jvm.Cond.constantFloat own index v).before args s = true) (hdg : decode cc pc = .ok (.ldc_w index, 3)) (k : W p l e R s m args below meth c H locs cells slots Q (F0 m (pc + 3) ls (.float v :: rest))) : W p l e R s m args below meth c H locs cells slots Q (F0 m pc ls rest) := by
  intro T hT X
  obtain ⟨t, a, b⟩ := k T hT X
  exact ⟨t, lf_ldcwC X hexec hown hconst (g := F0 m pc ls rest) rfl (by rw [hb]; exact hdg) t a, b⟩
end LFW
/-- the contract's beginning for a method whose class has rows of natives, but not for it -/
theorem hM.ofF {l : Launch} {y : MethodName} {rm : Room} {av : List Value} {D : va_G} {cA : Nat → ClassId} {ga : Nat → Nat → Nat} {φ : hpM} {sz : Nat} {post : Option Value → hpM → Prop} {mc ms : Nat} {cc : ByteArray} {maxL : Nat} {ret : Option FieldType} {lv : List (Nat × Value)}
    (hy : plainFor y = true) (hn : (lg_sl av).length ≤ maxL) (hlv : lv_args 0 av = lv)
    (body : ∀ (p : Program) (e : Env) (s : State) (m : MethodId) (args : Array Value) (below : List Frame) (meth : Method) (c : Code) (ls : Array Slot) (H : Heap) (locs : List Loc), CallFix p m c cc maxL s args Wc y.cls → meth.sig.returnType = ret → meth.locks = false → meth.name = y.name → s.heap.size = sz → H.size = sz → hp D (Af φ sz) φ H → va_K D vwCl (tysL cA) s → Sx ga (Af φ sz) s s.heap → va_S (Af φ sz) s.heap H locs → (∀ q, s.heap.size ≤ q → Af φ sz q) → lv_has ls maxL lv →
      W p l e rm s m args below meth c H locs 0 0 (MQ below (hQ post D (Af φ sz)) args s mc ms (Af φ sz)) (F0 m 0 ls [])) : hM l y cc maxL ret rm av D cA ga φ sz post mc ms := by
  refine MetFree.of_bodySF (code := cc) (maxLocals := maxL) (ret := ret) hy ?_ ?_
  · intro args s m h hn
    obtain ⟨meth, c, h1, h2, h3, h4, h5, h6, -, -⟩ := Cond.code_spec hn (atoms_spec (ws := wl y cc maxL ret) h _ List.mem_cons_self)
    exact ⟨meth, c, h1, h2, h3, h4, h5, h6⟩
  · intro p e s m args below meth c s₁ B hml hv _
    have hh0 : s₁.heap = s.heap := by rw [B.state]; rfl
    obtain ⟨rfl, hsz, hH, hK, hX⟩ := hv
    have hl := lv_entry av (n := maxL) hn
    rw [lg_entry_eq]
    obtain ⟨t, a1, o, b1, b2, b3⟩ := body p e s m _ below meth c _ s.heap [] ⟨B.exec, B.bytes, hml, findClass_of_methodNamed B.named, fun w hw => atoms_spec (ws := wl y cc maxL ret) B.pre w (List.mem_cons_of_mem _ hw)⟩ B.returns B.notSynchronized (name_of_methodNamed B.named B.method).1 hsz hsz hH hK hX va_S.rf (fun q h => Or.inr (by rw [← hsz]; exact h)) (hlv ▸ hl) s₁ hh0 (Stand.of_body B)
    exact ⟨t, o, a1, b1, b2, ⟨b3.1, b3.2⟩⟩
theorem isN.refl {a : UInt32} (h : isN a) : FP.fcmp a a = some .eq := by
  rcases h with rfl | ⟨c, k, h1, rfl, _, _⟩
  · decide +kernel
  · rw [nF_cmp h1 h1]
    exact congrArg some (Int.compare_eq_eq.mpr rfl)
theorem in4 (z : Int32) : inR z 0 3 ↔ inN z 4 := by
  constructor
  · intro h
    obtain ⟨a, rfl, h1, h2⟩ := h.nat (by omega) (by omega)
    exact (inN_nI (by omega) (by omega)).mpr (by omega)
  · intro h
    obtain ⟨a, rfl, h1⟩ := h.nat (by omega)
    exact (inR_nI (by omega) (by omega) (by omega)).mpr ⟨by omega, by omega⟩
def brimX (nc : Nat) (x z : Int32) : Nat := if inN x nc then (if inR z 10 150 then 0 else 1) else 3
set_option maxHeartbeats 4000000 in
set_option maxRecDepth 100000 in
/-- bitsOf(value) -/
theorem c_bitsOf (l : Launch) (D : va_G) (cA : Nat → ClassId) (ga : Nat → Nat → Nat) (φ : hpM) (sz : Nat) (a : UInt32) (ha : isN a) : hM l yX8_bitsOf cX8_bitsOf 4 (some .int) { frames := 8, cells := 0, slots := 0, locals := 200 } [.float (a)] D cA ga φ sz (fun v φ' => v = some (.int (nI a.toNat)) ∧ φ' = φ) 0 0 := by
  refine hM.of (by decide) (Nat.le_of_ble_eq_true rfl) rfl ?_
  intro p e s m args below meth c ls H locs S hr hlocks hnm hsz hHz hH hK hX hS hA hl
  refine lv_fload_n (pc := 0) S.1 S.2.1 dX8_bitsOf_0 rfl (lv_at hl 0 rfl) ?_
  refine lv_fconst0 (pc := 1) S.1 S.2.1 dX8_bitsOf_1 ?_
  change W _ _ _ _ _ _ _ _ _ _ _ _ _ _ _ (F0 m 2 ls [.float (0), .float (a)])
  rcases ha with rfl | ⟨c, k, hok, rfl, _, _⟩
  · skip
    refine lv_fcmp (pc := 2) S.1 S.2.1 dX8_bitsOf_2 ?_
    refine hv_ti (y := 0) (by rw [show FP.fcmp 0 0 = some .eq by decide +kernel]; rfl) ?_
    refine lv_if_gt (pc := 3) (tgt := 8) S.1 S.2.1 dX8_bitsOf_3 (by decide) (fun c_1 => ?_) (fun c_1 => ?_)
    · skip
      exact absurd c_1 (by decide)
    · skip
      refine lv_iconst (pc := 6) (v := nI 0) S.1 S.2.1 dX8_bitsOf_6 (by decide) ?_
      exact hv_ret (pc := 7) (v := nI 0) S hr rfl hlocks hH hS (⟨rfl, rfl⟩) (Nat.le_of_ble_eq_true rfl) (Nat.le_of_ble_eq_true rfl) dX8_bitsOf_7
  · skip
    refine lv_fcmp (pc := 2) S.1 S.2.1 dX8_bitsOf_2 ?_
    refine hv_ti (y := 1) (by rw [f0_cmp hok]; rfl) ?_
    refine lv_if_gt (pc := 3) (tgt := 8) S.1 S.2.1 dX8_bitsOf_3 (by decide) (fun c_2 => ?_) (fun c_2 => ?_)
    · skip
      have hk24 := hok.2.2.1
      have hk277 := hok.2.2.2
      refine lv_fload_n (pc := 8) S.1 S.2.1 dX8_bitsOf_8 rfl (lv_at hl 0 rfl) ?_
      refine lv_fstore_n (pc := 9) (lv' := [(1, .float (nF c k)), (0, .float (nF c k))]) S.1 S.2.1 dX8_bitsOf_9 rfl hl (by decide) rfl (fun ls hl => ?_)
      refine lv_iconst (pc := 10) (v := nI 0) S.1 S.2.1 dX8_bitsOf_10 (by decide) ?_
      refine lv_istore_n (pc := 11) (lv' := [(2, .int (nI 0)), (1, .float (nF c k)), (0, .float (nF c k))]) S.1 S.2.1 dX8_bitsOf_11 rfl hl (by decide) rfl (fun ls hl => ?_)
      refine lv_iconst (pc := 12) (v := nI 0) S.1 S.2.1 dX8_bitsOf_12 (by decide) ?_
      refine lv_istore_n (pc := 13) (lv' := [(3, .int (nI 0)), (2, .int (nI 0)), (1, .float (nF c k)), (0, .float (nF c k))]) S.1 S.2.1 dX8_bitsOf_13 rfl hl (by decide) rfl (fun ls hl => ?_)
      have hok2 : ∀ j : Nat, 24 ≤ j → j ≤ 277 → nFok c j := fun j h1 h2 => ⟨hok.1, hok.2.1, h1, h2⟩
      have h2ok : nFok (2 ^ 23) 151 := ⟨by decide, by decide, by decide, by decide⟩
      have h1ok : nFok (2 ^ 23) 150 := ⟨by decide, by decide, by decide, by decide⟩
      have hg : ∃ (n i : Nat) (pw : Int32), (i + n = k - 150 ∧ pw + nI 127 = nI (127 + i)) ∧ lv_has ls 4 [(0, .float (nF c k)), (1, .float (nF c (k - i))), (2, .int (pw)), (3, .int (nI i))] := ⟨k - 150, 0, nI 0, ⟨by omega, rfl⟩, lv_sub hl [3, 2, 1, 0] rfl⟩
      clear hl
      try clear hHz
      obtain ⟨n, i, pw, hi, hl⟩ := hg
      induction n generalizing ls H locs i pw with
      | zero =>
        obtain ⟨hi9, hpw⟩ := hi
        have hi128 : i < 128 := by omega
        refine lv_iload_n (pc := 14) S.1 S.2.1 dX8_bitsOf_14 rfl (lv_at hl 3 rfl) ?_
        refine lv_sipush (pc := 15) (v := nI 128) S.1 S.2.1 dX8_bitsOf_15 (by decide) ?_
        refine hv_icmp_ge (pc := 18) (tgt := 40) (a := i) (b := 128) S.1 S.2.1 (by omega) (by omega) dX8_bitsOf_18 (by decide) (fun c_3 => ?_) (fun c_3 => ?_)
        · skip
          exact absurd c_3 (by omega)
        · skip
          refine lv_fload_n (pc := 21) S.1 S.2.1 dX8_bitsOf_21 rfl (lv_at hl 1 rfl) ?_
          refine lv_fconst2 (pc := 22) S.1 S.2.1 dX8_bitsOf_22 ?_
          change W _ _ _ _ _ _ _ _ _ _ _ _ _ _ _ (F0 m 23 ls [.float (0x40000000), .float (nF c (k - i))])
          refine lv_fcmp (pc := 23) S.1 S.2.1 dX8_bitsOf_23 ?_
          refine hv_ti (y := -1) (by rw [f2_nF, nF_lt (hok2 (k - i) (by omega) (by omega)) h2ok (by omega)]; rfl) ?_
          refine lv_if_lt (pc := 24) (tgt := 40) S.1 S.2.1 dX8_bitsOf_24 (by decide) (fun c_4 => ?_) (fun c_4 => ?_)
          · skip
            refine lv_iconst (pc := 40) (v := nI 0) S.1 S.2.1 dX8_bitsOf_40 (by decide) ?_
            refine lv_istore_n (pc := 41) (lv' := [(3, .int (nI 0)), (0, .float (nF c k)), (1, .float (nF c (k - i))), (2, .int (pw))]) S.1 S.2.1 dX8_bitsOf_41 rfl hl (by decide) rfl (fun ls hl => ?_)
            obtain ⟨cur, hcur⟩ : ∃ cur : Nat, cur = k - i := ⟨_, rfl⟩
            rw [← hcur] at hl
            obtain ⟨mm, hmm⟩ : ∃ mm : Nat, mm + cur = k + 127 := ⟨k + 127 - cur, by omega⟩
            have hpm : pw + nI 127 = nI mm := by rw [hpw]; congr 1; omega
            clear hpw hi128
            have hg : ∃ (n j : Nat) (pv : Int32), (j + n = 150 - cur ∧ pv + nI 127 = nI (mm - j)) ∧ lv_has ls 4 [(0, .float (nF c k)), (1, .float (nF c (cur + j))), (2, .int (pv)), (3, .int (nI j))] := ⟨150 - cur, 0, pw, ⟨by omega, hpm⟩, lv_sub hl [1, 2, 3, 0] rfl⟩
            clear hl
            try clear hHz
            obtain ⟨n, j, pv, hi, hl⟩ := hg
            induction n generalizing ls H locs j pv with
            | zero =>
              obtain ⟨hj9, hpv⟩ := hi
              have hcj : cur + j = 150 := by omega
              have hmj : mm - j = k - 23 := by omega
              rw [hmj] at hpv
              rw [hcj] at hl
              refine lv_iload_n (pc := 42) S.1 S.2.1 dX8_bitsOf_42 rfl (lv_at hl 3 rfl) ?_
              refine lv_sipush (pc := 43) (v := nI 128) S.1 S.2.1 dX8_bitsOf_43 (by decide) ?_
              refine hv_icmp_ge (pc := 46) (tgt := 68) (a := j) (b := 128) S.1 S.2.1 (by omega) (by omega) dX8_bitsOf_46 (by decide) (fun c_5 => ?_) (fun c_5 => ?_)
              · skip
                exact absurd c_5 (by omega)
              · skip
                refine lv_fload_n (pc := 49) S.1 S.2.1 dX8_bitsOf_49 rfl (lv_at hl 1 rfl) ?_
                refine lv_fconst1 (pc := 50) S.1 S.2.1 dX8_bitsOf_50 ?_
                change W _ _ _ _ _ _ _ _ _ _ _ _ _ _ _ (F0 m 51 ls [.float (0x3f800000), .float (nF c 150)])
                obtain ⟨hlo1, hlo2, hlo3⟩ := nF_low hok.1 hok.2.1
                have hge : Op.cmpValue (FP.fcmp (nF c 150) 0x3f800000) .g = 0 ∨ Op.cmpValue (FP.fcmp (nF c 150) 0x3f800000) .g = 1 := by rw [f1_nF]; rcases nF_ge (hok2 150 (by omega) (by omega)) h1ok (Nat.le_refl _) with h | h <;> rw [h] <;> decide
                refine lv_fcmp (pc := 51) S.1 S.2.1 dX8_bitsOf_51 ?_
                refine lv_if_ge (pc := 52) (tgt := 68) S.1 S.2.1 dX8_bitsOf_52 (by decide) (fun c_6 => ?_) (fun c_6 => ?_)
                · skip
                  refine lv_iload_n (pc := 68) S.1 S.2.1 dX8_bitsOf_68 rfl (lv_at hl 2 rfl) ?_
                  refine lv_bipush (pc := 69) (v := nI 127) S.1 S.2.1 dX8_bitsOf_69 (by decide) ?_
                  refine lv_iadd (pc := 71) S.1 S.2.1 dX8_bitsOf_71 ?_
                  refine hv_ti (y := nI (k - 23)) (hpv) ?_
                  refine lv_bipush (pc := 72) (v := nI 23) S.1 S.2.1 dX8_bitsOf_72 (by decide) ?_
                  refine lv_ishl (pc := 74) S.1 S.2.1 dX8_bitsOf_74 ?_
                  refine lv_fload_n (pc := 75) S.1 S.2.1 dX8_bitsOf_75 rfl (lv_at hl 1 rfl) ?_
                  refine lv_fconst1 (pc := 76) S.1 S.2.1 dX8_bitsOf_76 ?_
                  change W _ _ _ _ _ _ _ _ _ _ _ _ _ _ _ (F0 m 77 ls [.float (0x3f800000), .float (nF c 150), .int (nI (k - 23) <<< (nI 23 &&& 31))])
                  refine lv_fsub (pc := 77) S.1 S.2.1 dX8_bitsOf_77 (hlo1) ?_
                  refine lf_ldcw (pc := 78) (v := 1258291200) S.1 S.2.1 S.2.2.2.1 (S.2.2.2.2 _ tw_837) dX8_bitsOf_78 ?_
                  refine lv_fmul (pc := 81) S.1 S.2.1 dX8_bitsOf_81 (hlo2) ?_
                  refine lv_f2i (pc := 82) S.1 S.2.1 dX8_bitsOf_82 ?_
                  refine hv_ti (y := nI (c - 2 ^ 23)) (hlo3) ?_
                  refine lv_ior (pc := 83) S.1 S.2.1 dX8_bitsOf_83 ?_
                  refine hv_ti (y := nI (nF c k).toNat) (by rw [nF_nat hok]; exact bits_put (by omega) (by have h9 := hok.2.1; have h8 := hok.1; omega)) ?_
                  exact hv_ret (pc := 84) (v := nI (nF c k).toNat) S hr rfl hlocks hH hS (⟨rfl, rfl⟩) (Nat.le_of_ble_eq_true rfl) (Nat.le_of_ble_eq_true rfl) dX8_bitsOf_84
                · skip
                  exact absurd c_6 (by rcases hge with h | h <;> rw [h] <;> decide)
            | succ n ih =>
              obtain ⟨hj9, hpv⟩ := hi
              refine lv_iload_n (pc := 42) S.1 S.2.1 dX8_bitsOf_42 rfl (lv_at hl 3 rfl) ?_
              refine lv_sipush (pc := 43) (v := nI 128) S.1 S.2.1 dX8_bitsOf_43 (by decide) ?_
              refine hv_icmp_ge (pc := 46) (tgt := 68) (a := j) (b := 128) S.1 S.2.1 (by omega) (by omega) dX8_bitsOf_46 (by decide) (fun c_7 => ?_) (fun c_7 => ?_)
              · skip
                exact absurd c_7 (by omega)
              · skip
                refine lv_fload_n (pc := 49) S.1 S.2.1 dX8_bitsOf_49 rfl (lv_at hl 1 rfl) ?_
                refine lv_fconst1 (pc := 50) S.1 S.2.1 dX8_bitsOf_50 ?_
                change W _ _ _ _ _ _ _ _ _ _ _ _ _ _ _ (F0 m 51 ls [.float (0x3f800000), .float (nF c (cur + j))])
                refine lv_fcmp (pc := 51) S.1 S.2.1 dX8_bitsOf_51 ?_
                refine hv_ti (y := -1) (by rw [f1_nF, nF_lt (hok2 (cur + j) (by omega) (by omega)) h1ok (by omega)]; rfl) ?_
                refine lv_if_ge (pc := 52) (tgt := 68) S.1 S.2.1 dX8_bitsOf_52 (by decide) (fun c_8 => ?_) (fun c_8 => ?_)
                · skip
                  exact absurd c_8 (by decide)
                · skip
                  refine lv_fload_n (pc := 55) S.1 S.2.1 dX8_bitsOf_55 rfl (lv_at hl 1 rfl) ?_
                  refine lv_fconst2 (pc := 56) S.1 S.2.1 dX8_bitsOf_56 ?_
                  change W _ _ _ _ _ _ _ _ _ _ _ _ _ _ _ (F0 m 57 ls [.float (0x40000000), .float (nF c (cur + j))])
                  refine lv_fmul (pc := 57) S.1 S.2.1 dX8_bitsOf_57 (by rw [nF_dbl (hok2 (cur + j) (by omega) (by omega)) (hok2 (cur + j + 1) (by omega) (by omega))]; exact nF_num (hok2 (cur + j + 1) (by omega) (by omega))) ?_
                  refine hv_tv (y := .float (nF c (cur + j + 1))) (by rw [nF_dbl (hok2 (cur + j) (by omega) (by omega)) (hok2 (cur + j + 1) (by omega) (by omega))]) ?_
                  refine lv_fstore_n (pc := 58) (lv' := [(1, .float (nF c (cur + j + 1))), (0, .float (nF c k)), (2, .int (pv)), (3, .int (nI j))]) S.1 S.2.1 dX8_bitsOf_58 rfl hl (by decide) rfl (fun ls hl => ?_)
                  refine lv_iinc (pc := 59) (v := pv + -1) (lv' := [(2, .int (pv + -1)), (1, .float (nF c (cur + j + 1))), (0, .float (nF c k)), (3, .int (nI j))]) S.1 S.2.1 dX8_bitsOf_59 hl (k := 2) rfl (rfl) (by decide) rfl (fun ls hl => ?_)
                  refine lv_iinc (pc := 62) (v := nI (j + 1)) (lv' := [(3, .int (nI (j + 1))), (2, .int (pv + -1)), (1, .float (nF c (cur + j + 1))), (0, .float (nF c k))]) S.1 S.2.1 dX8_bitsOf_62 hl (k := 3) rfl (by first | rfl | exact nI_add _ _) (by decide) rfl (fun ls hl => ?_)
                  refine lv_goto (pc := 65) (tgt := 42) S.1 S.2.1 dX8_bitsOf_65 (by decide) ?_
                  have hi2 : (j + 1) + n = 150 - cur ∧ (pv + -1) + nI 127 = nI (mm - (j + 1)) := ⟨by omega, by rw [(show pv + -1 + nI 127 = (pv + nI 127) + -1 from by rw [Int32.add_assoc, Int32.add_comm (-1) (nI 127), ← Int32.add_assoc]), hpv, (show nI (mm - j) = nI (mm - (j + 1)) + 1 from by rw [← nI_succ]; congr 1; omega), Int32.add_assoc, (show (1 : Int32) + -1 = 0 from by decide), Int32.add_zero]⟩
                  have hl2 : lv_has ls 4 [(0, .float (nF c k)), (1, .float (nF c (cur + (j + 1)))), (2, .int ((pv + -1))), (3, .int (nI (j + 1)))] := lv_sub hl [3, 2, 1, 0] rfl
                  apply ih (j := j + 1) (pv := pv + -1) <;> assumption
          · skip
            exact absurd c_4 (by decide)
      | succ n ih =>
        obtain ⟨hi9, hpw⟩ := hi
        refine lv_iload_n (pc := 14) S.1 S.2.1 dX8_bitsOf_14 rfl (lv_at hl 3 rfl) ?_
        refine lv_sipush (pc := 15) (v := nI 128) S.1 S.2.1 dX8_bitsOf_15 (by decide) ?_
        refine hv_icmp_ge (pc := 18) (tgt := 40) (a := i) (b := 128) S.1 S.2.1 (by omega) (by omega) dX8_bitsOf_18 (by decide) (fun c_9 => ?_) (fun c_9 => ?_)
        · skip
          exact absurd c_9 (by omega)
        · skip
          refine lv_fload_n (pc := 21) S.1 S.2.1 dX8_bitsOf_21 rfl (lv_at hl 1 rfl) ?_
          refine lv_fconst2 (pc := 22) S.1 S.2.1 dX8_bitsOf_22 ?_
          change W _ _ _ _ _ _ _ _ _ _ _ _ _ _ _ (F0 m 23 ls [.float (0x40000000), .float (nF c (k - i))])
          have hge : Op.cmpValue (FP.fcmp (nF c (k - i)) 0x40000000) .l = 0 ∨ Op.cmpValue (FP.fcmp (nF c (k - i)) 0x40000000) .l = 1 := by rw [f2_nF]; rcases nF_ge (hok2 (k - i) (by omega) (by omega)) h2ok (by omega) with h | h <;> rw [h] <;> decide
          refine lv_fcmp (pc := 23) S.1 S.2.1 dX8_bitsOf_23 ?_
          refine lv_if_lt (pc := 24) (tgt := 40) S.1 S.2.1 dX8_bitsOf_24 (by decide) (fun c_10 => ?_) (fun c_10 => ?_)
          · skip
            exact absurd c_10 (by rcases hge with h | h <;> rw [h] <;> decide)
          · skip
            refine lv_fload_n (pc := 27) S.1 S.2.1 dX8_bitsOf_27 rfl (lv_at hl 1 rfl) ?_
            refine lv_fconst2 (pc := 28) S.1 S.2.1 dX8_bitsOf_28 ?_
            change W _ _ _ _ _ _ _ _ _ _ _ _ _ _ _ (F0 m 29 ls [.float (0x40000000), .float (nF c (k - i))])
            refine lv_fdiv (pc := 29) S.1 S.2.1 dX8_bitsOf_29 (by rw [nF_half (hok2 (k - i) (by omega) (by omega)) (hok2 (k - i - 1) (by omega) (by omega)) (by omega)]; exact nF_num (hok2 (k - i - 1) (by omega) (by omega))) ?_
            refine hv_tv (y := .float (nF c (k - i - 1))) (by rw [nF_half (hok2 (k - i) (by omega) (by omega)) (hok2 (k - i - 1) (by omega) (by omega)) (by omega)]) ?_
            refine lv_fstore_n (pc := 30) (lv' := [(1, .float (nF c (k - i - 1))), (0, .float (nF c k)), (2, .int (pw)), (3, .int (nI i))]) S.1 S.2.1 dX8_bitsOf_30 rfl hl (by decide) rfl (fun ls hl => ?_)
            refine lv_iinc (pc := 31) (v := pw + 1) (lv' := [(2, .int (pw + 1)), (1, .float (nF c (k - i - 1))), (0, .float (nF c k)), (3, .int (nI i))]) S.1 S.2.1 dX8_bitsOf_31 hl (k := 2) rfl (rfl) (by decide) rfl (fun ls hl => ?_)
            refine lv_iinc (pc := 34) (v := nI (i + 1)) (lv' := [(3, .int (nI (i + 1))), (2, .int (pw + 1)), (1, .float (nF c (k - i - 1))), (0, .float (nF c k))]) S.1 S.2.1 dX8_bitsOf_34 hl (k := 3) rfl (by first | rfl | exact nI_add _ _) (by decide) rfl (fun ls hl => ?_)
            refine lv_goto (pc := 37) (tgt := 14) S.1 S.2.1 dX8_bitsOf_37 (by decide) ?_
            rw [show k - i - 1 = k - (i + 1) by omega] at hl
            have hi2 : (i + 1) + n = k - 150 ∧ (pw + 1) + nI 127 = nI (127 + (i + 1)) := ⟨by omega, by rw [(show pw + 1 + nI 127 = (pw + nI 127) + 1 from by rw [Int32.add_assoc, Int32.add_comm 1 (nI 127), ← Int32.add_assoc]), hpw, nI_1]; first | done | rfl⟩
            have hl2 : lv_has ls 4 [(0, .float (nF c k)), (1, .float (nF c (k - (i + 1)))), (2, .int ((pw + 1))), (3, .int (nI (i + 1)))] := lv_sub hl [3, 2, 1, 0] rfl
            apply ih (i := i + 1) (pw := pw + 1) <;> assumption
    · skip
      exact absurd c_2 (by decide)

set_option maxHeartbeats 4000000 in
set_option maxRecDepth 100000 in
/-- Head.sizeIn(land) -/
theorem c_sizeIn (l : Launch) (D : va_G) (cA : Nat → ClassId) (ga : Nat → Nat → Nat) (φ : hpM) (sz : Nat) (h0 q t : Nat) (g : Nat → Nat) (f0 : φ h0 = some (.inr (9, [.ref q]))) (f1 : φ q = some (.inl (cA 1, 8, .inl (fun j => nI (g j))))) (hg8 : smN g 8 ≤ 1600) (ht : t < 4) : hM l yX5_sizeIn cX5_sizeIn 3 (some .float) { frames := 9, cells := 0, slots := 0, locals := 260 } [.ref h0, .int (nI t)] D cA ga φ sz (fun v φ' => v = some (.float (szF t (smN g 8 * 785 / 1000))) ∧ φ' = φ) 0 0 := by
  refine hM.of (by decide) (Nat.le_of_ble_eq_true rfl) rfl ?_
  intro p e s m args below meth c ls H locs S hr hlocks hnm hsz hHz hH hK hX hS hA hl
  obtain ⟨hz0, hz1, hz2, hz3⟩ := szD (a := smN g 8 * 785 / 1000) (by omega)
  refine lv_aload_n (pc := 0) S.1 S.2.1 dX5_sizeIn_0 rfl (lv_at hl 0 rfl) ?_
  refine hv_call (pc := 1) (va_runV (As := []) (rest := []) S (c_X5_around l D cA ga φ H.size h0 q g f0 f1 hg8) (cwV 0 S.2.2.2.2 (gV tw_920 tw_900 sw_30 tw_6 tw_901) rfl rfl rfl (by decide +kernel) ⟨Nat.le_of_ble_eq_true rfl, Nat.le_of_ble_eq_true rfl⟩) (pre0_V hH hK hX hS hA (hH.recv hK f0 rfl)) rfl rfl hl.1 rfl (lv_room (Nat.le_of_ble_eq_true rfl)) dX5_sizeIn_1 ⟨Nat.le_of_ble_eq_true rfl, Nat.le_of_ble_eq_true rfl⟩) hS (af_le hH hS hA) (fun v_1 φ_2 H locs hw_v_1 hH hS => ?_)
  obtain ⟨rfl, hqv_1⟩ := hw_v_1
  rw [hqv_1] at hH
  refine lv_i2f (pc := 4) S.1 S.2.1 dX5_sizeIn_4 ?_
  refine lv_fstore_n (pc := 5) (lv' := [(2, .float (FP.i2f (nI (smN g 8 * 785 / 1000)))), (0, .ref h0), (1, .int (nI t))]) S.1 S.2.1 dX5_sizeIn_5 rfl hl (by decide) rfl (fun ls hl => ?_)
  refine lv_iload_n (pc := 6) S.1 S.2.1 dX5_sizeIn_6 rfl (lv_at hl 2 rfl) ?_
  rcases (show t = 0 ∨ t = 1 ∨ t = 2 ∨ t = 3 by omega) with rfl | rfl | rfl | rfl
  · skip
    refine lv_tableIn (pc := 7) (off := 25) (tgt := 32) S.1 S.2.1 dX5_sizeIn_7 (by decide) (by decide) (by decide) (by decide) ?_
    refine lv_fload_n (pc := 32) S.1 S.2.1 dX5_sizeIn_32 rfl (lv_at hl 0 rfl) ?_
    refine lv_ldcf (pc := 33) (v := 1092616192) S.1 S.2.1 S.2.2.2.1 (S.2.2.2.2 _ tw_921) dX5_sizeIn_33 ?_
    refine lv_fdiv (pc := 35) S.1 S.2.1 dX5_sizeIn_35 (hz0.num) ?_
    exact hv_fret (pc := 36) S hr hlocks hH hS (⟨rfl, rfl⟩) (Nat.le_of_ble_eq_true rfl) (Nat.le_of_ble_eq_true rfl) dX5_sizeIn_36
  · skip
    refine lv_tableIn (pc := 7) (off := 30) (tgt := 37) S.1 S.2.1 dX5_sizeIn_7 (by decide) (by decide) (by decide) (by decide) ?_
    refine lv_fload_n (pc := 37) S.1 S.2.1 dX5_sizeIn_37 rfl (lv_at hl 0 rfl) ?_
    refine lv_ldcf (pc := 38) (v := 1117755277) S.1 S.2.1 S.2.2.2.1 (S.2.2.2.2 _ tw_922) dX5_sizeIn_38 ?_
    refine lv_fdiv (pc := 40) S.1 S.2.1 dX5_sizeIn_40 (hz1.num) ?_
    exact hv_fret (pc := 41) S hr hlocks hH hS (⟨rfl, rfl⟩) (Nat.le_of_ble_eq_true rfl) (Nat.le_of_ble_eq_true rfl) dX5_sizeIn_41
  · skip
    refine lv_tableIn (pc := 7) (off := 35) (tgt := 42) S.1 S.2.1 dX5_sizeIn_7 (by decide) (by decide) (by decide) (by decide) ?_
    refine lv_fload_n (pc := 42) S.1 S.2.1 dX5_sizeIn_42 rfl (lv_at hl 0 rfl) ?_
    refine lv_ldcf (pc := 43) (v := 1117755277) S.1 S.2.1 S.2.2.2.1 (S.2.2.2.2 _ tw_922) dX5_sizeIn_43 ?_
    refine lv_fdiv (pc := 45) S.1 S.2.1 dX5_sizeIn_45 (hz1.num) ?_
    refine lv_ldcf (pc := 46) (v := 1040187392) S.1 S.2.1 S.2.2.2.1 (S.2.2.2.2 _ tw_923) dX5_sizeIn_46 ?_
    refine lv_fadd (pc := 48) S.1 S.2.1 dX5_sizeIn_48 (hz2.num) ?_
    exact hv_fret (pc := 49) S hr hlocks hH hS (⟨rfl, rfl⟩) (Nat.le_of_ble_eq_true rfl) (Nat.le_of_ble_eq_true rfl) dX5_sizeIn_49
  · skip
    refine lv_tableOut (pc := 7) (tgt := 50) S.1 S.2.1 dX5_sizeIn_7 (Or.inr (by decide)) (by decide) ?_
    refine lv_fload_n (pc := 50) S.1 S.2.1 dX5_sizeIn_50 rfl (lv_at hl 0 rfl) ?_
    refine lv_ldcf (pc := 51) (v := 1087939543) S.1 S.2.1 S.2.2.2.1 (S.2.2.2.2 _ tw_924) dX5_sizeIn_51 ?_
    refine lv_fdiv (pc := 53) S.1 S.2.1 dX5_sizeIn_53 (hz3.num) ?_
    exact hv_fret (pc := 54) S hr hlocks hH hS (⟨rfl, rfl⟩) (Nat.le_of_ble_eq_true rfl) (Nat.le_of_ble_eq_true rfl) dX5_sizeIn_54

set_option maxHeartbeats 4000000 in
set_option maxRecDepth 100000 in
/-- size(land) -/
theorem c_size (l : Launch) (hfl : l.stackTraces = false) (D : va_G) (cA : Nat → ClassId) (ga : Nat → Nat → Nat) (φ : hpM) (sz : Nat) (y sb la ca ha ba hd nl nc nh nb dy : Nat) (rq : Nat) (rf : Nat → Nat) (x : Int32) (f0 : φ y = some (.inr (12, [.ref sb, .ref la, .ref ca, .ref ha, .ref ba, .ref hd, .int (nI nl), .int (nI nc), .int (nI nh), .int (nI nb), .int (nI dy)]))) (f1 : φ hd = some (.inr (9, [.ref rq]))) (f2 : φ rq = some (.inl (cA 1, 8, .inl (fun j => nI (rf j))))) (hrf : ∀ j, rf j ≤ 200) : hMX l yX8_size cX8_size 2 (some .int) { frames := 10, cells := 2, slots := 12, locals := 320 } [.ref y, .int (x)] D cA ga φ sz (fun v φ' => inX 4 x = 0 ∧ (∃ x1 : Nat, x = nI x1 ∧ x1 < 4 ∧ v = some (.int (nI (szF x1 (smN rf 8 * 785 / 1000)).toNat)) ∧ φ' = φ)) (fun E φ' => φ' = φ ∧ E = exE (inX 4 x) ∧ inX 4 x ≠ 0) 2 12 := by
  refine hMX.of (by decide) (Nat.le_of_ble_eq_true rfl) rfl ?_
  intro p e s m args below meth c ls H locs S hr hlocks hne hsz hHz hH hK hX hS hA hl
  refine lv_iload_n (pc := 0) S.1 S.2.1 dX8_size_0 rfl (lv_at hl 1 rfl) ?_
  refine lv_iconst (pc := 1) (v := nI 4) S.1 S.2.1 dX8_size_1 (by decide) ?_
  refine hv_callX (pc := 2) (vx_runS (As := [.int (x), .int (nI 4)]) (rest := []) S (c_refuseNoSuch l hfl D cA ga φ H.size x 4) (va_cwS 2 S.2.2.2.2 (gS tw_597 tw_598 tw_1 tw_599) rfl rfl rfl (by decide +kernel) ⟨Nat.le_of_ble_eq_true rfl, Nat.le_of_ble_eq_true rfl⟩) (pre0_S hH hK hX hS hA) rfl rfl hl.1 rfl (lv_room (Nat.le_of_ble_eq_true rfl)) dX8_size_2 ⟨Nat.le_of_ble_eq_true rfl, Nat.le_of_ble_eq_true rfl⟩) hS (af_le hH hS hA) (fun E ce q9 φ_2x H locs hx hH hS hce hcv hcl => ?_) (fun v_1 φ_2 H locs hw_v_1 hH hS => ?_)
  · skip
    have e9 : inX 4 x = 3 := by rw [inX, if_neg hx.2.2]
    exact hv_out hne hlocks hce hcv hcl hH hS ⟨hx.2.1, by rw [e9]; exact hx.1, by rw [e9]; decide⟩ (Nat.le_of_ble_eq_true rfl) (Nat.le_of_ble_eq_true rfl)
  · skip
    obtain ⟨rfl, hp9, hin_x⟩ := hw_v_1
    rw [hp9] at hH
    obtain ⟨x1, rfl, hxn⟩ := hin_x.nat (by omega)
    have e0 : inX 4 (nI x1) = 0 := by rw [inX, if_pos hin_x]
    have hs8 := smN_le hrf 8
    refine lv_aload_n (pc := 5) S.1 S.2.1 dX8_size_5 rfl (lv_at hl 0 rfl) ?_
    refine hv_get (pc := 6) (C := RX8) (T := TX8) (N := 11) (ref := RX8) S uwX8 hK hH f0 rfl 5 (by decide) tw_95 (fun _ h9 => h9) rfl dX8_size_6 ?_
    refine lv_iload_n (pc := 9) S.1 S.2.1 dX8_size_9 rfl (lv_at hl 1 rfl) ?_
    refine hv_call (pc := 10) (va_runVN (As := [.int (nI x1)]) (rest := []) S (c_sizeIn l D cA ga φ H.size hd rq x1 rf f1 f2 (by omega) hxn) ⟨va_cnB (host := "HatbandYard") 1 S.2.2.2.2 (gw tw_919) rfl rfl rfl (hX.nest _ (by decide +kernel)) (S.2.2.2.2 _ tw_6) (by decide +kernel) ⟨Nat.le_of_ble_eq_true rfl, Nat.le_of_ble_eq_true rfl⟩, S.2.2.2.2 _ tw_918, S.2.2.2.2 _ sw_31⟩ (pre0_V hH hK hX hS hA (hH.recv hK f1 rfl)) rfl rfl hl.1 rfl (lv_room (Nat.le_of_ble_eq_true rfl)) dX8_size_10 ⟨Nat.le_of_ble_eq_true rfl, Nat.le_of_ble_eq_true rfl⟩) hS (af_le hH hS hA) (fun v_3 φ_4 H locs hw_v_3 hH hS => ?_)
    obtain ⟨rfl, hqv_3⟩ := hw_v_3
    rw [hqv_3] at hH
    refine hv_call (pc := 13) (va_runS (As := [.float (szF x1 (smN rf 8 * 785 / 1000))]) (rest := []) S (c_bitsOf l D cA ga φ H.size (szF x1 (smN rf 8 * 785 / 1000)) (szF_is (by omega))) (va_cwS 1 S.2.2.2.2 (gS tw_834 tw_835 tw_1 tw_836) rfl rfl rfl (by decide +kernel) ⟨Nat.le_of_ble_eq_true rfl, Nat.le_of_ble_eq_true rfl⟩) (pre0_S hH hK hX hS hA) rfl rfl hl.1 rfl (lv_room (Nat.le_of_ble_eq_true rfl)) dX8_size_13 ⟨Nat.le_of_ble_eq_true rfl, Nat.le_of_ble_eq_true rfl⟩) hS (af_le hH hS hA) (fun v_5 φ_6 H locs hw_v_5 hH hS => ?_)
    obtain ⟨rfl, hqv_5⟩ := hw_v_5
    rw [hqv_5] at hH
    exact vx_ret (hv_ret (pc := 16) (v := nI ((szF x1 (smN rf 8 * 785 / 1000)).toNat)) S hr rfl hlocks hH hS (⟨e0, x1, rfl, hxn, rfl, rfl⟩) (Nat.le_of_ble_eq_true rfl) (Nat.le_of_ble_eq_true rfl) dX8_size_16)

set_option maxHeartbeats 4000000 in
set_option maxRecDepth 100000 in
/-- brim(cone, width) -/
theorem c_brim (l : Launch) (hfl : l.stackTraces = false) (D : va_G) (cA : Nat → ClassId) (ga : Nat → Nat → Nat) (φ : hpM) (sz : Nat) (y sb la ca ha ba hd nl nc nh nb dy : Nat) (ac aw ag cf ht cy tr ab dr : Nat → Nat) (wf mf : Nat → Nat → Nat) (x z : Int32) (f0 : φ y = some (.inr (12, [.ref sb, .ref la, .ref ca, .ref ha, .ref ba, .ref hd, .int (nI nl), .int (nI nc), .int (nI nh), .int (nI nb), .int (nI dy)]))) (f1 : φ ca = some (.inl (cA 5, 12, .inr (.inr (.inr (.inr (reF nc ac))))))) (hcn : ∀ i, i < nc → φ (ac i) = some (.inr (5, [.ref (ga 0 (cf i)), .ref (aw i), .ref (ag i), .int (nI (ht i)), .int (nI (cy i)), lbV ab (dr i), .int (nI (tr i))])) ∧ φ (aw i) = some (.inl (cA 1, 6, .inl (fun j => nI ((wf i) j)))) ∧ φ (ag i) = some (.inl (cA 1, 6, .inl (fun j => nI ((mf i) j)))) ∧ ag i ≠ aw i) (hcb : ∀ i, i < nc → cf i < 4 ∧ (∀ j, wf i j ≤ 1200) ∧ ht i ≤ 60 ∧ (∀ j, mf i j ≤ 500) ∧ cy i ≤ 12 ∧ tr i ≤ 1) (hnc : nc ≤ 12) (hwp : ∀ i, i < nc → 0 < wf i 0) : hMX l yX8_brim cX8_brim 5 (some .int) { frames := 10, cells := 3, slots := 18, locals := 320 } [.ref y, .int (x), .int (z)] D cA ga φ sz (fun v φ' => brimX nc x z = 0 ∧ (∃ x1 z1 : Nat, x = nI x1 ∧ z = nI z1 ∧ x1 < nc ∧ 10 ≤ z1 ∧ z1 ≤ 150 ∧ v = some (.int (nI (puF z1 (wf x1 0)).toNat)) ∧ φ' = φ)) (fun E φ' => φ' = φ ∧ E = exE (brimX nc x z) ∧ brimX nc x z ≠ 0) 3 18 := by
  refine hMX.of (by decide) (Nat.le_of_ble_eq_true rfl) rfl ?_
  intro p e s m args below meth c ls H locs S hr hlocks hne hsz hHz hH hK hX hS hA hl
  refine lv_aload_n (pc := 0) S.1 S.2.1 dX8_brim_0 rfl (lv_at hl 0 rfl) ?_
  refine lv_iload_n (pc := 1) S.1 S.2.1 dX8_brim_1 rfl (lv_at hl 1 rfl) ?_
  refine hv_callX (pc := 2) (vx_runV (As := [.int (x)]) (rest := []) S (c_coneAt l hfl D cA ga φ H.size y sb la ca ha ba hd nl nc nh nb dy x (reF nc ac) f0 f1) (cwV 1 S.2.2.2.2 (gV tw_681 tw_683 sw_5 tw_1 tw_684) rfl rfl rfl (by decide +kernel) ⟨Nat.le_of_ble_eq_true rfl, Nat.le_of_ble_eq_true rfl⟩) (pre0_V hH hK hX hS hA (hH.recv hK f0 rfl)) rfl rfl hl.1 rfl (lv_room (Nat.le_of_ble_eq_true rfl)) dX8_brim_2 ⟨Nat.le_of_ble_eq_true rfl, Nat.le_of_ble_eq_true rfl⟩) hS (af_le hH hS hA) (fun E ce q9 φ_2x H locs hx hH hS hce hcv hcl => ?_) (fun v_1 φ_2 H locs hw_v_1 hH hS => ?_)
  · skip
    have hn9 : ¬ inN x nc := fun h => by obtain ⟨i, e, hi⟩ := h.nat (by omega); exact hx.2.2 i (ac i) e (by omega) (reF_at hi)
    have e9 : brimX nc x z = 3 := by rw [brimX, if_neg hn9]
    exact hv_out hne hlocks hce hcv hcl hH hS ⟨hx.2.1, by rw [e9]; exact hx.1, by rw [e9]; decide⟩ (Nat.le_of_ble_eq_true rfl) (Nat.le_of_ble_eq_true rfl)
  · skip
    obtain ⟨⟨x1, a9, rfl, hxhi, hf9, rfl⟩, hp9⟩ := hw_v_1
    rw [hp9] at hH
    obtain ⟨hxn, rfl⟩ := reF_some hf9
    have hin_x : inN (nI x1) nc := (inN_nI (by omega) (by omega)).mpr hxn
    refine lv_astore_n (pc := 5) (lv' := [(3, .ref (ac x1)), (0, .ref y), (1, .int (nI x1)), (2, .int (z))]) S.1 S.2.1 dX8_brim_5 rfl hl (by decide) rfl (fun ls hl => ?_)
    refine lv_iload_n (pc := 6) S.1 S.2.1 dX8_brim_6 rfl (lv_at hl 3 rfl) ?_
    refine lv_bipush (pc := 7) (v := nI 10) S.1 S.2.1 dX8_brim_7 (by decide) ?_
    refine lv_sipush (pc := 9) (v := nI 150) S.1 S.2.1 dX8_brim_9 (by decide) ?_
    refine hv_callX (pc := 12) (vx_runS (As := [.int (z), .int (nI 10), .int (nI 150)]) (rest := []) S (c_refuseOutside l hfl D cA ga φ H.size z 10 150) (va_cwS 3 S.2.2.2.2 (gS tw_133 tw_134 tw_1 tw_135) rfl rfl rfl (by decide +kernel) ⟨Nat.le_of_ble_eq_true rfl, Nat.le_of_ble_eq_true rfl⟩) (pre0_S hH hK hX hS hA) rfl rfl hl.1 rfl (lv_room (Nat.le_of_ble_eq_true rfl)) dX8_brim_12 ⟨Nat.le_of_ble_eq_true rfl, Nat.le_of_ble_eq_true rfl⟩) hS (af_le hH hS hA) (fun E ce q9 φ_4x H locs hx hH hS hce hcv hcl => ?_) (fun v_3 φ_4 H locs hw_v_3 hH hS => ?_)
    · skip
      have e9 : brimX nc (nI x1) z = 1 := by rw [brimX, if_pos hin_x, if_neg hx.2.2]
      exact hv_out hne hlocks hce hcv hcl hH hS ⟨hx.2.1, by rw [e9]; exact hx.1, by rw [e9]; decide⟩ (Nat.le_of_ble_eq_true rfl) (Nat.le_of_ble_eq_true rfl)
    · skip
      obtain ⟨rfl, hp9, hin_z⟩ := hw_v_3
      rw [hp9] at hH
      obtain ⟨z1, rfl, hzlo, hzhi⟩ := hin_z.nat (by omega) (by omega)
      have e0 : brimX nc (nI x1) (nI z1) = 0 := by rw [brimX, if_pos hin_x, if_pos hin_z]
      refine lv_aload_n (pc := 15) S.1 S.2.1 dX8_brim_15 rfl (lv_at hl 0 rfl) ?_
      refine lv_iconst (pc := 16) (v := nI 0) S.1 S.2.1 dX8_brim_16 (by decide) ?_
      obtain ⟨fc0, fc1, fc2, nga⟩ := hcn x1 hxn
      obtain ⟨hcf, hwf, hht, hmf, hcy, htr⟩ := hcb x1 hxn
      have hwp1 := hwp x1 hxn
      have hw0 := hwf 0
      refine hv_call (pc := 17) (va_runVN (As := [.int (nI 0)]) (rest := []) S (c_X1_widthOf l D cA ga φ H.size (ac x1) (aw x1) (ag x1) (cf x1) (ht x1) (cy x1) (tr x1) (lbV ab (dr x1)) (wf x1) (mf x1) 0 fc0 fc1 fc2 (by omega)) ⟨va_cnB (host := "HatbandYard") 1 S.2.2.2.2 (gw tw_713) rfl rfl rfl (hX.nest _ (by decide +kernel)) (S.2.2.2.2 _ tw_24) (by decide +kernel) ⟨Nat.le_of_ble_eq_true rfl, Nat.le_of_ble_eq_true rfl⟩, S.2.2.2.2 _ tw_712, S.2.2.2.2 _ sw_11⟩ (pre0_V hH hK hX hS hA (hH.recv hK fc0 rfl)) rfl rfl hl.1 rfl (lv_room (Nat.le_of_ble_eq_true rfl)) dX8_brim_17 ⟨Nat.le_of_ble_eq_true rfl, Nat.le_of_ble_eq_true rfl⟩) hS (af_le hH hS hA) (fun v_5 φ_6 H locs hw_v_5 hH hS => ?_)
      obtain ⟨rfl, hqv_5⟩ := hw_v_5
      rw [hqv_5] at hH
      refine lv_istore (pc := 20) (lv' := [(4, .int (nI (wf x1 0))), (3, .ref (ac x1)), (0, .ref y), (1, .int (nI x1)), (2, .int (nI z1))]) S.1 S.2.1 dX8_brim_20 hl (by decide) rfl (fun ls hl => ?_)
      refine lv_iload (pc := 22) S.1 S.2.1 dX8_brim_22 (lv_at hl 0 rfl) ?_
      refine hv_if_gt (pc := 24) (tgt := 29) (a := wf x1 0) S.1 S.2.1 (by omega) dX8_brim_24 (by decide) (fun c_7 => ?_) (fun c_7 => ?_)
      · skip
        refine lv_iconst (pc := 29) (v := nI 2) S.1 S.2.1 dX8_brim_29 (by decide) ?_
        refine lv_iload_n (pc := 30) S.1 S.2.1 dX8_brim_30 rfl (lv_at hl 4 rfl) ?_
        refine lv_imul (pc := 31) S.1 S.2.1 dX8_brim_31 ?_
        refine hv_ti (y := nI (2 * z1)) (pk_mul _ _) ?_
        refine lv_i2f (pc := 32) S.1 S.2.1 dX8_brim_32 ?_
        refine lv_ldcf (pc := 33) (v := 1078530000) S.1 S.2.1 S.2.2.2.1 (S.2.2.2.2 _ tw_833) dX8_brim_33 ?_
        refine lv_fmul (pc := 35) S.1 S.2.1 dX8_brim_35 ((puM (by omega) (by omega)).num) ?_
        refine lv_iload (pc := 36) S.1 S.2.1 dX8_brim_36 (lv_at hl 0 rfl) ?_
        refine lv_i2f (pc := 38) S.1 S.2.1 dX8_brim_38 ?_
        refine lv_fdiv (pc := 39) S.1 S.2.1 dX8_brim_39 ((puF_is (by omega) (by omega) (by omega) (by omega)).num) ?_
        refine hv_tv (y := .float (puF z1 (wf x1 0))) rfl ?_
        refine hv_call (pc := 40) (va_runS (As := [.float (puF z1 (wf x1 0))]) (rest := []) S (c_bitsOf l D cA ga φ H.size (puF z1 (wf x1 0)) ((puF_is (by omega) (by omega) (by omega) (by omega)).n (by decide))) (va_cwS 1 S.2.2.2.2 (gS tw_834 tw_835 tw_1 tw_836) rfl rfl rfl (by decide +kernel) ⟨Nat.le_of_ble_eq_true rfl, Nat.le_of_ble_eq_true rfl⟩) (pre0_S hH hK hX hS hA) rfl rfl hl.1 rfl (lv_room (Nat.le_of_ble_eq_true rfl)) dX8_brim_40 ⟨Nat.le_of_ble_eq_true rfl, Nat.le_of_ble_eq_true rfl⟩) hS (af_le hH hS hA) (fun v_8 φ_9 H locs hw_v_8 hH hS => ?_)
        obtain ⟨rfl, hqv_8⟩ := hw_v_8
        rw [hqv_8] at hH
        exact vx_ret (hv_ret (pc := 43) (v := nI ((puF z1 (wf x1 0)).toNat)) S hr rfl hlocks hH hS (⟨e0, x1, z1, rfl, rfl, hxn, hzlo, hzhi, rfl, rfl⟩) (Nat.le_of_ble_eq_true rfl) (Nat.le_of_ble_eq_true rfl) dX8_brim_43)
      · skip
        exact absurd c_7 (by omega)

set_option maxHeartbeats 4000000 in
set_option maxRecDepth 100000 in
/-- Float.isNaN(a) -/
theorem c_f_isNaN (l : Launch) (D : va_G) (cA : Nat → ClassId) (ga : Nat → Nat → Nat) (φ : hpM) (sz : Nat) (a : UInt32) (ha : isN a) : hM l yJxf58ca_isNaN_12338 cJxf58ca_isNaN_12338 1 (some .boolean) { frames := 8, cells := 0, slots := 0, locals := 200 } [.float (a)] D cA ga φ sz (fun v φ' => v = some (.int (nI 0)) ∧ φ' = φ) 0 0 := by
  refine hM.ofF (by decide +kernel) (Nat.le_of_ble_eq_true rfl) rfl ?_
  intro p e s m args below meth c ls H locs S hr hlocks hnm hsz hHz hH hK hX hS hA hl
  refine lv_fload_n (pc := 0) S.1 S.2.1 dJxf58ca_isNaN_12338_0 rfl (lv_at hl 0 rfl) ?_
  refine lv_fload_n (pc := 1) S.1 S.2.1 dJxf58ca_isNaN_12338_1 rfl (lv_at hl 0 rfl) ?_
  refine lv_fcmp (pc := 2) S.1 S.2.1 dJxf58ca_isNaN_12338_2 ?_
  refine hv_ti (y := 0) (by rw [ha.refl]; rfl) ?_
  refine lv_if_eq (pc := 3) (tgt := 10) S.1 S.2.1 dJxf58ca_isNaN_12338_3 (by decide) (fun c_1 => ?_) (fun c_1 => ?_)
  · skip
    refine lv_iconst (pc := 10) (v := nI 0) S.1 S.2.1 dJxf58ca_isNaN_12338_10 (by decide) ?_
    exact hv_ret (pc := 11) (v := nI 0) S hr rfl hlocks hH hS (⟨rfl, rfl⟩) (Nat.le_of_ble_eq_true rfl) (Nat.le_of_ble_eq_true rfl) dJxf58ca_isNaN_12338_11
  · skip
    exact absurd c_1 (by decide)

set_option maxHeartbeats 4000000 in
set_option maxRecDepth 100000 in
/-- Float.floatToIntBits(a) -/
theorem c_f_bits (l : Launch) (D : va_G) (cA : Nat → ClassId) (ga : Nat → Nat → Nat) (φ : hpM) (sz : Nat) (a : UInt32) (ha : isN a) : hM l yJxf58ca_floatToIntBits_5c35a cJxf58ca_floatToIntBits_5c35a 1 (some .int) { frames := 9, cells := 0, slots := 0, locals := 260 } [.float (a)] D cA ga φ sz (fun v φ' => v = some (.int (nI a.toNat)) ∧ φ' = φ) 0 0 := by
  refine hM.ofF (by decide +kernel) (Nat.le_of_ble_eq_true rfl) rfl ?_
  intro p e s m args below meth c ls H locs S hr hlocks hnm hsz hHz hH hK hX hS hA hl
  refine lv_fload_n (pc := 0) S.1 S.2.1 dJxf58ca_floatToIntBits_5c35a_0 rfl (lv_at hl 0 rfl) ?_
  refine hv_call (pc := 1) (va_runS (As := [.float (a)]) (rest := []) S (c_f_isNaN l D cA ga φ H.size a ha) (va_cwS 1 S.2.2.2.2 (gS tw_1130 tw_1131 tw_27 tw_1132) rfl rfl rfl (by decide +kernel) ⟨Nat.le_of_ble_eq_true rfl, Nat.le_of_ble_eq_true rfl⟩) (pre0_S hH hK hX hS hA) rfl rfl hl.1 rfl (lv_room (Nat.le_of_ble_eq_true rfl)) dJxf58ca_floatToIntBits_5c35a_1 ⟨Nat.le_of_ble_eq_true rfl, Nat.le_of_ble_eq_true rfl⟩) hS (af_le hH hS hA) (fun v_1 φ_2 H locs hw_v_1 hH hS => ?_)
  obtain ⟨rfl, hqv_1⟩ := hw_v_1
  rw [hqv_1] at hH
  refine hv_if_ne (pc := 4) (tgt := 12) (a := 0) S.1 S.2.1 (by omega) dJxf58ca_floatToIntBits_5c35a_4 (by decide) (fun c_3 => ?_) (fun c_3 => ?_)
  · skip
    exact absurd c_3 (by omega)
  · skip
    refine lv_fload_n (pc := 7) S.1 S.2.1 dJxf58ca_floatToIntBits_5c35a_7 rfl (lv_at hl 0 rfl) ?_
    refine vn_f2i (pc := 8) S.1 S.2.1 (by rw [S.2.2.1]; exact hl.1.symm) S.2.2.2.1 (S.2.2.2.2 _ tw_1133) (S.2.2.2.2 _ tw_1135) (S.2.2.2.2 _ tw_1134) (S.2.2.2.2 _ tw_27) (Nat.le_of_ble_eq_true rfl) (Nat.le_of_ble_eq_true rfl) dJxf58ca_floatToIntBits_5c35a_8 ?_
    refine hv_ti (y := nI a.toNat) (raw_nI a) ?_
    exact hv_ret (pc := 11) (v := nI a.toNat) S hr rfl hlocks hH hS (⟨rfl, rfl⟩) (Nat.le_of_ble_eq_true rfl) (Nat.le_of_ble_eq_true rfl) dJxf58ca_floatToIntBits_5c35a_11

set_option maxHeartbeats 4000000 in
set_option maxRecDepth 100000 in
/-- brim -/
theorem c_m_brim (l : Launch) (D : va_G) (cA : Nat → ClassId) (ga : Nat → Nat → Nat) (φ : hpM) (sz : Nat) (q : Nat → Nat) (sc : Nat → Nat) (ar : Nat → Nat → Nat) (x z : Int32) (hm : MP cA q sc ar φ) (hq : ∀ i j, i < 15 → j < 15 → q i = q j → i = j) (hnc : sc 3 ≤ 12) (h4 : ∀ i, i < 6 * sc 3 → 0 < ar 4 i ∧ ar 4 i ≤ 1200) : hM l yX9_brim cX9_brim 5 (some .int) { frames := 10, cells := 0, slots := 0, locals := 320 } [.ref (q 0), .int (x), .int (z)] D cA ga φ sz (fun v φ' => if brimX (sc 3) x z = 0 then (∃ x1 z1 : Nat, x = nI x1 ∧ z = nI z1 ∧ x1 < 2 ^ 31 ∧ z1 < 2 ^ 31 ∧ v = some (.int (nI (puF z1 (ar 4 (6 * x1))).toNat)) ∧ MP cA q (va_up sc 7 (0)) ar φ') else (v = some (.int (nI 0)) ∧ MP cA q (va_up sc 7 (mcd 2 9 1 (brimX (sc 3) x z))) ar φ')) 0 0 := by
  refine hM.of (by decide) (Nat.le_of_ble_eq_true rfl) rfl ?_
  intro p e s m args below meth c ls H locs S hr hlocks hnm hsz hHz hH hK hX hS hA hl
  obtain ⟨f0, f1, f2, f3, f4, f5, f6, f7, f8, f9, f10, f11, f12, f13, f14⟩ := hm
  refine lv_aload_n (pc := 0) S.1 S.2.1 dX9_brim_0 rfl (lv_at hl 0 rfl) ?_
  refine lv_aload_n (pc := 1) S.1 S.2.1 dX9_brim_1 rfl (lv_at hl 0 rfl) ?_
  refine lv_iload_n (pc := 2) S.1 S.2.1 dX9_brim_2 rfl (lv_at hl 1 rfl) ?_
  by_cases hx : inN x (sc 3)
  · skip
    obtain ⟨x1, rfl, hxn⟩ := hx.nat (by omega)
    refine hv_call (pc := 3) (va_runV (As := [.int (nI x1)]) (rest := [.ref (q 0)]) S (c_m_isCone l D cA ga φ H.size q sc ar (nI x1) ⟨f0, f1, f2, f3, f4, f5, f6, f7, f8, f9, f10, f11, f12, f13, f14⟩ hq hnc) (cwV 1 S.2.2.2.2 (gV tw_1057 tw_1059 sw_35 tw_7 tw_1060) rfl rfl rfl (by decide +kernel) ⟨Nat.le_of_ble_eq_true rfl, Nat.le_of_ble_eq_true rfl⟩) (pre0_V hH hK hX hS hA (hH.recv hK f0 rfl)) rfl rfl hl.1 rfl (lv_room (Nat.le_of_ble_eq_true rfl)) dX9_brim_3 ⟨Nat.le_of_ble_eq_true rfl, Nat.le_of_ble_eq_true rfl⟩) hS (af_le hH hS hA) (fun v_1 φ_2 H locs hw_v_1 hH hS => ?_)
    obtain ⟨rfl, hqv_1⟩ := hw_v_1
    rw [hqv_1] at hH
    refine hv_ti (y := nI 1) (by rw [if_pos hx]) ?_
    obtain ⟨h4a, h4b⟩ := h4 (6 * x1) (by omega)
    refine hv_if_ne (pc := 6) (tgt := 13) (a := 1) S.1 S.2.1 (by omega) dX9_brim_6 (by decide) (fun c_3 => ?_) (fun c_3 => ?_)
    · skip
      refine lv_iload_n (pc := 13) S.1 S.2.1 dX9_brim_13 rfl (lv_at hl 2 rfl) ?_
      refine lv_bipush (pc := 14) (v := nI 10) S.1 S.2.1 dX9_brim_14 (by decide) ?_
      refine lv_sipush (pc := 16) (v := nI 150) S.1 S.2.1 dX9_brim_16 (by decide) ?_
      by_cases hz : inR z 10 150
      · skip
        obtain ⟨z1, rfl, hzlo, hzhi⟩ := hz.nat (by omega) (by omega)
        refine hv_call (pc := 19) (va_runS (As := [.int (nI z1), .int (nI 10), .int (nI 150)]) (rest := [.ref (q 0)]) S (c_isIn l D cA ga φ H.size (nI z1) (nI 10) (nI 150)) (va_cwS 3 S.2.2.2.2 (gS tw_1031 tw_1032 tw_7 tw_1033) rfl rfl rfl (by decide +kernel) ⟨Nat.le_of_ble_eq_true rfl, Nat.le_of_ble_eq_true rfl⟩) (pre0_S hH hK hX hS hA) rfl rfl hl.1 rfl (lv_room (Nat.le_of_ble_eq_true rfl)) dX9_brim_19 ⟨Nat.le_of_ble_eq_true rfl, Nat.le_of_ble_eq_true rfl⟩) hS (af_le hH hS hA) (fun v_4 φ_5 H locs hw_v_4 hH hS => ?_)
        obtain ⟨rfl, hqv_4⟩ := hw_v_4
        rw [hqv_4] at hH
        refine hv_ti (y := nI 1) (by rw [inB_R, if_pos hz]) ?_
        refine hv_if_eq (pc := 22) (tgt := 29) (a := 1) S.1 S.2.1 (by omega) dX9_brim_22 (by decide) (fun c_6 => ?_) (fun c_6 => ?_)
        · skip
          exact absurd c_6 (by omega)
        · skip
          refine lv_iconst (pc := 25) (v := nI 0) S.1 S.2.1 dX9_brim_25 (by decide) ?_
          refine lv_goto (pc := 26) (tgt := 30) S.1 S.2.1 dX9_brim_26 (by decide) ?_
          have eX : brimX (sc 3) (nI x1) (nI z1) = 0 := by rw [brimX, if_pos hx, if_pos hz]
          refine hv_call (pc := 30) (va_runV (As := [.int (nI 0)]) (rest := []) S (c_m_goes l D cA ga φ H.size q sc ar (0) ⟨f0, f1, f2, f3, f4, f5, f6, f7, f8, f9, f10, f11, f12, f13, f14⟩ hq (by omega)) (cwV 1 S.2.2.2.2 (gV tw_1021 tw_1023 sw_32 tw_7 tw_1024) rfl rfl rfl (by decide +kernel) ⟨Nat.le_of_ble_eq_true rfl, Nat.le_of_ble_eq_true rfl⟩) (pre0_V hH hK hX hS hA (hH.recv hK f0 rfl)) rfl rfl hl.1 rfl (lv_room (Nat.le_of_ble_eq_true rfl)) dX9_brim_30 ⟨Nat.le_of_ble_eq_true rfl, Nat.le_of_ble_eq_true rfl⟩) hS (af_le hH hS hA) (fun v_7 φ_8 H locs hw_v_7 hH hS => ?_)
          obtain ⟨rfl, hm9⟩ := hw_v_7
          obtain ⟨f_9, f_10, f_11, f_12, f_13, f_14, f_15, f_16, f_17, f_18, f_19, f_20, f_21, f_22, f_23⟩ := hm9
          change φ_8 (q 0) = some (.inr (13, [.int (nI (sc 0)), .long (Int64.ofNat (sc 1)), .int (nI (sc 2)), .ref (q 1), .ref (q 2), .int (nI (sc 3)), .ref (q 3), .ref (q 4), .ref (q 5), .ref (q 6), .ref (q 7), .ref (q 8), .ref (q 9), .int (nI (sc 4)), .ref (q 10), .ref (q 11), .int (nI (sc 5)), .ref (q 12), .ref (q 13), .ref (q 14), .int (nI (sc 6)), .int (nI 0)])) at f_9
          refine hv_ti (y := nI 1) (rfl) ?_
          refine hv_if_ne (pc := 33) (tgt := 38) (a := 1) S.1 S.2.1 (by omega) dX9_brim_33 (by decide) (fun c_24 => ?_) (fun c_24 => ?_)
          · skip
            refine lv_iconst (pc := 38) (v := nI 2) S.1 S.2.1 dX9_brim_38 (by decide) ?_
            refine lv_iload_n (pc := 39) S.1 S.2.1 dX9_brim_39 rfl (lv_at hl 2 rfl) ?_
            refine lv_imul (pc := 40) S.1 S.2.1 dX9_brim_40 ?_
            refine hv_ti (y := nI (2 * z1)) (pk_mul _ _) ?_
            refine lv_i2f (pc := 41) S.1 S.2.1 dX9_brim_41 ?_
            refine lv_fstore_n (pc := 42) (lv' := [(3, .float (FP.i2f (nI (2 * z1)))), (0, .ref (q 0)), (1, .int (nI x1)), (2, .int (nI z1))]) S.1 S.2.1 dX9_brim_42 rfl hl (by decide) rfl (fun ls hl => ?_)
            refine lv_aload_n (pc := 43) S.1 S.2.1 dX9_brim_43 rfl (lv_at hl 1 rfl) ?_
            refine hv_get (pc := 44) (C := RX9) (T := TX9) (N := 22) (ref := RX9) S uwX9 hK hH f_9 rfl 7 (by decide) tw_952 (fun _ h9 => h9) rfl dX9_brim_44 ?_
            refine lv_bipush (pc := 47) (v := nI 6) S.1 S.2.1 dX9_brim_47 (by decide) ?_
            refine lv_iload_n (pc := 49) S.1 S.2.1 dX9_brim_49 rfl (lv_at hl 2 rfl) ?_
            refine lv_imul (pc := 50) S.1 S.2.1 dX9_brim_50 ?_
            refine hv_ti (y := nI (6 * x1)) (pk_mul _ _) ?_
            refine hv_iald (pc := 51) S hK hH 1 f_13 rfl (vp_in_nI (by omega) (by omega)) dX9_brim_51 ?_
            refine hv_ti (y := nI ((ar 4) (6 * x1))) (hv_ld (by omega)) ?_
            refine lv_i2f (pc := 52) S.1 S.2.1 dX9_brim_52 ?_
            refine lv_fstore (pc := 53) (lv' := [(4, .float (FP.i2f (nI ((ar 4) (6 * x1))))), (3, .float (FP.i2f (nI (2 * z1)))), (0, .ref (q 0)), (1, .int (nI x1)), (2, .int (nI z1))]) S.1 S.2.1 dX9_brim_53 hl (by decide) rfl (fun ls hl => ?_)
            refine lv_fload_n (pc := 55) S.1 S.2.1 dX9_brim_55 rfl (lv_at hl 1 rfl) ?_
            refine lv_ldcf (pc := 56) (v := 1078530000) S.1 S.2.1 S.2.2.2.1 (S.2.2.2.2 _ tw_1126) dX9_brim_56 ?_
            refine lv_fmul (pc := 58) S.1 S.2.1 dX9_brim_58 ((puM (by omega) (by omega)).num) ?_
            refine lv_fload (pc := 59) S.1 S.2.1 dX9_brim_59 (lv_at hl 0 rfl) ?_
            refine lv_fdiv (pc := 61) S.1 S.2.1 dX9_brim_61 ((puF_is (by omega) (by omega) (by omega) (by omega)).num) ?_
            refine hv_tv (y := .float (puF z1 (ar 4 (6 * x1)))) rfl ?_
            refine hv_call (pc := 62) (va_runS (As := [.float (puF z1 (ar 4 (6 * x1)))]) (rest := []) S (c_f_bits l D cA ga φ_8 H.size (puF z1 (ar 4 (6 * x1))) ((puF_is (by omega) (by omega) (by omega) (by omega)).n (by decide))) (va_cwS 1 S.2.2.2.2 (gS tw_1127 tw_1128 tw_27 tw_1129) rfl rfl rfl (by decide +kernel) ⟨Nat.le_of_ble_eq_true rfl, Nat.le_of_ble_eq_true rfl⟩) (pre0_S hH hK hX hS hA) rfl rfl hl.1 rfl (lv_room (Nat.le_of_ble_eq_true rfl)) dX9_brim_62 ⟨Nat.le_of_ble_eq_true rfl, Nat.le_of_ble_eq_true rfl⟩) hS (af_le hH hS hA) (fun v_25 φ_26 H locs hw_v_25 hH hS => ?_)
            obtain ⟨rfl, hqv_25⟩ := hw_v_25
            rw [hqv_25] at hH
            exact hv_ret (pc := 65) (v := nI ((puF z1 (ar 4 (6 * x1))).toNat)) S hr rfl hlocks hH hS (by rw [if_pos eX]; exact ⟨x1, z1, rfl, rfl, by omega, by omega, rfl, ⟨f_9, f_10, f_11, f_12, f_13, f_14, f_15, f_16, f_17, f_18, f_19, f_20, f_21, f_22, f_23⟩⟩) (Nat.le_of_ble_eq_true rfl) (Nat.le_of_ble_eq_true rfl) dX9_brim_65
          · skip
            exact absurd c_24 (by omega)
      · skip
        refine hv_call (pc := 19) (va_runS (As := [.int (z), .int (nI 10), .int (nI 150)]) (rest := [.ref (q 0)]) S (c_isIn l D cA ga φ H.size z (nI 10) (nI 150)) (va_cwS 3 S.2.2.2.2 (gS tw_1031 tw_1032 tw_7 tw_1033) rfl rfl rfl (by decide +kernel) ⟨Nat.le_of_ble_eq_true rfl, Nat.le_of_ble_eq_true rfl⟩) (pre0_S hH hK hX hS hA) rfl rfl hl.1 rfl (lv_room (Nat.le_of_ble_eq_true rfl)) dX9_brim_19 ⟨Nat.le_of_ble_eq_true rfl, Nat.le_of_ble_eq_true rfl⟩) hS (af_le hH hS hA) (fun v_27 φ_28 H locs hw_v_27 hH hS => ?_)
        obtain ⟨rfl, hqv_27⟩ := hw_v_27
        rw [hqv_27] at hH
        refine hv_ti (y := nI 0) (by rw [inB_R, if_neg hz]) ?_
        refine hv_if_eq (pc := 22) (tgt := 29) (a := 0) S.1 S.2.1 (by omega) dX9_brim_22 (by decide) (fun c_29 => ?_) (fun c_29 => ?_)
        · skip
          refine lv_iconst (pc := 29) (v := nI 2) S.1 S.2.1 dX9_brim_29 (by decide) ?_
          have eX : brimX (sc 3) (nI x1) z = 1 := by rw [brimX, if_pos hx, if_neg hz]
          refine hv_call (pc := 30) (va_runV (As := [.int (nI 2)]) (rest := []) S (c_m_goes l D cA ga φ H.size q sc ar (2) ⟨f0, f1, f2, f3, f4, f5, f6, f7, f8, f9, f10, f11, f12, f13, f14⟩ hq (by omega)) (cwV 1 S.2.2.2.2 (gV tw_1021 tw_1023 sw_32 tw_7 tw_1024) rfl rfl rfl (by decide +kernel) ⟨Nat.le_of_ble_eq_true rfl, Nat.le_of_ble_eq_true rfl⟩) (pre0_V hH hK hX hS hA (hH.recv hK f0 rfl)) rfl rfl hl.1 rfl (lv_room (Nat.le_of_ble_eq_true rfl)) dX9_brim_30 ⟨Nat.le_of_ble_eq_true rfl, Nat.le_of_ble_eq_true rfl⟩) hS (af_le hH hS hA) (fun v_30 φ_31 H locs hw_v_30 hH hS => ?_)
          obtain ⟨rfl, hm9⟩ := hw_v_30
          obtain ⟨f_32, f_33, f_34, f_35, f_36, f_37, f_38, f_39, f_40, f_41, f_42, f_43, f_44, f_45, f_46⟩ := hm9
          change φ_31 (q 0) = some (.inr (13, [.int (nI (sc 0)), .long (Int64.ofNat (sc 1)), .int (nI (sc 2)), .ref (q 1), .ref (q 2), .int (nI (sc 3)), .ref (q 3), .ref (q 4), .ref (q 5), .ref (q 6), .ref (q 7), .ref (q 8), .ref (q 9), .int (nI (sc 4)), .ref (q 10), .ref (q 11), .int (nI (sc 5)), .ref (q 12), .ref (q 13), .ref (q 14), .int (nI (sc 6)), .int (nI 2)])) at f_32
          refine hv_ti (y := nI 0) (rfl) ?_
          refine hv_if_ne (pc := 33) (tgt := 38) (a := 0) S.1 S.2.1 (by omega) dX9_brim_33 (by decide) (fun c_47 => ?_) (fun c_47 => ?_)
          · skip
            exact absurd c_47 (by omega)
          · skip
            refine lv_iconst (pc := 36) (v := nI 0) S.1 S.2.1 dX9_brim_36 (by decide) ?_
            exact hv_ret (pc := 37) (v := nI 0) S hr rfl hlocks hH hS (by rw [if_neg (by rw [eX]; decide), eX]; exact ⟨rfl, ⟨f_32, f_33, f_34, f_35, f_36, f_37, f_38, f_39, f_40, f_41, f_42, f_43, f_44, f_45, f_46⟩⟩) (Nat.le_of_ble_eq_true rfl) (Nat.le_of_ble_eq_true rfl) dX9_brim_37
        · skip
          exact absurd c_29 (by omega)
    · skip
      exact absurd c_3 (by omega)
  · skip
    refine hv_call (pc := 3) (va_runV (As := [.int (x)]) (rest := [.ref (q 0)]) S (c_m_isCone l D cA ga φ H.size q sc ar x ⟨f0, f1, f2, f3, f4, f5, f6, f7, f8, f9, f10, f11, f12, f13, f14⟩ hq hnc) (cwV 1 S.2.2.2.2 (gV tw_1057 tw_1059 sw_35 tw_7 tw_1060) rfl rfl rfl (by decide +kernel) ⟨Nat.le_of_ble_eq_true rfl, Nat.le_of_ble_eq_true rfl⟩) (pre0_V hH hK hX hS hA (hH.recv hK f0 rfl)) rfl rfl hl.1 rfl (lv_room (Nat.le_of_ble_eq_true rfl)) dX9_brim_3 ⟨Nat.le_of_ble_eq_true rfl, Nat.le_of_ble_eq_true rfl⟩) hS (af_le hH hS hA) (fun v_48 φ_49 H locs hw_v_48 hH hS => ?_)
    obtain ⟨rfl, hqv_48⟩ := hw_v_48
    rw [hqv_48] at hH
    refine hv_ti (y := nI 0) (by rw [if_neg hx]) ?_
    refine hv_if_ne (pc := 6) (tgt := 13) (a := 0) S.1 S.2.1 (by omega) dX9_brim_6 (by decide) (fun c_50 => ?_) (fun c_50 => ?_)
    · skip
      exact absurd c_50 (by omega)
    · skip
      refine lv_iconst (pc := 9) (v := nI 1) S.1 S.2.1 dX9_brim_9 (by decide) ?_
      refine lv_goto (pc := 10) (tgt := 30) S.1 S.2.1 dX9_brim_10 (by decide) ?_
      have eX : brimX (sc 3) x z = 3 := by rw [brimX, if_neg hx]
      refine hv_call (pc := 30) (va_runV (As := [.int (nI 1)]) (rest := []) S (c_m_goes l D cA ga φ H.size q sc ar (1) ⟨f0, f1, f2, f3, f4, f5, f6, f7, f8, f9, f10, f11, f12, f13, f14⟩ hq (by omega)) (cwV 1 S.2.2.2.2 (gV tw_1021 tw_1023 sw_32 tw_7 tw_1024) rfl rfl rfl (by decide +kernel) ⟨Nat.le_of_ble_eq_true rfl, Nat.le_of_ble_eq_true rfl⟩) (pre0_V hH hK hX hS hA (hH.recv hK f0 rfl)) rfl rfl hl.1 rfl (lv_room (Nat.le_of_ble_eq_true rfl)) dX9_brim_30 ⟨Nat.le_of_ble_eq_true rfl, Nat.le_of_ble_eq_true rfl⟩) hS (af_le hH hS hA) (fun v_51 φ_52 H locs hw_v_51 hH hS => ?_)
      obtain ⟨rfl, hm9⟩ := hw_v_51
      obtain ⟨f_53, f_54, f_55, f_56, f_57, f_58, f_59, f_60, f_61, f_62, f_63, f_64, f_65, f_66, f_67⟩ := hm9
      change φ_52 (q 0) = some (.inr (13, [.int (nI (sc 0)), .long (Int64.ofNat (sc 1)), .int (nI (sc 2)), .ref (q 1), .ref (q 2), .int (nI (sc 3)), .ref (q 3), .ref (q 4), .ref (q 5), .ref (q 6), .ref (q 7), .ref (q 8), .ref (q 9), .int (nI (sc 4)), .ref (q 10), .ref (q 11), .int (nI (sc 5)), .ref (q 12), .ref (q 13), .ref (q 14), .int (nI (sc 6)), .int (nI 1)])) at f_53
      refine hv_ti (y := nI 0) (rfl) ?_
      refine hv_if_ne (pc := 33) (tgt := 38) (a := 0) S.1 S.2.1 (by omega) dX9_brim_33 (by decide) (fun c_68 => ?_) (fun c_68 => ?_)
      · skip
        exact absurd c_68 (by omega)
      · skip
        refine lv_iconst (pc := 36) (v := nI 0) S.1 S.2.1 dX9_brim_36 (by decide) ?_
        exact hv_ret (pc := 37) (v := nI 0) S hr rfl hlocks hH hS (by rw [if_neg (by rw [eX]; decide), eX]; exact ⟨rfl, ⟨f_53, f_54, f_55, f_56, f_57, f_58, f_59, f_60, f_61, f_62, f_63, f_64, f_65, f_66, f_67⟩⟩) (Nat.le_of_ble_eq_true rfl) (Nat.le_of_ble_eq_true rfl) dX9_brim_37

set_option maxHeartbeats 4000000 in
set_option maxRecDepth 100000 in
/-- size -/
theorem c_m_size (l : Launch) (D : va_G) (cA : Nat → ClassId) (ga : Nat → Nat → Nat) (φ : hpM) (sz : Nat) (q : Nat → Nat) (sc : Nat → Nat) (ar : Nat → Nat → Nat) (x : Int32) (hm : MP cA q sc ar φ) (hq : ∀ i j, i < 15 → j < 15 → q i = q j → i = j) (hr2 : ∀ j, ar 14 j ≤ 200) : hM l yX9_size cX9_size 4 (some .int) { frames := 10, cells := 0, slots := 0, locals := 320 } [.ref (q 0), .int (x)] D cA ga φ sz (fun v φ' => if inX 4 x = 0 then (∃ x1 : Nat, x = nI x1 ∧ x1 < 2 ^ 31 ∧ v = some (.int (nI (szF x1 (smN (ar 14) 8 * 785 / 1000)).toNat)) ∧ MP cA q (va_up sc 7 (0)) ar φ') else (v = some (.int (nI 0)) ∧ MP cA q (va_up sc 7 (mcd 9 9 1 (inX 4 x))) ar φ')) 0 0 := by
  refine hM.of (by decide) (Nat.le_of_ble_eq_true rfl) rfl ?_
  intro p e s m args below meth c ls H locs S hr hlocks hnm hsz hHz hH hK hX hS hA hl
  obtain ⟨f0, f1, f2, f3, f4, f5, f6, f7, f8, f9, f10, f11, f12, f13, f14⟩ := hm
  refine lv_aload_n (pc := 0) S.1 S.2.1 dX9_size_0 rfl (lv_at hl 0 rfl) ?_
  refine lv_iload_n (pc := 1) S.1 S.2.1 dX9_size_1 rfl (lv_at hl 1 rfl) ?_
  refine lv_iconst (pc := 2) (v := nI 0) S.1 S.2.1 dX9_size_2 (by decide) ?_
  refine lv_iconst (pc := 3) (v := nI 3) S.1 S.2.1 dX9_size_3 (by decide) ?_
  by_cases hx : inN x 4
  · skip
    obtain ⟨x1, rfl, hxn⟩ := hx.nat (by omega)
    refine hv_call (pc := 4) (va_runS (As := [.int (nI x1), .int (nI 0), .int (nI 3)]) (rest := [.ref (q 0)]) S (c_isIn l D cA ga φ H.size (nI x1) (nI 0) (nI 3)) (va_cwS 3 S.2.2.2.2 (gS tw_1031 tw_1032 tw_7 tw_1033) rfl rfl rfl (by decide +kernel) ⟨Nat.le_of_ble_eq_true rfl, Nat.le_of_ble_eq_true rfl⟩) (pre0_S hH hK hX hS hA) rfl rfl hl.1 rfl (lv_room (Nat.le_of_ble_eq_true rfl)) dX9_size_4 ⟨Nat.le_of_ble_eq_true rfl, Nat.le_of_ble_eq_true rfl⟩) hS (af_le hH hS hA) (fun v_1 φ_2 H locs hw_v_1 hH hS => ?_)
    obtain ⟨rfl, hqv_1⟩ := hw_v_1
    rw [hqv_1] at hH
    refine hv_ti (y := nI 1) (by rw [inB_R, if_pos ((in4 _).mpr hx)]) ?_
    refine hv_if_eq (pc := 7) (tgt := 14) (a := 1) S.1 S.2.1 (by omega) dX9_size_7 (by decide) (fun c_3 => ?_) (fun c_3 => ?_)
    · skip
      exact absurd c_3 (by omega)
    · skip
      refine lv_iconst (pc := 10) (v := nI 0) S.1 S.2.1 dX9_size_10 (by decide) ?_
      refine lv_goto (pc := 11) (tgt := 15) S.1 S.2.1 dX9_size_11 (by decide) ?_
      have eX : inX 4 (nI x1) = 0 := by rw [inX, if_pos hx]
      refine hv_call (pc := 15) (va_runV (As := [.int (nI 0)]) (rest := []) S (c_m_goes l D cA ga φ H.size q sc ar (0) ⟨f0, f1, f2, f3, f4, f5, f6, f7, f8, f9, f10, f11, f12, f13, f14⟩ hq (by omega)) (cwV 1 S.2.2.2.2 (gV tw_1021 tw_1023 sw_32 tw_7 tw_1024) rfl rfl rfl (by decide +kernel) ⟨Nat.le_of_ble_eq_true rfl, Nat.le_of_ble_eq_true rfl⟩) (pre0_V hH hK hX hS hA (hH.recv hK f0 rfl)) rfl rfl hl.1 rfl (lv_room (Nat.le_of_ble_eq_true rfl)) dX9_size_15 ⟨Nat.le_of_ble_eq_true rfl, Nat.le_of_ble_eq_true rfl⟩) hS (af_le hH hS hA) (fun v_4 φ_5 H locs hw_v_4 hH hS => ?_)
      obtain ⟨rfl, hm9⟩ := hw_v_4
      obtain ⟨f_6, f_7, f_8, f_9, f_10, f_11, f_12, f_13, f_14, f_15, f_16, f_17, f_18, f_19, f_20⟩ := hm9
      change φ_5 (q 0) = some (.inr (13, [.int (nI (sc 0)), .long (Int64.ofNat (sc 1)), .int (nI (sc 2)), .ref (q 1), .ref (q 2), .int (nI (sc 3)), .ref (q 3), .ref (q 4), .ref (q 5), .ref (q 6), .ref (q 7), .ref (q 8), .ref (q 9), .int (nI (sc 4)), .ref (q 10), .ref (q 11), .int (nI (sc 5)), .ref (q 12), .ref (q 13), .ref (q 14), .int (nI (sc 6)), .int (nI 0)])) at f_6
      refine hv_ti (y := nI 1) (rfl) ?_
      refine hv_if_ne (pc := 18) (tgt := 23) (a := 1) S.1 S.2.1 (by omega) dX9_size_18 (by decide) (fun c_21 => ?_) (fun c_21 => ?_)
      · skip
        have hs8 := smN_le hr2 8
        obtain ⟨hz0, hz1, hz2, hz3⟩ := szD (a := smN (ar 14) 8 * 785 / 1000) (by omega)
        refine lv_aload_n (pc := 23) S.1 S.2.1 dX9_size_23 rfl (lv_at hl 0 rfl) ?_
        refine hv_call (pc := 24) (va_runV (As := []) (rest := []) S (c_m_around l D cA ga φ_5 H.size q (va_up sc 7 (0)) ar  ⟨f_6, f_7, f_8, f_9, f_10, f_11, f_12, f_13, f_14, f_15, f_16, f_17, f_18, f_19, f_20⟩ hq hr2) (cwV 0 S.2.2.2.2 (gV tw_1164 tw_1166 sw_43 tw_7 tw_1167) rfl rfl rfl (by decide +kernel) ⟨Nat.le_of_ble_eq_true rfl, Nat.le_of_ble_eq_true rfl⟩) (pre0_V hH hK hX hS hA (hH.recv hK f_6 rfl)) rfl rfl hl.1 rfl (lv_room (Nat.le_of_ble_eq_true rfl)) dX9_size_24 ⟨Nat.le_of_ble_eq_true rfl, Nat.le_of_ble_eq_true rfl⟩) hS (af_le hH hS hA) (fun v_22 φ_23 H locs hw_v_22 hH hS => ?_)
        obtain ⟨rfl, hqv_22⟩ := hw_v_22
        rw [hqv_22] at hH
        refine lv_i2f (pc := 27) S.1 S.2.1 dX9_size_27 ?_
        refine lv_fstore_n (pc := 28) (lv' := [(2, .float (FP.i2f (nI (smN (ar 14) 8 * 785 / 1000)))), (0, .ref (q 0)), (1, .int (nI x1))]) S.1 S.2.1 dX9_size_28 rfl hl (by decide) rfl (fun ls hl => ?_)
        refine lv_fload_n (pc := 29) S.1 S.2.1 dX9_size_29 rfl (lv_at hl 0 rfl) ?_
        refine lv_ldcf (pc := 30) (v := 1117755277) S.1 S.2.1 S.2.2.2.1 (S.2.2.2.2 _ tw_1176) dX9_size_30 ?_
        refine lv_fdiv (pc := 32) S.1 S.2.1 dX9_size_32 (hz1.num) ?_
        refine lv_fstore_n (pc := 33) (lv' := [(3, .float (FP.fdiv (FP.i2f (nI (smN (ar 14) 8 * 785 / 1000))) (1117755277))), (2, .float (FP.i2f (nI (smN (ar 14) 8 * 785 / 1000)))), (0, .ref (q 0)), (1, .int (nI x1))]) S.1 S.2.1 dX9_size_33 rfl hl (by decide) rfl (fun ls hl => ?_)
        refine lv_iload_n (pc := 34) S.1 S.2.1 dX9_size_34 rfl (lv_at hl 3 rfl) ?_
        rcases (show x1 = 0 ∨ x1 = 1 ∨ x1 = 2 ∨ x1 = 3 by omega) with rfl | rfl | rfl | rfl
        · skip
          refine hv_if_ne (pc := 35) (tgt := 45) (a := 0) S.1 S.2.1 (by omega) dX9_size_35 (by decide) (fun c_24 => ?_) (fun c_24 => ?_)
          · skip
            exact absurd c_24 (by omega)
          · skip
            refine lv_fload_n (pc := 38) S.1 S.2.1 dX9_size_38 rfl (lv_at hl 1 rfl) ?_
            refine lv_ldcf (pc := 39) (v := 1092616192) S.1 S.2.1 S.2.2.2.1 (S.2.2.2.2 _ tw_1177) dX9_size_39 ?_
            refine lv_fdiv (pc := 41) S.1 S.2.1 dX9_size_41 (hz0.num) ?_
            refine lv_goto (pc := 42) (tgt := 70) S.1 S.2.1 dX9_size_42 (by decide) ?_
            refine hv_tv (y := .float (szF 0 (smN (ar 14) 8 * 785 / 1000))) rfl ?_
            refine hv_call (pc := 70) (va_runS (As := [.float (szF 0 (smN (ar 14) 8 * 785 / 1000))]) (rest := []) S (c_f_bits l D cA ga φ_5 H.size (szF 0 (smN (ar 14) 8 * 785 / 1000)) (szF_is (by omega))) (va_cwS 1 S.2.2.2.2 (gS tw_1127 tw_1128 tw_27 tw_1129) rfl rfl rfl (by decide +kernel) ⟨Nat.le_of_ble_eq_true rfl, Nat.le_of_ble_eq_true rfl⟩) (pre0_S hH hK hX hS hA) rfl rfl hl.1 rfl (lv_room (Nat.le_of_ble_eq_true rfl)) dX9_size_70 ⟨Nat.le_of_ble_eq_true rfl, Nat.le_of_ble_eq_true rfl⟩) hS (af_le hH hS hA) (fun v_25 φ_26 H locs hw_v_25 hH hS => ?_)
            obtain ⟨rfl, hqv_25⟩ := hw_v_25
            rw [hqv_25] at hH
            exact hv_ret (pc := 73) (v := nI ((szF 0 (smN (ar 14) 8 * 785 / 1000)).toNat)) S hr rfl hlocks hH hS (by rw [if_pos eX]; exact ⟨0, rfl, by omega, rfl, ⟨f_6, f_7, f_8, f_9, f_10, f_11, f_12, f_13, f_14, f_15, f_16, f_17, f_18, f_19, f_20⟩⟩) (Nat.le_of_ble_eq_true rfl) (Nat.le_of_ble_eq_true rfl) dX9_size_73
        · skip
          refine hv_if_ne (pc := 35) (tgt := 45) (a := 1) S.1 S.2.1 (by omega) dX9_size_35 (by decide) (fun c_27 => ?_) (fun c_27 => ?_)
          · skip
            refine lv_iload_n (pc := 45) S.1 S.2.1 dX9_size_45 rfl (lv_at hl 3 rfl) ?_
            refine lv_iconst (pc := 46) (v := nI 1) S.1 S.2.1 dX9_size_46 (by decide) ?_
            refine hv_icmp_ne (pc := 47) (tgt := 54) (a := 1) (b := 1) S.1 S.2.1 (by omega) (by omega) dX9_size_47 (by decide) (fun c_28 => ?_) (fun c_28 => ?_)
            · skip
              exact absurd c_28 (by omega)
            · skip
              refine lv_fload_n (pc := 50) S.1 S.2.1 dX9_size_50 rfl (lv_at hl 0 rfl) ?_
              refine lv_goto (pc := 51) (tgt := 70) S.1 S.2.1 dX9_size_51 (by decide) ?_
              refine hv_tv (y := .float (szF 1 (smN (ar 14) 8 * 785 / 1000))) rfl ?_
              refine hv_call (pc := 70) (va_runS (As := [.float (szF 1 (smN (ar 14) 8 * 785 / 1000))]) (rest := []) S (c_f_bits l D cA ga φ_5 H.size (szF 1 (smN (ar 14) 8 * 785 / 1000)) (szF_is (by omega))) (va_cwS 1 S.2.2.2.2 (gS tw_1127 tw_1128 tw_27 tw_1129) rfl rfl rfl (by decide +kernel) ⟨Nat.le_of_ble_eq_true rfl, Nat.le_of_ble_eq_true rfl⟩) (pre0_S hH hK hX hS hA) rfl rfl hl.1 rfl (lv_room (Nat.le_of_ble_eq_true rfl)) dX9_size_70 ⟨Nat.le_of_ble_eq_true rfl, Nat.le_of_ble_eq_true rfl⟩) hS (af_le hH hS hA) (fun v_29 φ_30 H locs hw_v_29 hH hS => ?_)
              obtain ⟨rfl, hqv_29⟩ := hw_v_29
              rw [hqv_29] at hH
              exact hv_ret (pc := 73) (v := nI ((szF 1 (smN (ar 14) 8 * 785 / 1000)).toNat)) S hr rfl hlocks hH hS (by rw [if_pos eX]; exact ⟨1, rfl, by omega, rfl, ⟨f_6, f_7, f_8, f_9, f_10, f_11, f_12, f_13, f_14, f_15, f_16, f_17, f_18, f_19, f_20⟩⟩) (Nat.le_of_ble_eq_true rfl) (Nat.le_of_ble_eq_true rfl) dX9_size_73
          · skip
            exact absurd c_27 (by omega)
        · skip
          refine hv_if_ne (pc := 35) (tgt := 45) (a := 2) S.1 S.2.1 (by omega) dX9_size_35 (by decide) (fun c_31 => ?_) (fun c_31 => ?_)
          · skip
            refine lv_iload_n (pc := 45) S.1 S.2.1 dX9_size_45 rfl (lv_at hl 3 rfl) ?_
            refine lv_iconst (pc := 46) (v := nI 1) S.1 S.2.1 dX9_size_46 (by decide) ?_
            refine hv_icmp_ne (pc := 47) (tgt := 54) (a := 2) (b := 1) S.1 S.2.1 (by omega) (by omega) dX9_size_47 (by decide) (fun c_32 => ?_) (fun c_32 => ?_)
            · skip
              refine lv_iload_n (pc := 54) S.1 S.2.1 dX9_size_54 rfl (lv_at hl 3 rfl) ?_
              refine lv_iconst (pc := 55) (v := nI 2) S.1 S.2.1 dX9_size_55 (by decide) ?_
              refine hv_icmp_ne (pc := 56) (tgt := 66) (a := 2) (b := 2) S.1 S.2.1 (by omega) (by omega) dX9_size_56 (by decide) (fun c_33 => ?_) (fun c_33 => ?_)
              · skip
                exact absurd c_33 (by omega)
              · skip
                refine lv_fload_n (pc := 59) S.1 S.2.1 dX9_size_59 rfl (lv_at hl 0 rfl) ?_
                refine lv_ldcf (pc := 60) (v := 1040187392) S.1 S.2.1 S.2.2.2.1 (S.2.2.2.2 _ tw_1178) dX9_size_60 ?_
                refine lv_fadd (pc := 62) S.1 S.2.1 dX9_size_62 (hz2.num) ?_
                refine lv_goto (pc := 63) (tgt := 70) S.1 S.2.1 dX9_size_63 (by decide) ?_
                refine hv_tv (y := .float (szF 2 (smN (ar 14) 8 * 785 / 1000))) rfl ?_
                refine hv_call (pc := 70) (va_runS (As := [.float (szF 2 (smN (ar 14) 8 * 785 / 1000))]) (rest := []) S (c_f_bits l D cA ga φ_5 H.size (szF 2 (smN (ar 14) 8 * 785 / 1000)) (szF_is (by omega))) (va_cwS 1 S.2.2.2.2 (gS tw_1127 tw_1128 tw_27 tw_1129) rfl rfl rfl (by decide +kernel) ⟨Nat.le_of_ble_eq_true rfl, Nat.le_of_ble_eq_true rfl⟩) (pre0_S hH hK hX hS hA) rfl rfl hl.1 rfl (lv_room (Nat.le_of_ble_eq_true rfl)) dX9_size_70 ⟨Nat.le_of_ble_eq_true rfl, Nat.le_of_ble_eq_true rfl⟩) hS (af_le hH hS hA) (fun v_34 φ_35 H locs hw_v_34 hH hS => ?_)
                obtain ⟨rfl, hqv_34⟩ := hw_v_34
                rw [hqv_34] at hH
                exact hv_ret (pc := 73) (v := nI ((szF 2 (smN (ar 14) 8 * 785 / 1000)).toNat)) S hr rfl hlocks hH hS (by rw [if_pos eX]; exact ⟨2, rfl, by omega, rfl, ⟨f_6, f_7, f_8, f_9, f_10, f_11, f_12, f_13, f_14, f_15, f_16, f_17, f_18, f_19, f_20⟩⟩) (Nat.le_of_ble_eq_true rfl) (Nat.le_of_ble_eq_true rfl) dX9_size_73
            · skip
              exact absurd c_32 (by omega)
          · skip
            exact absurd c_31 (by omega)
        · skip
          refine hv_if_ne (pc := 35) (tgt := 45) (a := 3) S.1 S.2.1 (by omega) dX9_size_35 (by decide) (fun c_36 => ?_) (fun c_36 => ?_)
          · skip
            refine lv_iload_n (pc := 45) S.1 S.2.1 dX9_size_45 rfl (lv_at hl 3 rfl) ?_
            refine lv_iconst (pc := 46) (v := nI 1) S.1 S.2.1 dX9_size_46 (by decide) ?_
            refine hv_icmp_ne (pc := 47) (tgt := 54) (a := 3) (b := 1) S.1 S.2.1 (by omega) (by omega) dX9_size_47 (by decide) (fun c_37 => ?_) (fun c_37 => ?_)
            · skip
              refine lv_iload_n (pc := 54) S.1 S.2.1 dX9_size_54 rfl (lv_at hl 3 rfl) ?_
              refine lv_iconst (pc := 55) (v := nI 2) S.1 S.2.1 dX9_size_55 (by decide) ?_
              refine hv_icmp_ne (pc := 56) (tgt := 66) (a := 3) (b := 2) S.1 S.2.1 (by omega) (by omega) dX9_size_56 (by decide) (fun c_38 => ?_) (fun c_38 => ?_)
              · skip
                refine lv_fload_n (pc := 66) S.1 S.2.1 dX9_size_66 rfl (lv_at hl 1 rfl) ?_
                refine lv_ldcf (pc := 67) (v := 1087939543) S.1 S.2.1 S.2.2.2.1 (S.2.2.2.2 _ tw_1179) dX9_size_67 ?_
                refine lv_fdiv (pc := 69) S.1 S.2.1 dX9_size_69 (hz3.num) ?_
                refine hv_tv (y := .float (szF 3 (smN (ar 14) 8 * 785 / 1000))) rfl ?_
                refine hv_call (pc := 70) (va_runS (As := [.float (szF 3 (smN (ar 14) 8 * 785 / 1000))]) (rest := []) S (c_f_bits l D cA ga φ_5 H.size (szF 3 (smN (ar 14) 8 * 785 / 1000)) (szF_is (by omega))) (va_cwS 1 S.2.2.2.2 (gS tw_1127 tw_1128 tw_27 tw_1129) rfl rfl rfl (by decide +kernel) ⟨Nat.le_of_ble_eq_true rfl, Nat.le_of_ble_eq_true rfl⟩) (pre0_S hH hK hX hS hA) rfl rfl hl.1 rfl (lv_room (Nat.le_of_ble_eq_true rfl)) dX9_size_70 ⟨Nat.le_of_ble_eq_true rfl, Nat.le_of_ble_eq_true rfl⟩) hS (af_le hH hS hA) (fun v_39 φ_40 H locs hw_v_39 hH hS => ?_)
                obtain ⟨rfl, hqv_39⟩ := hw_v_39
                rw [hqv_39] at hH
                exact hv_ret (pc := 73) (v := nI ((szF 3 (smN (ar 14) 8 * 785 / 1000)).toNat)) S hr rfl hlocks hH hS (by rw [if_pos eX]; exact ⟨3, rfl, by omega, rfl, ⟨f_6, f_7, f_8, f_9, f_10, f_11, f_12, f_13, f_14, f_15, f_16, f_17, f_18, f_19, f_20⟩⟩) (Nat.le_of_ble_eq_true rfl) (Nat.le_of_ble_eq_true rfl) dX9_size_73
              · skip
                exact absurd c_38 (by omega)
            · skip
              exact absurd c_37 (by omega)
          · skip
            exact absurd c_36 (by omega)
      · skip
        exact absurd c_21 (by omega)
  · skip
    refine hv_call (pc := 4) (va_runS (As := [.int (x), .int (nI 0), .int (nI 3)]) (rest := [.ref (q 0)]) S (c_isIn l D cA ga φ H.size x (nI 0) (nI 3)) (va_cwS 3 S.2.2.2.2 (gS tw_1031 tw_1032 tw_7 tw_1033) rfl rfl rfl (by decide +kernel) ⟨Nat.le_of_ble_eq_true rfl, Nat.le_of_ble_eq_true rfl⟩) (pre0_S hH hK hX hS hA) rfl rfl hl.1 rfl (lv_room (Nat.le_of_ble_eq_true rfl)) dX9_size_4 ⟨Nat.le_of_ble_eq_true rfl, Nat.le_of_ble_eq_true rfl⟩) hS (af_le hH hS hA) (fun v_41 φ_42 H locs hw_v_41 hH hS => ?_)
    obtain ⟨rfl, hqv_41⟩ := hw_v_41
    rw [hqv_41] at hH
    refine hv_ti (y := nI 0) (by rw [inB_R, if_neg (fun h => hx ((in4 _).mp h))]) ?_
    refine hv_if_eq (pc := 7) (tgt := 14) (a := 0) S.1 S.2.1 (by omega) dX9_size_7 (by decide) (fun c_43 => ?_) (fun c_43 => ?_)
    · skip
      refine lv_iconst (pc := 14) (v := nI 1) S.1 S.2.1 dX9_size_14 (by decide) ?_
      have eX : inX 4 x = 3 := by rw [inX, if_neg hx]
      refine hv_call (pc := 15) (va_runV (As := [.int (nI 1)]) (rest := []) S (c_m_goes l D cA ga φ H.size q sc ar (1) ⟨f0, f1, f2, f3, f4, f5, f6, f7, f8, f9, f10, f11, f12, f13, f14⟩ hq (by omega)) (cwV 1 S.2.2.2.2 (gV tw_1021 tw_1023 sw_32 tw_7 tw_1024) rfl rfl rfl (by decide +kernel) ⟨Nat.le_of_ble_eq_true rfl, Nat.le_of_ble_eq_true rfl⟩) (pre0_V hH hK hX hS hA (hH.recv hK f0 rfl)) rfl rfl hl.1 rfl (lv_room (Nat.le_of_ble_eq_true rfl)) dX9_size_15 ⟨Nat.le_of_ble_eq_true rfl, Nat.le_of_ble_eq_true rfl⟩) hS (af_le hH hS hA) (fun v_44 φ_45 H locs hw_v_44 hH hS => ?_)
      obtain ⟨rfl, hm9⟩ := hw_v_44
      obtain ⟨f_46, f_47, f_48, f_49, f_50, f_51, f_52, f_53, f_54, f_55, f_56, f_57, f_58, f_59, f_60⟩ := hm9
      change φ_45 (q 0) = some (.inr (13, [.int (nI (sc 0)), .long (Int64.ofNat (sc 1)), .int (nI (sc 2)), .ref (q 1), .ref (q 2), .int (nI (sc 3)), .ref (q 3), .ref (q 4), .ref (q 5), .ref (q 6), .ref (q 7), .ref (q 8), .ref (q 9), .int (nI (sc 4)), .ref (q 10), .ref (q 11), .int (nI (sc 5)), .ref (q 12), .ref (q 13), .ref (q 14), .int (nI (sc 6)), .int (nI 1)])) at f_46
      refine hv_ti (y := nI 0) (rfl) ?_
      refine hv_if_ne (pc := 18) (tgt := 23) (a := 0) S.1 S.2.1 (by omega) dX9_size_18 (by decide) (fun c_61 => ?_) (fun c_61 => ?_)
      · skip
        exact absurd c_61 (by omega)
      · skip
        refine lv_iconst (pc := 21) (v := nI 0) S.1 S.2.1 dX9_size_21 (by decide) ?_
        exact hv_ret (pc := 22) (v := nI 0) S hr rfl hlocks hH hS (by rw [if_neg (by rw [eX]; decide), eX]; exact ⟨rfl, ⟨f_46, f_47, f_48, f_49, f_50, f_51, f_52, f_53, f_54, f_55, f_56, f_57, f_58, f_59, f_60⟩⟩) (Nat.le_of_ble_eq_true rfl) (Nat.le_of_ble_eq_true rfl) dX9_size_22
    · skip
      exact absurd c_43 (by omega)
