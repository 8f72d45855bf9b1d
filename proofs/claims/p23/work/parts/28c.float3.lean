section LFW
variable {p : Program} {l : Launch} {e : Env} {R : Room} {s : State} {m : MethodId} {args : Array Value} {below : List Frame} {meth : Method} {c : Code} {H : Heap} {locs : List Loc} {cells slots : Nat} {Q : State → Prop}
variable {cc : ByteArray} {pc : Nat} {ls : Array Slot} {rest : List Value}
theorem lf_ldcwC {T : State} (X : Stand p l e R s m args below meth c T locs cells slots) (hexec : p.tables.exec = Jvm.exec) {own : String} {index : Nat} {b : UInt32} (hown : s.vm.findClass own = some m.cls)
    (hconst : (Cond.constantFloat own index b).before args s = true) {g : JFrame} (hg : g.method = m) (hdg : decode c.code g.pc = .ok (.ldc_w index, 3)) :
    ∀ target, Steps p.tables e below (T.setTop { g with pc := g.pc + 3, stack := .float b :: g.stack }) target → Steps p.tables e below (T.setTop g) target := by
  obtain ⟨k, cf, hk, hcf, hcp⟩ := Cond.constantFloat_spec hown hconst
  obtain ⟨k', hk', he⟩ := X.warmed.alike.2.2 _ _ hk
  intro target hrest
  subst hg
  jvm_step X.here [hexec, hdg, ldc_w.wp_float (s := T) (f := g) X.here.top hk' (by rw [he]; exact hcf) hcp]
  exact hrest
theorem lf_ldcw (hexec : p.tables.exec = Jvm.exec) (hb : c.code = cc) {own : String} {index : Nat} {v : UInt32} (hown : s.vm.findClass own = some m.cls) (hconst : (Jvm.Cond.constantFloat own index v).before args s = true) (hdg : decode cc pc = .ok (.ldc_w index, 3)) (k : W p l e R s m args below meth c H locs cells slots Q (F0 m (pc + 3) ls (.float v :: rest))) : W p l e R s m args below meth c H locs cells slots Q (F0 m pc ls rest) := by
  intro T hT X
  obtain ⟨t, a, b⟩ := k T hT X
  exact ⟨t, lf_ldcwC X hexec hown hconst (g := F0 m pc ls rest) rfl (by rw [hb]; exact hdg) t a, b⟩
end LFW
/-- the contract's beginning for a method whose class has rows of natives, but not for it -/
theorem hM.ofF {l : Launch} {y : MethodName} {rm : Room} {av : List Value} {D : va_G} {cA : Nat → ClassId} {ga : Nat → Nat → Nat} {φ : hpM} {sz : Nat} {post : Option Value → hpM → Prop} {mc ms : Nat} {cc : ByteArray} {maxL : Nat} {ret : Option FieldType} {lv : List (Nat × Value)}
    (hy : plainFor y = true) (hn : (lg_sl av).length ≤ maxL) (hlv : lv_args 0 av = lv)
    (body : ∀ (p : Program) (e : Env) (s : State) (m : MethodId) (args : Array Value) (below : List Frame) (meth : Method) (c : Code) (ls : Array Slot) (H : Heap) (locs : List Loc), CallFix p m c cc maxL s args Wc y.cls → meth.sig.returnType = ret → meth.locks = false → meth.name = y.name → s.heap.size = sz → H.size = sz → hp D (Af φ sz) φ H → va_K D vwCl (tysL cA) s → Sx ga (Af φ sz) s s.heap → va_S (Af φ sz) s.heap H locs → (∀ q, s.heap.size ≤ q → Af φ sz q) → lv_has ls maxL lv →
      W p l e rm s m args below meth c H locs 0 0 (MQ below (hQ post D (Af φ sz)) args s mc ms (Af φ sz)) (F0 m 0 ls [])) : hM l y cc maxL ret rm av D cA ga φ sz post mc ms := by
  refine MetFree.of_bodySF (code := cc) (maxLocals := maxL) (ret := ret) hy ?_ ?_
  · intro args s m h hn
    obtain ⟨meth, c, h1, h2, h3, h4, h5, h6, -, -⟩ := Cond.code_spec hn (atoms_spec (ws := wl y cc maxL ret) h _ List.mem_cons_self)
    exact ⟨meth, c, h1, h2, h3, h4, h5, h6⟩
  · intro p e s m args below meth c s₁ B hml hv _
    have hh0 : s₁.heap = s.heap := by rw [B.state]; rfl
    obtain ⟨rfl, hsz, hH, hK, hX⟩ := hv
    have hl := lv_entry av (n := maxL) hn
    rw [lg_entry_eq]
    obtain ⟨t, a1, o, b1, b2, b3⟩ := body p e s m _ below meth c _ s.heap [] ⟨B.exec, B.bytes, hml, findClass_of_methodNamed B.named, fun w hw => atoms_spec (ws := wl y cc maxL ret) B.pre w (List.mem_cons_of_mem _ hw)⟩ B.returns B.notSynchronized (name_of_methodNamed B.named B.method).1 hsz hsz hH hK hX va_S.rf (fun q h => Or.inr (by rw [← hsz]; exact h)) (hlv ▸ hl) s₁ hh0 (Stand.of_body B)
    exact ⟨t, o, a1, b1, b2, ⟨b3.1, b3.2⟩⟩
theorem isN.refl {a : UInt32} (h : isN a) : FP.fcmp a a = some .eq := by
  rcases h with rfl | ⟨c, k, h1, rfl, _, _⟩
  · decide +kernel
  · rw [nF_cmp h1 h1]
    exact congrArg some (Int.compare_eq_eq.mpr rfl)
theorem in4 (z : Int32) : inR z 0 3 ↔ inN z 4 := by
  constructor
  · intro h
    obtain ⟨a, rfl, h1, h2⟩ := h.nat (by omega) (by omega)
    exact (inN_nI (by omega) (by omega)).mpr (by omega)
  · intro h
    obtain ⟨a, rfl, h1⟩ := h.nat (by omega)
    exact (inR_nI (by omega) (by omega) (by omega)).mpr ⟨by omega, by omega⟩
def brimX (nc : Nat) (x z : Int32) : Nat := if inN x nc then (if inR z 10 150 then 0 else 1) else 3
set_option maxHeartbeats 4000000 in
set_option maxRecDepth 100000 in
/-- bitsOf(value) -/
theorem c_bitsOf (l : Launch) (D : va_G) (cA : Nat → ClassId) (ga : Nat → Nat → Nat) (φ : hpM) (sz : Nat) (a : UInt32) (ha : isN a) : hM l yX8_bitsOf cX8_bitsOf 4 (some .int) { frames := 8, cells := 0, slots := 0, locals := 200 } [.float (a)] D cA ga φ sz (fun v φ' => v = some (.int (nI a.toNat)) ∧ φ' = φ) 0 0 := by
  refine hM.of (by decide) (Nat.le_of_ble_eq_true rfl) rfl ?_
  intro p e s m args below meth c ls H locs S hr hlocks hnm hsz hHz hH hK hX hS hA hl
  refine lv_fload_n (pc := 0) S.1 S.2.1 dX8_bitsOf_0 rfl (lv_at hl 0 rfl) ?_
  refine lv_fconst0 (pc := 1) S.1 S.2.1 dX8_bitsOf_1 ?_
  change W _ _ _ _ _ _ _ _ _ _ _ _ _ _ _ (F0 m 2 ls [.float (0), .float (a)])
  rcases ha with rfl | ⟨c, k, hok, rfl, _, _⟩
  · skip
    refine lv_fcmp (pc := 2) S.1 S.2.1 dX8_bitsOf_2 ?_
    refine hv_ti (y := 0) (by rw [show FP.fcmp 0 0 = some .eq by decide +kernel]; rfl) ?_
    refine lv_if_gt (pc := 3) (tgt := 8) S.1 S.2.1 dX8_bitsOf_3 (by decide) (fun c_1 => ?_) (fun c_1 => ?_)
    · skip
      exact absurd c_1 (by decide)
    · skip
      refine lv_iconst (pc := 6) (v := nI 0) S.1 S.2.1 dX8_bitsOf_6 (by decide) ?_
      exact hv_ret (pc := 7) (v := nI 0) S hr rfl hlocks hH hS (⟨rfl, rfl⟩) (Nat.le_of_ble_eq_true rfl) (Nat.le_of_ble_eq_true rfl) dX8_bitsOf_7
  · skip
    refine lv_fcmp (pc := 2) S.1 S.2.1 dX8_bitsOf_2 ?_
    refine hv_ti (y := 1) (by rw [f0_cmp hok]; rfl) ?_
    refine lv_if_gt (pc := 3) (tgt := 8) S.1 S.2.1 dX8_bitsOf_3 (by decide) (fun c_2 => ?_) (fun c_2 => ?_)
    · skip
      have hk24 := hok.2.2.1
      have hk277 := hok.2.2.2
      refine lv_fload_n (pc := 8) S.1 S.2.1 dX8_bitsOf_8 rfl (lv_at hl 0 rfl) ?_
      refine lv_fstore_n (pc := 9) (lv' := [(1, .float (nF c k)), (0, .float (nF c k))]) S.1 S.2.1 dX8_bitsOf_9 rfl hl (by decide) rfl (fun ls hl => ?_)
      refine lv_iconst (pc := 10) (v := nI 0) S.1 S.2.1 dX8_bitsOf_10 (by decide) ?_
      refine lv_istore_n (pc := 11) (lv' := [(2, .int (nI 0)), (1, .float (nF c k)), (0, .float (nF c k))]) S.1 S.2.1 dX8_bitsOf_11 rfl hl (by decide) rfl (fun ls hl => ?_)
      refine lv_iconst (pc := 12) (v := nI 0) S.1 S.2.1 dX8_bitsOf_12 (by decide) ?_
      refine lv_istore_n (pc := 13) (lv' := [(3, .int (nI 0)), (2, .int (nI 0)), (1, .float (nF c k)), (0, .float (nF c k))]) S.1 S.2.1 dX8_bitsOf_13 rfl hl (by decide) rfl (fun ls hl => ?_)
      have hok2 : ∀ j : Nat, 24 ≤ j → j ≤ 277 → nFok c j := fun j h1 h2 => ⟨hok.1, hok.2.1, h1, h2⟩
      have h2ok : nFok (2 ^ 23) 151 := ⟨by decide, by decide, by decide, by decide⟩
      have h1ok : nFok (2 ^ 23) 150 := ⟨by decide, by decide, by decide, by decide⟩
      have hg : ∃ (n i : Nat) (pw : Int32), (i + n = k - 150 ∧ pw + nI 127 = nI (127 + i)) ∧ lv_has ls 4 [(0, .float (nF c k)), (1, .float (nF c (k - i))), (2, .int (pw)), (3, .int (nI i))] := ⟨k - 150, 0, nI 0, ⟨by omega, rfl⟩, lv_sub hl [3, 2, 1, 0] rfl⟩
      clear hl
      try clear hHz
      obtain ⟨n, i, pw, hi, hl⟩ := hg
      induction n generalizing ls H locs i pw with
      | zero =>
        obtain ⟨hi9, hpw⟩ := hi
        have hi128 : i < 128 := by omega
        refine lv_iload_n (pc := 14) S.1 S.2.1 dX8_bitsOf_14 rfl (lv_at hl 3 rfl) ?_
        refine lv_sipush (pc := 15) (v := nI 128) S.1 S.2.1 dX8_bitsOf_15 (by decide) ?_
        refine hv_icmp_ge (pc := 18) (tgt := 40) (a := i) (b := 128) S.1 S.2.1 (by omega) (by omega) dX8_bitsOf_18 (by decide) (fun c_3 => ?_) (fun c_3 => ?_)
        · skip
          exact absurd c_3 (by omega)
        · skip
          refine lv_fload_n (pc := 21) S.1 S.2.1 dX8_bitsOf_21 rfl (lv_at hl 1 rfl) ?_
          refine lv_fconst2 (pc := 22) S.1 S.2.1 dX8_bitsOf_22 ?_
          change W _ _ _ _ _ _ _ _ _ _ _ _ _ _ _ (F0 m 23 ls [.float (0x40000000), .float (nF c (k - i))])
          refine lv_fcmp (pc := 23) S.1 S.2.1 dX8_bitsOf_23 ?_
          refine hv_ti (y := -1) (by rw [f2_nF, nF_lt (hok2 (k - i) (by omega) (by omega)) h2ok (by omega)]; rfl) ?_
          refine lv_if_lt (pc := 24) (tgt := 40) S.1 S.2.1 dX8_bitsOf_24 (by decide) (fun c_4 => ?_) (fun c_4 => ?_)
          · skip
            refine lv_iconst (pc := 40) (v := nI 0) S.1 S.2.1 dX8_bitsOf_40 (by decide) ?_
            refine lv_istore_n (pc := 41) (lv' := [(3, .int (nI 0)), (0, .float (nF c k)), (1, .float (nF c (k - i))), (2, .int (pw))]) S.1 S.2.1 dX8_bitsOf_41 rfl hl (by decide) rfl (fun ls hl => ?_)
            obtain ⟨cur, hcur⟩ : ∃ cur : Nat, cur = k - i := ⟨_, rfl⟩
            rw [← hcur] at hl
            obtain ⟨mm, hmm⟩ : ∃ mm : Nat, mm + cur = k + 127 := ⟨k + 127 - cur, by omega⟩
            have hpm : pw + nI 127 = nI mm := by rw [hpw]; congr 1; omega
            clear hpw hi128
            have hg : ∃ (n j : Nat) (pv : Int32), (j + n = 150 - cur ∧ pv + nI 127 = nI (mm - j)) ∧ lv_has ls 4 [(0, .float (nF c k)), (1, .float (nF c (cur + j))), (2, .int (pv)), (3, .int (nI j))] := ⟨150 - cur, 0, pw, ⟨by omega, hpm⟩, lv_sub hl [1, 2, 3, 0] rfl⟩
            clear hl
            try clear hHz
            obtain ⟨n, j, pv, hi, hl⟩ := hg
            induction n generalizing ls H locs j pv with
            | zero =>
              obtain ⟨hj9, hpv⟩ := hi
              have hcj : cur + j = 150 := by omega
              have hmj : mm - j = k - 23 := by omega
              rw [hmj] at hpv
              rw [hcj] at hl
              refine lv_iload_n (pc := 42) S.1 S.2.1 dX8_bitsOf_42 rfl (lv_at hl 3 rfl) ?_
              refine lv_sipush (pc := 43) (v := nI 128) S.1 S.2.1 dX8_bitsOf_43 (by decide) ?_
              refine hv_icmp_ge (pc := 46) (tgt := 68) (a := j) (b := 128) S.1 S.2.1 (by omega) (by omega) dX8_bitsOf_46 (by decide) (fun c_5 => ?_) (fun c_5 => ?_)
              · skip
                exact absurd c_5 (by omega)
              · skip
                refine lv_fload_n (pc := 49) S.1 S.2.1 dX8_bitsOf_49 rfl (lv_at hl 1 rfl) ?_
                refine lv_fconst1 (pc := 50) S.1 S.2.1 dX8_bitsOf_50 ?_
                change W _ _ _ _ _ _ _ _ _ _ _ _ _ _ _ (F0 m 51 ls [.float (0x3f800000), .float (nF c 150)])
                obtain ⟨hlo1, hlo2, hlo3⟩ := nF_low hok.1 hok.2.1
                have hge : Op.cmpValue (FP.fcmp (nF c 150) 0x3f800000) .g = 0 ∨ Op.cmpValue (FP.fcmp (nF c 150) 0x3f800000) .g = 1 := by rw [f1_nF]; rcases nF_ge (hok2 150 (by omega) (by omega)) h1ok (Nat.le_refl _) with h | h <;> rw [h] <;> decide
                refine lv_fcmp (pc := 51) S.1 S.2.1 dX8_bitsOf_51 ?_
                refine lv_if_ge (pc := 52) (tgt := 68) S.1 S.2.1 dX8_bitsOf_52 (by decide) (fun c_6 => ?_) (fun c_6 => ?_)
                · skip
                  refine lv_iload_n (pc := 68) S.1 S.2.1 dX8_bitsOf_68 rfl (lv_at hl 2 rfl) ?_
                  refine lv_bipush (pc := 69) (v := nI 127) S.1 S.2.1 dX8_bitsOf_69 (by decide) ?_
                  refine lv_iadd (pc := 71) S.1 S.2.1 dX8_bitsOf_71 ?_
                  refine hv_ti (y := nI (k - 23)) (hpv) ?_
                  refine lv_bipush (pc := 72) (v := nI 23) S.1 S.2.1 dX8_bitsOf_72 (by decide) ?_
                  refine lv_ishl (pc := 74) S.1 S.2.1 dX8_bitsOf_74 ?_
                  refine lv_fload_n (pc := 75) S.1 S.2.1 dX8_bitsOf_75 rfl (lv_at hl 1 rfl) ?_
                  refine lv_fconst1 (pc := 76) S.1 S.2.1 dX8_bitsOf_76 ?_
                  change W _ _ _ _ _ _ _ _ _ _ _ _ _ _ _ (F0 m 77 ls [.float (0x3f800000), .float (nF c 150), .int (nI (k - 23) <<< (nI 23 &&& 31))])
                  refine lv_fsub (pc := 77) S.1 S.2.1 dX8_bitsOf_77 (hlo1) ?_
                  refine lf_ldcw (pc := 78) (v := 1258291200) S.1 S.2.1 S.2.2.2.1 (S.2.2.2.2 _ tw_815) dX8_bitsOf_78 ?_
                  refine lv_fmul (pc := 81) S.1 S.2.1 dX8_bitsOf_81 (hlo2) ?_
                  refine lv_f2i (pc := 82) S.1 S.2.1 dX8_bitsOf_82 ?_
                  refine hv_ti (y := nI (c - 2 ^ 23)) (hlo3) ?_
                  refine lv_ior (pc := 83) S.1 S.2.1 dX8_bitsOf_83 ?_
                  refine hv_ti (y := nI (nF c k).toNat) (by rw [nF_nat hok]; exact bits_put (by omega) (by have h9 := hok.2.1; have h8 := hok.1; omega)) ?_
                  exact hv_ret (pc := 84) (v := nI (nF c k).toNat) S hr rfl hlocks hH hS (⟨rfl, rfl⟩) (Nat.le_of_ble_eq_true rfl) (Nat.le_of_ble_eq_true rfl) dX8_bitsOf_84
                · skip
                  exact absurd c_6 (by rcases hge with h | h <;> rw [h] <;> decide)
            | succ n ih =>
              obtain ⟨hj9, hpv⟩ := hi
              refine lv_iload_n (pc := 42) S.1 S.2.1 dX8_bitsOf_42 rfl (lv_at hl 3 rfl) ?_
              refine lv_sipush (pc := 43) (v := nI 128) S.1 S.2.1 dX8_bitsOf_43 (by decide) ?_
              refine hv_icmp_ge (pc := 46) (tgt := 68) (a := j) (b := 128) S.1 S.2.1 (by omega) (by omega) dX8_bitsOf_46 (by decide) (fun c_7 => ?_) (fun c_7 => ?_)
              · skip
                exact absurd c_7 (by omega)
              · skip
                refine lv_fload_n (pc := 49) S.1 S.2.1 dX8_bitsOf_49 rfl (lv_at hl 1 rfl) ?_
                refine lv_fconst1 (pc := 50) S.1 S.2.1 dX8_bitsOf_50 ?_
                change W _ _ _ _ _ _ _ _ _ _ _ _ _ _ _ (F0 m 51 ls [.float (0x3f800000), .float (nF c (cur + j))])
                refine lv_fcmp (pc := 51) S.1 S.2.1 dX8_bitsOf_51 ?_
                refine hv_ti (y := -1) (by rw [f1_nF, nF_lt (hok2 (cur + j) (by omega) (by omega)) h1ok (by omega)]; rfl) ?_
                refine lv_if_ge (pc := 52) (tgt := 68) S.1 S.2.1 dX8_bitsOf_52 (by decide) (fun c_8 => ?_) (fun c_8 => ?_)
                · skip
                  exact absurd c_8 (by decide)
                · skip
                  refine lv_fload_n (pc := 55) S.1 S.2.1 dX8_bitsOf_55 rfl (lv_at hl 1 rfl) ?_
                  refine lv_fconst2 (pc := 56) S.1 S.2.1 dX8_bitsOf_56 ?_
                  change W _ _ _ _ _ _ _ _ _ _ _ _ _ _ _ (F0 m 57 ls [.float (0x40000000), .float (nF c (cur + j))])
                  refine lv_fmul (pc := 57) S.1 S.2.1 dX8_bitsOf_57 (by rw [nF_dbl (hok2 (cur + j) (by omega) (by omega)) (hok2 (cur + j + 1) (by omega) (by omega))]; exact nF_num (hok2 (cur + j + 1) (by omega) (by omega))) ?_
                  refine hv_tv (y := .float (nF c (cur + j + 1))) (by rw [nF_dbl (hok2 (cur + j) (by omega) (by omega)) (hok2 (cur + j + 1) (by omega) (by omega))]) ?_
                  refine lv_fstore_n (pc := 58) (lv' := [(1, .float (nF c (cur + j + 1))), (0, .float (nF c k)), (2, .int (pv)), (3, .int (nI j))]) S.1 S.2.1 dX8_bitsOf_58 rfl hl (by decide) rfl (fun ls hl => ?_)
                  refine lv_iinc (pc := 59) (v := pv + -1) (lv' := [(2, .int (pv + -1)), (1, .float (nF c (cur + j + 1))), (0, .float (nF c k)), (3, .int (nI j))]) S.1 S.2.1 dX8_bitsOf_59 hl (k := 2) rfl (rfl) (by decide) rfl (fun ls hl => ?_)
                  refine lv_iinc (pc := 62) (v := nI (j + 1)) (lv' := [(3, .int (nI (j + 1))), (2, .int (pv + -1)), (1, .float (nF c (cur + j + 1))), (0, .float (nF c k))]) S.1 S.2.1 dX8_bitsOf_62 hl (k := 3) rfl (by first | rfl | exact nI_add _ _) (by decide) rfl (fun ls hl => ?_)
                  refine lv_goto (pc := 65) (tgt := 42) S.1 S.2.1 dX8_bitsOf_65 (by decide) ?_
                  have hi2 : (j + 1) + n = 150 - cur ∧ (pv + -1) + nI 127 = nI (mm - (j + 1)) := ⟨by omega, by rw [(show pv + -1 + nI 127 = (pv + nI 127) + -1 from by rw [Int32.add_assoc, Int32.add_comm (-1) (nI 127), ← Int32.add_assoc]), hpv, (show nI (mm - j) = nI (mm - (j + 1)) + 1 from by rw [← nI_succ]; congr 1; omega), Int32.add_assoc, (show (1 : Int32) + -1 = 0 from by decide), Int32.add_zero]⟩
                  have hl2 : lv_has ls 4 [(0, .float (nF c k)), (1, .float (nF c (cur + (j + 1)))), (2, .int ((pv + -1))), (3, .int (nI (j + 1)))] := lv_sub hl [3, 2, 1, 0] rfl
                  apply ih (j := j + 1) (pv := pv + -1) <;> assumption
          · skip
            exact absurd c_4 (by decide)
      | succ n ih =>
        obtain ⟨hi9, hpw⟩ := hi
        refine lv_iload_n (pc := 14) S.1 S.2.1 dX8_bitsOf_14 rfl (lv_at hl 3 rfl) ?_
        refine lv_sipush (pc := 15) (v := nI 128) S.1 S.2.1 dX8_bitsOf_15 (by decide) ?_
        refine hv_icmp_ge (pc := 18) (tgt := 40) (a := i) (b := 128) S.1 S.2.1 (by omega) (by omega) dX8_bitsOf_18 (by decide) (fun c_9 => ?_) (fun c_9 => ?_)
        · skip
          exact absurd c_9 (by omega)
        · skip
          refine lv_fload_n (pc := 21) S.1 S.2.1 dX8_bitsOf_21 rfl (lv_at hl 1 rfl) ?_
          refine lv_fconst2 (pc := 22) S.1 S.2.1 dX8_bitsOf_22 ?_
          change W _ _ _ _ _ _ _ _ _ _ _ _ _ _ _ (F0 m 23 ls [.float (0x40000000), .float (nF c (k - i))])
          have hge : Op.cmpValue (FP.fcmp (nF c (k - i)) 0x40000000) .l = 0 ∨ Op.cmpValue (FP.fcmp (nF c (k - i)) 0x40000000) .l = 1 := by rw [f2_nF]; rcases nF_ge (hok2 (k - i) (by omega) (by omega)) h2ok (by omega) with h | h <;> rw [h] <;> decide
          refine lv_fcmp (pc := 23) S.1 S.2.1 dX8_bitsOf_23 ?_
          refine lv_if_lt (pc := 24) (tgt := 40) S.1 S.2.1 dX8_bitsOf_24 (by decide) (fun c_10 => ?_) (fun c_10 => ?_)
          · skip
            exact absurd c_10 (by rcases hge with h | h <;> rw [h] <;> decide)
          · skip
            refine lv_fload_n (pc := 27) S.1 S.2.1 dX8_bitsOf_27 rfl (lv_at hl 1 rfl) ?_
            refine lv_fconst2 (pc := 28) S.1 S.2.1 dX8_bitsOf_28 ?_
            change W _ _ _ _ _ _ _ _ _ _ _ _ _ _ _ (F0 m 29 ls [.float (0x40000000), .float (nF c (k - i))])
            refine lv_fdiv (pc := 29) S.1 S.2.1 dX8_bitsOf_29 (by rw [nF_half (hok2 (k - i) (by omega) (by omega)) (hok2 (k - i - 1) (by omega) (by omega)) (by omega)]; exact nF_num (hok2 (k - i - 1) (by omega) (by omega))) ?_
            refine hv_tv (y := .float (nF c (k - i - 1))) (by rw [nF_half (hok2 (k - i) (by omega) (by omega)) (hok2 (k - i - 1) (by omega) (by omega)) (by omega)]) ?_
            refine lv_fstore_n (pc := 30) (lv' := [(1, .float (nF c (k - i - 1))), (0, .float (nF c k)), (2, .int (pw)), (3, .int (nI i))]) S.1 S.2.1 dX8_bitsOf_30 rfl hl (by decide) rfl (fun ls hl => ?_)
            refine lv_iinc (pc := 31) (v := pw + 1) (lv' := [(2, .int (pw + 1)), (1, .float (nF c (k - i - 1))), (0, .float (nF c k)), (3, .int (nI i))]) S.1 S.2.1 dX8_bitsOf_31 hl (k := 2) rfl (rfl) (by decide) rfl (fun ls hl => ?_)
            refine lv_iinc (pc := 34) (v := nI (i + 1)) (lv' := [(3, .int (nI (i + 1))), (2, .int (pw + 1)), (1, .float (nF c (k - i - 1))), (0, .float (nF c k))]) S.1 S.2.1 dX8_bitsOf_34 hl (k := 3) rfl (by first | rfl | exact nI_add _ _) (by decide) rfl (fun ls hl => ?_)
            refine lv_goto (pc := 37) (tgt := 14) S.1 S.2.1 dX8_bitsOf_37 (by decide) ?_
            rw [show k - i - 1 = k - (i + 1) by omega] at hl
            have hi2 : (i + 1) + n = k - 150 ∧ (pw + 1) + nI 127 = nI (127 + (i + 1)) := ⟨by omega, by rw [(show pw + 1 + nI 127 = (pw + nI 127) + 1 from by rw [Int32.add_assoc, Int32.add_comm 1 (nI 127), ← Int32.add_assoc]), hpw, nI_1]; first | done | rfl⟩
            have hl2 : lv_has ls 4 [(0, .float (nF c k)), (1, .float (nF c (k - (i + 1)))), (2, .int ((pw + 1))), (3, .int (nI (i + 1)))] := lv_sub hl [3, 2, 1, 0] rfl
            apply ih (i := i + 1) (pw := pw + 1) <;> assumption
    · skip
      exact absurd c_2 (by decide)

set_option maxHeartbeats 4000000 in
set_option maxRecDepth 100000 in
/-- Head.sizeIn(land) -/
theorem c_sizeIn (l : Launch) (D : va_G) (cA : Nat → ClassId) (ga : Nat → Nat → Nat) (φ : hpM) (sz : Nat) (h0 q t : Nat) (g : Nat → Nat) (f0 : φ h0 = some (.inr (9, [.ref q]))) (f1 : φ q = some (.inl (cA 1, 8, .inl (fun j => nI (g j))))) (hg8 : smN g 8 ≤ 1600) (ht : t < 4) : hM l yX5_sizeIn cX5_sizeIn 3 (some .float) { frames := 9, cells := 0, slots := 0, locals := 260 } [.ref h0, .int (nI t)] D cA ga φ sz (fun v φ' => v = some (.float (szF t (smN g 8 * 785 / 1000))) ∧ φ' = φ) 0 0 := by
  refine hM.of (by decide) (Nat.le_of_ble_eq_true rfl) rfl ?_
  intro p e s m args below meth c ls H locs S hr hlocks hnm hsz hHz hH hK hX hS hA hl
  obtain ⟨hz0, hz1, hz2, hz3⟩ := szD (a := smN g 8 * 785 / 1000) (by omega)
  refine lv_aload_n (pc := 0) S.1 S.2.1 dX5_sizeIn_0 rfl (lv_at hl 0 rfl) ?_
  refine hv_call (pc := 1) (va_runV (As := []) (rest := []) S (c_X5_around l D cA ga φ H.size h0 q g f0 f1 hg8) (cwV 0 S.2.2.2.2 (gV tw_880 tw_866 sw_30 tw_6 tw_867) rfl rfl rfl (by decide +kernel) ⟨Nat.le_of_ble_eq_true rfl, Nat.le_of_ble_eq_true rfl⟩) (pre0_V hH hK hX hS hA (hH.recv hK f0 rfl)) rfl rfl hl.1 rfl (lv_room (Nat.le_of_ble_eq_true rfl)) dX5_sizeIn_1 ⟨Nat.le_of_ble_eq_true rfl, Nat.le_of_ble_eq_true rfl⟩) hS (af_le hH hS hA) (fun v_1 φ_2 H locs hw_v_1 hH hS => ?_)
  obtain ⟨rfl, hqv_1⟩ := hw_v_1
  rw [hqv_1] at hH
  refine lv_i2f (pc := 4) S.1 S.2.1 dX5_sizeIn_4 ?_
  refine lv_fstore_n (pc := 5) (lv' := [(2, .float (FP.i2f (nI (smN g 8 * 785 / 1000)))), (0, .ref h0), (1, .int (nI t))]) S.1 S.2.1 dX5_sizeIn_5 rfl hl (by decide) rfl (fun ls hl => ?_)
  refine lv_iload_n (pc := 6) S.1 S.2.1 dX5_sizeIn_6 rfl (lv_at hl 2 rfl) ?_
  rcases (show t = 0 ∨ t = 1 ∨ t = 2 ∨ t = 3 by omega) with rfl | rfl | rfl | rfl
  · skip
    refine lv_tableIn (pc := 7) (off := 25) (tgt := 32) S.1 S.2.1 dX5_sizeIn_7 (by decide) (by decide) (by decide) (by decide) ?_
    refine lv_fload_n (pc := 32) S.1 S.2.1 dX5_sizeIn_32 rfl (lv_at hl 0 rfl) ?_
    refine lv_ldcf (pc := 33) (v := 1092616192) S.1 S.2.1 S.2.2.2.1 (S.2.2.2.2 _ tw_881) dX5_sizeIn_33 ?_
    refine lv_fdiv (pc := 35) S.1 S.2.1 dX5_sizeIn_35 (hz0.num) ?_
    exact hv_fret (pc := 36) S hr hlocks hH hS (⟨rfl, rfl⟩) (Nat.le_of_ble_eq_true rfl) (Nat.le_of_ble_eq_true rfl) dX5_sizeIn_36
  · skip
    refine lv_tableIn (pc := 7) (off := 30) (tgt := 37) S.1 S.2.1 dX5_sizeIn_7 (by decide) (by decide) (by decide) (by decide) ?_
    refine lv_fload_n (pc := 37) S.1 S.2.1 dX5_sizeIn_37 rfl (lv_at hl 0 rfl) ?_
    refine lv_ldcf (pc := 38) (v := 1117755277) S.1 S.2.1 S.2.2.2.1 (S.2.2.2.2 _ tw_882) dX5_sizeIn_38 ?_
    refine lv_fdiv (pc := 40) S.1 S.2.1 dX5_sizeIn_40 (hz1.num) ?_
    exact hv_fret (pc := 41) S hr hlocks hH hS (⟨rfl, rfl⟩) (Nat.le_of_ble_eq_true rfl) (Nat.le_of_ble_eq_true rfl) dX5_sizeIn_41
  · skip
    refine lv_tableIn (pc := 7) (off := 35) (tgt := 42) S.1 S.2.1 dX5_sizeIn_7 (by decide) (by decide) (by decide) (by decide) ?_
    refine lv_fload_n (pc := 42) S.1 S.2.1 dX5_sizeIn_42 rfl (lv_at hl 0 rfl) ?_
    refine lv_ldcf (pc := 43) (v := 1117755277) S.1 S.2.1 S.2.2.2.1 (S.2.2.2.2 _ tw_882) dX5_sizeIn_43 ?_
    refine lv_fdiv (pc := 45) S.1 S.2.1 dX5_sizeIn_45 (hz1.num) ?_
    refine lv_ldcf (pc := 46) (v := 1040187392) S.1 S.2.1 S.2.2.2.1 (S.2.2.2.2 _ tw_883) dX5_sizeIn_46 ?_
    refine lv_fadd (pc := 48) S.1 S.2.1 dX5_sizeIn_48 (hz2.num) ?_
    exact hv_fret (pc := 49) S hr hlocks hH hS (⟨rfl, rfl⟩) (Nat.le_of_ble_eq_true rfl) (Nat.le_of_ble_eq_true rfl) dX5_sizeIn_49
  · skip
    refine lv_tableOut (pc := 7) (tgt := 50) S.1 S.2.1 dX5_sizeIn_7 (Or.inr (by decide)) (by decide) ?_
    refine lv_fload_n (pc := 50) S.1 S.2.1 dX5_sizeIn_50 rfl (lv_at hl 0 rfl) ?_
    refine lv_ldcf (pc := 51) (v := 1087939543) S.1 S.2.1 S.2.2.2.1 (S.2.2.2.2 _ tw_884) dX5_sizeIn_51 ?_
    refine lv_fdiv (pc := 53) S.1 S.2.1 dX5_sizeIn_53 (hz3.num) ?_
    exact hv_fret (pc := 54) S hr hlocks hH hS (⟨rfl, rfl⟩) (Nat.le_of_ble_eq_true rfl) (Nat.le_of_ble_eq_true rfl) dX5_sizeIn_54

set_option maxHeartbeats 4000000 in
set_option maxRecDepth 100000 in
/-- size(land) -/
theorem c_size (l : Launch) (hfl : l.stackTraces = false) (D : va_G) (cA : Nat → ClassId) (ga : Nat → Nat → Nat) (φ : hpM) (sz : Nat) (y sb la ca ha ba hd nl nc nh nb dy : Nat) (rq : Nat) (rf : Nat → Nat) (x : Int32) (f0 : φ y = some (.inr (12, [.ref sb, .ref la, .ref ca, .ref ha, .ref ba, .ref hd, .int (nI nl), .int (nI nc), .int (nI nh), .int (nI nb), .int (nI dy)]))) (f1 : φ hd = some (.inr (9, [.ref rq]))) (f2 : φ rq = some (.inl (cA 1, 8, .inl (fun j => nI (rf j))))) (hrf : ∀ j, rf j ≤ 200) : hMX l yX8_size cX8_size 2 (some .int) { frames := 10, cells := 2, slots := 12, locals := 320 } [.ref y, .int (x)] D cA ga φ sz (fun v φ' => inX 4 x = 0 ∧ (∃ x1 : Nat, x = nI x1 ∧ x1 < 4 ∧ v = some (.int (nI (szF x1 (smN rf 8 * 785 / 1000)).toNat)) ∧ φ' = φ)) (fun E φ' => φ' = φ ∧ E = exE (inX 4 x) ∧ inX 4 x ≠ 0) 2 12 := by
  refine hMX.of (by decide) (Nat.le_of_ble_eq_true rfl) rfl ?_
  intro p e s m args below meth c ls H locs S hr hlocks hne hsz hHz hH hK hX hS hA hl
  refine lv_iload_n (pc := 0) S.1 S.2.1 dX8_size_0 rfl (lv_at hl 1 rfl) ?_
  refine lv_iconst (pc := 1) (v := nI 4) S.1 S.2.1 dX8_size_1 (by decide) ?_
  refine hv_callX (pc := 2) (vx_runS (As := [.int (x), .int (nI 4)]) (rest := []) S (c_refuseNoSuch l hfl D cA ga φ H.size x 4) (va_cwS 2 S.2.2.2.2 (gS tw_130 tw_131 tw_1 tw_132) rfl rfl rfl (by decide +kernel) ⟨Nat.le_of_ble_eq_true rfl, Nat.le_of_ble_eq_true rfl⟩) (pre0_S hH hK hX hS hA) rfl rfl hl.1 rfl (lv_room (Nat.le_of_ble_eq_true rfl)) dX8_size_2 ⟨Nat.le_of_ble_eq_true rfl, Nat.le_of_ble_eq_true rfl⟩) hS (af_le hH hS hA) (fun E ce q9 φ_2x H locs hx hH hS hce hcv hcl => ?_) (fun v_1 φ_2 H locs hw_v_1 hH hS => ?_)
  · skip
    have e9 : inX 4 x = 3 := by rw [inX, if_neg hx.2.2]
    exact hv_out hne hlocks hce hcv hcl hH hS ⟨hx.2.1, by rw [e9]; exact hx.1, by rw [e9]; decide⟩ (Nat.le_of_ble_eq_true rfl) (Nat.le_of_ble_eq_true rfl)
  · skip
    obtain ⟨rfl, hp9, hin_x⟩ := hw_v_1
    rw [hp9] at hH
    obtain ⟨x1, rfl, hxn⟩ := hin_x.nat (by omega)
    have e0 : inX 4 (nI x1) = 0 := by rw [inX, if_pos hin_x]
    have hs8 := smN_le hrf 8
    refine lv_aload_n (pc := 5) S.1 S.2.1 dX8_size_5 rfl (lv_at hl 0 rfl) ?_
    refine hv_get (pc := 6) (C := RX8) (T := TX8) (N := 11) (ref := RX8) S uwX8 hK hH f0 rfl 5 (by decide) tw_93 (fun _ h9 => h9) rfl dX8_size_6 ?_
    refine lv_iload_n (pc := 9) S.1 S.2.1 dX8_size_9 rfl (lv_at hl 1 rfl) ?_
    refine hv_call (pc := 10) (va_runVN (As := [.int (nI x1)]) (rest := []) S (c_sizeIn l D cA ga φ H.size hd rq x1 rf f1 f2 (by omega) hxn) ⟨va_cnB (host := "HatbandYard") 1 S.2.2.2.2 (gw tw_879) rfl rfl rfl (hX.nest _ (by decide +kernel)) (S.2.2.2.2 _ tw_6) (by decide +kernel) ⟨Nat.le_of_ble_eq_true rfl, Nat.le_of_ble_eq_true rfl⟩, S.2.2.2.2 _ tw_878, S.2.2.2.2 _ sw_31⟩ (pre0_V hH hK hX hS hA (hH.recv hK f1 rfl)) rfl rfl hl.1 rfl (lv_room (Nat.le_of_ble_eq_true rfl)) dX8_size_10 ⟨Nat.le_of_ble_eq_true rfl, Nat.le_of_ble_eq_true rfl⟩) hS (af_le hH hS hA) (fun v_3 φ_4 H locs hw_v_3 hH hS => ?_)
    obtain ⟨rfl, hqv_3⟩ := hw_v_3
    rw [hqv_3] at hH
    refine hv_call (pc := 13) (va_runS (As := [.float (szF x1 (smN rf 8 * 785 / 1000))]) (rest := []) S (c_bitsOf l D cA ga φ H.size (szF x1 (smN rf 8 * 785 / 1000)) (szF_is (by omega))) (va_cwS 1 S.2.2.2.2 (gS tw_812 tw_813 tw_1 tw_814) rfl rfl rfl (by decide +kernel) ⟨Nat.le_of_ble_eq_true rfl, Nat.le_of_ble_eq_true rfl⟩) (pre0_S hH hK hX hS hA) rfl rfl hl.1 rfl (lv_room (Nat.le_of_ble_eq_true rfl)) dX8_size_13 ⟨Nat.le_of_ble_eq_true rfl, Nat.le_of_ble_eq_true rfl⟩) hS (af_le hH hS hA) (fun v_5 φ_6 H locs hw_v_5 hH hS => ?_)
    obtain ⟨rfl, hqv_5⟩ := hw_v_5
    rw [hqv_5] at hH
    exact vx_ret (hv_ret (pc := 16) (v := nI ((szF x1 (smN rf 8 * 785 / 1000)).toNat)) S hr rfl hlocks hH hS (⟨e0, x1, rfl, hxn, rfl, rfl⟩) (Nat.le_of_ble_eq_true rfl) (Nat.le_of_ble_eq_true rfl) dX8_size_16)

set_option maxHeartbeats 4000000 in
set_option maxRecDepth 100000 in
/-- brim(cone, width) -/
theorem c_brim (l : Launch) (hfl : l.stackTraces = false) (D : va_G) (cA : Nat → ClassId) (ga : Nat → Nat → Nat) (φ : hpM) (sz : Nat) (y sb la ca ha ba hd nl nc nh nb dy : Nat) (ac aw ag cf ht cy tr ab dr : Nat → Nat) (wf mf : Nat → Nat → Nat) (x z : Int32) (f0 : φ y = some (.inr (12, [.ref sb, .ref la, .ref ca, .ref ha, .ref ba, .ref hd, .int (nI nl), .int (nI nc), .int (nI nh), .int (nI nb), .int (nI dy)]))) (f1 : φ ca = some (.inl (cA 5, 12, .inr (.inr (.inr (.inr (reF nc ac))))))) (hcn : ∀ i, i < nc → φ (ac i) = some (.inr (5, [.ref (ga 0 (cf i)), .ref (aw i), .ref (ag i), .int (nI (ht i)), .int (nI (cy i)), lbV ab (dr i), .int (nI (tr i))])) ∧ φ (aw i) = some (.inl (cA 1, 6, .inl (fun j => nI ((wf i) j)))) ∧ φ (ag i) = some (.inl (cA 1, 6, .inl (fun j => nI ((mf i) j)))) ∧ ag i ≠ aw i) (hcb : ∀ i, i < nc → cf i < 4 ∧ (∀ j, wf i j ≤ 1200) ∧ ht i ≤ 60 ∧ (∀ j, mf i j ≤ 500) ∧ cy i ≤ 12 ∧ tr i ≤ 1) (hnc : nc ≤ 12) (hwp : ∀ i, i < nc → 0 < wf i 0) : hMX l yX8_brim cX8_brim 5 (some .int) { frames := 10, cells := 3, slots := 18, locals := 320 } [.ref y, .int (x), .int (z)] D cA ga φ sz (fun v φ' => brimX nc x z = 0 ∧ (∃ x1 z1 : Nat, x = nI x1 ∧ z = nI z1 ∧ x1 < nc ∧ 10 ≤ z1 ∧ z1 ≤ 150 ∧ v = some (.int (nI (puF z1 (wf x1 0)).toNat)) ∧ φ' = φ)) (fun E φ' => φ' = φ ∧ E = exE (brimX nc x z) ∧ brimX nc x z ≠ 0) 3 18 := by
  refine hMX.of (by decide) (Nat.le_of_ble_eq_true rfl) rfl ?_
  intro p e s m args below meth c ls H locs S hr hlocks hne hsz hHz hH hK hX hS hA hl
  refine lv_aload_n (pc := 0) S.1 S.2.1 dX8_brim_0 rfl (lv_at hl 0 rfl) ?_
  refine lv_iload_n (pc := 1) S.1 S.2.1 dX8_brim_1 rfl (lv_at hl 1 rfl) ?_
  refine hv_callX (pc := 2) (vx_runV (As := [.int (x)]) (rest := []) S (c_coneAt l hfl D cA ga φ H.size y sb la ca ha ba hd nl nc nh nb dy x (reF nc ac) f0 f1) (cwV 1 S.2.2.2.2 (gV tw_126 tw_128 sw_0 tw_1 tw_129) rfl rfl rfl (by decide +kernel) ⟨Nat.le_of_ble_eq_true rfl, Nat.le_of_ble_eq_true rfl⟩) (pre0_V hH hK hX hS hA (hH.recv hK f0 rfl)) rfl rfl hl.1 rfl (lv_room (Nat.le_of_ble_eq_true rfl)) dX8_brim_2 ⟨Nat.le_of_ble_eq_true rfl, Nat.le_of_ble_eq_true rfl⟩) hS (af_le hH hS hA) (fun E ce q9 φ_2x H locs hx hH hS hce hcv hcl => ?_) (fun v_1 φ_2 H locs hw_v_1 hH hS => ?_)
  · skip
    have hn9 : ¬ inN x nc := fun h => by obtain ⟨i, e, hi⟩ := h.nat (by omega); exact hx.2.2 i (ac i) e (by omega) (reF_at hi)
    have e9 : brimX nc x z = 3 := by rw [brimX, if_neg hn9]
    exact hv_out hne hlocks hce hcv hcl hH hS ⟨hx.2.1, by rw [e9]; exact hx.1, by rw [e9]; decide⟩ (Nat.le_of_ble_eq_true rfl) (Nat.le_of_ble_eq_true rfl)
  · skip
    obtain ⟨⟨x1, a9, rfl, hxhi, hf9, rfl⟩, hp9⟩ := hw_v_1
    rw [hp9] at hH
    obtain ⟨hxn, rfl⟩ := reF_some hf9
    have hin_x : inN (nI x1) nc := (inN_nI (by omega) (by omega)).mpr hxn
    refine lv_astore_n (pc := 5) (lv' := [(3, .ref (ac x1)), (0, .ref y), (1, .int (nI x1)), (2, .int (z))]) S.1 S.2.1 dX8_brim_5 rfl hl (by decide) rfl (fun ls hl => ?_)
    refine lv_iload_n (pc := 6) S.1 S.2.1 dX8_brim_6 rfl (lv_at hl 3 rfl) ?_
    refine lv_bipush (pc := 7) (v := nI 10) S.1 S.2.1 dX8_brim_7 (by decide) ?_
    refine lv_sipush (pc := 9) (v := nI 150) S.1 S.2.1 dX8_brim_9 (by decide) ?_
    refine hv_callX (pc := 12) (vx_runS (As := [.int (z), .int (nI 10), .int (nI 150)]) (rest := []) S (c_refuseOutside l hfl D cA ga φ H.size z 10 150) (va_cwS 3 S.2.2.2.2 (gS tw_203 tw_204 tw_1 tw_205) rfl rfl rfl (by decide +kernel) ⟨Nat.le_of_ble_eq_true rfl, Nat.le_of_ble_eq_true rfl⟩) (pre0_S hH hK hX hS hA) rfl rfl hl.1 rfl (lv_room (Nat.le_of_ble_eq_true rfl)) dX8_brim_12 ⟨Nat.le_of_ble_eq_true rfl, Nat.le_of_ble_eq_true rfl⟩) hS (af_le hH hS hA) (fun E ce q9 φ_4x H locs hx hH hS hce hcv hcl => ?_) (fun v_3 φ_4 H locs hw_v_3 hH hS => ?_)
    · skip
      have e9 : brimX nc (nI x1) z = 1 := by rw [brimX, if_pos hin_x, if_neg hx.2.2]
      exact hv_out hne hlocks hce hcv hcl hH hS ⟨hx.2.1, by rw [e9]; exact hx.1, by rw [e9]; decide⟩ (Nat.le_of_ble_eq_true rfl) (Nat.le_of_ble_eq_true rfl)
    · skip
      obtain ⟨rfl, hp9, hin_z⟩ := hw_v_3
      rw [hp9] at hH
      obtain ⟨z1, rfl, hzlo, hzhi⟩ := hin_z.nat (by omega) (by omega)
      have e0 : brimX nc (nI x1) (nI z1) = 0 := by rw [brimX, if_pos hin_x, if_pos hin_z]
      refine lv_aload_n (pc := 15) S.1 S.2.1 dX8_brim_15 rfl (lv_at hl 0 rfl) ?_
      refine lv_iconst (pc := 16) (v := nI 0) S.1 S.2.1 dX8_brim_16 (by decide) ?_
      obtain ⟨fc0, fc1, fc2, nga⟩ := hcn x1 hxn
      obtain ⟨hcf, hwf, hht, hmf, hcy, htr⟩ := hcb x1 hxn
      have hwp1 := hwp x1 hxn
      have hw0 := hwf 0
      refine hv_call (pc := 17) (va_runVN (As := [.int (nI 0)]) (rest := []) S (c_X1_widthOf l D cA ga φ H.size (ac x1) (aw x1) (ag x1) (cf x1) (ht x1) (cy x1) (tr x1) (lbV ab (dr x1)) (wf x1) (mf x1) 0 fc0 fc1 fc2 (by omega)) ⟨va_cnB (host := "HatbandYard") 1 S.2.2.2.2 (gw tw_226) rfl rfl rfl (hX.nest _ (by decide +kernel)) (S.2.2.2.2 _ tw_23) (by decide +kernel) ⟨Nat.le_of_ble_eq_true rfl, Nat.le_of_ble_eq_true rfl⟩, S.2.2.2.2 _ tw_224, S.2.2.2.2 _ sw_2⟩ (pre0_V hH hK hX hS hA (hH.recv hK fc0 rfl)) rfl rfl hl.1 rfl (lv_room (Nat.le_of_ble_eq_true rfl)) dX8_brim_17 ⟨Nat.le_of_ble_eq_true rfl, Nat.le_of_ble_eq_true rfl⟩) hS (af_le hH hS hA) (fun v_5 φ_6 H locs hw_v_5 hH hS => ?_)
      obtain ⟨rfl, hqv_5⟩ := hw_v_5
      rw [hqv_5] at hH
      refine lv_istore (pc := 20) (lv' := [(4, .int (nI (wf x1 0))), (3, .ref (ac x1)), (0, .ref y), (1, .int (nI x1)), (2, .int (nI z1))]) S.1 S.2.1 dX8_brim_20 hl (by decide) rfl (fun ls hl => ?_)
      refine lv_iload (pc := 22) S.1 S.2.1 dX8_brim_22 (lv_at hl 0 rfl) ?_
      refine hv_if_gt (pc := 24) (tgt := 29) (a := wf x1 0) S.1 S.2.1 (by omega) dX8_brim_24 (by decide) (fun c_7 => ?_) (fun c_7 => ?_)
      · skip
        refine lv_iconst (pc := 29) (v := nI 2) S.1 S.2.1 dX8_brim_29 (by decide) ?_
        refine lv_iload_n (pc := 30) S.1 S.2.1 dX8_brim_30 rfl (lv_at hl 4 rfl) ?_
        refine lv_imul (pc := 31) S.1 S.2.1 dX8_brim_31 ?_
        refine hv_ti (y := nI (2 * z1)) (pk_mul _ _) ?_
        refine lv_i2f (pc := 32) S.1 S.2.1 dX8_brim_32 ?_
        refine lv_ldcf (pc := 33) (v := 1078530000) S.1 S.2.1 S.2.2.2.1 (S.2.2.2.2 _ tw_811) dX8_brim_33 ?_
        refine lv_fmul (pc := 35) S.1 S.2.1 dX8_brim_35 ((puM (by omega) (by omega)).num) ?_
        refine lv_iload (pc := 36) S.1 S.2.1 dX8_brim_36 (lv_at hl 0 rfl) ?_
        refine lv_i2f (pc := 38) S.1 S.2.1 dX8_brim_38 ?_
        refine lv_fdiv (pc := 39) S.1 S.2.1 dX8_brim_39 ((puF_is (by omega) (by omega) (by omega) (by omega)).num) ?_
        refine hv_tv (y := .float (puF z1 (wf x1 0))) rfl ?_
        refine hv_call (pc := 40) (va_runS (As := [.float (puF z1 (wf x1 0))]) (rest := []) S (c_bitsOf l D cA ga φ H.size (puF z1 (wf x1 0)) ((puF_is (by omega) (by omega) (by omega) (by omega)).n (by decide))) (va_cwS 1 S.2.2.2.2 (gS tw_812 tw_813 tw_1 tw_814) rfl rfl rfl (by decide +kernel) ⟨Nat.le_of_ble_eq_true rfl, Nat.le_of_ble_eq_true rfl⟩) (pre0_S hH hK hX hS hA) rfl rfl hl.1 rfl (lv_room (Nat.le_of_ble_eq_true rfl)) dX8_brim_40 ⟨Nat.le_of_ble_eq_true rfl, Nat.le_of_ble_eq_true rfl⟩) hS (af_le hH hS hA) (fun v_8 φ_9 H locs hw_v_8 hH hS => ?_)
        obtain ⟨rfl, hqv_8⟩ := hw_v_8
        rw [hqv_8] at hH
        exact vx_ret (hv_ret (pc := 43) (v := nI ((puF z1 (wf x1 0)).toNat)) S hr rfl hlocks hH hS (⟨e0, x1, z1, rfl, rfl, hxn, hzlo, hzhi, rfl, rfl⟩) (Nat.le_of_ble_eq_true rfl) (Nat.le_of_ble_eq_true rfl) dX8_brim_43)
      · skip
        exact absurd c_7 (by omega)
