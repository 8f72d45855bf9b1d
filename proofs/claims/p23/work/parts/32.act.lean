/-- words of a method with handlers; its contract -/
abbrev wlW (y : MethodName) (cc : ByteArray) (n : Nat) (ret : Option FieldType) (hh : List (Nat × Nat × Nat × Nat)) : List Cond := .codeWith y cc n ret hh :: Wc
abbrev hW (l : Launch) (y : MethodName) (cc : ByteArray) (maxL : Nat) (ret : Option FieldType) (hh : List (Nat × Nat × Nat × Nat)) (rm : Room) (av : List Value) (D : va_G) (cA : Nat → ClassId) (ga : Nat → Nat → Nat) (φ : hpM) (sz : Nat) (post : Option Value → hpM → Prop) (mc ms : Nat) : Prop := Met l y (wlW y cc maxL ret hh) rm (va_Pc av (Pre0 D cA ga φ sz)) (hQ post D (Af φ sz)) mc ms (Af φ sz)
theorem hW.of {l : Launch} {y : MethodName} {rm : Room} {av : List Value} {D : va_G} {cA : Nat → ClassId} {ga : Nat → Nat → Nat} {φ : hpM} {sz : Nat} {post : Option Value → hpM → Prop} {mc ms : Nat} {cc : ByteArray} {maxL : Nat} {ret : Option FieldType} {hh : List (Nat × Nat × Nat × Nat)} {lv : List (Nat × Value)}
    (hy : plainName y.cls = true) (hn : (lg_sl av).length ≤ maxL) (hlv : lv_args 0 av = lv)
    (body : ∀ (p : Program) (e : Env) (s : State) (m : MethodId) (args : Array Value) (below : List Frame) (meth : Method) (c : Code) (ls : Array Slot) (H : Heap) (locs : List Loc), CallFix p m c cc maxL s args Wc y.cls → meth.sig.returnType = ret → meth.locks = false → c.exceptionTable.toList = tableOf hh → s.heap.size = sz → H.size = sz → hp D (Af φ sz) φ H → va_K D vwCl (tysL cA) s → Sx ga (Af φ sz) s s.heap → va_S (Af φ sz) s.heap H locs → (∀ q, s.heap.size ≤ q → Af φ sz q) → lv_has ls maxL lv →
      W p l e rm s m args below meth c H locs 0 0 (MQ below (hQ post D (Af φ sz)) args s mc ms (Af φ sz)) (F0 m 0 ls [])) : hW l y cc maxL ret hh rm av D cA ga φ sz post mc ms := by
  refine MetFree.of_bodyS (code := cc) (maxLocals := maxL) (ret := ret) hy ?_ ?_
  · intro args s m h hn
    obtain ⟨m9, meth, c, hn9, h1, h2, h3, h4, -, h5, h6, -⟩ := Cond.codeWith_spec (atoms_spec (ws := wlW y cc maxL ret hh) h _ List.mem_cons_self)
    cases hn.symm.trans hn9
    exact ⟨meth, c, h1, h2, h3, h4, h5, h6⟩
  · intro p e s m args below meth c s₁ B hml hv _
    have hh0 : s₁.heap = s.heap := by rw [B.state]; rfl
    obtain ⟨rfl, hsz, hH, hK, hX⟩ := hv
    have hl := lv_entry av (n := maxL) hn
    have ht9 := vx_table (x := y) B (atoms_spec (ws := wlW y cc maxL ret hh) B.pre _ List.mem_cons_self)
    rw [lg_entry_eq]
    obtain ⟨t, a1, o, b1, b2, b3⟩ := body p e s m _ below meth c _ s.heap [] ⟨B.exec, B.bytes, hml, findClass_of_methodNamed B.named, fun w hw => atoms_spec (ws := wlW y cc maxL ret hh) B.pre w (List.mem_cons_of_mem _ hw)⟩ B.returns B.notSynchronized ht9 hsz hsz hH hK hX va_S.rf (fun q h => Or.inr (by rw [← hsz]; exact h)) (hlv ▸ hl) s₁ hh0 (Stand.of_body B)
    exact ⟨t, o, a1, b1, b2, ⟨b3.1, b3.2⟩⟩
theorem gwW {y : MethodName} {cc : ByteArray} {n : Nat} {ret : Option FieldType} {hh : List (Nat × Nat × Nat × Nat)} (h : Cond.codeWith y cc n ret hh ∈ Wc) : GoodIn Wc (wlW y cc n ret hh) := fun w hw => (List.mem_cons.mp hw).elim (fun e => by rw [e]; exact ⟨h, Wc_g h⟩) (fun hw => ⟨hw, Wc_g hw⟩)
theorem gSW {own : String} {idx n : Nat} {y : MethodName} {cc : ByteArray} {ret : Option FieldType} {hh : List (Nat × Nat × Nat × Nat)} (h1 : Cond.methodLink own idx y ∈ Wc) (h2 : Cond.static y ∈ Wc) (h4 : Cond.initialized y.cls ∈ Wc) (h5 : Cond.codeWith y cc n ret hh ∈ Wc) : GoodIn Wc (va_wsS own idx y (wlW y cc n ret hh)) := fun w hw => (List.mem_append.mp hw).elim (gl (by simp only [List.forall_mem_cons]; exact ⟨h1, h2, h4, fun _ h => nomatch h⟩) w) (gwW h5 w)
theorem tabIAE : Cond.castable "java/lang/IllegalArgumentException" "java/lang/IllegalArgumentException" ∈ tabW := by decide +kernel
theorem tabISE : Cond.castable "java/lang/IllegalStateException" "java/lang/IllegalStateException" ∈ tabW := by decide +kernel
theorem tabIOOBE : Cond.castable "java/lang/IndexOutOfBoundsException" "java/lang/IndexOutOfBoundsException" ∈ tabW := by decide +kernel
theorem ycv {D : va_G} {A : Nat → Prop} {φ : hpM} {s : State} {H : Heap} {tys : List (ClassId × FieldType)} {cA : Nat → ClassId} {ga : Nat → Nat → Nat} {az : Nat → Nat} {tk tm : Nat} {tg sc : Nat → Nat} {ar : Nat → Nat → Nat} {w : Nat → Nat → Nat → Nat} {ez o : Nat → Nat → Nat} (hH : hp D A φ H) (hK : va_K D vwCl tys s) (h : YW cA ga az tk tm tg sc ar w ez o φ) : ∃ cell : Cell, H[az 0]? = some cell ∧ cell.vm.isStatics = false ∧ s.vm.findClass RX8 = some cell.cls := by
  obtain ⟨fs, hf⟩ := h.y
  exact hH.recv hK hf rfl
theorem i2c_id : ∀ x, x < 128 → ((nI x).toUInt32 % 65536).toInt32 = nI x := by decide +kernel
theorem trR_le (o : Option Nat) (d : Nat) : trR o d ≤ 1 := by
  unfold trR
  split
  · omega
  · exact alF_le _ _
set_option maxHeartbeats 4000000 in
set_option maxRecDepth 100000 in
/-- act, letter: it answers -/
theorem as_letter (l : Launch) (hfl : l.stackTraces = false) (D : va_G) (cA : Nat → ClassId) (ga : Nat → Nat → Nat) (φ : hpM) (sz : Nat) (az : Nat → Nat) (tn tk tm : Nat) (tg sc : Nat → Nat) (ar : Nat → Nat → Nat) (w : Nat → Nat → Nat → Nat) (ez o oi : Nat → Nat → Nat) (x : Nat) (hY : YW cA ga az tk tm tg sc ar w ez o φ) (hI : LI tn sc ar w ez oi) (hT : TY tk tg) (h200 : tn ≤ 200) (hk : tk < 7) (h1 : 97 ≤ x) (h2 : x ≤ 122) : hW l yL_act cL_act 6 (some .int) [(0, 302, 303, 78), (0, 302, 308, 81), (0, 302, 313, 84)] { frames := 12, cells := 2, slots := 12, locals := 440 } [.ref (az 0), .int (nI 0), .int (nI x), .int (nI 0), .int (nI 0)] D cA ga φ sz (fun v φ' => v = some (.int (nI (tk + 1))) ∧ YW cA ga az (tk + 1) tm (va_up tg tk x) sc ar w ez o φ') 2 12 := by
  refine hW.of (by decide) (Nat.le_of_ble_eq_true rfl) rfl ?_
  intro p e s m args below meth c ls H locs S hr hlocks ht9 hsz hHz hH hK hX hS hA hl
  refine lv_iload_n (pc := 0) S.1 S.2.1 dL_act_0 rfl (lv_at hl 1 rfl) ?_
  refine hv_if_ne (pc := 1) (tgt := 13) (a := 0) S.1 S.2.1 (by omega) dL_act_1 (by decide) (fun c_1 => ?_) (fun c_1 => ?_)
  · skip
    exact absurd c_1 (by omega)
  · skip
    refine lv_aload_n (pc := 4) S.1 S.2.1 dL_act_4 rfl (lv_at hl 0 rfl) ?_
    refine lv_iload_n (pc := 5) S.1 S.2.1 dL_act_5 rfl (lv_at hl 2 rfl) ?_
    refine lv_i2c (pc := 6) (v := ((nI x).toUInt32 % 65536).toInt32) S.1 S.2.1 dL_act_6 rfl ?_
    refine hv_ti (y := nI x) (i2c_id _ (by omega)) ?_
    refine hv_call (pc := 7) (va_runV (As := [.int (nI x)]) (rest := []) S (ys_letter l hfl D cA ga φ H.size az tn tk tm tg sc ar w ez o oi x hY hI hT hk h1 h2) (cwV 1 S.2.2.2.2 (gV tw_267 tw_268 tw_269 tw_1 tw_270) rfl rfl rfl (by decide +kernel) ⟨Nat.le_of_ble_eq_true rfl, Nat.le_of_ble_eq_true rfl⟩) (pre0_V hH hK hX hS hA (ycv hH hK hY)) rfl rfl hl.1 rfl (lv_room (Nat.le_of_ble_eq_true rfl)) dL_act_7 ⟨Nat.le_of_ble_eq_true rfl, Nat.le_of_ble_eq_true rfl⟩) hS (af_le hH hS hA) (fun v_2 φ_3 H locs hw_v_2 hH hS => ?_)
    obtain ⟨rfl, hq9⟩ := hw_v_2
    refine lv_goto (pc := 10) (tgt := 302) S.1 S.2.1 dL_act_10 (by decide) ?_
    exact hv_ret (pc := 302) (v := nI (tk + 1)) S hr rfl hlocks hH hS (⟨rfl, hq9⟩) (Nat.le_of_ble_eq_true rfl) (Nat.le_of_ble_eq_true rfl) dL_act_302

set_option maxHeartbeats 4000000 in
set_option maxRecDepth 100000 in
/-- act, lot: it answers -/
theorem as_lot (l : Launch) (hfl : l.stackTraces = false) (D : va_G) (cA : Nat → ClassId) (ga : Nat → Nat → Nat) (φ : hpM) (sz : Nat) (az : Nat → Nat) (tn tk tm : Nat) (tg sc : Nat → Nat) (ar : Nat → Nat → Nat) (w : Nat → Nat → Nat → Nat) (ez o oi : Nat → Nat → Nat) (x : Nat) (hY : YW cA ga az tk tm tg sc ar w ez o φ) (hI : LI tn sc ar w ez oi) (hT : TY tk tg) (h200 : tn ≤ 200) (hk : sc 2 < 10) (h1 : 1 ≤ x) (h2 : x ≤ 5000) : hW l yL_act cL_act 6 (some .int) [(0, 302, 303, 78), (0, 302, 308, 81), (0, 302, 313, 84)] { frames := 15, cells := 3, slots := 14, locals := 620 } [.ref (az 0), .int (nI 1), .int (nI x), .int (nI 0), .int (nI 0)] D cA ga φ sz (fun v φ' => (fiF 0 tg tk 4 0 = none ∧ v = some (.int (-1)) ∧ YW cA ga az 0 (if tk = 0 then tm else 1) tg sc ar w ez o φ') ∨ (∃ fu : Nat, fiF 0 tg tk 4 0 = some fu ∧ v = some (.int (nI (sc 2))) ∧ YW cA ga az 0 (if tk = 0 then tm else 1) tg (va_up sc 2 (sc 2 + 1)) (va_up (va_up ar 1 (va_up (ar 1) (sc 2) fu)) 2 (va_up (ar 2) (sc 2) x)) w ez o φ')) 3 14 := by
  refine hW.of (by decide) (Nat.le_of_ble_eq_true rfl) rfl ?_
  intro p e s m args below meth c ls H locs S hr hlocks ht9 hsz hHz hH hK hX hS hA hl
  refine lv_iload_n (pc := 0) S.1 S.2.1 dL_act_0 rfl (lv_at hl 1 rfl) ?_
  refine hv_if_ne (pc := 1) (tgt := 13) (a := 1) S.1 S.2.1 (by omega) dL_act_1 (by decide) (fun c_1 => ?_) (fun c_1 => ?_)
  · skip
    refine lv_iload_n (pc := 13) S.1 S.2.1 dL_act_13 rfl (lv_at hl 1 rfl) ?_
    refine lv_iconst (pc := 14) (v := nI 1) S.1 S.2.1 dL_act_14 (by decide) ?_
    refine hv_icmp_ne (pc := 15) (tgt := 26) (a := 1) (b := 1) S.1 S.2.1 (by omega) (by omega) dL_act_15 (by decide) (fun c_2 => ?_) (fun c_2 => ?_)
    · skip
      exact absurd c_2 (by omega)
    · skip
      refine lv_aload_n (pc := 18) S.1 S.2.1 dL_act_18 rfl (lv_at hl 0 rfl) ?_
      refine lv_iload_n (pc := 19) S.1 S.2.1 dL_act_19 rfl (lv_at hl 2 rfl) ?_
      refine hv_call (pc := 20) (va_runV (As := [.int (nI x)]) (rest := []) S (ys_lot l hfl D cA ga φ H.size az tn tk tm tg sc ar w ez o oi x hY hI hT hk h1 h2) (cwV 1 S.2.2.2.2 (gV tw_392 tw_393 tw_394 tw_1 tw_395) rfl rfl rfl (by decide +kernel) ⟨Nat.le_of_ble_eq_true rfl, Nat.le_of_ble_eq_true rfl⟩) (pre0_V hH hK hX hS hA (ycv hH hK hY)) rfl rfl hl.1 rfl (lv_room (Nat.le_of_ble_eq_true rfl)) dL_act_20 ⟨Nat.le_of_ble_eq_true rfl, Nat.le_of_ble_eq_true rfl⟩) hS (af_le hH hS hA) (fun v_3 φ_4 H locs hw_v_3 hH hS => ?_)
      rcases hw_v_3 with ⟨hno, rfl, hq9⟩ | ⟨fu, hso, rfl, hq9⟩
      · skip
        refine lv_goto (pc := 23) (tgt := 302) S.1 S.2.1 dL_act_23 (by decide) ?_
        exact hv_ret (pc := 302) (v := (-1 : Int32)) S hr rfl hlocks hH hS (Or.inl ⟨hno, rfl, hq9⟩) (Nat.le_of_ble_eq_true rfl) (Nat.le_of_ble_eq_true rfl) dL_act_302
      · skip
        refine lv_goto (pc := 23) (tgt := 302) S.1 S.2.1 dL_act_23 (by decide) ?_
        exact hv_ret (pc := 302) (v := nI (sc 2)) S hr rfl hlocks hH hS (Or.inr ⟨fu, hso, rfl, hq9⟩) (Nat.le_of_ble_eq_true rfl) (Nat.le_of_ble_eq_true rfl) dL_act_302
  · skip
    exact absurd c_1 (by omega)

set_option maxHeartbeats 4000000 in
set_option maxRecDepth 100000 in
/-- act, cone: it answers -/
theorem as_cone (l : Launch) (hfl : l.stackTraces = false) (D : va_G) (cA : Nat → ClassId) (ga : Nat → Nat → Nat) (φ : hpM) (sz : Nat) (az : Nat → Nat) (tn tk tm : Nat) (tg sc : Nat → Nat) (ar : Nat → Nat → Nat) (w : Nat → Nat → Nat → Nat) (ez o oi : Nat → Nat → Nat) (x y t : Nat) (hY : YW cA ga az tk tm tg sc ar w ez o φ) (hI : LI tn sc ar w ez oi) (hT : TY tk tg) (h200 : tn ≤ 200) (hx : x < sc 2) (h1 : 10 ≤ y) (h2 : y ≤ 500) (ht : t ≤ 5) (hk : sc 3 < 12) (hg : y ≤ ar 2 x) : hW l yL_act cL_act 6 (some .int) [(0, 302, 303, 78), (0, 302, 308, 81), (0, 302, 313, 84)] { frames := 11, cells := 9, slots := 55, locals := 380 } [.ref (az 0), .int (nI 2), .int (nI x), .int (nI y), .int (nI t)] D cA ga φ sz (fun v φ' => v = some (.int (nI (sc 3))) ∧ YW cA ga az tk tm tg (va_up sc 3 (sc 3 + 1)) (va_up (va_up ar 2 (va_up (ar 2) x (ar 2 x - y))) 3 (va_up (ar 3) (sc 3) (ar 1 x))) (va_up (va_up w 0 (va_up (w 0) (sc 3) (pfx (fun b => 1200 - 150 * b) zr 6))) 1 (va_up (w 1) (sc 3) (va_up (pfx (gB y t) zr 6) 0 (gB y t 0 + (y - smN (gB y t) 6))))) (va_up (va_up ez 1 (va_up (ez 1) (sc 3) 60)) 2 (va_up (ez 2) (sc 3) 0)) o φ') 9 55 := by
  refine hW.of (by decide) (Nat.le_of_ble_eq_true rfl) rfl ?_
  intro p e s m args below meth c ls H locs S hr hlocks ht9 hsz hHz hH hK hX hS hA hl
  refine lv_iload_n (pc := 0) S.1 S.2.1 dL_act_0 rfl (lv_at hl 1 rfl) ?_
  refine hv_if_ne (pc := 1) (tgt := 13) (a := 2) S.1 S.2.1 (by omega) dL_act_1 (by decide) (fun c_1 => ?_) (fun c_1 => ?_)
  · skip
    refine lv_iload_n (pc := 13) S.1 S.2.1 dL_act_13 rfl (lv_at hl 1 rfl) ?_
    refine lv_iconst (pc := 14) (v := nI 1) S.1 S.2.1 dL_act_14 (by decide) ?_
    refine hv_icmp_ne (pc := 15) (tgt := 26) (a := 2) (b := 1) S.1 S.2.1 (by omega) (by omega) dL_act_15 (by decide) (fun c_2 => ?_) (fun c_2 => ?_)
    · skip
      refine lv_iload_n (pc := 26) S.1 S.2.1 dL_act_26 rfl (lv_at hl 1 rfl) ?_
      refine lv_iconst (pc := 27) (v := nI 2) S.1 S.2.1 dL_act_27 (by decide) ?_
      refine hv_icmp_ne (pc := 28) (tgt := 42) (a := 2) (b := 2) S.1 S.2.1 (by omega) (by omega) dL_act_28 (by decide) (fun c_3 => ?_) (fun c_3 => ?_)
      · skip
        exact absurd c_3 (by omega)
      · skip
        refine lv_aload_n (pc := 31) S.1 S.2.1 dL_act_31 rfl (lv_at hl 0 rfl) ?_
        refine lv_iload_n (pc := 32) S.1 S.2.1 dL_act_32 rfl (lv_at hl 2 rfl) ?_
        refine lv_iload_n (pc := 33) S.1 S.2.1 dL_act_33 rfl (lv_at hl 3 rfl) ?_
        refine lv_iload (pc := 34) S.1 S.2.1 dL_act_34 (lv_at hl 4 rfl) ?_
        refine hv_call (pc := 36) (va_runV (As := [.int (nI x), .int (nI y), .int (nI t)]) (rest := []) S (ys_cone l hfl D cA ga φ H.size az tn tk tm tg sc ar w ez o oi x y t hY hI hT hx h1 h2 ht hk hg) (cwV 3 S.2.2.2.2 (gV tw_645 tw_646 tw_647 tw_1 tw_648) rfl rfl rfl (by decide +kernel) ⟨Nat.le_of_ble_eq_true rfl, Nat.le_of_ble_eq_true rfl⟩) (pre0_V hH hK hX hS hA (ycv hH hK hY)) rfl rfl hl.1 rfl (lv_room (Nat.le_of_ble_eq_true rfl)) dL_act_36 ⟨Nat.le_of_ble_eq_true rfl, Nat.le_of_ble_eq_true rfl⟩) hS (af_le hH hS hA) (fun v_4 φ_5 H locs hw_v_4 hH hS => ?_)
        obtain ⟨rfl, hq9⟩ := hw_v_4
        refine lv_goto (pc := 39) (tgt := 302) S.1 S.2.1 dL_act_39 (by decide) ?_
        exact hv_ret (pc := 302) (v := nI (sc 3)) S hr rfl hlocks hH hS (⟨rfl, hq9⟩) (Nat.le_of_ble_eq_true rfl) (Nat.le_of_ble_eq_true rfl) dL_act_302
    · skip
      exact absurd c_2 (by omega)
  · skip
    exact absurd c_1 (by omega)

set_option maxHeartbeats 4000000 in
set_option maxRecDepth 100000 in
/-- act, hand: it answers -/
theorem as_hand (l : Launch) (hfl : l.stackTraces = false) (D : va_G) (cA : Nat → ClassId) (ga : Nat → Nat → Nat) (φ : hpM) (sz : Nat) (az : Nat → Nat) (tn tk tm : Nat) (tg sc : Nat → Nat) (ar : Nat → Nat → Nat) (w : Nat → Nat → Nat → Nat) (ez o oi : Nat → Nat → Nat) (hY : YW cA ga az tk tm tg sc ar w ez o φ) (hI : LI tn sc ar w ez oi) (hT : TY tk tg) (h200 : tn ≤ 200) (hk : sc 5 < 6) : hW l yL_act cL_act 6 (some .int) [(0, 302, 303, 78), (0, 302, 308, 81), (0, 302, 313, 84)] { frames := 10, cells := 2, slots := 8, locals := 320 } [.ref (az 0), .int (nI 3), .int (nI 0), .int (nI 0), .int (nI 0)] D cA ga φ sz (fun v φ' => v = some (.int (nI (sc 5))) ∧ YW cA ga az tk tm tg (va_up sc 5 (sc 5 + 1)) ar w ez o φ') 2 8 := by
  refine hW.of (by decide) (Nat.le_of_ble_eq_true rfl) rfl ?_
  intro p e s m args below meth c ls H locs S hr hlocks ht9 hsz hHz hH hK hX hS hA hl
  refine lv_iload_n (pc := 0) S.1 S.2.1 dL_act_0 rfl (lv_at hl 1 rfl) ?_
  refine hv_if_ne (pc := 1) (tgt := 13) (a := 3) S.1 S.2.1 (by omega) dL_act_1 (by decide) (fun c_1 => ?_) (fun c_1 => ?_)
  · skip
    refine lv_iload_n (pc := 13) S.1 S.2.1 dL_act_13 rfl (lv_at hl 1 rfl) ?_
    refine lv_iconst (pc := 14) (v := nI 1) S.1 S.2.1 dL_act_14 (by decide) ?_
    refine hv_icmp_ne (pc := 15) (tgt := 26) (a := 3) (b := 1) S.1 S.2.1 (by omega) (by omega) dL_act_15 (by decide) (fun c_2 => ?_) (fun c_2 => ?_)
    · skip
      refine lv_iload_n (pc := 26) S.1 S.2.1 dL_act_26 rfl (lv_at hl 1 rfl) ?_
      refine lv_iconst (pc := 27) (v := nI 2) S.1 S.2.1 dL_act_27 (by decide) ?_
      refine hv_icmp_ne (pc := 28) (tgt := 42) (a := 3) (b := 2) S.1 S.2.1 (by omega) (by omega) dL_act_28 (by decide) (fun c_3 => ?_) (fun c_3 => ?_)
      · skip
        refine lv_iload_n (pc := 42) S.1 S.2.1 dL_act_42 rfl (lv_at hl 1 rfl) ?_
        refine lv_iconst (pc := 43) (v := nI 3) S.1 S.2.1 dL_act_43 (by decide) ?_
        refine hv_icmp_ne (pc := 44) (tgt := 54) (a := 3) (b := 3) S.1 S.2.1 (by omega) (by omega) dL_act_44 (by decide) (fun c_4 => ?_) (fun c_4 => ?_)
        · skip
          exact absurd c_4 (by omega)
        · skip
          refine lv_aload_n (pc := 47) S.1 S.2.1 dL_act_47 rfl (lv_at hl 0 rfl) ?_
          refine hv_call (pc := 48) (va_runV (As := []) (rest := []) S (ys_hand l hfl D cA ga φ H.size az tn tk tm tg sc ar w ez o oi hY hI hT hk) (cwV 0 S.2.2.2.2 (gV tw_687 tw_688 tw_689 tw_1 tw_690) rfl rfl rfl (by decide +kernel) ⟨Nat.le_of_ble_eq_true rfl, Nat.le_of_ble_eq_true rfl⟩) (pre0_V hH hK hX hS hA (ycv hH hK hY)) rfl rfl hl.1 rfl (lv_room (Nat.le_of_ble_eq_true rfl)) dL_act_48 ⟨Nat.le_of_ble_eq_true rfl, Nat.le_of_ble_eq_true rfl⟩) hS (af_le hH hS hA) (fun v_5 φ_6 H locs hw_v_5 hH hS => ?_)
          obtain ⟨rfl, hq9⟩ := hw_v_5
          refine lv_goto (pc := 51) (tgt := 302) S.1 S.2.1 dL_act_51 (by decide) ?_
          exact hv_ret (pc := 302) (v := nI (sc 5)) S hr rfl hlocks hH hS (⟨rfl, hq9⟩) (Nat.le_of_ble_eq_true rfl) (Nat.le_of_ble_eq_true rfl) dL_act_302
      · skip
        exact absurd c_3 (by omega)
    · skip
      exact absurd c_2 (by omega)
  · skip
    exact absurd c_1 (by omega)

set_option maxHeartbeats 4000000 in
set_option maxRecDepth 100000 in
/-- act, cycle: it answers -/
theorem as_cycle (l : Launch) (hfl : l.stackTraces = false) (D : va_G) (cA : Nat → ClassId) (ga : Nat → Nat → Nat) (φ : hpM) (sz : Nat) (az : Nat → Nat) (tn tk tm : Nat) (tg sc : Nat → Nat) (ar : Nat → Nat → Nat) (w : Nat → Nat → Nat → Nat) (ez o oi : Nat → Nat → Nat) (x z : Nat) (hY : YW cA ga az tk tm tg sc ar w ez o φ) (hI : LI tn sc ar w ez oi) (hT : TY tk tg) (h200 : tn ≤ 200) (hx : x < sc 3) (hz : z < sc 5) (ha : ar 12 z + fAir (ar 3 x) ≤ 30) (hd : ez 2 x = 0) (hc : ar 7 x < 12) : hW l yL_act cL_act 6 (some .int) [(0, 302, 303, 78), (0, 302, 308, 81), (0, 302, 313, 84)] { frames := 11, cells := 8, slots := 48, locals := 380 } [.ref (az 0), .int (nI 4), .int (nI x), .int (nI z), .int (nI 0)] D cA ga φ sz (fun v φ' => v = some (.int (nI (shA (ar 3 x) (w 0 x 0)))) ∧ YW cA ga az tk tm tg sc (va_up (va_up (va_up ar 7 (va_up (ar 7) x (ar 7 x + 1))) 12 (va_up (ar 12) z (ar 12 z + fAir (ar 3 x)))) 13 (va_up (ar 13) z (ar 13 z + fAir (ar 3 x)))) (va_up w 0 (va_up (w 0) x (shP (ar 3 x) (w 0 x) 6))) (va_up ez 1 (va_up (ez 1) x (shL (ar 3 x) (ez 1 x)))) o φ') 8 48 := by
  refine hW.of (by decide) (Nat.le_of_ble_eq_true rfl) rfl ?_
  intro p e s m args below meth c ls H locs S hr hlocks ht9 hsz hHz hH hK hX hS hA hl
  refine lv_iload_n (pc := 0) S.1 S.2.1 dL_act_0 rfl (lv_at hl 1 rfl) ?_
  refine hv_if_ne (pc := 1) (tgt := 13) (a := 4) S.1 S.2.1 (by omega) dL_act_1 (by decide) (fun c_1 => ?_) (fun c_1 => ?_)
  · skip
    refine lv_iload_n (pc := 13) S.1 S.2.1 dL_act_13 rfl (lv_at hl 1 rfl) ?_
    refine lv_iconst (pc := 14) (v := nI 1) S.1 S.2.1 dL_act_14 (by decide) ?_
    refine hv_icmp_ne (pc := 15) (tgt := 26) (a := 4) (b := 1) S.1 S.2.1 (by omega) (by omega) dL_act_15 (by decide) (fun c_2 => ?_) (fun c_2 => ?_)
    · skip
      refine lv_iload_n (pc := 26) S.1 S.2.1 dL_act_26 rfl (lv_at hl 1 rfl) ?_
      refine lv_iconst (pc := 27) (v := nI 2) S.1 S.2.1 dL_act_27 (by decide) ?_
      refine hv_icmp_ne (pc := 28) (tgt := 42) (a := 4) (b := 2) S.1 S.2.1 (by omega) (by omega) dL_act_28 (by decide) (fun c_3 => ?_) (fun c_3 => ?_)
      · skip
        refine lv_iload_n (pc := 42) S.1 S.2.1 dL_act_42 rfl (lv_at hl 1 rfl) ?_
        refine lv_iconst (pc := 43) (v := nI 3) S.1 S.2.1 dL_act_43 (by decide) ?_
        refine hv_icmp_ne (pc := 44) (tgt := 54) (a := 4) (b := 3) S.1 S.2.1 (by omega) (by omega) dL_act_44 (by decide) (fun c_4 => ?_) (fun c_4 => ?_)
        · skip
          refine lv_iload_n (pc := 54) S.1 S.2.1 dL_act_54 rfl (lv_at hl 1 rfl) ?_
          refine lv_iconst (pc := 55) (v := nI 4) S.1 S.2.1 dL_act_55 (by decide) ?_
          refine hv_icmp_ne (pc := 56) (tgt := 68) (a := 4) (b := 4) S.1 S.2.1 (by omega) (by omega) dL_act_56 (by decide) (fun c_5 => ?_) (fun c_5 => ?_)
          · skip
            exact absurd c_5 (by omega)
          · skip
            refine lv_aload_n (pc := 59) S.1 S.2.1 dL_act_59 rfl (lv_at hl 0 rfl) ?_
            refine lv_iload_n (pc := 60) S.1 S.2.1 dL_act_60 rfl (lv_at hl 2 rfl) ?_
            refine lv_iload_n (pc := 61) S.1 S.2.1 dL_act_61 rfl (lv_at hl 3 rfl) ?_
            refine hv_call (pc := 62) (va_runV (As := [.int (nI x), .int (nI z)]) (rest := []) S (ys_cycle l hfl D cA ga φ H.size az tn tk tm tg sc ar w ez o oi x z hY hI hT hx hz ha hd hc) (cwV 2 S.2.2.2.2 (gV tw_705 tw_706 tw_707 tw_1 tw_708) rfl rfl rfl (by decide +kernel) ⟨Nat.le_of_ble_eq_true rfl, Nat.le_of_ble_eq_true rfl⟩) (pre0_V hH hK hX hS hA (ycv hH hK hY)) rfl rfl hl.1 rfl (lv_room (Nat.le_of_ble_eq_true rfl)) dL_act_62 ⟨Nat.le_of_ble_eq_true rfl, Nat.le_of_ble_eq_true rfl⟩) hS (af_le hH hS hA) (fun v_6 φ_7 H locs hw_v_6 hH hS => ?_)
            obtain ⟨rfl, hq9⟩ := hw_v_6
            refine lv_goto (pc := 65) (tgt := 302) S.1 S.2.1 dL_act_65 (by decide) ?_
            exact hv_ret (pc := 302) (v := nI (shA (ar 3 x) (w 0 x 0))) S hr rfl hlocks hH hS (⟨rfl, hq9⟩) (Nat.le_of_ble_eq_true rfl) (Nat.le_of_ble_eq_true rfl) dL_act_302
        · skip
          exact absurd c_4 (by omega)
      · skip
        exact absurd c_3 (by omega)
    · skip
      exact absurd c_2 (by omega)
  · skip
    exact absurd c_1 (by omega)

set_option maxHeartbeats 4000000 in
set_option maxRecDepth 100000 in
/-- act, block: it answers -/
theorem as_block (l : Launch) (hfl : l.stackTraces = false) (D : va_G) (cA : Nat → ClassId) (ga : Nat → Nat → Nat) (φ : hpM) (sz : Nat) (az : Nat → Nat) (tn tk tm : Nat) (tg sc : Nat → Nat) (ar : Nat → Nat → Nat) (w : Nat → Nat → Nat → Nat) (ez o oi : Nat → Nat → Nat) (x z : Nat) (hY : YW cA ga az tk tm tg sc ar w ez o φ) (hI : LI tn sc ar w ez oi) (hT : TY tk tg) (h200 : tn ≤ 200) (hk : sc 4 < 8) (h1 : 300 ≤ x) (h2 : x ≤ 700) (h3 : 1 ≤ z) (h4 : z ≤ 6) : hW l yL_act cL_act 6 (some .int) [(0, 302, 303, 78), (0, 302, 308, 81), (0, 302, 313, 84)] { frames := 10, cells := 4, slots := 20, locals := 320 } [.ref (az 0), .int (nI 5), .int (nI x), .int (nI z), .int (nI 0)] D cA ga φ sz (fun v φ' => v = some (.int (nI (sc 4))) ∧ YW cA ga az tk tm tg (va_up sc 4 (sc 4 + 1)) (va_up (va_up ar 10 (va_up (ar 10) (sc 4) x)) 11 (va_up (ar 11) (sc 4) z)) w ez o φ') 4 20 := by
  refine hW.of (by decide) (Nat.le_of_ble_eq_true rfl) rfl ?_
  intro p e s m args below meth c ls H locs S hr hlocks ht9 hsz hHz hH hK hX hS hA hl
  refine lv_iload_n (pc := 0) S.1 S.2.1 dL_act_0 rfl (lv_at hl 1 rfl) ?_
  refine hv_if_ne (pc := 1) (tgt := 13) (a := 5) S.1 S.2.1 (by omega) dL_act_1 (by decide) (fun c_1 => ?_) (fun c_1 => ?_)
  · skip
    refine lv_iload_n (pc := 13) S.1 S.2.1 dL_act_13 rfl (lv_at hl 1 rfl) ?_
    refine lv_iconst (pc := 14) (v := nI 1) S.1 S.2.1 dL_act_14 (by decide) ?_
    refine hv_icmp_ne (pc := 15) (tgt := 26) (a := 5) (b := 1) S.1 S.2.1 (by omega) (by omega) dL_act_15 (by decide) (fun c_2 => ?_) (fun c_2 => ?_)
    · skip
      refine lv_iload_n (pc := 26) S.1 S.2.1 dL_act_26 rfl (lv_at hl 1 rfl) ?_
      refine lv_iconst (pc := 27) (v := nI 2) S.1 S.2.1 dL_act_27 (by decide) ?_
      refine hv_icmp_ne (pc := 28) (tgt := 42) (a := 5) (b := 2) S.1 S.2.1 (by omega) (by omega) dL_act_28 (by decide) (fun c_3 => ?_) (fun c_3 => ?_)
      · skip
        refine lv_iload_n (pc := 42) S.1 S.2.1 dL_act_42 rfl (lv_at hl 1 rfl) ?_
        refine lv_iconst (pc := 43) (v := nI 3) S.1 S.2.1 dL_act_43 (by decide) ?_
        refine hv_icmp_ne (pc := 44) (tgt := 54) (a := 5) (b := 3) S.1 S.2.1 (by omega) (by omega) dL_act_44 (by decide) (fun c_4 => ?_) (fun c_4 => ?_)
        · skip
          refine lv_iload_n (pc := 54) S.1 S.2.1 dL_act_54 rfl (lv_at hl 1 rfl) ?_
          refine lv_iconst (pc := 55) (v := nI 4) S.1 S.2.1 dL_act_55 (by decide) ?_
          refine hv_icmp_ne (pc := 56) (tgt := 68) (a := 5) (b := 4) S.1 S.2.1 (by omega) (by omega) dL_act_56 (by decide) (fun c_5 => ?_) (fun c_5 => ?_)
          · skip
            refine lv_iload_n (pc := 68) S.1 S.2.1 dL_act_68 rfl (lv_at hl 1 rfl) ?_
            refine lv_iconst (pc := 69) (v := nI 5) S.1 S.2.1 dL_act_69 (by decide) ?_
            refine hv_icmp_ne (pc := 70) (tgt := 82) (a := 5) (b := 5) S.1 S.2.1 (by omega) (by omega) dL_act_70 (by decide) (fun c_6 => ?_) (fun c_6 => ?_)
            · skip
              exact absurd c_6 (by omega)
            · skip
              refine lv_aload_n (pc := 73) S.1 S.2.1 dL_act_73 rfl (lv_at hl 0 rfl) ?_
              refine lv_iload_n (pc := 74) S.1 S.2.1 dL_act_74 rfl (lv_at hl 2 rfl) ?_
              refine lv_iload_n (pc := 75) S.1 S.2.1 dL_act_75 rfl (lv_at hl 3 rfl) ?_
              refine hv_call (pc := 76) (va_runV (As := [.int (nI x), .int (nI z)]) (rest := []) S (ys_block l hfl D cA ga φ H.size az tn tk tm tg sc ar w ez o oi x z hY hI hT hk h1 h2 h3 h4) (cwV 2 S.2.2.2.2 (gV tw_728 tw_729 tw_730 tw_1 tw_731) rfl rfl rfl (by decide +kernel) ⟨Nat.le_of_ble_eq_true rfl, Nat.le_of_ble_eq_true rfl⟩) (pre0_V hH hK hX hS hA (ycv hH hK hY)) rfl rfl hl.1 rfl (lv_room (Nat.le_of_ble_eq_true rfl)) dL_act_76 ⟨Nat.le_of_ble_eq_true rfl, Nat.le_of_ble_eq_true rfl⟩) hS (af_le hH hS hA) (fun v_7 φ_8 H locs hw_v_7 hH hS => ?_)
              obtain ⟨rfl, hq9⟩ := hw_v_7
              refine lv_goto (pc := 79) (tgt := 302) S.1 S.2.1 dL_act_79 (by decide) ?_
              exact hv_ret (pc := 302) (v := nI (sc 4)) S hr rfl hlocks hH hS (⟨rfl, hq9⟩) (Nat.le_of_ble_eq_true rfl) (Nat.le_of_ble_eq_true rfl) dL_act_302
          · skip
            exact absurd c_5 (by omega)
        · skip
          exact absurd c_4 (by omega)
      · skip
        exact absurd c_3 (by omega)
    · skip
      exact absurd c_2 (by omega)
  · skip
    exact absurd c_1 (by omega)

set_option maxHeartbeats 4000000 in
set_option maxRecDepth 100000 in
/-- act, draw: it answers -/
theorem as_draw (l : Launch) (hfl : l.stackTraces = false) (D : va_G) (cA : Nat → ClassId) (ga : Nat → Nat → Nat) (φ : hpM) (sz : Nat) (az : Nat → Nat) (tn tk tm : Nat) (tg sc : Nat → Nat) (ar : Nat → Nat → Nat) (w : Nat → Nat → Nat → Nat) (ez o oi : Nat → Nat → Nat) (x z : Nat) (hY : YW cA ga az tk tm tg sc ar w ez o φ) (hI : LI tn sc ar w ez oi) (hT : TY tk tg) (h200 : tn ≤ 200) (hx : x < sc 3) (hz : z < sc 4) : hW l yL_act cL_act 6 (some .int) [(0, 302, 303, 78), (0, 302, 308, 81), (0, 302, 313, 84)] { frames := 13, cells := 4, slots := 24, locals := 500 } [.ref (az 0), .int (nI 6), .int (nI x), .int (nI z), .int (nI 0)] D cA ga φ sz (fun v φ' => v = some (.int (nI (refR (ar 3 x) (ez 1 x) (w 0 x) (w 1 x) (bW (ar 10 z) (ar 11 z))))) ∧ (refR (ar 3 x) (ez 1 x) (w 0 x) (w 1 x) (bW (ar 10 z) (ar 11 z)) ≠ 0 → φ' = φ) ∧ (refR (ar 3 x) (ez 1 x) (w 0 x) (w 1 x) (bW (ar 10 z) (ar 11 z)) = 0 → YW cA ga az tk tm tg sc ar (va_up w 0 (va_up (w 0) x (pfx (bW (ar 10 z) (ar 11 z)) (w 0 x) 6))) (va_up ez 2 (va_up (ez 2) x (z + 1))) o φ')) 4 24 := by
  refine hW.of (by decide) (Nat.le_of_ble_eq_true rfl) rfl ?_
  intro p e s m args below meth c ls H locs S hr hlocks ht9 hsz hHz hH hK hX hS hA hl
  refine lv_iload_n (pc := 0) S.1 S.2.1 dL_act_0 rfl (lv_at hl 1 rfl) ?_
  refine hv_if_ne (pc := 1) (tgt := 13) (a := 6) S.1 S.2.1 (by omega) dL_act_1 (by decide) (fun c_1 => ?_) (fun c_1 => ?_)
  · skip
    refine lv_iload_n (pc := 13) S.1 S.2.1 dL_act_13 rfl (lv_at hl 1 rfl) ?_
    refine lv_iconst (pc := 14) (v := nI 1) S.1 S.2.1 dL_act_14 (by decide) ?_
    refine hv_icmp_ne (pc := 15) (tgt := 26) (a := 6) (b := 1) S.1 S.2.1 (by omega) (by omega) dL_act_15 (by decide) (fun c_2 => ?_) (fun c_2 => ?_)
    · skip
      refine lv_iload_n (pc := 26) S.1 S.2.1 dL_act_26 rfl (lv_at hl 1 rfl) ?_
      refine lv_iconst (pc := 27) (v := nI 2) S.1 S.2.1 dL_act_27 (by decide) ?_
      refine hv_icmp_ne (pc := 28) (tgt := 42) (a := 6) (b := 2) S.1 S.2.1 (by omega) (by omega) dL_act_28 (by decide) (fun c_3 => ?_) (fun c_3 => ?_)
      · skip
        refine lv_iload_n (pc := 42) S.1 S.2.1 dL_act_42 rfl (lv_at hl 1 rfl) ?_
        refine lv_iconst (pc := 43) (v := nI 3) S.1 S.2.1 dL_act_43 (by decide) ?_
        refine hv_icmp_ne (pc := 44) (tgt := 54) (a := 6) (b := 3) S.1 S.2.1 (by omega) (by omega) dL_act_44 (by decide) (fun c_4 => ?_) (fun c_4 => ?_)
        · skip
          refine lv_iload_n (pc := 54) S.1 S.2.1 dL_act_54 rfl (lv_at hl 1 rfl) ?_
          refine lv_iconst (pc := 55) (v := nI 4) S.1 S.2.1 dL_act_55 (by decide) ?_
          refine hv_icmp_ne (pc := 56) (tgt := 68) (a := 6) (b := 4) S.1 S.2.1 (by omega) (by omega) dL_act_56 (by decide) (fun c_5 => ?_) (fun c_5 => ?_)
          · skip
            refine lv_iload_n (pc := 68) S.1 S.2.1 dL_act_68 rfl (lv_at hl 1 rfl) ?_
            refine lv_iconst (pc := 69) (v := nI 5) S.1 S.2.1 dL_act_69 (by decide) ?_
            refine hv_icmp_ne (pc := 70) (tgt := 82) (a := 6) (b := 5) S.1 S.2.1 (by omega) (by omega) dL_act_70 (by decide) (fun c_6 => ?_) (fun c_6 => ?_)
            · skip
              refine lv_iload_n (pc := 82) S.1 S.2.1 dL_act_82 rfl (lv_at hl 1 rfl) ?_
              refine lv_bipush (pc := 83) (v := nI 6) S.1 S.2.1 dL_act_83 (by decide) ?_
              refine hv_icmp_ne (pc := 85) (tgt := 97) (a := 6) (b := 6) S.1 S.2.1 (by omega) (by omega) dL_act_85 (by decide) (fun c_7 => ?_) (fun c_7 => ?_)
              · skip
                exact absurd c_7 (by omega)
              · skip
                refine lv_aload_n (pc := 88) S.1 S.2.1 dL_act_88 rfl (lv_at hl 0 rfl) ?_
                refine lv_iload_n (pc := 89) S.1 S.2.1 dL_act_89 rfl (lv_at hl 2 rfl) ?_
                refine lv_iload_n (pc := 90) S.1 S.2.1 dL_act_90 rfl (lv_at hl 3 rfl) ?_
                refine hv_call (pc := 91) (va_runV (As := [.int (nI x), .int (nI z)]) (rest := []) S (ys_draw l hfl D cA ga φ H.size az tn tk tm tg sc ar w ez o oi x z hY hI hT hx hz) (cwV 2 S.2.2.2.2 (gV tw_744 tw_745 tw_746 tw_1 tw_747) rfl rfl rfl (by decide +kernel) ⟨Nat.le_of_ble_eq_true rfl, Nat.le_of_ble_eq_true rfl⟩) (pre0_V hH hK hX hS hA (ycv hH hK hY)) rfl rfl hl.1 rfl (lv_room (Nat.le_of_ble_eq_true rfl)) dL_act_91 ⟨Nat.le_of_ble_eq_true rfl, Nat.le_of_ble_eq_true rfl⟩) hS (af_le hH hS hA) (fun v_8 φ_9 H locs hw_v_8 hH hS => ?_)
                obtain ⟨rfl, hq9⟩ := hw_v_8
                refine lv_goto (pc := 94) (tgt := 302) S.1 S.2.1 dL_act_94 (by decide) ?_
                exact hv_ret (pc := 302) (v := nI (refR (ar 3 x) (ez 1 x) (w 0 x) (w 1 x) (bW (ar 10 z) (ar 11 z)))) S hr rfl hlocks hH hS (⟨rfl, hq9⟩) (Nat.le_of_ble_eq_true rfl) (Nat.le_of_ble_eq_true rfl) dL_act_302
            · skip
              exact absurd c_6 (by omega)
          · skip
            exact absurd c_5 (by omega)
        · skip
          exact absurd c_4 (by omega)
      · skip
        exact absurd c_3 (by omega)
    · skip
      exact absurd c_2 (by omega)
  · skip
    exact absurd c_1 (by omega)

set_option maxHeartbeats 4000000 in
set_option maxRecDepth 100000 in
/-- act, trim: it answers -/
theorem as_trim (l : Launch) (hfl : l.stackTraces = false) (D : va_G) (cA : Nat → ClassId) (ga : Nat → Nat → Nat) (φ : hpM) (sz : Nat) (az : Nat → Nat) (tn tk tm : Nat) (tg sc : Nat → Nat) (ar : Nat → Nat → Nat) (w : Nat → Nat → Nat → Nat) (ez o oi : Nat → Nat → Nat) (x : Nat) (hY : YW cA ga az tk tm tg sc ar w ez o φ) (hI : LI tn sc ar w ez oi) (hT : TY tk tg) (h200 : tn ≤ 200) (hx : x < sc 3) (ht : ar 9 x = 0) : hW l yL_act cL_act 6 (some .int) [(0, 302, 303, 78), (0, 302, 308, 81), (0, 302, 313, 84)] { frames := 15, cells := 3, slots := 18, locals := 620 } [.ref (az 0), .int (nI 7), .int (nI x), .int (nI 0), .int (nI 0)] D cA ga φ sz (fun v φ' => v = some (.int (nI (trR (fiF 4 tg tk 3 0) (sc 6)))) ∧ YW cA ga az 0 (if tk = 0 then tm else 1) tg sc (va_up ar 9 (va_up (ar 9) x (trR (fiF 4 tg tk 3 0) (sc 6)))) w ez o φ') 3 18 := by
  refine hW.of (by decide) (Nat.le_of_ble_eq_true rfl) rfl ?_
  intro p e s m args below meth c ls H locs S hr hlocks ht9 hsz hHz hH hK hX hS hA hl
  refine lv_iload_n (pc := 0) S.1 S.2.1 dL_act_0 rfl (lv_at hl 1 rfl) ?_
  refine hv_if_ne (pc := 1) (tgt := 13) (a := 7) S.1 S.2.1 (by omega) dL_act_1 (by decide) (fun c_1 => ?_) (fun c_1 => ?_)
  · skip
    refine lv_iload_n (pc := 13) S.1 S.2.1 dL_act_13 rfl (lv_at hl 1 rfl) ?_
    refine lv_iconst (pc := 14) (v := nI 1) S.1 S.2.1 dL_act_14 (by decide) ?_
    refine hv_icmp_ne (pc := 15) (tgt := 26) (a := 7) (b := 1) S.1 S.2.1 (by omega) (by omega) dL_act_15 (by decide) (fun c_2 => ?_) (fun c_2 => ?_)
    · skip
      refine lv_iload_n (pc := 26) S.1 S.2.1 dL_act_26 rfl (lv_at hl 1 rfl) ?_
      refine lv_iconst (pc := 27) (v := nI 2) S.1 S.2.1 dL_act_27 (by decide) ?_
      refine hv_icmp_ne (pc := 28) (tgt := 42) (a := 7) (b := 2) S.1 S.2.1 (by omega) (by omega) dL_act_28 (by decide) (fun c_3 => ?_) (fun c_3 => ?_)
      · skip
        refine lv_iload_n (pc := 42) S.1 S.2.1 dL_act_42 rfl (lv_at hl 1 rfl) ?_
        refine lv_iconst (pc := 43) (v := nI 3) S.1 S.2.1 dL_act_43 (by decide) ?_
        refine hv_icmp_ne (pc := 44) (tgt := 54) (a := 7) (b := 3) S.1 S.2.1 (by omega) (by omega) dL_act_44 (by decide) (fun c_4 => ?_) (fun c_4 => ?_)
        · skip
          refine lv_iload_n (pc := 54) S.1 S.2.1 dL_act_54 rfl (lv_at hl 1 rfl) ?_
          refine lv_iconst (pc := 55) (v := nI 4) S.1 S.2.1 dL_act_55 (by decide) ?_
          refine hv_icmp_ne (pc := 56) (tgt := 68) (a := 7) (b := 4) S.1 S.2.1 (by omega) (by omega) dL_act_56 (by decide) (fun c_5 => ?_) (fun c_5 => ?_)
          · skip
            refine lv_iload_n (pc := 68) S.1 S.2.1 dL_act_68 rfl (lv_at hl 1 rfl) ?_
            refine lv_iconst (pc := 69) (v := nI 5) S.1 S.2.1 dL_act_69 (by decide) ?_
            refine hv_icmp_ne (pc := 70) (tgt := 82) (a := 7) (b := 5) S.1 S.2.1 (by omega) (by omega) dL_act_70 (by decide) (fun c_6 => ?_) (fun c_6 => ?_)
            · skip
              refine lv_iload_n (pc := 82) S.1 S.2.1 dL_act_82 rfl (lv_at hl 1 rfl) ?_
              refine lv_bipush (pc := 83) (v := nI 6) S.1 S.2.1 dL_act_83 (by decide) ?_
              refine hv_icmp_ne (pc := 85) (tgt := 97) (a := 7) (b := 6) S.1 S.2.1 (by omega) (by omega) dL_act_85 (by decide) (fun c_7 => ?_) (fun c_7 => ?_)
              · skip
                refine lv_iload_n (pc := 97) S.1 S.2.1 dL_act_97 rfl (lv_at hl 1 rfl) ?_
                refine lv_bipush (pc := 98) (v := nI 7) S.1 S.2.1 dL_act_98 (by decide) ?_
                refine hv_icmp_ne (pc := 100) (tgt := 119) (a := 7) (b := 7) S.1 S.2.1 (by omega) (by omega) dL_act_100 (by decide) (fun c_8 => ?_) (fun c_8 => ?_)
                · skip
                  exact absurd c_8 (by omega)
                · skip
                  refine lv_aload_n (pc := 103) S.1 S.2.1 dL_act_103 rfl (lv_at hl 0 rfl) ?_
                  refine lv_iload_n (pc := 104) S.1 S.2.1 dL_act_104 rfl (lv_at hl 2 rfl) ?_
                  refine hv_call (pc := 105) (va_runV (As := [.int (nI x)]) (rest := []) S (ys_trim l hfl D cA ga φ H.size az tn tk tm tg sc ar w ez o oi x hY hI hT hx ht h200) (cwV 1 S.2.2.2.2 (gV tw_775 tw_776 tw_777 tw_1 tw_778) rfl rfl rfl (by decide +kernel) ⟨Nat.le_of_ble_eq_true rfl, Nat.le_of_ble_eq_true rfl⟩) (pre0_V hH hK hX hS hA (ycv hH hK hY)) rfl rfl hl.1 rfl (lv_room (Nat.le_of_ble_eq_true rfl)) dL_act_105 ⟨Nat.le_of_ble_eq_true rfl, Nat.le_of_ble_eq_true rfl⟩) hS (af_le hH hS hA) (fun v_9 φ_10 H locs hw_v_9 hH hS => ?_)
                  obtain ⟨rfl, hq9⟩ := hw_v_9
                  have hle9 : trR (fiF 4 tg tk 3 0) (sc 6) ≤ 1 := trR_le _ _
                  refine hv_if_eq (pc := 108) (tgt := 115) (a := trR (fiF 4 tg tk 3 0) (sc 6)) S.1 S.2.1 (by omega) dL_act_108 (by decide) (fun c_11 => ?_) (fun c_11 => ?_)
                  · skip
                    refine lv_iconst (pc := 115) (v := nI 0) S.1 S.2.1 dL_act_115 (by decide) ?_
                    refine lv_goto (pc := 116) (tgt := 302) S.1 S.2.1 dL_act_116 (by decide) ?_
                    refine hv_ti (y := nI (trR (fiF 4 tg tk 3 0) (sc 6))) (by rw [c_11]) ?_
                    exact hv_ret (pc := 302) (v := nI (trR (fiF 4 tg tk 3 0) (sc 6))) S hr rfl hlocks hH hS (⟨rfl, hq9⟩) (Nat.le_of_ble_eq_true rfl) (Nat.le_of_ble_eq_true rfl) dL_act_302
                  · skip
                    refine lv_iconst (pc := 111) (v := nI 1) S.1 S.2.1 dL_act_111 (by decide) ?_
                    refine lv_goto (pc := 112) (tgt := 302) S.1 S.2.1 dL_act_112 (by decide) ?_
                    refine hv_ti (y := nI (trR (fiF 4 tg tk 3 0) (sc 6))) (by rw [show trR (fiF 4 tg tk 3 0) (sc 6) = 1 by omega]) ?_
                    exact hv_ret (pc := 302) (v := nI (trR (fiF 4 tg tk 3 0) (sc 6))) S hr rfl hlocks hH hS (⟨rfl, hq9⟩) (Nat.le_of_ble_eq_true rfl) (Nat.le_of_ble_eq_true rfl) dL_act_302
              · skip
                exact absurd c_7 (by omega)
            · skip
              exact absurd c_6 (by omega)
          · skip
            exact absurd c_5 (by omega)
        · skip
          exact absurd c_4 (by omega)
      · skip
        exact absurd c_3 (by omega)
    · skip
      exact absurd c_2 (by omega)
  · skip
    exact absurd c_1 (by omega)

set_option maxHeartbeats 4000000 in
set_option maxRecDepth 100000 in
/-- act, pass: it answers -/
theorem as_pass (l : Launch) (hfl : l.stackTraces = false) (D : va_G) (cA : Nat → ClassId) (ga : Nat → Nat → Nat) (φ : hpM) (sz : Nat) (az : Nat → Nat) (tn tk tm : Nat) (tg sc : Nat → Nat) (ar : Nat → Nat → Nat) (w : Nat → Nat → Nat → Nat) (ez o oi : Nat → Nat → Nat) (x : Nat) (hY : YW cA ga az tk tm tg sc ar w ez o φ) (hI : LI tn sc ar w ez oi) (hT : TY tk tg) (h200 : tn ≤ 200) (h1 : 1 ≤ x) (h2 : x ≤ 30) : hW l yL_act cL_act 6 (some .int) [(0, 302, 303, 78), (0, 302, 308, 81), (0, 302, 313, 84)] { frames := 10, cells := 1, slots := 6, locals := 320 } [.ref (az 0), .int (nI 8), .int (nI x), .int (nI 0), .int (nI 0)] D cA ga φ sz (fun v φ' => v = some (.int (nI ((sc 6 + x) / 10))) ∧ YW cA ga az tk tm tg (va_up sc 6 (sc 6 + x)) (va_up ar 12 (pfx zr (ar 12) 6)) w ez o φ') 1 6 := by
  refine hW.of (by decide) (Nat.le_of_ble_eq_true rfl) rfl ?_
  intro p e s m args below meth c ls H locs S hr hlocks ht9 hsz hHz hH hK hX hS hA hl
  refine lv_iload_n (pc := 0) S.1 S.2.1 dL_act_0 rfl (lv_at hl 1 rfl) ?_
  refine hv_if_ne (pc := 1) (tgt := 13) (a := 8) S.1 S.2.1 (by omega) dL_act_1 (by decide) (fun c_1 => ?_) (fun c_1 => ?_)
  · skip
    refine lv_iload_n (pc := 13) S.1 S.2.1 dL_act_13 rfl (lv_at hl 1 rfl) ?_
    refine lv_iconst (pc := 14) (v := nI 1) S.1 S.2.1 dL_act_14 (by decide) ?_
    refine hv_icmp_ne (pc := 15) (tgt := 26) (a := 8) (b := 1) S.1 S.2.1 (by omega) (by omega) dL_act_15 (by decide) (fun c_2 => ?_) (fun c_2 => ?_)
    · skip
      refine lv_iload_n (pc := 26) S.1 S.2.1 dL_act_26 rfl (lv_at hl 1 rfl) ?_
      refine lv_iconst (pc := 27) (v := nI 2) S.1 S.2.1 dL_act_27 (by decide) ?_
      refine hv_icmp_ne (pc := 28) (tgt := 42) (a := 8) (b := 2) S.1 S.2.1 (by omega) (by omega) dL_act_28 (by decide) (fun c_3 => ?_) (fun c_3 => ?_)
      · skip
        refine lv_iload_n (pc := 42) S.1 S.2.1 dL_act_42 rfl (lv_at hl 1 rfl) ?_
        refine lv_iconst (pc := 43) (v := nI 3) S.1 S.2.1 dL_act_43 (by decide) ?_
        refine hv_icmp_ne (pc := 44) (tgt := 54) (a := 8) (b := 3) S.1 S.2.1 (by omega) (by omega) dL_act_44 (by decide) (fun c_4 => ?_) (fun c_4 => ?_)
        · skip
          refine lv_iload_n (pc := 54) S.1 S.2.1 dL_act_54 rfl (lv_at hl 1 rfl) ?_
          refine lv_iconst (pc := 55) (v := nI 4) S.1 S.2.1 dL_act_55 (by decide) ?_
          refine hv_icmp_ne (pc := 56) (tgt := 68) (a := 8) (b := 4) S.1 S.2.1 (by omega) (by omega) dL_act_56 (by decide) (fun c_5 => ?_) (fun c_5 => ?_)
          · skip
            refine lv_iload_n (pc := 68) S.1 S.2.1 dL_act_68 rfl (lv_at hl 1 rfl) ?_
            refine lv_iconst (pc := 69) (v := nI 5) S.1 S.2.1 dL_act_69 (by decide) ?_
            refine hv_icmp_ne (pc := 70) (tgt := 82) (a := 8) (b := 5) S.1 S.2.1 (by omega) (by omega) dL_act_70 (by decide) (fun c_6 => ?_) (fun c_6 => ?_)
            · skip
              refine lv_iload_n (pc := 82) S.1 S.2.1 dL_act_82 rfl (lv_at hl 1 rfl) ?_
              refine lv_bipush (pc := 83) (v := nI 6) S.1 S.2.1 dL_act_83 (by decide) ?_
              refine hv_icmp_ne (pc := 85) (tgt := 97) (a := 8) (b := 6) S.1 S.2.1 (by omega) (by omega) dL_act_85 (by decide) (fun c_7 => ?_) (fun c_7 => ?_)
              · skip
                refine lv_iload_n (pc := 97) S.1 S.2.1 dL_act_97 rfl (lv_at hl 1 rfl) ?_
                refine lv_bipush (pc := 98) (v := nI 7) S.1 S.2.1 dL_act_98 (by decide) ?_
                refine hv_icmp_ne (pc := 100) (tgt := 119) (a := 8) (b := 7) S.1 S.2.1 (by omega) (by omega) dL_act_100 (by decide) (fun c_8 => ?_) (fun c_8 => ?_)
                · skip
                  refine lv_iload_n (pc := 119) S.1 S.2.1 dL_act_119 rfl (lv_at hl 1 rfl) ?_
                  refine lv_bipush (pc := 120) (v := nI 8) S.1 S.2.1 dL_act_120 (by decide) ?_
                  refine hv_icmp_ne (pc := 122) (tgt := 133) (a := 8) (b := 8) S.1 S.2.1 (by omega) (by omega) dL_act_122 (by decide) (fun c_9 => ?_) (fun c_9 => ?_)
                  · skip
                    exact absurd c_9 (by omega)
                  · skip
                    refine lv_aload_n (pc := 125) S.1 S.2.1 dL_act_125 rfl (lv_at hl 0 rfl) ?_
                    refine lv_iload_n (pc := 126) S.1 S.2.1 dL_act_126 rfl (lv_at hl 2 rfl) ?_
                    refine hv_call (pc := 127) (va_runV (As := [.int (nI x)]) (rest := []) S (ys_pass l hfl D cA ga φ H.size az tn tk tm tg sc ar w ez o oi x hY hI hT h1 h2 h200) (cwV 1 S.2.2.2.2 (gV tw_795 tw_796 tw_797 tw_1 tw_798) rfl rfl rfl (by decide +kernel) ⟨Nat.le_of_ble_eq_true rfl, Nat.le_of_ble_eq_true rfl⟩) (pre0_V hH hK hX hS hA (ycv hH hK hY)) rfl rfl hl.1 rfl (lv_room (Nat.le_of_ble_eq_true rfl)) dL_act_127 ⟨Nat.le_of_ble_eq_true rfl, Nat.le_of_ble_eq_true rfl⟩) hS (af_le hH hS hA) (fun v_10 φ_11 H locs hw_v_10 hH hS => ?_)
                    obtain ⟨rfl, hq9⟩ := hw_v_10
                    refine lv_goto (pc := 130) (tgt := 302) S.1 S.2.1 dL_act_130 (by decide) ?_
                    exact hv_ret (pc := 302) (v := nI ((sc 6 + x) / 10)) S hr rfl hlocks hH hS (⟨rfl, hq9⟩) (Nat.le_of_ble_eq_true rfl) (Nat.le_of_ble_eq_true rfl) dL_act_302
                · skip
                  exact absurd c_8 (by omega)
              · skip
                exact absurd c_7 (by omega)
            · skip
              exact absurd c_6 (by omega)
          · skip
            exact absurd c_5 (by omega)
        · skip
          exact absurd c_4 (by omega)
      · skip
        exact absurd c_3 (by omega)
    · skip
      exact absurd c_2 (by omega)
  · skip
    exact absurd c_1 (by omega)

set_option maxHeartbeats 4000000 in
set_option maxRecDepth 100000 in
/-- act, count: it answers -/
theorem as_count (l : Launch) (hfl : l.stackTraces = false) (D : va_G) (cA : Nat → ClassId) (ga : Nat → Nat → Nat) (φ : hpM) (sz : Nat) (az : Nat → Nat) (tn tk tm : Nat) (tg sc : Nat → Nat) (ar : Nat → Nat → Nat) (w : Nat → Nat → Nat → Nat) (ez o oi : Nat → Nat → Nat) (x : Nat) (hY : YW cA ga az tk tm tg sc ar w ez o φ) (hI : LI tn sc ar w ez oi) (hT : TY tk tg) (h200 : tn ≤ 200) (h1 : 1 ≤ x) (h2 : x ≤ 100) : hW l yL_act cL_act 6 (some .int) [(0, 302, 303, 78), (0, 302, 308, 81), (0, 302, 313, 84)] { frames := 15, cells := 1, slots := 6, locals := 620 } [.ref (az 0), .int (nI 12), .int (nI x), .int (nI 0), .int (nI 0)] D cA ga φ sz (fun v φ' => v = some (.int (ctR (fiF 7 tg tk 4 0) x)) ∧ YW cA ga az 0 (if tk = 0 then tm else 1) tg sc ar w ez o φ') 1 6 := by
  refine hW.of (by decide) (Nat.le_of_ble_eq_true rfl) rfl ?_
  intro p e s m args below meth c ls H locs S hr hlocks ht9 hsz hHz hH hK hX hS hA hl
  refine lv_iload_n (pc := 0) S.1 S.2.1 dL_act_0 rfl (lv_at hl 1 rfl) ?_
  refine hv_if_ne (pc := 1) (tgt := 13) (a := 12) S.1 S.2.1 (by omega) dL_act_1 (by decide) (fun c_1 => ?_) (fun c_1 => ?_)
  · skip
    refine lv_iload_n (pc := 13) S.1 S.2.1 dL_act_13 rfl (lv_at hl 1 rfl) ?_
    refine lv_iconst (pc := 14) (v := nI 1) S.1 S.2.1 dL_act_14 (by decide) ?_
    refine hv_icmp_ne (pc := 15) (tgt := 26) (a := 12) (b := 1) S.1 S.2.1 (by omega) (by omega) dL_act_15 (by decide) (fun c_2 => ?_) (fun c_2 => ?_)
    · skip
      refine lv_iload_n (pc := 26) S.1 S.2.1 dL_act_26 rfl (lv_at hl 1 rfl) ?_
      refine lv_iconst (pc := 27) (v := nI 2) S.1 S.2.1 dL_act_27 (by decide) ?_
      refine hv_icmp_ne (pc := 28) (tgt := 42) (a := 12) (b := 2) S.1 S.2.1 (by omega) (by omega) dL_act_28 (by decide) (fun c_3 => ?_) (fun c_3 => ?_)
      · skip
        refine lv_iload_n (pc := 42) S.1 S.2.1 dL_act_42 rfl (lv_at hl 1 rfl) ?_
        refine lv_iconst (pc := 43) (v := nI 3) S.1 S.2.1 dL_act_43 (by decide) ?_
        refine hv_icmp_ne (pc := 44) (tgt := 54) (a := 12) (b := 3) S.1 S.2.1 (by omega) (by omega) dL_act_44 (by decide) (fun c_4 => ?_) (fun c_4 => ?_)
        · skip
          refine lv_iload_n (pc := 54) S.1 S.2.1 dL_act_54 rfl (lv_at hl 1 rfl) ?_
          refine lv_iconst (pc := 55) (v := nI 4) S.1 S.2.1 dL_act_55 (by decide) ?_
          refine hv_icmp_ne (pc := 56) (tgt := 68) (a := 12) (b := 4) S.1 S.2.1 (by omega) (by omega) dL_act_56 (by decide) (fun c_5 => ?_) (fun c_5 => ?_)
          · skip
            refine lv_iload_n (pc := 68) S.1 S.2.1 dL_act_68 rfl (lv_at hl 1 rfl) ?_
            refine lv_iconst (pc := 69) (v := nI 5) S.1 S.2.1 dL_act_69 (by decide) ?_
            refine hv_icmp_ne (pc := 70) (tgt := 82) (a := 12) (b := 5) S.1 S.2.1 (by omega) (by omega) dL_act_70 (by decide) (fun c_6 => ?_) (fun c_6 => ?_)
            · skip
              refine lv_iload_n (pc := 82) S.1 S.2.1 dL_act_82 rfl (lv_at hl 1 rfl) ?_
              refine lv_bipush (pc := 83) (v := nI 6) S.1 S.2.1 dL_act_83 (by decide) ?_
              refine hv_icmp_ne (pc := 85) (tgt := 97) (a := 12) (b := 6) S.1 S.2.1 (by omega) (by omega) dL_act_85 (by decide) (fun c_7 => ?_) (fun c_7 => ?_)
              · skip
                refine lv_iload_n (pc := 97) S.1 S.2.1 dL_act_97 rfl (lv_at hl 1 rfl) ?_
                refine lv_bipush (pc := 98) (v := nI 7) S.1 S.2.1 dL_act_98 (by decide) ?_
                refine hv_icmp_ne (pc := 100) (tgt := 119) (a := 12) (b := 7) S.1 S.2.1 (by omega) (by omega) dL_act_100 (by decide) (fun c_8 => ?_) (fun c_8 => ?_)
                · skip
                  refine lv_iload_n (pc := 119) S.1 S.2.1 dL_act_119 rfl (lv_at hl 1 rfl) ?_
                  refine lv_bipush (pc := 120) (v := nI 8) S.1 S.2.1 dL_act_120 (by decide) ?_
                  refine hv_icmp_ne (pc := 122) (tgt := 133) (a := 12) (b := 8) S.1 S.2.1 (by omega) (by omega) dL_act_122 (by decide) (fun c_9 => ?_) (fun c_9 => ?_)
                  · skip
                    refine lv_iload_n (pc := 133) S.1 S.2.1 dL_act_133 rfl (lv_at hl 1 rfl) ?_
                    refine lv_bipush (pc := 134) (v := nI 9) S.1 S.2.1 dL_act_134 (by decide) ?_
                    refine hv_icmp_ne (pc := 136) (tgt := 150) (a := 12) (b := 9) S.1 S.2.1 (by omega) (by omega) dL_act_136 (by decide) (fun c_10 => ?_) (fun c_10 => ?_)
                    · skip
                      refine lv_iload_n (pc := 150) S.1 S.2.1 dL_act_150 rfl (lv_at hl 1 rfl) ?_
                      refine lv_bipush (pc := 151) (v := nI 10) S.1 S.2.1 dL_act_151 (by decide) ?_
                      refine hv_icmp_ne (pc := 153) (tgt := 165) (a := 12) (b := 10) S.1 S.2.1 (by omega) (by omega) dL_act_153 (by decide) (fun c_11 => ?_) (fun c_11 => ?_)
                      · skip
                        refine lv_iload_n (pc := 165) S.1 S.2.1 dL_act_165 rfl (lv_at hl 1 rfl) ?_
                        refine lv_bipush (pc := 166) (v := nI 11) S.1 S.2.1 dL_act_166 (by decide) ?_
                        refine hv_icmp_ne (pc := 168) (tgt := 180) (a := 12) (b := 11) S.1 S.2.1 (by omega) (by omega) dL_act_168 (by decide) (fun c_12 => ?_) (fun c_12 => ?_)
                        · skip
                          refine lv_iload_n (pc := 180) S.1 S.2.1 dL_act_180 rfl (lv_at hl 1 rfl) ?_
                          refine lv_bipush (pc := 181) (v := nI 12) S.1 S.2.1 dL_act_181 (by decide) ?_
                          refine hv_icmp_ne (pc := 183) (tgt := 194) (a := 12) (b := 12) S.1 S.2.1 (by omega) (by omega) dL_act_183 (by decide) (fun c_13 => ?_) (fun c_13 => ?_)
                          · skip
                            exact absurd c_13 (by omega)
                          · skip
                            refine lv_aload_n (pc := 186) S.1 S.2.1 dL_act_186 rfl (lv_at hl 0 rfl) ?_
                            refine lv_iload_n (pc := 187) S.1 S.2.1 dL_act_187 rfl (lv_at hl 2 rfl) ?_
                            refine hv_call (pc := 188) (va_runV (As := [.int (nI x)]) (rest := []) S (ys_count l hfl D cA ga φ H.size az tn tk tm tg sc ar w ez o oi x hY hI hT h1 h2) (cwV 1 S.2.2.2.2 (gV tw_816 tw_817 tw_818 tw_1 tw_819) rfl rfl rfl (by decide +kernel) ⟨Nat.le_of_ble_eq_true rfl, Nat.le_of_ble_eq_true rfl⟩) (pre0_V hH hK hX hS hA (ycv hH hK hY)) rfl rfl hl.1 rfl (lv_room (Nat.le_of_ble_eq_true rfl)) dL_act_188 ⟨Nat.le_of_ble_eq_true rfl, Nat.le_of_ble_eq_true rfl⟩) hS (af_le hH hS hA) (fun v_14 φ_15 H locs hw_v_14 hH hS => ?_)
                            obtain ⟨rfl, hq9⟩ := hw_v_14
                            refine lv_goto (pc := 191) (tgt := 302) S.1 S.2.1 dL_act_191 (by decide) ?_
                            exact hv_ret (pc := 302) (v := ctR (fiF 7 tg tk 4 0) x) S hr rfl hlocks hH hS (⟨rfl, hq9⟩) (Nat.le_of_ble_eq_true rfl) (Nat.le_of_ble_eq_true rfl) dL_act_302
                        · skip
                          exact absurd c_12 (by omega)
                      · skip
                        exact absurd c_11 (by omega)
                    · skip
                      exact absurd c_10 (by omega)
                  · skip
                    exact absurd c_9 (by omega)
                · skip
                  exact absurd c_8 (by omega)
              · skip
                exact absurd c_7 (by omega)
            · skip
              exact absurd c_6 (by omega)
          · skip
            exact absurd c_5 (by omega)
        · skip
          exact absurd c_4 (by omega)
      · skip
        exact absurd c_3 (by omega)
    · skip
      exact absurd c_2 (by omega)
  · skip
    exact absurd c_1 (by omega)

set_option maxHeartbeats 4000000 in
set_option maxRecDepth 100000 in
/-- act, countAnew: it answers -/
theorem as_countAnew (l : Launch) (hfl : l.stackTraces = false) (D : va_G) (cA : Nat → ClassId) (ga : Nat → Nat → Nat) (φ : hpM) (sz : Nat) (az : Nat → Nat) (tn tk tm : Nat) (tg sc : Nat → Nat) (ar : Nat → Nat → Nat) (w : Nat → Nat → Nat → Nat) (ez o oi : Nat → Nat → Nat) (x : Nat) (hY : YW cA ga az tk tm tg sc ar w ez o φ) (hI : LI tn sc ar w ez oi) (hT : TY tk tg) (h200 : tn ≤ 200) (h1 : 1 ≤ x) (h2 : x ≤ 100) : hW l yL_act cL_act 6 (some .int) [(0, 302, 303, 78), (0, 302, 308, 81), (0, 302, 313, 84)] { frames := 15, cells := 1, slots := 6, locals := 620 } [.ref (az 0), .int (nI 13), .int (nI x), .int (nI 0), .int (nI 0)] D cA ga φ sz (fun v φ' => v = some (.int (ctR (fiF 7 tg tk 4 0) x)) ∧ YW cA ga az 0 (if tk = 0 then tm else 1) tg sc ar w ez o φ') 1 6 := by
  refine hW.of (by decide) (Nat.le_of_ble_eq_true rfl) rfl ?_
  intro p e s m args below meth c ls H locs S hr hlocks ht9 hsz hHz hH hK hX hS hA hl
  refine lv_iload_n (pc := 0) S.1 S.2.1 dL_act_0 rfl (lv_at hl 1 rfl) ?_
  refine hv_if_ne (pc := 1) (tgt := 13) (a := 13) S.1 S.2.1 (by omega) dL_act_1 (by decide) (fun c_1 => ?_) (fun c_1 => ?_)
  · skip
    refine lv_iload_n (pc := 13) S.1 S.2.1 dL_act_13 rfl (lv_at hl 1 rfl) ?_
    refine lv_iconst (pc := 14) (v := nI 1) S.1 S.2.1 dL_act_14 (by decide) ?_
    refine hv_icmp_ne (pc := 15) (tgt := 26) (a := 13) (b := 1) S.1 S.2.1 (by omega) (by omega) dL_act_15 (by decide) (fun c_2 => ?_) (fun c_2 => ?_)
    · skip
      refine lv_iload_n (pc := 26) S.1 S.2.1 dL_act_26 rfl (lv_at hl 1 rfl) ?_
      refine lv_iconst (pc := 27) (v := nI 2) S.1 S.2.1 dL_act_27 (by decide) ?_
      refine hv_icmp_ne (pc := 28) (tgt := 42) (a := 13) (b := 2) S.1 S.2.1 (by omega) (by omega) dL_act_28 (by decide) (fun c_3 => ?_) (fun c_3 => ?_)
      · skip
        refine lv_iload_n (pc := 42) S.1 S.2.1 dL_act_42 rfl (lv_at hl 1 rfl) ?_
        refine lv_iconst (pc := 43) (v := nI 3) S.1 S.2.1 dL_act_43 (by decide) ?_
        refine hv_icmp_ne (pc := 44) (tgt := 54) (a := 13) (b := 3) S.1 S.2.1 (by omega) (by omega) dL_act_44 (by decide) (fun c_4 => ?_) (fun c_4 => ?_)
        · skip
          refine lv_iload_n (pc := 54) S.1 S.2.1 dL_act_54 rfl (lv_at hl 1 rfl) ?_
          refine lv_iconst (pc := 55) (v := nI 4) S.1 S.2.1 dL_act_55 (by decide) ?_
          refine hv_icmp_ne (pc := 56) (tgt := 68) (a := 13) (b := 4) S.1 S.2.1 (by omega) (by omega) dL_act_56 (by decide) (fun c_5 => ?_) (fun c_5 => ?_)
          · skip
            refine lv_iload_n (pc := 68) S.1 S.2.1 dL_act_68 rfl (lv_at hl 1 rfl) ?_
            refine lv_iconst (pc := 69) (v := nI 5) S.1 S.2.1 dL_act_69 (by decide) ?_
            refine hv_icmp_ne (pc := 70) (tgt := 82) (a := 13) (b := 5) S.1 S.2.1 (by omega) (by omega) dL_act_70 (by decide) (fun c_6 => ?_) (fun c_6 => ?_)
            · skip
              refine lv_iload_n (pc := 82) S.1 S.2.1 dL_act_82 rfl (lv_at hl 1 rfl) ?_
              refine lv_bipush (pc := 83) (v := nI 6) S.1 S.2.1 dL_act_83 (by decide) ?_
              refine hv_icmp_ne (pc := 85) (tgt := 97) (a := 13) (b := 6) S.1 S.2.1 (by omega) (by omega) dL_act_85 (by decide) (fun c_7 => ?_) (fun c_7 => ?_)
              · skip
                refine lv_iload_n (pc := 97) S.1 S.2.1 dL_act_97 rfl (lv_at hl 1 rfl) ?_
                refine lv_bipush (pc := 98) (v := nI 7) S.1 S.2.1 dL_act_98 (by decide) ?_
                refine hv_icmp_ne (pc := 100) (tgt := 119) (a := 13) (b := 7) S.1 S.2.1 (by omega) (by omega) dL_act_100 (by decide) (fun c_8 => ?_) (fun c_8 => ?_)
                · skip
                  refine lv_iload_n (pc := 119) S.1 S.2.1 dL_act_119 rfl (lv_at hl 1 rfl) ?_
                  refine lv_bipush (pc := 120) (v := nI 8) S.1 S.2.1 dL_act_120 (by decide) ?_
                  refine hv_icmp_ne (pc := 122) (tgt := 133) (a := 13) (b := 8) S.1 S.2.1 (by omega) (by omega) dL_act_122 (by decide) (fun c_9 => ?_) (fun c_9 => ?_)
                  · skip
                    refine lv_iload_n (pc := 133) S.1 S.2.1 dL_act_133 rfl (lv_at hl 1 rfl) ?_
                    refine lv_bipush (pc := 134) (v := nI 9) S.1 S.2.1 dL_act_134 (by decide) ?_
                    refine hv_icmp_ne (pc := 136) (tgt := 150) (a := 13) (b := 9) S.1 S.2.1 (by omega) (by omega) dL_act_136 (by decide) (fun c_10 => ?_) (fun c_10 => ?_)
                    · skip
                      refine lv_iload_n (pc := 150) S.1 S.2.1 dL_act_150 rfl (lv_at hl 1 rfl) ?_
                      refine lv_bipush (pc := 151) (v := nI 10) S.1 S.2.1 dL_act_151 (by decide) ?_
                      refine hv_icmp_ne (pc := 153) (tgt := 165) (a := 13) (b := 10) S.1 S.2.1 (by omega) (by omega) dL_act_153 (by decide) (fun c_11 => ?_) (fun c_11 => ?_)
                      · skip
                        refine lv_iload_n (pc := 165) S.1 S.2.1 dL_act_165 rfl (lv_at hl 1 rfl) ?_
                        refine lv_bipush (pc := 166) (v := nI 11) S.1 S.2.1 dL_act_166 (by decide) ?_
                        refine hv_icmp_ne (pc := 168) (tgt := 180) (a := 13) (b := 11) S.1 S.2.1 (by omega) (by omega) dL_act_168 (by decide) (fun c_12 => ?_) (fun c_12 => ?_)
                        · skip
                          refine lv_iload_n (pc := 180) S.1 S.2.1 dL_act_180 rfl (lv_at hl 1 rfl) ?_
                          refine lv_bipush (pc := 181) (v := nI 12) S.1 S.2.1 dL_act_181 (by decide) ?_
                          refine hv_icmp_ne (pc := 183) (tgt := 194) (a := 13) (b := 12) S.1 S.2.1 (by omega) (by omega) dL_act_183 (by decide) (fun c_13 => ?_) (fun c_13 => ?_)
                          · skip
                            refine lv_iload_n (pc := 194) S.1 S.2.1 dL_act_194 rfl (lv_at hl 1 rfl) ?_
                            refine lv_bipush (pc := 195) (v := nI 13) S.1 S.2.1 dL_act_195 (by decide) ?_
                            refine hv_icmp_ne (pc := 197) (tgt := 208) (a := 13) (b := 13) S.1 S.2.1 (by omega) (by omega) dL_act_197 (by decide) (fun c_14 => ?_) (fun c_14 => ?_)
                            · skip
                              exact absurd c_14 (by omega)
                            · skip
                              refine lv_aload_n (pc := 200) S.1 S.2.1 dL_act_200 rfl (lv_at hl 0 rfl) ?_
                              refine lv_iload_n (pc := 201) S.1 S.2.1 dL_act_201 rfl (lv_at hl 2 rfl) ?_
                              refine hv_call (pc := 202) (va_runV (As := [.int (nI x)]) (rest := []) S (ys_countAnew l hfl D cA ga φ H.size az tn tk tm tg sc ar w ez o oi x hY hI hT h1 h2) (cwV 1 S.2.2.2.2 (gV tw_836 tw_837 tw_838 tw_1 tw_839) rfl rfl rfl (by decide +kernel) ⟨Nat.le_of_ble_eq_true rfl, Nat.le_of_ble_eq_true rfl⟩) (pre0_V hH hK hX hS hA (ycv hH hK hY)) rfl rfl hl.1 rfl (lv_room (Nat.le_of_ble_eq_true rfl)) dL_act_202 ⟨Nat.le_of_ble_eq_true rfl, Nat.le_of_ble_eq_true rfl⟩) hS (af_le hH hS hA) (fun v_15 φ_16 H locs hw_v_15 hH hS => ?_)
                              obtain ⟨rfl, hq9⟩ := hw_v_15
                              refine lv_goto (pc := 205) (tgt := 302) S.1 S.2.1 dL_act_205 (by decide) ?_
                              exact hv_ret (pc := 302) (v := ctR (fiF 7 tg tk 4 0) x) S hr rfl hlocks hH hS (⟨rfl, hq9⟩) (Nat.le_of_ble_eq_true rfl) (Nat.le_of_ble_eq_true rfl) dL_act_302
                          · skip
                            exact absurd c_13 (by omega)
                        · skip
                          exact absurd c_12 (by omega)
                      · skip
                        exact absurd c_11 (by omega)
                    · skip
                      exact absurd c_10 (by omega)
                  · skip
                    exact absurd c_9 (by omega)
                · skip
                  exact absurd c_8 (by omega)
              · skip
                exact absurd c_7 (by omega)
            · skip
              exact absurd c_6 (by omega)
          · skip
            exact absurd c_5 (by omega)
        · skip
          exact absurd c_4 (by omega)
      · skip
        exact absurd c_3 (by omega)
    · skip
      exact absurd c_2 (by omega)
  · skip
    exact absurd c_1 (by omega)

set_option maxHeartbeats 4000000 in
set_option maxRecDepth 100000 in
/-- act, rows: it answers -/
theorem as_rows (l : Launch) (hfl : l.stackTraces = false) (D : va_G) (cA : Nat → ClassId) (ga : Nat → Nat → Nat) (φ : hpM) (sz : Nat) (az : Nat → Nat) (tn tk tm : Nat) (tg sc : Nat → Nat) (ar : Nat → Nat → Nat) (w : Nat → Nat → Nat → Nat) (ez o oi : Nat → Nat → Nat) (x : Nat) (hY : YW cA ga az tk tm tg sc ar w ez o φ) (hI : LI tn sc ar w ez oi) (hT : TY tk tg) (h200 : tn ≤ 200) (h1 : 1 ≤ x) (h2 : x ≤ 2000) : hW l yL_act cL_act 6 (some .int) [(0, 302, 303, 78), (0, 302, 308, 81), (0, 302, 313, 84)] { frames := 15, cells := 1, slots := 6, locals := 620 } [.ref (az 0), .int (nI 14), .int (nI x), .int (nI 0), .int (nI 0)] D cA ga φ sz (fun v φ' => v = some (.int (rwR (fiF 7 tg tk 4 0) x)) ∧ YW cA ga az 0 (if tk = 0 then tm else 1) tg sc ar w ez o φ') 1 6 := by
  refine hW.of (by decide) (Nat.le_of_ble_eq_true rfl) rfl ?_
  intro p e s m args below meth c ls H locs S hr hlocks ht9 hsz hHz hH hK hX hS hA hl
  refine lv_iload_n (pc := 0) S.1 S.2.1 dL_act_0 rfl (lv_at hl 1 rfl) ?_
  refine hv_if_ne (pc := 1) (tgt := 13) (a := 14) S.1 S.2.1 (by omega) dL_act_1 (by decide) (fun c_1 => ?_) (fun c_1 => ?_)
  · skip
    refine lv_iload_n (pc := 13) S.1 S.2.1 dL_act_13 rfl (lv_at hl 1 rfl) ?_
    refine lv_iconst (pc := 14) (v := nI 1) S.1 S.2.1 dL_act_14 (by decide) ?_
    refine hv_icmp_ne (pc := 15) (tgt := 26) (a := 14) (b := 1) S.1 S.2.1 (by omega) (by omega) dL_act_15 (by decide) (fun c_2 => ?_) (fun c_2 => ?_)
    · skip
      refine lv_iload_n (pc := 26) S.1 S.2.1 dL_act_26 rfl (lv_at hl 1 rfl) ?_
      refine lv_iconst (pc := 27) (v := nI 2) S.1 S.2.1 dL_act_27 (by decide) ?_
      refine hv_icmp_ne (pc := 28) (tgt := 42) (a := 14) (b := 2) S.1 S.2.1 (by omega) (by omega) dL_act_28 (by decide) (fun c_3 => ?_) (fun c_3 => ?_)
      · skip
        refine lv_iload_n (pc := 42) S.1 S.2.1 dL_act_42 rfl (lv_at hl 1 rfl) ?_
        refine lv_iconst (pc := 43) (v := nI 3) S.1 S.2.1 dL_act_43 (by decide) ?_
        refine hv_icmp_ne (pc := 44) (tgt := 54) (a := 14) (b := 3) S.1 S.2.1 (by omega) (by omega) dL_act_44 (by decide) (fun c_4 => ?_) (fun c_4 => ?_)
        · skip
          refine lv_iload_n (pc := 54) S.1 S.2.1 dL_act_54 rfl (lv_at hl 1 rfl) ?_
          refine lv_iconst (pc := 55) (v := nI 4) S.1 S.2.1 dL_act_55 (by decide) ?_
          refine hv_icmp_ne (pc := 56) (tgt := 68) (a := 14) (b := 4) S.1 S.2.1 (by omega) (by omega) dL_act_56 (by decide) (fun c_5 => ?_) (fun c_5 => ?_)
          · skip
            refine lv_iload_n (pc := 68) S.1 S.2.1 dL_act_68 rfl (lv_at hl 1 rfl) ?_
            refine lv_iconst (pc := 69) (v := nI 5) S.1 S.2.1 dL_act_69 (by decide) ?_
            refine hv_icmp_ne (pc := 70) (tgt := 82) (a := 14) (b := 5) S.1 S.2.1 (by omega) (by omega) dL_act_70 (by decide) (fun c_6 => ?_) (fun c_6 => ?_)
            · skip
              refine lv_iload_n (pc := 82) S.1 S.2.1 dL_act_82 rfl (lv_at hl 1 rfl) ?_
              refine lv_bipush (pc := 83) (v := nI 6) S.1 S.2.1 dL_act_83 (by decide) ?_
              refine hv_icmp_ne (pc := 85) (tgt := 97) (a := 14) (b := 6) S.1 S.2.1 (by omega) (by omega) dL_act_85 (by decide) (fun c_7 => ?_) (fun c_7 => ?_)
              · skip
                refine lv_iload_n (pc := 97) S.1 S.2.1 dL_act_97 rfl (lv_at hl 1 rfl) ?_
                refine lv_bipush (pc := 98) (v := nI 7) S.1 S.2.1 dL_act_98 (by decide) ?_
                refine hv_icmp_ne (pc := 100) (tgt := 119) (a := 14) (b := 7) S.1 S.2.1 (by omega) (by omega) dL_act_100 (by decide) (fun c_8 => ?_) (fun c_8 => ?_)
                · skip
                  refine lv_iload_n (pc := 119) S.1 S.2.1 dL_act_119 rfl (lv_at hl 1 rfl) ?_
                  refine lv_bipush (pc := 120) (v := nI 8) S.1 S.2.1 dL_act_120 (by decide) ?_
                  refine hv_icmp_ne (pc := 122) (tgt := 133) (a := 14) (b := 8) S.1 S.2.1 (by omega) (by omega) dL_act_122 (by decide) (fun c_9 => ?_) (fun c_9 => ?_)
                  · skip
                    refine lv_iload_n (pc := 133) S.1 S.2.1 dL_act_133 rfl (lv_at hl 1 rfl) ?_
                    refine lv_bipush (pc := 134) (v := nI 9) S.1 S.2.1 dL_act_134 (by decide) ?_
                    refine hv_icmp_ne (pc := 136) (tgt := 150) (a := 14) (b := 9) S.1 S.2.1 (by omega) (by omega) dL_act_136 (by decide) (fun c_10 => ?_) (fun c_10 => ?_)
                    · skip
                      refine lv_iload_n (pc := 150) S.1 S.2.1 dL_act_150 rfl (lv_at hl 1 rfl) ?_
                      refine lv_bipush (pc := 151) (v := nI 10) S.1 S.2.1 dL_act_151 (by decide) ?_
                      refine hv_icmp_ne (pc := 153) (tgt := 165) (a := 14) (b := 10) S.1 S.2.1 (by omega) (by omega) dL_act_153 (by decide) (fun c_11 => ?_) (fun c_11 => ?_)
                      · skip
                        refine lv_iload_n (pc := 165) S.1 S.2.1 dL_act_165 rfl (lv_at hl 1 rfl) ?_
                        refine lv_bipush (pc := 166) (v := nI 11) S.1 S.2.1 dL_act_166 (by decide) ?_
                        refine hv_icmp_ne (pc := 168) (tgt := 180) (a := 14) (b := 11) S.1 S.2.1 (by omega) (by omega) dL_act_168 (by decide) (fun c_12 => ?_) (fun c_12 => ?_)
                        · skip
                          refine lv_iload_n (pc := 180) S.1 S.2.1 dL_act_180 rfl (lv_at hl 1 rfl) ?_
                          refine lv_bipush (pc := 181) (v := nI 12) S.1 S.2.1 dL_act_181 (by decide) ?_
                          refine hv_icmp_ne (pc := 183) (tgt := 194) (a := 14) (b := 12) S.1 S.2.1 (by omega) (by omega) dL_act_183 (by decide) (fun c_13 => ?_) (fun c_13 => ?_)
                          · skip
                            refine lv_iload_n (pc := 194) S.1 S.2.1 dL_act_194 rfl (lv_at hl 1 rfl) ?_
                            refine lv_bipush (pc := 195) (v := nI 13) S.1 S.2.1 dL_act_195 (by decide) ?_
                            refine hv_icmp_ne (pc := 197) (tgt := 208) (a := 14) (b := 13) S.1 S.2.1 (by omega) (by omega) dL_act_197 (by decide) (fun c_14 => ?_) (fun c_14 => ?_)
                            · skip
                              refine lv_iload_n (pc := 208) S.1 S.2.1 dL_act_208 rfl (lv_at hl 1 rfl) ?_
                              refine lv_bipush (pc := 209) (v := nI 14) S.1 S.2.1 dL_act_209 (by decide) ?_
                              refine hv_icmp_ne (pc := 211) (tgt := 222) (a := 14) (b := 14) S.1 S.2.1 (by omega) (by omega) dL_act_211 (by decide) (fun c_15 => ?_) (fun c_15 => ?_)
                              · skip
                                exact absurd c_15 (by omega)
                              · skip
                                refine lv_aload_n (pc := 214) S.1 S.2.1 dL_act_214 rfl (lv_at hl 0 rfl) ?_
                                refine lv_iload_n (pc := 215) S.1 S.2.1 dL_act_215 rfl (lv_at hl 2 rfl) ?_
                                refine hv_call (pc := 216) (va_runV (As := [.int (nI x)]) (rest := []) S (ys_rows l hfl D cA ga φ H.size az tn tk tm tg sc ar w ez o oi x hY hI hT h1 h2) (cwV 1 S.2.2.2.2 (gV tw_848 tw_849 tw_850 tw_1 tw_851) rfl rfl rfl (by decide +kernel) ⟨Nat.le_of_ble_eq_true rfl, Nat.le_of_ble_eq_true rfl⟩) (pre0_V hH hK hX hS hA (ycv hH hK hY)) rfl rfl hl.1 rfl (lv_room (Nat.le_of_ble_eq_true rfl)) dL_act_216 ⟨Nat.le_of_ble_eq_true rfl, Nat.le_of_ble_eq_true rfl⟩) hS (af_le hH hS hA) (fun v_16 φ_17 H locs hw_v_16 hH hS => ?_)
                                obtain ⟨rfl, hq9⟩ := hw_v_16
                                refine lv_goto (pc := 219) (tgt := 302) S.1 S.2.1 dL_act_219 (by decide) ?_
                                exact hv_ret (pc := 302) (v := rwR (fiF 7 tg tk 4 0) x) S hr rfl hlocks hH hS (⟨rfl, hq9⟩) (Nat.le_of_ble_eq_true rfl) (Nat.le_of_ble_eq_true rfl) dL_act_302
                            · skip
                              exact absurd c_14 (by omega)
                          · skip
                            exact absurd c_13 (by omega)
                        · skip
                          exact absurd c_12 (by omega)
                      · skip
                        exact absurd c_11 (by omega)
                    · skip
                      exact absurd c_10 (by omega)
                  · skip
                    exact absurd c_9 (by omega)
                · skip
                  exact absurd c_8 (by omega)
              · skip
                exact absurd c_7 (by omega)
            · skip
              exact absurd c_6 (by omega)
          · skip
            exact absurd c_5 (by omega)
        · skip
          exact absurd c_4 (by omega)
      · skip
        exact absurd c_3 (by omega)
    · skip
      exact absurd c_2 (by omega)
  · skip
    exact absurd c_1 (by omega)

set_option maxHeartbeats 4000000 in
set_option maxRecDepth 100000 in
/-- act, measure: it answers -/
theorem as_measure (l : Launch) (hfl : l.stackTraces = false) (D : va_G) (cA : Nat → ClassId) (ga : Nat → Nat → Nat) (φ : hpM) (sz : Nat) (az : Nat → Nat) (tn tk tm : Nat) (tg sc : Nat → Nat) (ar : Nat → Nat → Nat) (w : Nat → Nat → Nat → Nat) (ez o oi : Nat → Nat → Nat) (x z : Nat) (hY : YW cA ga az tk tm tg sc ar w ez o φ) (hI : LI tn sc ar w ez oi) (hT : TY tk tg) (h200 : tn ≤ 200) (h1 : x < 8) (h2 : z ≤ 200) : hW l yL_act cL_act 6 (some .int) [(0, 302, 303, 78), (0, 302, 308, 81), (0, 302, 313, 84)] { frames := 10, cells := 2, slots := 12, locals := 320 } [.ref (az 0), .int (nI 15), .int (nI x), .int (nI z), .int (nI 0)] D cA ga φ sz (fun v φ' => v = some (.int (nI (smN (va_up (ar 14) x z) 8 * 785 / 1000))) ∧ YW cA ga az tk tm tg sc (va_up ar 14 (va_up (ar 14) x z)) w ez o φ') 2 12 := by
  refine hW.of (by decide) (Nat.le_of_ble_eq_true rfl) rfl ?_
  intro p e s m args below meth c ls H locs S hr hlocks ht9 hsz hHz hH hK hX hS hA hl
  refine lv_iload_n (pc := 0) S.1 S.2.1 dL_act_0 rfl (lv_at hl 1 rfl) ?_
  refine hv_if_ne (pc := 1) (tgt := 13) (a := 15) S.1 S.2.1 (by omega) dL_act_1 (by decide) (fun c_1 => ?_) (fun c_1 => ?_)
  · skip
    refine lv_iload_n (pc := 13) S.1 S.2.1 dL_act_13 rfl (lv_at hl 1 rfl) ?_
    refine lv_iconst (pc := 14) (v := nI 1) S.1 S.2.1 dL_act_14 (by decide) ?_
    refine hv_icmp_ne (pc := 15) (tgt := 26) (a := 15) (b := 1) S.1 S.2.1 (by omega) (by omega) dL_act_15 (by decide) (fun c_2 => ?_) (fun c_2 => ?_)
    · skip
      refine lv_iload_n (pc := 26) S.1 S.2.1 dL_act_26 rfl (lv_at hl 1 rfl) ?_
      refine lv_iconst (pc := 27) (v := nI 2) S.1 S.2.1 dL_act_27 (by decide) ?_
      refine hv_icmp_ne (pc := 28) (tgt := 42) (a := 15) (b := 2) S.1 S.2.1 (by omega) (by omega) dL_act_28 (by decide) (fun c_3 => ?_) (fun c_3 => ?_)
      · skip
        refine lv_iload_n (pc := 42) S.1 S.2.1 dL_act_42 rfl (lv_at hl 1 rfl) ?_
        refine lv_iconst (pc := 43) (v := nI 3) S.1 S.2.1 dL_act_43 (by decide) ?_
        refine hv_icmp_ne (pc := 44) (tgt := 54) (a := 15) (b := 3) S.1 S.2.1 (by omega) (by omega) dL_act_44 (by decide) (fun c_4 => ?_) (fun c_4 => ?_)
        · skip
          refine lv_iload_n (pc := 54) S.1 S.2.1 dL_act_54 rfl (lv_at hl 1 rfl) ?_
          refine lv_iconst (pc := 55) (v := nI 4) S.1 S.2.1 dL_act_55 (by decide) ?_
          refine hv_icmp_ne (pc := 56) (tgt := 68) (a := 15) (b := 4) S.1 S.2.1 (by omega) (by omega) dL_act_56 (by decide) (fun c_5 => ?_) (fun c_5 => ?_)
          · skip
            refine lv_iload_n (pc := 68) S.1 S.2.1 dL_act_68 rfl (lv_at hl 1 rfl) ?_
            refine lv_iconst (pc := 69) (v := nI 5) S.1 S.2.1 dL_act_69 (by decide) ?_
            refine hv_icmp_ne (pc := 70) (tgt := 82) (a := 15) (b := 5) S.1 S.2.1 (by omega) (by omega) dL_act_70 (by decide) (fun c_6 => ?_) (fun c_6 => ?_)
            · skip
              refine lv_iload_n (pc := 82) S.1 S.2.1 dL_act_82 rfl (lv_at hl 1 rfl) ?_
              refine lv_bipush (pc := 83) (v := nI 6) S.1 S.2.1 dL_act_83 (by decide) ?_
              refine hv_icmp_ne (pc := 85) (tgt := 97) (a := 15) (b := 6) S.1 S.2.1 (by omega) (by omega) dL_act_85 (by decide) (fun c_7 => ?_) (fun c_7 => ?_)
              · skip
                refine lv_iload_n (pc := 97) S.1 S.2.1 dL_act_97 rfl (lv_at hl 1 rfl) ?_
                refine lv_bipush (pc := 98) (v := nI 7) S.1 S.2.1 dL_act_98 (by decide) ?_
                refine hv_icmp_ne (pc := 100) (tgt := 119) (a := 15) (b := 7) S.1 S.2.1 (by omega) (by omega) dL_act_100 (by decide) (fun c_8 => ?_) (fun c_8 => ?_)
                · skip
                  refine lv_iload_n (pc := 119) S.1 S.2.1 dL_act_119 rfl (lv_at hl 1 rfl) ?_
                  refine lv_bipush (pc := 120) (v := nI 8) S.1 S.2.1 dL_act_120 (by decide) ?_
                  refine hv_icmp_ne (pc := 122) (tgt := 133) (a := 15) (b := 8) S.1 S.2.1 (by omega) (by omega) dL_act_122 (by decide) (fun c_9 => ?_) (fun c_9 => ?_)
                  · skip
                    refine lv_iload_n (pc := 133) S.1 S.2.1 dL_act_133 rfl (lv_at hl 1 rfl) ?_
                    refine lv_bipush (pc := 134) (v := nI 9) S.1 S.2.1 dL_act_134 (by decide) ?_
                    refine hv_icmp_ne (pc := 136) (tgt := 150) (a := 15) (b := 9) S.1 S.2.1 (by omega) (by omega) dL_act_136 (by decide) (fun c_10 => ?_) (fun c_10 => ?_)
                    · skip
                      refine lv_iload_n (pc := 150) S.1 S.2.1 dL_act_150 rfl (lv_at hl 1 rfl) ?_
                      refine lv_bipush (pc := 151) (v := nI 10) S.1 S.2.1 dL_act_151 (by decide) ?_
                      refine hv_icmp_ne (pc := 153) (tgt := 165) (a := 15) (b := 10) S.1 S.2.1 (by omega) (by omega) dL_act_153 (by decide) (fun c_11 => ?_) (fun c_11 => ?_)
                      · skip
                        refine lv_iload_n (pc := 165) S.1 S.2.1 dL_act_165 rfl (lv_at hl 1 rfl) ?_
                        refine lv_bipush (pc := 166) (v := nI 11) S.1 S.2.1 dL_act_166 (by decide) ?_
                        refine hv_icmp_ne (pc := 168) (tgt := 180) (a := 15) (b := 11) S.1 S.2.1 (by omega) (by omega) dL_act_168 (by decide) (fun c_12 => ?_) (fun c_12 => ?_)
                        · skip
                          refine lv_iload_n (pc := 180) S.1 S.2.1 dL_act_180 rfl (lv_at hl 1 rfl) ?_
                          refine lv_bipush (pc := 181) (v := nI 12) S.1 S.2.1 dL_act_181 (by decide) ?_
                          refine hv_icmp_ne (pc := 183) (tgt := 194) (a := 15) (b := 12) S.1 S.2.1 (by omega) (by omega) dL_act_183 (by decide) (fun c_13 => ?_) (fun c_13 => ?_)
                          · skip
                            refine lv_iload_n (pc := 194) S.1 S.2.1 dL_act_194 rfl (lv_at hl 1 rfl) ?_
                            refine lv_bipush (pc := 195) (v := nI 13) S.1 S.2.1 dL_act_195 (by decide) ?_
                            refine hv_icmp_ne (pc := 197) (tgt := 208) (a := 15) (b := 13) S.1 S.2.1 (by omega) (by omega) dL_act_197 (by decide) (fun c_14 => ?_) (fun c_14 => ?_)
                            · skip
                              refine lv_iload_n (pc := 208) S.1 S.2.1 dL_act_208 rfl (lv_at hl 1 rfl) ?_
                              refine lv_bipush (pc := 209) (v := nI 14) S.1 S.2.1 dL_act_209 (by decide) ?_
                              refine hv_icmp_ne (pc := 211) (tgt := 222) (a := 15) (b := 14) S.1 S.2.1 (by omega) (by omega) dL_act_211 (by decide) (fun c_15 => ?_) (fun c_15 => ?_)
                              · skip
                                refine lv_iload_n (pc := 222) S.1 S.2.1 dL_act_222 rfl (lv_at hl 1 rfl) ?_
                                refine lv_bipush (pc := 223) (v := nI 15) S.1 S.2.1 dL_act_223 (by decide) ?_
                                refine hv_icmp_ne (pc := 225) (tgt := 237) (a := 15) (b := 15) S.1 S.2.1 (by omega) (by omega) dL_act_225 (by decide) (fun c_16 => ?_) (fun c_16 => ?_)
                                · skip
                                  exact absurd c_16 (by omega)
                                · skip
                                  refine lv_aload_n (pc := 228) S.1 S.2.1 dL_act_228 rfl (lv_at hl 0 rfl) ?_
                                  refine lv_iload_n (pc := 229) S.1 S.2.1 dL_act_229 rfl (lv_at hl 2 rfl) ?_
                                  refine lv_iload_n (pc := 230) S.1 S.2.1 dL_act_230 rfl (lv_at hl 3 rfl) ?_
                                  refine hv_call (pc := 231) (va_runV (As := [.int (nI x), .int (nI z)]) (rest := []) S (ys_measure l hfl D cA ga φ H.size az tn tk tm tg sc ar w ez o oi x z hY hI hT h1 h2) (cwV 2 S.2.2.2.2 (gV tw_856 tw_857 tw_858 tw_1 tw_859) rfl rfl rfl (by decide +kernel) ⟨Nat.le_of_ble_eq_true rfl, Nat.le_of_ble_eq_true rfl⟩) (pre0_V hH hK hX hS hA (ycv hH hK hY)) rfl rfl hl.1 rfl (lv_room (Nat.le_of_ble_eq_true rfl)) dL_act_231 ⟨Nat.le_of_ble_eq_true rfl, Nat.le_of_ble_eq_true rfl⟩) hS (af_le hH hS hA) (fun v_17 φ_18 H locs hw_v_17 hH hS => ?_)
                                  obtain ⟨rfl, hq9⟩ := hw_v_17
                                  refine lv_goto (pc := 234) (tgt := 302) S.1 S.2.1 dL_act_234 (by decide) ?_
                                  exact hv_ret (pc := 302) (v := nI (smN (va_up (ar 14) x z) 8 * 785 / 1000)) S hr rfl hlocks hH hS (⟨rfl, hq9⟩) (Nat.le_of_ble_eq_true rfl) (Nat.le_of_ble_eq_true rfl) dL_act_302
                              · skip
                                exact absurd c_15 (by omega)
                            · skip
                              exact absurd c_14 (by omega)
                          · skip
                            exact absurd c_13 (by omega)
                        · skip
                          exact absurd c_12 (by omega)
                      · skip
                        exact absurd c_11 (by omega)
                    · skip
                      exact absurd c_10 (by omega)
                  · skip
                    exact absurd c_9 (by omega)
                · skip
                  exact absurd c_8 (by omega)
              · skip
                exact absurd c_7 (by omega)
            · skip
              exact absurd c_6 (by omega)
          · skip
            exact absurd c_5 (by omega)
        · skip
          exact absurd c_4 (by omega)
      · skip
        exact absurd c_3 (by omega)
    · skip
      exact absurd c_2 (by omega)
  · skip
    exact absurd c_1 (by omega)

set_option maxHeartbeats 4000000 in
set_option maxRecDepth 100000 in
/-- act, letter: it refuses -/
theorem ax_letter_1 (l : Launch) (hfl : l.stackTraces = false) (D : va_G) (cA : Nat → ClassId) (ga : Nat → Nat → Nat) (φ : hpM) (sz : Nat) (az : Nat → Nat) (tn tk tm : Nat) (tg sc : Nat → Nat) (ar : Nat → Nat → Nat) (w : Nat → Nat → Nat → Nat) (ez o oi : Nat → Nat → Nat) (x0 x1 x2 : Int32) (hY : YW cA ga az tk tm tg sc ar w ez o φ) (hI : LI tn sc ar w ez oi) (hT : TY tk tg) (h200 : tn ≤ 200) (hz : letterX tk (((x0).toUInt32 % 65536).toInt32) = 1) : hW l yL_act cL_act 6 (some .int) [(0, 302, 303, 78), (0, 302, 308, 81), (0, 302, 313, 84)] { frames := 12, cells := 2, slots := 12, locals := 440 } [.ref (az 0), .int (nI 0), .int (x0), .int (x1), .int (x2)] D cA ga φ sz (fun v φ' => v = some (.int (-16820000)) ∧ φ' = φ) 2 12 := by
  refine hW.of (by decide) (Nat.le_of_ble_eq_true rfl) rfl ?_
  intro p e s m args below meth c ls H locs S hr hlocks ht9 hsz hHz hH hK hX hS hA hl
  refine lv_iload_n (pc := 0) S.1 S.2.1 dL_act_0 rfl (lv_at hl 1 rfl) ?_
  refine hv_if_ne (pc := 1) (tgt := 13) (a := 0) S.1 S.2.1 (by omega) dL_act_1 (by decide) (fun c_1 => ?_) (fun c_1 => ?_)
  · skip
    exact absurd c_1 (by omega)
  · skip
    refine lv_aload_n (pc := 4) S.1 S.2.1 dL_act_4 rfl (lv_at hl 0 rfl) ?_
    refine lv_iload_n (pc := 5) S.1 S.2.1 dL_act_5 rfl (lv_at hl 2 rfl) ?_
    refine lv_i2c (pc := 6) (v := ((x0).toUInt32 % 65536).toInt32) S.1 S.2.1 dL_act_6 rfl ?_
    refine hv_callX (pc := 7) (vx_runV (As := [.int (((x0).toUInt32 % 65536).toInt32)]) (rest := []) S (yr_letter l hfl D cA ga φ H.size az tn tk tm tg sc ar w ez o oi (((x0).toUInt32 % 65536).toInt32) hY hI hT h200 1 hz (by decide)) (cwV 1 S.2.2.2.2 (gV tw_267 tw_268 tw_269 tw_1 tw_270) rfl rfl rfl (by decide +kernel) ⟨Nat.le_of_ble_eq_true rfl, Nat.le_of_ble_eq_true rfl⟩) (pre0_V hH hK hX hS hA (ycv hH hK hY)) rfl rfl hl.1 rfl (lv_room (Nat.le_of_ble_eq_true rfl)) dL_act_7 ⟨Nat.le_of_ble_eq_true rfl, Nat.le_of_ble_eq_true rfl⟩) hS (af_le hH hS hA) (fun E ce q9 φ9 H locs hx9 hH hS hce hcv hcl => ?_) (fun v φ9 H locs hw9 hH hS => ?_)
    · skip
      obtain ⟨hq9, rfl⟩ := hx9
      rw [hq9] at hH
      refine vx_catch (own := RL) (name := "java/lang/IllegalArgumentException") S.2.2.2.1 [⟨0, 302, 303, 78⟩] ⟨0, 302, 308, 81⟩ [⟨0, 302, 313, 84⟩] (by rw [ht9]; rfl) (fun z hz => by obtain rfl := List.mem_singleton.mp hz; exact Or.inr ⟨by decide, _, S.2.2.2.2 _ tw_264, hX.nc2⟩) (by decide) (by decide) (S.2.2.2.2 _ tw_265) (va_Nw.use (tabW_on tabIAE) (hX.tabs _ tabIAE)) hce hcv hcl ?_
      refine lv_astore (pc := 308) (lv' := [(5, .ref q9), (0, .ref (az 0)), (1, .int (nI 0)), (2, .int (x0)), (3, .int (x1)), (4, .int (x2))]) S.1 S.2.1 dL_act_308 hl (by decide) rfl (fun ls hl => ?_)
      refine lv_ldc (pc := 310) (v := (-16820000 : Int32)) S.1 S.2.1 S.2.2.2.1 (S.2.2.2.2 _ tw_886) dL_act_310 ?_
      exact hv_ret (pc := 312) (v := (-16820000 : Int32)) S hr rfl hlocks hH hS (⟨rfl, rfl⟩) (Nat.le_of_ble_eq_true rfl) (Nat.le_of_ble_eq_true rfl) dL_act_312
    · skip
      exact absurd hw9 id

set_option maxHeartbeats 4000000 in
set_option maxRecDepth 100000 in
/-- act, letter: it refuses -/
theorem ax_letter_2 (l : Launch) (hfl : l.stackTraces = false) (D : va_G) (cA : Nat → ClassId) (ga : Nat → Nat → Nat) (φ : hpM) (sz : Nat) (az : Nat → Nat) (tn tk tm : Nat) (tg sc : Nat → Nat) (ar : Nat → Nat → Nat) (w : Nat → Nat → Nat → Nat) (ez o oi : Nat → Nat → Nat) (x0 x1 x2 : Int32) (hY : YW cA ga az tk tm tg sc ar w ez o φ) (hI : LI tn sc ar w ez oi) (hT : TY tk tg) (h200 : tn ≤ 200) (hz : letterX tk (((x0).toUInt32 % 65536).toInt32) = 2) : hW l yL_act cL_act 6 (some .int) [(0, 302, 303, 78), (0, 302, 308, 81), (0, 302, 313, 84)] { frames := 12, cells := 2, slots := 12, locals := 440 } [.ref (az 0), .int (nI 0), .int (x0), .int (x1), .int (x2)] D cA ga φ sz (fun v φ' => v = some (.int (-16830000)) ∧ φ' = φ) 2 12 := by
  refine hW.of (by decide) (Nat.le_of_ble_eq_true rfl) rfl ?_
  intro p e s m args below meth c ls H locs S hr hlocks ht9 hsz hHz hH hK hX hS hA hl
  refine lv_iload_n (pc := 0) S.1 S.2.1 dL_act_0 rfl (lv_at hl 1 rfl) ?_
  refine hv_if_ne (pc := 1) (tgt := 13) (a := 0) S.1 S.2.1 (by omega) dL_act_1 (by decide) (fun c_1 => ?_) (fun c_1 => ?_)
  · skip
    exact absurd c_1 (by omega)
  · skip
    refine lv_aload_n (pc := 4) S.1 S.2.1 dL_act_4 rfl (lv_at hl 0 rfl) ?_
    refine lv_iload_n (pc := 5) S.1 S.2.1 dL_act_5 rfl (lv_at hl 2 rfl) ?_
    refine lv_i2c (pc := 6) (v := ((x0).toUInt32 % 65536).toInt32) S.1 S.2.1 dL_act_6 rfl ?_
    refine hv_callX (pc := 7) (vx_runV (As := [.int (((x0).toUInt32 % 65536).toInt32)]) (rest := []) S (yr_letter l hfl D cA ga φ H.size az tn tk tm tg sc ar w ez o oi (((x0).toUInt32 % 65536).toInt32) hY hI hT h200 2 hz (by decide)) (cwV 1 S.2.2.2.2 (gV tw_267 tw_268 tw_269 tw_1 tw_270) rfl rfl rfl (by decide +kernel) ⟨Nat.le_of_ble_eq_true rfl, Nat.le_of_ble_eq_true rfl⟩) (pre0_V hH hK hX hS hA (ycv hH hK hY)) rfl rfl hl.1 rfl (lv_room (Nat.le_of_ble_eq_true rfl)) dL_act_7 ⟨Nat.le_of_ble_eq_true rfl, Nat.le_of_ble_eq_true rfl⟩) hS (af_le hH hS hA) (fun E ce q9 φ9 H locs hx9 hH hS hce hcv hcl => ?_) (fun v φ9 H locs hw9 hH hS => ?_)
    · skip
      obtain ⟨hq9, rfl⟩ := hx9
      rw [hq9] at hH
      refine vx_catch (own := RL) (name := "java/lang/IllegalStateException") S.2.2.2.1 [⟨0, 302, 303, 78⟩, ⟨0, 302, 308, 81⟩] ⟨0, 302, 313, 84⟩ [] (by rw [ht9]; rfl) (List.forall_mem_cons.mpr ⟨Or.inr ⟨by decide, _, S.2.2.2.2 _ tw_264, hX.nc3⟩, List.forall_mem_cons.mpr ⟨Or.inr ⟨by decide, _, S.2.2.2.2 _ tw_265, hX.nc1⟩, fun z hz => by cases hz⟩⟩) (by decide) (by decide) (S.2.2.2.2 _ tw_266) (va_Nw.use (tabW_on tabISE) (hX.tabs _ tabISE)) hce hcv hcl ?_
      refine lv_astore (pc := 313) (lv' := [(5, .ref q9), (0, .ref (az 0)), (1, .int (nI 0)), (2, .int (x0)), (3, .int (x1)), (4, .int (x2))]) S.1 S.2.1 dL_act_313 hl (by decide) rfl (fun ls hl => ?_)
      refine lv_ldc (pc := 315) (v := (-16830000 : Int32)) S.1 S.2.1 S.2.2.2.1 (S.2.2.2.2 _ tw_887) dL_act_315 ?_
      exact hv_ret (pc := 317) (v := (-16830000 : Int32)) S hr rfl hlocks hH hS (⟨rfl, rfl⟩) (Nat.le_of_ble_eq_true rfl) (Nat.le_of_ble_eq_true rfl) dL_act_317
    · skip
      exact absurd hw9 id

set_option maxHeartbeats 4000000 in
set_option maxRecDepth 100000 in
/-- act, lot: it refuses -/
theorem ax_lot_1 (l : Launch) (hfl : l.stackTraces = false) (D : va_G) (cA : Nat → ClassId) (ga : Nat → Nat → Nat) (φ : hpM) (sz : Nat) (az : Nat → Nat) (tn tk tm : Nat) (tg sc : Nat → Nat) (ar : Nat → Nat → Nat) (w : Nat → Nat → Nat → Nat) (ez o oi : Nat → Nat → Nat) (x0 x1 x2 : Int32) (hY : YW cA ga az tk tm tg sc ar w ez o φ) (hI : LI tn sc ar w ez oi) (hT : TY tk tg) (h200 : tn ≤ 200) (hz : lotX (sc 2) (x0) = 1) : hW l yL_act cL_act 6 (some .int) [(0, 302, 303, 78), (0, 302, 308, 81), (0, 302, 313, 84)] { frames := 15, cells := 3, slots := 14, locals := 620 } [.ref (az 0), .int (nI 1), .int (x0), .int (x1), .int (x2)] D cA ga φ sz (fun v φ' => v = some (.int (-16820000)) ∧ φ' = φ) 3 14 := by
  refine hW.of (by decide) (Nat.le_of_ble_eq_true rfl) rfl ?_
  intro p e s m args below meth c ls H locs S hr hlocks ht9 hsz hHz hH hK hX hS hA hl
  refine lv_iload_n (pc := 0) S.1 S.2.1 dL_act_0 rfl (lv_at hl 1 rfl) ?_
  refine hv_if_ne (pc := 1) (tgt := 13) (a := 1) S.1 S.2.1 (by omega) dL_act_1 (by decide) (fun c_1 => ?_) (fun c_1 => ?_)
  · skip
    refine lv_iload_n (pc := 13) S.1 S.2.1 dL_act_13 rfl (lv_at hl 1 rfl) ?_
    refine lv_iconst (pc := 14) (v := nI 1) S.1 S.2.1 dL_act_14 (by decide) ?_
    refine hv_icmp_ne (pc := 15) (tgt := 26) (a := 1) (b := 1) S.1 S.2.1 (by omega) (by omega) dL_act_15 (by decide) (fun c_2 => ?_) (fun c_2 => ?_)
    · skip
      exact absurd c_2 (by omega)
    · skip
      refine lv_aload_n (pc := 18) S.1 S.2.1 dL_act_18 rfl (lv_at hl 0 rfl) ?_
      refine lv_iload_n (pc := 19) S.1 S.2.1 dL_act_19 rfl (lv_at hl 2 rfl) ?_
      refine hv_callX (pc := 20) (vx_runV (As := [.int (x0)]) (rest := []) S (yr_lot l hfl D cA ga φ H.size az tn tk tm tg sc ar w ez o oi (x0) hY hI hT h200 1 hz (by decide)) (cwV 1 S.2.2.2.2 (gV tw_392 tw_393 tw_394 tw_1 tw_395) rfl rfl rfl (by decide +kernel) ⟨Nat.le_of_ble_eq_true rfl, Nat.le_of_ble_eq_true rfl⟩) (pre0_V hH hK hX hS hA (ycv hH hK hY)) rfl rfl hl.1 rfl (lv_room (Nat.le_of_ble_eq_true rfl)) dL_act_20 ⟨Nat.le_of_ble_eq_true rfl, Nat.le_of_ble_eq_true rfl⟩) hS (af_le hH hS hA) (fun E ce q9 φ9 H locs hx9 hH hS hce hcv hcl => ?_) (fun v φ9 H locs hw9 hH hS => ?_)
      · skip
        obtain ⟨hq9, rfl⟩ := hx9
        rw [hq9] at hH
        refine vx_catch (own := RL) (name := "java/lang/IllegalArgumentException") S.2.2.2.1 [⟨0, 302, 303, 78⟩] ⟨0, 302, 308, 81⟩ [⟨0, 302, 313, 84⟩] (by rw [ht9]; rfl) (fun z hz => by obtain rfl := List.mem_singleton.mp hz; exact Or.inr ⟨by decide, _, S.2.2.2.2 _ tw_264, hX.nc2⟩) (by decide) (by decide) (S.2.2.2.2 _ tw_265) (va_Nw.use (tabW_on tabIAE) (hX.tabs _ tabIAE)) hce hcv hcl ?_
        refine lv_astore (pc := 308) (lv' := [(5, .ref q9), (0, .ref (az 0)), (1, .int (nI 1)), (2, .int (x0)), (3, .int (x1)), (4, .int (x2))]) S.1 S.2.1 dL_act_308 hl (by decide) rfl (fun ls hl => ?_)
        refine lv_ldc (pc := 310) (v := (-16820000 : Int32)) S.1 S.2.1 S.2.2.2.1 (S.2.2.2.2 _ tw_886) dL_act_310 ?_
        exact hv_ret (pc := 312) (v := (-16820000 : Int32)) S hr rfl hlocks hH hS (⟨rfl, rfl⟩) (Nat.le_of_ble_eq_true rfl) (Nat.le_of_ble_eq_true rfl) dL_act_312
      · skip
        exact absurd hw9 id
  · skip
    exact absurd c_1 (by omega)

set_option maxHeartbeats 4000000 in
set_option maxRecDepth 100000 in
/-- act, lot: it refuses -/
theorem ax_lot_2 (l : Launch) (hfl : l.stackTraces = false) (D : va_G) (cA : Nat → ClassId) (ga : Nat → Nat → Nat) (φ : hpM) (sz : Nat) (az : Nat → Nat) (tn tk tm : Nat) (tg sc : Nat → Nat) (ar : Nat → Nat → Nat) (w : Nat → Nat → Nat → Nat) (ez o oi : Nat → Nat → Nat) (x0 x1 x2 : Int32) (hY : YW cA ga az tk tm tg sc ar w ez o φ) (hI : LI tn sc ar w ez oi) (hT : TY tk tg) (h200 : tn ≤ 200) (hz : lotX (sc 2) (x0) = 2) : hW l yL_act cL_act 6 (some .int) [(0, 302, 303, 78), (0, 302, 308, 81), (0, 302, 313, 84)] { frames := 15, cells := 3, slots := 14, locals := 620 } [.ref (az 0), .int (nI 1), .int (x0), .int (x1), .int (x2)] D cA ga φ sz (fun v φ' => v = some (.int (-16830000)) ∧ φ' = φ) 3 14 := by
  refine hW.of (by decide) (Nat.le_of_ble_eq_true rfl) rfl ?_
  intro p e s m args below meth c ls H locs S hr hlocks ht9 hsz hHz hH hK hX hS hA hl
  refine lv_iload_n (pc := 0) S.1 S.2.1 dL_act_0 rfl (lv_at hl 1 rfl) ?_
  refine hv_if_ne (pc := 1) (tgt := 13) (a := 1) S.1 S.2.1 (by omega) dL_act_1 (by decide) (fun c_1 => ?_) (fun c_1 => ?_)
  · skip
    refine lv_iload_n (pc := 13) S.1 S.2.1 dL_act_13 rfl (lv_at hl 1 rfl) ?_
    refine lv_iconst (pc := 14) (v := nI 1) S.1 S.2.1 dL_act_14 (by decide) ?_
    refine hv_icmp_ne (pc := 15) (tgt := 26) (a := 1) (b := 1) S.1 S.2.1 (by omega) (by omega) dL_act_15 (by decide) (fun c_2 => ?_) (fun c_2 => ?_)
    · skip
      exact absurd c_2 (by omega)
    · skip
      refine lv_aload_n (pc := 18) S.1 S.2.1 dL_act_18 rfl (lv_at hl 0 rfl) ?_
      refine lv_iload_n (pc := 19) S.1 S.2.1 dL_act_19 rfl (lv_at hl 2 rfl) ?_
      refine hv_callX (pc := 20) (vx_runV (As := [.int (x0)]) (rest := []) S (yr_lot l hfl D cA ga φ H.size az tn tk tm tg sc ar w ez o oi (x0) hY hI hT h200 2 hz (by decide)) (cwV 1 S.2.2.2.2 (gV tw_392 tw_393 tw_394 tw_1 tw_395) rfl rfl rfl (by decide +kernel) ⟨Nat.le_of_ble_eq_true rfl, Nat.le_of_ble_eq_true rfl⟩) (pre0_V hH hK hX hS hA (ycv hH hK hY)) rfl rfl hl.1 rfl (lv_room (Nat.le_of_ble_eq_true rfl)) dL_act_20 ⟨Nat.le_of_ble_eq_true rfl, Nat.le_of_ble_eq_true rfl⟩) hS (af_le hH hS hA) (fun E ce q9 φ9 H locs hx9 hH hS hce hcv hcl => ?_) (fun v φ9 H locs hw9 hH hS => ?_)
      · skip
        obtain ⟨hq9, rfl⟩ := hx9
        rw [hq9] at hH
        refine vx_catch (own := RL) (name := "java/lang/IllegalStateException") S.2.2.2.1 [⟨0, 302, 303, 78⟩, ⟨0, 302, 308, 81⟩] ⟨0, 302, 313, 84⟩ [] (by rw [ht9]; rfl) (List.forall_mem_cons.mpr ⟨Or.inr ⟨by decide, _, S.2.2.2.2 _ tw_264, hX.nc3⟩, List.forall_mem_cons.mpr ⟨Or.inr ⟨by decide, _, S.2.2.2.2 _ tw_265, hX.nc1⟩, fun z hz => by cases hz⟩⟩) (by decide) (by decide) (S.2.2.2.2 _ tw_266) (va_Nw.use (tabW_on tabISE) (hX.tabs _ tabISE)) hce hcv hcl ?_
        refine lv_astore (pc := 313) (lv' := [(5, .ref q9), (0, .ref (az 0)), (1, .int (nI 1)), (2, .int (x0)), (3, .int (x1)), (4, .int (x2))]) S.1 S.2.1 dL_act_313 hl (by decide) rfl (fun ls hl => ?_)
        refine lv_ldc (pc := 315) (v := (-16830000 : Int32)) S.1 S.2.1 S.2.2.2.1 (S.2.2.2.2 _ tw_887) dL_act_315 ?_
        exact hv_ret (pc := 317) (v := (-16830000 : Int32)) S hr rfl hlocks hH hS (⟨rfl, rfl⟩) (Nat.le_of_ble_eq_true rfl) (Nat.le_of_ble_eq_true rfl) dL_act_317
      · skip
        exact absurd hw9 id
  · skip
    exact absurd c_1 (by omega)

set_option maxHeartbeats 4000000 in
set_option maxRecDepth 100000 in
/-- act, cone: it refuses -/
theorem ax_cone_3 (l : Launch) (hfl : l.stackTraces = false) (D : va_G) (cA : Nat → ClassId) (ga : Nat → Nat → Nat) (φ : hpM) (sz : Nat) (az : Nat → Nat) (tn tk tm : Nat) (tg sc : Nat → Nat) (ar : Nat → Nat → Nat) (w : Nat → Nat → Nat → Nat) (ez o oi : Nat → Nat → Nat) (x0 x1 x2 : Int32) (hY : YW cA ga az tk tm tg sc ar w ez o φ) (hI : LI tn sc ar w ez oi) (hT : TY tk tg) (h200 : tn ≤ 200) (hz : coneX (sc 2) (sc 3) (ar 2) (x0) (x1) (x2) = 3) : hW l yL_act cL_act 6 (some .int) [(0, 302, 303, 78), (0, 302, 308, 81), (0, 302, 313, 84)] { frames := 11, cells := 9, slots := 55, locals := 380 } [.ref (az 0), .int (nI 2), .int (x0), .int (x1), .int (x2)] D cA ga φ sz (fun v φ' => v = some (.int (-16810000)) ∧ φ' = φ) 9 55 := by
  refine hW.of (by decide) (Nat.le_of_ble_eq_true rfl) rfl ?_
  intro p e s m args below meth c ls H locs S hr hlocks ht9 hsz hHz hH hK hX hS hA hl
  refine lv_iload_n (pc := 0) S.1 S.2.1 dL_act_0 rfl (lv_at hl 1 rfl) ?_
  refine hv_if_ne (pc := 1) (tgt := 13) (a := 2) S.1 S.2.1 (by omega) dL_act_1 (by decide) (fun c_1 => ?_) (fun c_1 => ?_)
  · skip
    refine lv_iload_n (pc := 13) S.1 S.2.1 dL_act_13 rfl (lv_at hl 1 rfl) ?_
    refine lv_iconst (pc := 14) (v := nI 1) S.1 S.2.1 dL_act_14 (by decide) ?_
    refine hv_icmp_ne (pc := 15) (tgt := 26) (a := 2) (b := 1) S.1 S.2.1 (by omega) (by omega) dL_act_15 (by decide) (fun c_2 => ?_) (fun c_2 => ?_)
    · skip
      refine lv_iload_n (pc := 26) S.1 S.2.1 dL_act_26 rfl (lv_at hl 1 rfl) ?_
      refine lv_iconst (pc := 27) (v := nI 2) S.1 S.2.1 dL_act_27 (by decide) ?_
      refine hv_icmp_ne (pc := 28) (tgt := 42) (a := 2) (b := 2) S.1 S.2.1 (by omega) (by omega) dL_act_28 (by decide) (fun c_3 => ?_) (fun c_3 => ?_)
      · skip
        exact absurd c_3 (by omega)
      · skip
        refine lv_aload_n (pc := 31) S.1 S.2.1 dL_act_31 rfl (lv_at hl 0 rfl) ?_
        refine lv_iload_n (pc := 32) S.1 S.2.1 dL_act_32 rfl (lv_at hl 2 rfl) ?_
        refine lv_iload_n (pc := 33) S.1 S.2.1 dL_act_33 rfl (lv_at hl 3 rfl) ?_
        refine lv_iload (pc := 34) S.1 S.2.1 dL_act_34 (lv_at hl 4 rfl) ?_
        refine hv_callX (pc := 36) (vx_runV (As := [.int (x0), .int (x1), .int (x2)]) (rest := []) S (yr_cone l hfl D cA ga φ H.size az tn tk tm tg sc ar w ez o oi (x0) (x1) (x2) hY hI hT h200 3 hz (by decide)) (cwV 3 S.2.2.2.2 (gV tw_645 tw_646 tw_647 tw_1 tw_648) rfl rfl rfl (by decide +kernel) ⟨Nat.le_of_ble_eq_true rfl, Nat.le_of_ble_eq_true rfl⟩) (pre0_V hH hK hX hS hA (ycv hH hK hY)) rfl rfl hl.1 rfl (lv_room (Nat.le_of_ble_eq_true rfl)) dL_act_36 ⟨Nat.le_of_ble_eq_true rfl, Nat.le_of_ble_eq_true rfl⟩) hS (af_le hH hS hA) (fun E ce q9 φ9 H locs hx9 hH hS hce hcv hcl => ?_) (fun v φ9 H locs hw9 hH hS => ?_)
        · skip
          obtain ⟨hq9, rfl⟩ := hx9
          rw [hq9] at hH
          refine vx_catch (own := RL) (name := "java/lang/IndexOutOfBoundsException") S.2.2.2.1 [] ⟨0, 302, 303, 78⟩ [⟨0, 302, 308, 81⟩, ⟨0, 302, 313, 84⟩] (by rw [ht9]; rfl) (fun z hz => by cases hz) (by decide) (by decide) (S.2.2.2.2 _ tw_264) (va_Nw.use (tabW_on tabIOOBE) (hX.tabs _ tabIOOBE)) hce hcv hcl ?_
          refine lv_astore (pc := 303) (lv' := [(5, .ref q9), (0, .ref (az 0)), (1, .int (nI 2)), (2, .int (x0)), (3, .int (x1)), (4, .int (x2))]) S.1 S.2.1 dL_act_303 hl (by decide) rfl (fun ls hl => ?_)
          refine lv_ldc (pc := 305) (v := (-16810000 : Int32)) S.1 S.2.1 S.2.2.2.1 (S.2.2.2.2 _ tw_885) dL_act_305 ?_
          exact hv_ret (pc := 307) (v := (-16810000 : Int32)) S hr rfl hlocks hH hS (⟨rfl, rfl⟩) (Nat.le_of_ble_eq_true rfl) (Nat.le_of_ble_eq_true rfl) dL_act_307
        · skip
          exact absurd hw9 id
    · skip
      exact absurd c_2 (by omega)
  · skip
    exact absurd c_1 (by omega)

set_option maxHeartbeats 4000000 in
set_option maxRecDepth 100000 in
/-- act, cone: it refuses -/
theorem ax_cone_1 (l : Launch) (hfl : l.stackTraces = false) (D : va_G) (cA : Nat → ClassId) (ga : Nat → Nat → Nat) (φ : hpM) (sz : Nat) (az : Nat → Nat) (tn tk tm : Nat) (tg sc : Nat → Nat) (ar : Nat → Nat → Nat) (w : Nat → Nat → Nat → Nat) (ez o oi : Nat → Nat → Nat) (x0 x1 x2 : Int32) (hY : YW cA ga az tk tm tg sc ar w ez o φ) (hI : LI tn sc ar w ez oi) (hT : TY tk tg) (h200 : tn ≤ 200) (hz : coneX (sc 2) (sc 3) (ar 2) (x0) (x1) (x2) = 1) : hW l yL_act cL_act 6 (some .int) [(0, 302, 303, 78), (0, 302, 308, 81), (0, 302, 313, 84)] { frames := 11, cells := 9, slots := 55, locals := 380 } [.ref (az 0), .int (nI 2), .int (x0), .int (x1), .int (x2)] D cA ga φ sz (fun v φ' => v = some (.int (-16820000)) ∧ φ' = φ) 9 55 := by
  refine hW.of (by decide) (Nat.le_of_ble_eq_true rfl) rfl ?_
  intro p e s m args below meth c ls H locs S hr hlocks ht9 hsz hHz hH hK hX hS hA hl
  refine lv_iload_n (pc := 0) S.1 S.2.1 dL_act_0 rfl (lv_at hl 1 rfl) ?_
  refine hv_if_ne (pc := 1) (tgt := 13) (a := 2) S.1 S.2.1 (by omega) dL_act_1 (by decide) (fun c_1 => ?_) (fun c_1 => ?_)
  · skip
    refine lv_iload_n (pc := 13) S.1 S.2.1 dL_act_13 rfl (lv_at hl 1 rfl) ?_
    refine lv_iconst (pc := 14) (v := nI 1) S.1 S.2.1 dL_act_14 (by decide) ?_
    refine hv_icmp_ne (pc := 15) (tgt := 26) (a := 2) (b := 1) S.1 S.2.1 (by omega) (by omega) dL_act_15 (by decide) (fun c_2 => ?_) (fun c_2 => ?_)
    · skip
      refine lv_iload_n (pc := 26) S.1 S.2.1 dL_act_26 rfl (lv_at hl 1 rfl) ?_
      refine lv_iconst (pc := 27) (v := nI 2) S.1 S.2.1 dL_act_27 (by decide) ?_
      refine hv_icmp_ne (pc := 28) (tgt := 42) (a := 2) (b := 2) S.1 S.2.1 (by omega) (by omega) dL_act_28 (by decide) (fun c_3 => ?_) (fun c_3 => ?_)
      · skip
        exact absurd c_3 (by omega)
      · skip
        refine lv_aload_n (pc := 31) S.1 S.2.1 dL_act_31 rfl (lv_at hl 0 rfl) ?_
        refine lv_iload_n (pc := 32) S.1 S.2.1 dL_act_32 rfl (lv_at hl 2 rfl) ?_
        refine lv_iload_n (pc := 33) S.1 S.2.1 dL_act_33 rfl (lv_at hl 3 rfl) ?_
        refine lv_iload (pc := 34) S.1 S.2.1 dL_act_34 (lv_at hl 4 rfl) ?_
        refine hv_callX (pc := 36) (vx_runV (As := [.int (x0), .int (x1), .int (x2)]) (rest := []) S (yr_cone l hfl D cA ga φ H.size az tn tk tm tg sc ar w ez o oi (x0) (x1) (x2) hY hI hT h200 1 hz (by decide)) (cwV 3 S.2.2.2.2 (gV tw_645 tw_646 tw_647 tw_1 tw_648) rfl rfl rfl (by decide +kernel) ⟨Nat.le_of_ble_eq_true rfl, Nat.le_of_ble_eq_true rfl⟩) (pre0_V hH hK hX hS hA (ycv hH hK hY)) rfl rfl hl.1 rfl (lv_room (Nat.le_of_ble_eq_true rfl)) dL_act_36 ⟨Nat.le_of_ble_eq_true rfl, Nat.le_of_ble_eq_true rfl⟩) hS (af_le hH hS hA) (fun E ce q9 φ9 H locs hx9 hH hS hce hcv hcl => ?_) (fun v φ9 H locs hw9 hH hS => ?_)
        · skip
          obtain ⟨hq9, rfl⟩ := hx9
          rw [hq9] at hH
          refine vx_catch (own := RL) (name := "java/lang/IllegalArgumentException") S.2.2.2.1 [⟨0, 302, 303, 78⟩] ⟨0, 302, 308, 81⟩ [⟨0, 302, 313, 84⟩] (by rw [ht9]; rfl) (fun z hz => by obtain rfl := List.mem_singleton.mp hz; exact Or.inr ⟨by decide, _, S.2.2.2.2 _ tw_264, hX.nc2⟩) (by decide) (by decide) (S.2.2.2.2 _ tw_265) (va_Nw.use (tabW_on tabIAE) (hX.tabs _ tabIAE)) hce hcv hcl ?_
          refine lv_astore (pc := 308) (lv' := [(5, .ref q9), (0, .ref (az 0)), (1, .int (nI 2)), (2, .int (x0)), (3, .int (x1)), (4, .int (x2))]) S.1 S.2.1 dL_act_308 hl (by decide) rfl (fun ls hl => ?_)
          refine lv_ldc (pc := 310) (v := (-16820000 : Int32)) S.1 S.2.1 S.2.2.2.1 (S.2.2.2.2 _ tw_886) dL_act_310 ?_
          exact hv_ret (pc := 312) (v := (-16820000 : Int32)) S hr rfl hlocks hH hS (⟨rfl, rfl⟩) (Nat.le_of_ble_eq_true rfl) (Nat.le_of_ble_eq_true rfl) dL_act_312
        · skip
          exact absurd hw9 id
    · skip
      exact absurd c_2 (by omega)
  · skip
    exact absurd c_1 (by omega)

set_option maxHeartbeats 4000000 in
set_option maxRecDepth 100000 in
/-- act, cone: it refuses -/
theorem ax_cone_2 (l : Launch) (hfl : l.stackTraces = false) (D : va_G) (cA : Nat → ClassId) (ga : Nat → Nat → Nat) (φ : hpM) (sz : Nat) (az : Nat → Nat) (tn tk tm : Nat) (tg sc : Nat → Nat) (ar : Nat → Nat → Nat) (w : Nat → Nat → Nat → Nat) (ez o oi : Nat → Nat → Nat) (x0 x1 x2 : Int32) (hY : YW cA ga az tk tm tg sc ar w ez o φ) (hI : LI tn sc ar w ez oi) (hT : TY tk tg) (h200 : tn ≤ 200) (hz : coneX (sc 2) (sc 3) (ar 2) (x0) (x1) (x2) = 2) : hW l yL_act cL_act 6 (some .int) [(0, 302, 303, 78), (0, 302, 308, 81), (0, 302, 313, 84)] { frames := 11, cells := 9, slots := 55, locals := 380 } [.ref (az 0), .int (nI 2), .int (x0), .int (x1), .int (x2)] D cA ga φ sz (fun v φ' => v = some (.int (-16830000)) ∧ φ' = φ) 9 55 := by
  refine hW.of (by decide) (Nat.le_of_ble_eq_true rfl) rfl ?_
  intro p e s m args below meth c ls H locs S hr hlocks ht9 hsz hHz hH hK hX hS hA hl
  refine lv_iload_n (pc := 0) S.1 S.2.1 dL_act_0 rfl (lv_at hl 1 rfl) ?_
  refine hv_if_ne (pc := 1) (tgt := 13) (a := 2) S.1 S.2.1 (by omega) dL_act_1 (by decide) (fun c_1 => ?_) (fun c_1 => ?_)
  · skip
    refine lv_iload_n (pc := 13) S.1 S.2.1 dL_act_13 rfl (lv_at hl 1 rfl) ?_
    refine lv_iconst (pc := 14) (v := nI 1) S.1 S.2.1 dL_act_14 (by decide) ?_
    refine hv_icmp_ne (pc := 15) (tgt := 26) (a := 2) (b := 1) S.1 S.2.1 (by omega) (by omega) dL_act_15 (by decide) (fun c_2 => ?_) (fun c_2 => ?_)
    · skip
      refine lv_iload_n (pc := 26) S.1 S.2.1 dL_act_26 rfl (lv_at hl 1 rfl) ?_
      refine lv_iconst (pc := 27) (v := nI 2) S.1 S.2.1 dL_act_27 (by decide) ?_
      refine hv_icmp_ne (pc := 28) (tgt := 42) (a := 2) (b := 2) S.1 S.2.1 (by omega) (by omega) dL_act_28 (by decide) (fun c_3 => ?_) (fun c_3 => ?_)
      · skip
        exact absurd c_3 (by omega)
      · skip
        refine lv_aload_n (pc := 31) S.1 S.2.1 dL_act_31 rfl (lv_at hl 0 rfl) ?_
        refine lv_iload_n (pc := 32) S.1 S.2.1 dL_act_32 rfl (lv_at hl 2 rfl) ?_
        refine lv_iload_n (pc := 33) S.1 S.2.1 dL_act_33 rfl (lv_at hl 3 rfl) ?_
        refine lv_iload (pc := 34) S.1 S.2.1 dL_act_34 (lv_at hl 4 rfl) ?_
        refine hv_callX (pc := 36) (vx_runV (As := [.int (x0), .int (x1), .int (x2)]) (rest := []) S (yr_cone l hfl D cA ga φ H.size az tn tk tm tg sc ar w ez o oi (x0) (x1) (x2) hY hI hT h200 2 hz (by decide)) (cwV 3 S.2.2.2.2 (gV tw_645 tw_646 tw_647 tw_1 tw_648) rfl rfl rfl (by decide +kernel) ⟨Nat.le_of_ble_eq_true rfl, Nat.le_of_ble_eq_true rfl⟩) (pre0_V hH hK hX hS hA (ycv hH hK hY)) rfl rfl hl.1 rfl (lv_room (Nat.le_of_ble_eq_true rfl)) dL_act_36 ⟨Nat.le_of_ble_eq_true rfl, Nat.le_of_ble_eq_true rfl⟩) hS (af_le hH hS hA) (fun E ce q9 φ9 H locs hx9 hH hS hce hcv hcl => ?_) (fun v φ9 H locs hw9 hH hS => ?_)
        · skip
          obtain ⟨hq9, rfl⟩ := hx9
          rw [hq9] at hH
          refine vx_catch (own := RL) (name := "java/lang/IllegalStateException") S.2.2.2.1 [⟨0, 302, 303, 78⟩, ⟨0, 302, 308, 81⟩] ⟨0, 302, 313, 84⟩ [] (by rw [ht9]; rfl) (List.forall_mem_cons.mpr ⟨Or.inr ⟨by decide, _, S.2.2.2.2 _ tw_264, hX.nc3⟩, List.forall_mem_cons.mpr ⟨Or.inr ⟨by decide, _, S.2.2.2.2 _ tw_265, hX.nc1⟩, fun z hz => by cases hz⟩⟩) (by decide) (by decide) (S.2.2.2.2 _ tw_266) (va_Nw.use (tabW_on tabISE) (hX.tabs _ tabISE)) hce hcv hcl ?_
          refine lv_astore (pc := 313) (lv' := [(5, .ref q9), (0, .ref (az 0)), (1, .int (nI 2)), (2, .int (x0)), (3, .int (x1)), (4, .int (x2))]) S.1 S.2.1 dL_act_313 hl (by decide) rfl (fun ls hl => ?_)
          refine lv_ldc (pc := 315) (v := (-16830000 : Int32)) S.1 S.2.1 S.2.2.2.1 (S.2.2.2.2 _ tw_887) dL_act_315 ?_
          exact hv_ret (pc := 317) (v := (-16830000 : Int32)) S hr rfl hlocks hH hS (⟨rfl, rfl⟩) (Nat.le_of_ble_eq_true rfl) (Nat.le_of_ble_eq_true rfl) dL_act_317
        · skip
          exact absurd hw9 id
    · skip
      exact absurd c_2 (by omega)
  · skip
    exact absurd c_1 (by omega)

set_option maxHeartbeats 4000000 in
set_option maxRecDepth 100000 in
/-- act, hand: it refuses -/
theorem ax_hand_2 (l : Launch) (hfl : l.stackTraces = false) (D : va_G) (cA : Nat → ClassId) (ga : Nat → Nat → Nat) (φ : hpM) (sz : Nat) (az : Nat → Nat) (tn tk tm : Nat) (tg sc : Nat → Nat) (ar : Nat → Nat → Nat) (w : Nat → Nat → Nat → Nat) (ez o oi : Nat → Nat → Nat) (x0 x1 x2 : Int32) (hY : YW cA ga az tk tm tg sc ar w ez o φ) (hI : LI tn sc ar w ez oi) (hT : TY tk tg) (h200 : tn ≤ 200) (hz : handX (sc 5) = 2) : hW l yL_act cL_act 6 (some .int) [(0, 302, 303, 78), (0, 302, 308, 81), (0, 302, 313, 84)] { frames := 10, cells := 2, slots := 8, locals := 320 } [.ref (az 0), .int (nI 3), .int (x0), .int (x1), .int (x2)] D cA ga φ sz (fun v φ' => v = some (.int (-16830000)) ∧ φ' = φ) 2 8 := by
  refine hW.of (by decide) (Nat.le_of_ble_eq_true rfl) rfl ?_
  intro p e s m args below meth c ls H locs S hr hlocks ht9 hsz hHz hH hK hX hS hA hl
  refine lv_iload_n (pc := 0) S.1 S.2.1 dL_act_0 rfl (lv_at hl 1 rfl) ?_
  refine hv_if_ne (pc := 1) (tgt := 13) (a := 3) S.1 S.2.1 (by omega) dL_act_1 (by decide) (fun c_1 => ?_) (fun c_1 => ?_)
  · skip
    refine lv_iload_n (pc := 13) S.1 S.2.1 dL_act_13 rfl (lv_at hl 1 rfl) ?_
    refine lv_iconst (pc := 14) (v := nI 1) S.1 S.2.1 dL_act_14 (by decide) ?_
    refine hv_icmp_ne (pc := 15) (tgt := 26) (a := 3) (b := 1) S.1 S.2.1 (by omega) (by omega) dL_act_15 (by decide) (fun c_2 => ?_) (fun c_2 => ?_)
    · skip
      refine lv_iload_n (pc := 26) S.1 S.2.1 dL_act_26 rfl (lv_at hl 1 rfl) ?_
      refine lv_iconst (pc := 27) (v := nI 2) S.1 S.2.1 dL_act_27 (by decide) ?_
      refine hv_icmp_ne (pc := 28) (tgt := 42) (a := 3) (b := 2) S.1 S.2.1 (by omega) (by omega) dL_act_28 (by decide) (fun c_3 => ?_) (fun c_3 => ?_)
      · skip
        refine lv_iload_n (pc := 42) S.1 S.2.1 dL_act_42 rfl (lv_at hl 1 rfl) ?_
        refine lv_iconst (pc := 43) (v := nI 3) S.1 S.2.1 dL_act_43 (by decide) ?_
        refine hv_icmp_ne (pc := 44) (tgt := 54) (a := 3) (b := 3) S.1 S.2.1 (by omega) (by omega) dL_act_44 (by decide) (fun c_4 => ?_) (fun c_4 => ?_)
        · skip
          exact absurd c_4 (by omega)
        · skip
          refine lv_aload_n (pc := 47) S.1 S.2.1 dL_act_47 rfl (lv_at hl 0 rfl) ?_
          refine hv_callX (pc := 48) (vx_runV (As := []) (rest := []) S (yr_hand l hfl D cA ga φ H.size az tn tk tm tg sc ar w ez o oi hY hI hT h200 2 hz (by decide)) (cwV 0 S.2.2.2.2 (gV tw_687 tw_688 tw_689 tw_1 tw_690) rfl rfl rfl (by decide +kernel) ⟨Nat.le_of_ble_eq_true rfl, Nat.le_of_ble_eq_true rfl⟩) (pre0_V hH hK hX hS hA (ycv hH hK hY)) rfl rfl hl.1 rfl (lv_room (Nat.le_of_ble_eq_true rfl)) dL_act_48 ⟨Nat.le_of_ble_eq_true rfl, Nat.le_of_ble_eq_true rfl⟩) hS (af_le hH hS hA) (fun E ce q9 φ9 H locs hx9 hH hS hce hcv hcl => ?_) (fun v φ9 H locs hw9 hH hS => ?_)
          · skip
            obtain ⟨hq9, rfl⟩ := hx9
            rw [hq9] at hH
            refine vx_catch (own := RL) (name := "java/lang/IllegalStateException") S.2.2.2.1 [⟨0, 302, 303, 78⟩, ⟨0, 302, 308, 81⟩] ⟨0, 302, 313, 84⟩ [] (by rw [ht9]; rfl) (List.forall_mem_cons.mpr ⟨Or.inr ⟨by decide, _, S.2.2.2.2 _ tw_264, hX.nc3⟩, List.forall_mem_cons.mpr ⟨Or.inr ⟨by decide, _, S.2.2.2.2 _ tw_265, hX.nc1⟩, fun z hz => by cases hz⟩⟩) (by decide) (by decide) (S.2.2.2.2 _ tw_266) (va_Nw.use (tabW_on tabISE) (hX.tabs _ tabISE)) hce hcv hcl ?_
            refine lv_astore (pc := 313) (lv' := [(5, .ref q9), (0, .ref (az 0)), (1, .int (nI 3)), (2, .int (x0)), (3, .int (x1)), (4, .int (x2))]) S.1 S.2.1 dL_act_313 hl (by decide) rfl (fun ls hl => ?_)
            refine lv_ldc (pc := 315) (v := (-16830000 : Int32)) S.1 S.2.1 S.2.2.2.1 (S.2.2.2.2 _ tw_887) dL_act_315 ?_
            exact hv_ret (pc := 317) (v := (-16830000 : Int32)) S hr rfl hlocks hH hS (⟨rfl, rfl⟩) (Nat.le_of_ble_eq_true rfl) (Nat.le_of_ble_eq_true rfl) dL_act_317
          · skip
            exact absurd hw9 id
      · skip
        exact absurd c_3 (by omega)
    · skip
      exact absurd c_2 (by omega)
  · skip
    exact absurd c_1 (by omega)

set_option maxHeartbeats 4000000 in
set_option maxRecDepth 100000 in
/-- act, cycle: it refuses -/
theorem ax_cycle_3 (l : Launch) (hfl : l.stackTraces = false) (D : va_G) (cA : Nat → ClassId) (ga : Nat → Nat → Nat) (φ : hpM) (sz : Nat) (az : Nat → Nat) (tn tk tm : Nat) (tg sc : Nat → Nat) (ar : Nat → Nat → Nat) (w : Nat → Nat → Nat → Nat) (ez o oi : Nat → Nat → Nat) (x0 x1 x2 : Int32) (hY : YW cA ga az tk tm tg sc ar w ez o φ) (hI : LI tn sc ar w ez oi) (hT : TY tk tg) (h200 : tn ≤ 200) (hz : cycleX (sc 3) (sc 5) (ar 3) (ar 7) (ar 12) (ez 2) (x0) (x1) = 3) : hW l yL_act cL_act 6 (some .int) [(0, 302, 303, 78), (0, 302, 308, 81), (0, 302, 313, 84)] { frames := 11, cells := 8, slots := 48, locals := 380 } [.ref (az 0), .int (nI 4), .int (x0), .int (x1), .int (x2)] D cA ga φ sz (fun v φ' => v = some (.int (-16810000)) ∧ φ' = φ) 8 48 := by
  refine hW.of (by decide) (Nat.le_of_ble_eq_true rfl) rfl ?_
  intro p e s m args below meth c ls H locs S hr hlocks ht9 hsz hHz hH hK hX hS hA hl
  refine lv_iload_n (pc := 0) S.1 S.2.1 dL_act_0 rfl (lv_at hl 1 rfl) ?_
  refine hv_if_ne (pc := 1) (tgt := 13) (a := 4) S.1 S.2.1 (by omega) dL_act_1 (by decide) (fun c_1 => ?_) (fun c_1 => ?_)
  · skip
    refine lv_iload_n (pc := 13) S.1 S.2.1 dL_act_13 rfl (lv_at hl 1 rfl) ?_
    refine lv_iconst (pc := 14) (v := nI 1) S.1 S.2.1 dL_act_14 (by decide) ?_
    refine hv_icmp_ne (pc := 15) (tgt := 26) (a := 4) (b := 1) S.1 S.2.1 (by omega) (by omega) dL_act_15 (by decide) (fun c_2 => ?_) (fun c_2 => ?_)
    · skip
      refine lv_iload_n (pc := 26) S.1 S.2.1 dL_act_26 rfl (lv_at hl 1 rfl) ?_
      refine lv_iconst (pc := 27) (v := nI 2) S.1 S.2.1 dL_act_27 (by decide) ?_
      refine hv_icmp_ne (pc := 28) (tgt := 42) (a := 4) (b := 2) S.1 S.2.1 (by omega) (by omega) dL_act_28 (by decide) (fun c_3 => ?_) (fun c_3 => ?_)
      · skip
        refine lv_iload_n (pc := 42) S.1 S.2.1 dL_act_42 rfl (lv_at hl 1 rfl) ?_
        refine lv_iconst (pc := 43) (v := nI 3) S.1 S.2.1 dL_act_43 (by decide) ?_
        refine hv_icmp_ne (pc := 44) (tgt := 54) (a := 4) (b := 3) S.1 S.2.1 (by omega) (by omega) dL_act_44 (by decide) (fun c_4 => ?_) (fun c_4 => ?_)
        · skip
          refine lv_iload_n (pc := 54) S.1 S.2.1 dL_act_54 rfl (lv_at hl 1 rfl) ?_
          refine lv_iconst (pc := 55) (v := nI 4) S.1 S.2.1 dL_act_55 (by decide) ?_
          refine hv_icmp_ne (pc := 56) (tgt := 68) (a := 4) (b := 4) S.1 S.2.1 (by omega) (by omega) dL_act_56 (by decide) (fun c_5 => ?_) (fun c_5 => ?_)
          · skip
            exact absurd c_5 (by omega)
          · skip
            refine lv_aload_n (pc := 59) S.1 S.2.1 dL_act_59 rfl (lv_at hl 0 rfl) ?_
            refine lv_iload_n (pc := 60) S.1 S.2.1 dL_act_60 rfl (lv_at hl 2 rfl) ?_
            refine lv_iload_n (pc := 61) S.1 S.2.1 dL_act_61 rfl (lv_at hl 3 rfl) ?_
            refine hv_callX (pc := 62) (vx_runV (As := [.int (x0), .int (x1)]) (rest := []) S (yr_cycle l hfl D cA ga φ H.size az tn tk tm tg sc ar w ez o oi (x0) (x1) hY hI hT h200 3 hz (by decide)) (cwV 2 S.2.2.2.2 (gV tw_705 tw_706 tw_707 tw_1 tw_708) rfl rfl rfl (by decide +kernel) ⟨Nat.le_of_ble_eq_true rfl, Nat.le_of_ble_eq_true rfl⟩) (pre0_V hH hK hX hS hA (ycv hH hK hY)) rfl rfl hl.1 rfl (lv_room (Nat.le_of_ble_eq_true rfl)) dL_act_62 ⟨Nat.le_of_ble_eq_true rfl, Nat.le_of_ble_eq_true rfl⟩) hS (af_le hH hS hA) (fun E ce q9 φ9 H locs hx9 hH hS hce hcv hcl => ?_) (fun v φ9 H locs hw9 hH hS => ?_)
            · skip
              obtain ⟨hq9, rfl⟩ := hx9
              rw [hq9] at hH
              refine vx_catch (own := RL) (name := "java/lang/IndexOutOfBoundsException") S.2.2.2.1 [] ⟨0, 302, 303, 78⟩ [⟨0, 302, 308, 81⟩, ⟨0, 302, 313, 84⟩] (by rw [ht9]; rfl) (fun z hz => by cases hz) (by decide) (by decide) (S.2.2.2.2 _ tw_264) (va_Nw.use (tabW_on tabIOOBE) (hX.tabs _ tabIOOBE)) hce hcv hcl ?_
              refine lv_astore (pc := 303) (lv' := [(5, .ref q9), (0, .ref (az 0)), (1, .int (nI 4)), (2, .int (x0)), (3, .int (x1)), (4, .int (x2))]) S.1 S.2.1 dL_act_303 hl (by decide) rfl (fun ls hl => ?_)
              refine lv_ldc (pc := 305) (v := (-16810000 : Int32)) S.1 S.2.1 S.2.2.2.1 (S.2.2.2.2 _ tw_885) dL_act_305 ?_
              exact hv_ret (pc := 307) (v := (-16810000 : Int32)) S hr rfl hlocks hH hS (⟨rfl, rfl⟩) (Nat.le_of_ble_eq_true rfl) (Nat.le_of_ble_eq_true rfl) dL_act_307
            · skip
              exact absurd hw9 id
        · skip
          exact absurd c_4 (by omega)
      · skip
        exact absurd c_3 (by omega)
    · skip
      exact absurd c_2 (by omega)
  · skip
    exact absurd c_1 (by omega)

set_option maxHeartbeats 4000000 in
set_option maxRecDepth 100000 in
/-- act, cycle: it refuses -/
theorem ax_cycle_2 (l : Launch) (hfl : l.stackTraces = false) (D : va_G) (cA : Nat → ClassId) (ga : Nat → Nat → Nat) (φ : hpM) (sz : Nat) (az : Nat → Nat) (tn tk tm : Nat) (tg sc : Nat → Nat) (ar : Nat → Nat → Nat) (w : Nat → Nat → Nat → Nat) (ez o oi : Nat → Nat → Nat) (x0 x1 x2 : Int32) (hY : YW cA ga az tk tm tg sc ar w ez o φ) (hI : LI tn sc ar w ez oi) (hT : TY tk tg) (h200 : tn ≤ 200) (hz : cycleX (sc 3) (sc 5) (ar 3) (ar 7) (ar 12) (ez 2) (x0) (x1) = 2) : hW l yL_act cL_act 6 (some .int) [(0, 302, 303, 78), (0, 302, 308, 81), (0, 302, 313, 84)] { frames := 11, cells := 8, slots := 48, locals := 380 } [.ref (az 0), .int (nI 4), .int (x0), .int (x1), .int (x2)] D cA ga φ sz (fun v φ' => v = some (.int (-16830000)) ∧ φ' = φ) 8 48 := by
  refine hW.of (by decide) (Nat.le_of_ble_eq_true rfl) rfl ?_
  intro p e s m args below meth c ls H locs S hr hlocks ht9 hsz hHz hH hK hX hS hA hl
  refine lv_iload_n (pc := 0) S.1 S.2.1 dL_act_0 rfl (lv_at hl 1 rfl) ?_
  refine hv_if_ne (pc := 1) (tgt := 13) (a := 4) S.1 S.2.1 (by omega) dL_act_1 (by decide) (fun c_1 => ?_) (fun c_1 => ?_)
  · skip
    refine lv_iload_n (pc := 13) S.1 S.2.1 dL_act_13 rfl (lv_at hl 1 rfl) ?_
    refine lv_iconst (pc := 14) (v := nI 1) S.1 S.2.1 dL_act_14 (by decide) ?_
    refine hv_icmp_ne (pc := 15) (tgt := 26) (a := 4) (b := 1) S.1 S.2.1 (by omega) (by omega) dL_act_15 (by decide) (fun c_2 => ?_) (fun c_2 => ?_)
    · skip
      refine lv_iload_n (pc := 26) S.1 S.2.1 dL_act_26 rfl (lv_at hl 1 rfl) ?_
      refine lv_iconst (pc := 27) (v := nI 2) S.1 S.2.1 dL_act_27 (by decide) ?_
      refine hv_icmp_ne (pc := 28) (tgt := 42) (a := 4) (b := 2) S.1 S.2.1 (by omega) (by omega) dL_act_28 (by decide) (fun c_3 => ?_) (fun c_3 => ?_)
      · skip
        refine lv_iload_n (pc := 42) S.1 S.2.1 dL_act_42 rfl (lv_at hl 1 rfl) ?_
        refine lv_iconst (pc := 43) (v := nI 3) S.1 S.2.1 dL_act_43 (by decide) ?_
        refine hv_icmp_ne (pc := 44) (tgt := 54) (a := 4) (b := 3) S.1 S.2.1 (by omega) (by omega) dL_act_44 (by decide) (fun c_4 => ?_) (fun c_4 => ?_)
        · skip
          refine lv_iload_n (pc := 54) S.1 S.2.1 dL_act_54 rfl (lv_at hl 1 rfl) ?_
          refine lv_iconst (pc := 55) (v := nI 4) S.1 S.2.1 dL_act_55 (by decide) ?_
          refine hv_icmp_ne (pc := 56) (tgt := 68) (a := 4) (b := 4) S.1 S.2.1 (by omega) (by omega) dL_act_56 (by decide) (fun c_5 => ?_) (fun c_5 => ?_)
          · skip
            exact absurd c_5 (by omega)
          · skip
            refine lv_aload_n (pc := 59) S.1 S.2.1 dL_act_59 rfl (lv_at hl 0 rfl) ?_
            refine lv_iload_n (pc := 60) S.1 S.2.1 dL_act_60 rfl (lv_at hl 2 rfl) ?_
            refine lv_iload_n (pc := 61) S.1 S.2.1 dL_act_61 rfl (lv_at hl 3 rfl) ?_
            refine hv_callX (pc := 62) (vx_runV (As := [.int (x0), .int (x1)]) (rest := []) S (yr_cycle l hfl D cA ga φ H.size az tn tk tm tg sc ar w ez o oi (x0) (x1) hY hI hT h200 2 hz (by decide)) (cwV 2 S.2.2.2.2 (gV tw_705 tw_706 tw_707 tw_1 tw_708) rfl rfl rfl (by decide +kernel) ⟨Nat.le_of_ble_eq_true rfl, Nat.le_of_ble_eq_true rfl⟩) (pre0_V hH hK hX hS hA (ycv hH hK hY)) rfl rfl hl.1 rfl (lv_room (Nat.le_of_ble_eq_true rfl)) dL_act_62 ⟨Nat.le_of_ble_eq_true rfl, Nat.le_of_ble_eq_true rfl⟩) hS (af_le hH hS hA) (fun E ce q9 φ9 H locs hx9 hH hS hce hcv hcl => ?_) (fun v φ9 H locs hw9 hH hS => ?_)
            · skip
              obtain ⟨hq9, rfl⟩ := hx9
              rw [hq9] at hH
              refine vx_catch (own := RL) (name := "java/lang/IllegalStateException") S.2.2.2.1 [⟨0, 302, 303, 78⟩, ⟨0, 302, 308, 81⟩] ⟨0, 302, 313, 84⟩ [] (by rw [ht9]; rfl) (List.forall_mem_cons.mpr ⟨Or.inr ⟨by decide, _, S.2.2.2.2 _ tw_264, hX.nc3⟩, List.forall_mem_cons.mpr ⟨Or.inr ⟨by decide, _, S.2.2.2.2 _ tw_265, hX.nc1⟩, fun z hz => by cases hz⟩⟩) (by decide) (by decide) (S.2.2.2.2 _ tw_266) (va_Nw.use (tabW_on tabISE) (hX.tabs _ tabISE)) hce hcv hcl ?_
              refine lv_astore (pc := 313) (lv' := [(5, .ref q9), (0, .ref (az 0)), (1, .int (nI 4)), (2, .int (x0)), (3, .int (x1)), (4, .int (x2))]) S.1 S.2.1 dL_act_313 hl (by decide) rfl (fun ls hl => ?_)
              refine lv_ldc (pc := 315) (v := (-16830000 : Int32)) S.1 S.2.1 S.2.2.2.1 (S.2.2.2.2 _ tw_887) dL_act_315 ?_
              exact hv_ret (pc := 317) (v := (-16830000 : Int32)) S hr rfl hlocks hH hS (⟨rfl, rfl⟩) (Nat.le_of_ble_eq_true rfl) (Nat.le_of_ble_eq_true rfl) dL_act_317
            · skip
              exact absurd hw9 id
        · skip
          exact absurd c_4 (by omega)
      · skip
        exact absurd c_3 (by omega)
    · skip
      exact absurd c_2 (by omega)
  · skip
    exact absurd c_1 (by omega)

set_option maxHeartbeats 4000000 in
set_option maxRecDepth 100000 in
/-- act, block: it refuses -/
theorem ax_block_1 (l : Launch) (hfl : l.stackTraces = false) (D : va_G) (cA : Nat → ClassId) (ga : Nat → Nat → Nat) (φ : hpM) (sz : Nat) (az : Nat → Nat) (tn tk tm : Nat) (tg sc : Nat → Nat) (ar : Nat → Nat → Nat) (w : Nat → Nat → Nat → Nat) (ez o oi : Nat → Nat → Nat) (x0 x1 x2 : Int32) (hY : YW cA ga az tk tm tg sc ar w ez o φ) (hI : LI tn sc ar w ez oi) (hT : TY tk tg) (h200 : tn ≤ 200) (hz : blockX (sc 4) (x0) (x1) = 1) : hW l yL_act cL_act 6 (some .int) [(0, 302, 303, 78), (0, 302, 308, 81), (0, 302, 313, 84)] { frames := 10, cells := 4, slots := 20, locals := 320 } [.ref (az 0), .int (nI 5), .int (x0), .int (x1), .int (x2)] D cA ga φ sz (fun v φ' => v = some (.int (-16820000)) ∧ φ' = φ) 4 20 := by
  refine hW.of (by decide) (Nat.le_of_ble_eq_true rfl) rfl ?_
  intro p e s m args below meth c ls H locs S hr hlocks ht9 hsz hHz hH hK hX hS hA hl
  refine lv_iload_n (pc := 0) S.1 S.2.1 dL_act_0 rfl (lv_at hl 1 rfl) ?_
  refine hv_if_ne (pc := 1) (tgt := 13) (a := 5) S.1 S.2.1 (by omega) dL_act_1 (by decide) (fun c_1 => ?_) (fun c_1 => ?_)
  · skip
    refine lv_iload_n (pc := 13) S.1 S.2.1 dL_act_13 rfl (lv_at hl 1 rfl) ?_
    refine lv_iconst (pc := 14) (v := nI 1) S.1 S.2.1 dL_act_14 (by decide) ?_
    refine hv_icmp_ne (pc := 15) (tgt := 26) (a := 5) (b := 1) S.1 S.2.1 (by omega) (by omega) dL_act_15 (by decide) (fun c_2 => ?_) (fun c_2 => ?_)
    · skip
      refine lv_iload_n (pc := 26) S.1 S.2.1 dL_act_26 rfl (lv_at hl 1 rfl) ?_
      refine lv_iconst (pc := 27) (v := nI 2) S.1 S.2.1 dL_act_27 (by decide) ?_
      refine hv_icmp_ne (pc := 28) (tgt := 42) (a := 5) (b := 2) S.1 S.2.1 (by omega) (by omega) dL_act_28 (by decide) (fun c_3 => ?_) (fun c_3 => ?_)
      · skip
        refine lv_iload_n (pc := 42) S.1 S.2.1 dL_act_42 rfl (lv_at hl 1 rfl) ?_
        refine lv_iconst (pc := 43) (v := nI 3) S.1 S.2.1 dL_act_43 (by decide) ?_
        refine hv_icmp_ne (pc := 44) (tgt := 54) (a := 5) (b := 3) S.1 S.2.1 (by omega) (by omega) dL_act_44 (by decide) (fun c_4 => ?_) (fun c_4 => ?_)
        · skip
          refine lv_iload_n (pc := 54) S.1 S.2.1 dL_act_54 rfl (lv_at hl 1 rfl) ?_
          refine lv_iconst (pc := 55) (v := nI 4) S.1 S.2.1 dL_act_55 (by decide) ?_
          refine hv_icmp_ne (pc := 56) (tgt := 68) (a := 5) (b := 4) S.1 S.2.1 (by omega) (by omega) dL_act_56 (by decide) (fun c_5 => ?_) (fun c_5 => ?_)
          · skip
            refine lv_iload_n (pc := 68) S.1 S.2.1 dL_act_68 rfl (lv_at hl 1 rfl) ?_
            refine lv_iconst (pc := 69) (v := nI 5) S.1 S.2.1 dL_act_69 (by decide) ?_
            refine hv_icmp_ne (pc := 70) (tgt := 82) (a := 5) (b := 5) S.1 S.2.1 (by omega) (by omega) dL_act_70 (by decide) (fun c_6 => ?_) (fun c_6 => ?_)
            · skip
              exact absurd c_6 (by omega)
            · skip
              refine lv_aload_n (pc := 73) S.1 S.2.1 dL_act_73 rfl (lv_at hl 0 rfl) ?_
              refine lv_iload_n (pc := 74) S.1 S.2.1 dL_act_74 rfl (lv_at hl 2 rfl) ?_
              refine lv_iload_n (pc := 75) S.1 S.2.1 dL_act_75 rfl (lv_at hl 3 rfl) ?_
              refine hv_callX (pc := 76) (vx_runV (As := [.int (x0), .int (x1)]) (rest := []) S (yr_block l hfl D cA ga φ H.size az tn tk tm tg sc ar w ez o oi (x0) (x1) hY hI hT h200 1 hz (by decide)) (cwV 2 S.2.2.2.2 (gV tw_728 tw_729 tw_730 tw_1 tw_731) rfl rfl rfl (by decide +kernel) ⟨Nat.le_of_ble_eq_true rfl, Nat.le_of_ble_eq_true rfl⟩) (pre0_V hH hK hX hS hA (ycv hH hK hY)) rfl rfl hl.1 rfl (lv_room (Nat.le_of_ble_eq_true rfl)) dL_act_76 ⟨Nat.le_of_ble_eq_true rfl, Nat.le_of_ble_eq_true rfl⟩) hS (af_le hH hS hA) (fun E ce q9 φ9 H locs hx9 hH hS hce hcv hcl => ?_) (fun v φ9 H locs hw9 hH hS => ?_)
              · skip
                obtain ⟨hq9, rfl⟩ := hx9
                rw [hq9] at hH
                refine vx_catch (own := RL) (name := "java/lang/IllegalArgumentException") S.2.2.2.1 [⟨0, 302, 303, 78⟩] ⟨0, 302, 308, 81⟩ [⟨0, 302, 313, 84⟩] (by rw [ht9]; rfl) (fun z hz => by obtain rfl := List.mem_singleton.mp hz; exact Or.inr ⟨by decide, _, S.2.2.2.2 _ tw_264, hX.nc2⟩) (by decide) (by decide) (S.2.2.2.2 _ tw_265) (va_Nw.use (tabW_on tabIAE) (hX.tabs _ tabIAE)) hce hcv hcl ?_
                refine lv_astore (pc := 308) (lv' := [(5, .ref q9), (0, .ref (az 0)), (1, .int (nI 5)), (2, .int (x0)), (3, .int (x1)), (4, .int (x2))]) S.1 S.2.1 dL_act_308 hl (by decide) rfl (fun ls hl => ?_)
                refine lv_ldc (pc := 310) (v := (-16820000 : Int32)) S.1 S.2.1 S.2.2.2.1 (S.2.2.2.2 _ tw_886) dL_act_310 ?_
                exact hv_ret (pc := 312) (v := (-16820000 : Int32)) S hr rfl hlocks hH hS (⟨rfl, rfl⟩) (Nat.le_of_ble_eq_true rfl) (Nat.le_of_ble_eq_true rfl) dL_act_312
              · skip
                exact absurd hw9 id
          · skip
            exact absurd c_5 (by omega)
        · skip
          exact absurd c_4 (by omega)
      · skip
        exact absurd c_3 (by omega)
    · skip
      exact absurd c_2 (by omega)
  · skip
    exact absurd c_1 (by omega)

set_option maxHeartbeats 4000000 in
set_option maxRecDepth 100000 in
/-- act, block: it refuses -/
theorem ax_block_2 (l : Launch) (hfl : l.stackTraces = false) (D : va_G) (cA : Nat → ClassId) (ga : Nat → Nat → Nat) (φ : hpM) (sz : Nat) (az : Nat → Nat) (tn tk tm : Nat) (tg sc : Nat → Nat) (ar : Nat → Nat → Nat) (w : Nat → Nat → Nat → Nat) (ez o oi : Nat → Nat → Nat) (x0 x1 x2 : Int32) (hY : YW cA ga az tk tm tg sc ar w ez o φ) (hI : LI tn sc ar w ez oi) (hT : TY tk tg) (h200 : tn ≤ 200) (hz : blockX (sc 4) (x0) (x1) = 2) : hW l yL_act cL_act 6 (some .int) [(0, 302, 303, 78), (0, 302, 308, 81), (0, 302, 313, 84)] { frames := 10, cells := 4, slots := 20, locals := 320 } [.ref (az 0), .int (nI 5), .int (x0), .int (x1), .int (x2)] D cA ga φ sz (fun v φ' => v = some (.int (-16830000)) ∧ φ' = φ) 4 20 := by
  refine hW.of (by decide) (Nat.le_of_ble_eq_true rfl) rfl ?_
  intro p e s m args below meth c ls H locs S hr hlocks ht9 hsz hHz hH hK hX hS hA hl
  refine lv_iload_n (pc := 0) S.1 S.2.1 dL_act_0 rfl (lv_at hl 1 rfl) ?_
  refine hv_if_ne (pc := 1) (tgt := 13) (a := 5) S.1 S.2.1 (by omega) dL_act_1 (by decide) (fun c_1 => ?_) (fun c_1 => ?_)
  · skip
    refine lv_iload_n (pc := 13) S.1 S.2.1 dL_act_13 rfl (lv_at hl 1 rfl) ?_
    refine lv_iconst (pc := 14) (v := nI 1) S.1 S.2.1 dL_act_14 (by decide) ?_
    refine hv_icmp_ne (pc := 15) (tgt := 26) (a := 5) (b := 1) S.1 S.2.1 (by omega) (by omega) dL_act_15 (by decide) (fun c_2 => ?_) (fun c_2 => ?_)
    · skip
      refine lv_iload_n (pc := 26) S.1 S.2.1 dL_act_26 rfl (lv_at hl 1 rfl) ?_
      refine lv_iconst (pc := 27) (v := nI 2) S.1 S.2.1 dL_act_27 (by decide) ?_
      refine hv_icmp_ne (pc := 28) (tgt := 42) (a := 5) (b := 2) S.1 S.2.1 (by omega) (by omega) dL_act_28 (by decide) (fun c_3 => ?_) (fun c_3 => ?_)
      · skip
        refine lv_iload_n (pc := 42) S.1 S.2.1 dL_act_42 rfl (lv_at hl 1 rfl) ?_
        refine lv_iconst (pc := 43) (v := nI 3) S.1 S.2.1 dL_act_43 (by decide) ?_
        refine hv_icmp_ne (pc := 44) (tgt := 54) (a := 5) (b := 3) S.1 S.2.1 (by omega) (by omega) dL_act_44 (by decide) (fun c_4 => ?_) (fun c_4 => ?_)
        · skip
          refine lv_iload_n (pc := 54) S.1 S.2.1 dL_act_54 rfl (lv_at hl 1 rfl) ?_
          refine lv_iconst (pc := 55) (v := nI 4) S.1 S.2.1 dL_act_55 (by decide) ?_
          refine hv_icmp_ne (pc := 56) (tgt := 68) (a := 5) (b := 4) S.1 S.2.1 (by omega) (by omega) dL_act_56 (by decide) (fun c_5 => ?_) (fun c_5 => ?_)
          · skip
            refine lv_iload_n (pc := 68) S.1 S.2.1 dL_act_68 rfl (lv_at hl 1 rfl) ?_
            refine lv_iconst (pc := 69) (v := nI 5) S.1 S.2.1 dL_act_69 (by decide) ?_
            refine hv_icmp_ne (pc := 70) (tgt := 82) (a := 5) (b := 5) S.1 S.2.1 (by omega) (by omega) dL_act_70 (by decide) (fun c_6 => ?_) (fun c_6 => ?_)
            · skip
              exact absurd c_6 (by omega)
            · skip
              refine lv_aload_n (pc := 73) S.1 S.2.1 dL_act_73 rfl (lv_at hl 0 rfl) ?_
              refine lv_iload_n (pc := 74) S.1 S.2.1 dL_act_74 rfl (lv_at hl 2 rfl) ?_
              refine lv_iload_n (pc := 75) S.1 S.2.1 dL_act_75 rfl (lv_at hl 3 rfl) ?_
              refine hv_callX (pc := 76) (vx_runV (As := [.int (x0), .int (x1)]) (rest := []) S (yr_block l hfl D cA ga φ H.size az tn tk tm tg sc ar w ez o oi (x0) (x1) hY hI hT h200 2 hz (by decide)) (cwV 2 S.2.2.2.2 (gV tw_728 tw_729 tw_730 tw_1 tw_731) rfl rfl rfl (by decide +kernel) ⟨Nat.le_of_ble_eq_true rfl, Nat.le_of_ble_eq_true rfl⟩) (pre0_V hH hK hX hS hA (ycv hH hK hY)) rfl rfl hl.1 rfl (lv_room (Nat.le_of_ble_eq_true rfl)) dL_act_76 ⟨Nat.le_of_ble_eq_true rfl, Nat.le_of_ble_eq_true rfl⟩) hS (af_le hH hS hA) (fun E ce q9 φ9 H locs hx9 hH hS hce hcv hcl => ?_) (fun v φ9 H locs hw9 hH hS => ?_)
              · skip
                obtain ⟨hq9, rfl⟩ := hx9
                rw [hq9] at hH
                refine vx_catch (own := RL) (name := "java/lang/IllegalStateException") S.2.2.2.1 [⟨0, 302, 303, 78⟩, ⟨0, 302, 308, 81⟩] ⟨0, 302, 313, 84⟩ [] (by rw [ht9]; rfl) (List.forall_mem_cons.mpr ⟨Or.inr ⟨by decide, _, S.2.2.2.2 _ tw_264, hX.nc3⟩, List.forall_mem_cons.mpr ⟨Or.inr ⟨by decide, _, S.2.2.2.2 _ tw_265, hX.nc1⟩, fun z hz => by cases hz⟩⟩) (by decide) (by decide) (S.2.2.2.2 _ tw_266) (va_Nw.use (tabW_on tabISE) (hX.tabs _ tabISE)) hce hcv hcl ?_
                refine lv_astore (pc := 313) (lv' := [(5, .ref q9), (0, .ref (az 0)), (1, .int (nI 5)), (2, .int (x0)), (3, .int (x1)), (4, .int (x2))]) S.1 S.2.1 dL_act_313 hl (by decide) rfl (fun ls hl => ?_)
                refine lv_ldc (pc := 315) (v := (-16830000 : Int32)) S.1 S.2.1 S.2.2.2.1 (S.2.2.2.2 _ tw_887) dL_act_315 ?_
                exact hv_ret (pc := 317) (v := (-16830000 : Int32)) S hr rfl hlocks hH hS (⟨rfl, rfl⟩) (Nat.le_of_ble_eq_true rfl) (Nat.le_of_ble_eq_true rfl) dL_act_317
              · skip
                exact absurd hw9 id
          · skip
            exact absurd c_5 (by omega)
        · skip
          exact absurd c_4 (by omega)
      · skip
        exact absurd c_3 (by omega)
    · skip
      exact absurd c_2 (by omega)
  · skip
    exact absurd c_1 (by omega)

set_option maxHeartbeats 4000000 in
set_option maxRecDepth 100000 in
/-- act, draw: it refuses -/
theorem ax_draw_3 (l : Launch) (hfl : l.stackTraces = false) (D : va_G) (cA : Nat → ClassId) (ga : Nat → Nat → Nat) (φ : hpM) (sz : Nat) (az : Nat → Nat) (tn tk tm : Nat) (tg sc : Nat → Nat) (ar : Nat → Nat → Nat) (w : Nat → Nat → Nat → Nat) (ez o oi : Nat → Nat → Nat) (x0 x1 x2 : Int32) (hY : YW cA ga az tk tm tg sc ar w ez o φ) (hI : LI tn sc ar w ez oi) (hT : TY tk tg) (h200 : tn ≤ 200) (hz : drawX (sc 3) (sc 4) (x0) (x1) = 3) : hW l yL_act cL_act 6 (some .int) [(0, 302, 303, 78), (0, 302, 308, 81), (0, 302, 313, 84)] { frames := 13, cells := 4, slots := 24, locals := 500 } [.ref (az 0), .int (nI 6), .int (x0), .int (x1), .int (x2)] D cA ga φ sz (fun v φ' => v = some (.int (-16810000)) ∧ φ' = φ) 4 24 := by
  refine hW.of (by decide) (Nat.le_of_ble_eq_true rfl) rfl ?_
  intro p e s m args below meth c ls H locs S hr hlocks ht9 hsz hHz hH hK hX hS hA hl
  refine lv_iload_n (pc := 0) S.1 S.2.1 dL_act_0 rfl (lv_at hl 1 rfl) ?_
  refine hv_if_ne (pc := 1) (tgt := 13) (a := 6) S.1 S.2.1 (by omega) dL_act_1 (by decide) (fun c_1 => ?_) (fun c_1 => ?_)
  · skip
    refine lv_iload_n (pc := 13) S.1 S.2.1 dL_act_13 rfl (lv_at hl 1 rfl) ?_
    refine lv_iconst (pc := 14) (v := nI 1) S.1 S.2.1 dL_act_14 (by decide) ?_
    refine hv_icmp_ne (pc := 15) (tgt := 26) (a := 6) (b := 1) S.1 S.2.1 (by omega) (by omega) dL_act_15 (by decide) (fun c_2 => ?_) (fun c_2 => ?_)
    · skip
      refine lv_iload_n (pc := 26) S.1 S.2.1 dL_act_26 rfl (lv_at hl 1 rfl) ?_
      refine lv_iconst (pc := 27) (v := nI 2) S.1 S.2.1 dL_act_27 (by decide) ?_
      refine hv_icmp_ne (pc := 28) (tgt := 42) (a := 6) (b := 2) S.1 S.2.1 (by omega) (by omega) dL_act_28 (by decide) (fun c_3 => ?_) (fun c_3 => ?_)
      · skip
        refine lv_iload_n (pc := 42) S.1 S.2.1 dL_act_42 rfl (lv_at hl 1 rfl) ?_
        refine lv_iconst (pc := 43) (v := nI 3) S.1 S.2.1 dL_act_43 (by decide) ?_
        refine hv_icmp_ne (pc := 44) (tgt := 54) (a := 6) (b := 3) S.1 S.2.1 (by omega) (by omega) dL_act_44 (by decide) (fun c_4 => ?_) (fun c_4 => ?_)
        · skip
          refine lv_iload_n (pc := 54) S.1 S.2.1 dL_act_54 rfl (lv_at hl 1 rfl) ?_
          refine lv_iconst (pc := 55) (v := nI 4) S.1 S.2.1 dL_act_55 (by decide) ?_
          refine hv_icmp_ne (pc := 56) (tgt := 68) (a := 6) (b := 4) S.1 S.2.1 (by omega) (by omega) dL_act_56 (by decide) (fun c_5 => ?_) (fun c_5 => ?_)
          · skip
            refine lv_iload_n (pc := 68) S.1 S.2.1 dL_act_68 rfl (lv_at hl 1 rfl) ?_
            refine lv_iconst (pc := 69) (v := nI 5) S.1 S.2.1 dL_act_69 (by decide) ?_
            refine hv_icmp_ne (pc := 70) (tgt := 82) (a := 6) (b := 5) S.1 S.2.1 (by omega) (by omega) dL_act_70 (by decide) (fun c_6 => ?_) (fun c_6 => ?_)
            · skip
              refine lv_iload_n (pc := 82) S.1 S.2.1 dL_act_82 rfl (lv_at hl 1 rfl) ?_
              refine lv_bipush (pc := 83) (v := nI 6) S.1 S.2.1 dL_act_83 (by decide) ?_
              refine hv_icmp_ne (pc := 85) (tgt := 97) (a := 6) (b := 6) S.1 S.2.1 (by omega) (by omega) dL_act_85 (by decide) (fun c_7 => ?_) (fun c_7 => ?_)
              · skip
                exact absurd c_7 (by omega)
              · skip
                refine lv_aload_n (pc := 88) S.1 S.2.1 dL_act_88 rfl (lv_at hl 0 rfl) ?_
                refine lv_iload_n (pc := 89) S.1 S.2.1 dL_act_89 rfl (lv_at hl 2 rfl) ?_
                refine lv_iload_n (pc := 90) S.1 S.2.1 dL_act_90 rfl (lv_at hl 3 rfl) ?_
                refine hv_callX (pc := 91) (vx_runV (As := [.int (x0), .int (x1)]) (rest := []) S (yr_draw l hfl D cA ga φ H.size az tn tk tm tg sc ar w ez o oi (x0) (x1) hY hI hT h200 3 hz (by decide)) (cwV 2 S.2.2.2.2 (gV tw_744 tw_745 tw_746 tw_1 tw_747) rfl rfl rfl (by decide +kernel) ⟨Nat.le_of_ble_eq_true rfl, Nat.le_of_ble_eq_true rfl⟩) (pre0_V hH hK hX hS hA (ycv hH hK hY)) rfl rfl hl.1 rfl (lv_room (Nat.le_of_ble_eq_true rfl)) dL_act_91 ⟨Nat.le_of_ble_eq_true rfl, Nat.le_of_ble_eq_true rfl⟩) hS (af_le hH hS hA) (fun E ce q9 φ9 H locs hx9 hH hS hce hcv hcl => ?_) (fun v φ9 H locs hw9 hH hS => ?_)
                · skip
                  obtain ⟨hq9, rfl⟩ := hx9
                  rw [hq9] at hH
                  refine vx_catch (own := RL) (name := "java/lang/IndexOutOfBoundsException") S.2.2.2.1 [] ⟨0, 302, 303, 78⟩ [⟨0, 302, 308, 81⟩, ⟨0, 302, 313, 84⟩] (by rw [ht9]; rfl) (fun z hz => by cases hz) (by decide) (by decide) (S.2.2.2.2 _ tw_264) (va_Nw.use (tabW_on tabIOOBE) (hX.tabs _ tabIOOBE)) hce hcv hcl ?_
                  refine lv_astore (pc := 303) (lv' := [(5, .ref q9), (0, .ref (az 0)), (1, .int (nI 6)), (2, .int (x0)), (3, .int (x1)), (4, .int (x2))]) S.1 S.2.1 dL_act_303 hl (by decide) rfl (fun ls hl => ?_)
                  refine lv_ldc (pc := 305) (v := (-16810000 : Int32)) S.1 S.2.1 S.2.2.2.1 (S.2.2.2.2 _ tw_885) dL_act_305 ?_
                  exact hv_ret (pc := 307) (v := (-16810000 : Int32)) S hr rfl hlocks hH hS (⟨rfl, rfl⟩) (Nat.le_of_ble_eq_true rfl) (Nat.le_of_ble_eq_true rfl) dL_act_307
                · skip
                  exact absurd hw9 id
            · skip
              exact absurd c_6 (by omega)
          · skip
            exact absurd c_5 (by omega)
        · skip
          exact absurd c_4 (by omega)
      · skip
        exact absurd c_3 (by omega)
    · skip
      exact absurd c_2 (by omega)
  · skip
    exact absurd c_1 (by omega)

set_option maxHeartbeats 4000000 in
set_option maxRecDepth 100000 in
/-- act, trim: it refuses -/
theorem ax_trim_3 (l : Launch) (hfl : l.stackTraces = false) (D : va_G) (cA : Nat → ClassId) (ga : Nat → Nat → Nat) (φ : hpM) (sz : Nat) (az : Nat → Nat) (tn tk tm : Nat) (tg sc : Nat → Nat) (ar : Nat → Nat → Nat) (w : Nat → Nat → Nat → Nat) (ez o oi : Nat → Nat → Nat) (x0 x1 x2 : Int32) (hY : YW cA ga az tk tm tg sc ar w ez o φ) (hI : LI tn sc ar w ez oi) (hT : TY tk tg) (h200 : tn ≤ 200) (hz : trimX (sc 3) (ar 9) (x0) = 3) : hW l yL_act cL_act 6 (some .int) [(0, 302, 303, 78), (0, 302, 308, 81), (0, 302, 313, 84)] { frames := 15, cells := 3, slots := 18, locals := 620 } [.ref (az 0), .int (nI 7), .int (x0), .int (x1), .int (x2)] D cA ga φ sz (fun v φ' => v = some (.int (-16810000)) ∧ φ' = φ) 3 18 := by
  refine hW.of (by decide) (Nat.le_of_ble_eq_true rfl) rfl ?_
  intro p e s m args below meth c ls H locs S hr hlocks ht9 hsz hHz hH hK hX hS hA hl
  refine lv_iload_n (pc := 0) S.1 S.2.1 dL_act_0 rfl (lv_at hl 1 rfl) ?_
  refine hv_if_ne (pc := 1) (tgt := 13) (a := 7) S.1 S.2.1 (by omega) dL_act_1 (by decide) (fun c_1 => ?_) (fun c_1 => ?_)
  · skip
    refine lv_iload_n (pc := 13) S.1 S.2.1 dL_act_13 rfl (lv_at hl 1 rfl) ?_
    refine lv_iconst (pc := 14) (v := nI 1) S.1 S.2.1 dL_act_14 (by decide) ?_
    refine hv_icmp_ne (pc := 15) (tgt := 26) (a := 7) (b := 1) S.1 S.2.1 (by omega) (by omega) dL_act_15 (by decide) (fun c_2 => ?_) (fun c_2 => ?_)
    · skip
      refine lv_iload_n (pc := 26) S.1 S.2.1 dL_act_26 rfl (lv_at hl 1 rfl) ?_
      refine lv_iconst (pc := 27) (v := nI 2) S.1 S.2.1 dL_act_27 (by decide) ?_
      refine hv_icmp_ne (pc := 28) (tgt := 42) (a := 7) (b := 2) S.1 S.2.1 (by omega) (by omega) dL_act_28 (by decide) (fun c_3 => ?_) (fun c_3 => ?_)
      · skip
        refine lv_iload_n (pc := 42) S.1 S.2.1 dL_act_42 rfl (lv_at hl 1 rfl) ?_
        refine lv_iconst (pc := 43) (v := nI 3) S.1 S.2.1 dL_act_43 (by decide) ?_
        refine hv_icmp_ne (pc := 44) (tgt := 54) (a := 7) (b := 3) S.1 S.2.1 (by omega) (by omega) dL_act_44 (by decide) (fun c_4 => ?_) (fun c_4 => ?_)
        · skip
          refine lv_iload_n (pc := 54) S.1 S.2.1 dL_act_54 rfl (lv_at hl 1 rfl) ?_
          refine lv_iconst (pc := 55) (v := nI 4) S.1 S.2.1 dL_act_55 (by decide) ?_
          refine hv_icmp_ne (pc := 56) (tgt := 68) (a := 7) (b := 4) S.1 S.2.1 (by omega) (by omega) dL_act_56 (by decide) (fun c_5 => ?_) (fun c_5 => ?_)
          · skip
            refine lv_iload_n (pc := 68) S.1 S.2.1 dL_act_68 rfl (lv_at hl 1 rfl) ?_
            refine lv_iconst (pc := 69) (v := nI 5) S.1 S.2.1 dL_act_69 (by decide) ?_
            refine hv_icmp_ne (pc := 70) (tgt := 82) (a := 7) (b := 5) S.1 S.2.1 (by omega) (by omega) dL_act_70 (by decide) (fun c_6 => ?_) (fun c_6 => ?_)
            · skip
              refine lv_iload_n (pc := 82) S.1 S.2.1 dL_act_82 rfl (lv_at hl 1 rfl) ?_
              refine lv_bipush (pc := 83) (v := nI 6) S.1 S.2.1 dL_act_83 (by decide) ?_
              refine hv_icmp_ne (pc := 85) (tgt := 97) (a := 7) (b := 6) S.1 S.2.1 (by omega) (by omega) dL_act_85 (by decide) (fun c_7 => ?_) (fun c_7 => ?_)
              · skip
                refine lv_iload_n (pc := 97) S.1 S.2.1 dL_act_97 rfl (lv_at hl 1 rfl) ?_
                refine lv_bipush (pc := 98) (v := nI 7) S.1 S.2.1 dL_act_98 (by decide) ?_
                refine hv_icmp_ne (pc := 100) (tgt := 119) (a := 7) (b := 7) S.1 S.2.1 (by omega) (by omega) dL_act_100 (by decide) (fun c_8 => ?_) (fun c_8 => ?_)
                · skip
                  exact absurd c_8 (by omega)
                · skip
                  refine lv_aload_n (pc := 103) S.1 S.2.1 dL_act_103 rfl (lv_at hl 0 rfl) ?_
                  refine lv_iload_n (pc := 104) S.1 S.2.1 dL_act_104 rfl (lv_at hl 2 rfl) ?_
                  refine hv_callX (pc := 105) (vx_runV (As := [.int (x0)]) (rest := []) S (yr_trim l hfl D cA ga φ H.size az tn tk tm tg sc ar w ez o oi (x0) hY hI hT h200 3 hz (by decide)) (cwV 1 S.2.2.2.2 (gV tw_775 tw_776 tw_777 tw_1 tw_778) rfl rfl rfl (by decide +kernel) ⟨Nat.le_of_ble_eq_true rfl, Nat.le_of_ble_eq_true rfl⟩) (pre0_V hH hK hX hS hA (ycv hH hK hY)) rfl rfl hl.1 rfl (lv_room (Nat.le_of_ble_eq_true rfl)) dL_act_105 ⟨Nat.le_of_ble_eq_true rfl, Nat.le_of_ble_eq_true rfl⟩) hS (af_le hH hS hA) (fun E ce q9 φ9 H locs hx9 hH hS hce hcv hcl => ?_) (fun v φ9 H locs hw9 hH hS => ?_)
                  · skip
                    obtain ⟨hq9, rfl⟩ := hx9
                    rw [hq9] at hH
                    refine vx_catch (own := RL) (name := "java/lang/IndexOutOfBoundsException") S.2.2.2.1 [] ⟨0, 302, 303, 78⟩ [⟨0, 302, 308, 81⟩, ⟨0, 302, 313, 84⟩] (by rw [ht9]; rfl) (fun z hz => by cases hz) (by decide) (by decide) (S.2.2.2.2 _ tw_264) (va_Nw.use (tabW_on tabIOOBE) (hX.tabs _ tabIOOBE)) hce hcv hcl ?_
                    refine lv_astore (pc := 303) (lv' := [(5, .ref q9), (0, .ref (az 0)), (1, .int (nI 7)), (2, .int (x0)), (3, .int (x1)), (4, .int (x2))]) S.1 S.2.1 dL_act_303 hl (by decide) rfl (fun ls hl => ?_)
                    refine lv_ldc (pc := 305) (v := (-16810000 : Int32)) S.1 S.2.1 S.2.2.2.1 (S.2.2.2.2 _ tw_885) dL_act_305 ?_
                    exact hv_ret (pc := 307) (v := (-16810000 : Int32)) S hr rfl hlocks hH hS (⟨rfl, rfl⟩) (Nat.le_of_ble_eq_true rfl) (Nat.le_of_ble_eq_true rfl) dL_act_307
                  · skip
                    exact absurd hw9 id
              · skip
                exact absurd c_7 (by omega)
            · skip
              exact absurd c_6 (by omega)
          · skip
            exact absurd c_5 (by omega)
        · skip
          exact absurd c_4 (by omega)
      · skip
        exact absurd c_3 (by omega)
    · skip
      exact absurd c_2 (by omega)
  · skip
    exact absurd c_1 (by omega)

set_option maxHeartbeats 4000000 in
set_option maxRecDepth 100000 in
/-- act, trim: it refuses -/
theorem ax_trim_2 (l : Launch) (hfl : l.stackTraces = false) (D : va_G) (cA : Nat → ClassId) (ga : Nat → Nat → Nat) (φ : hpM) (sz : Nat) (az : Nat → Nat) (tn tk tm : Nat) (tg sc : Nat → Nat) (ar : Nat → Nat → Nat) (w : Nat → Nat → Nat → Nat) (ez o oi : Nat → Nat → Nat) (x0 x1 x2 : Int32) (hY : YW cA ga az tk tm tg sc ar w ez o φ) (hI : LI tn sc ar w ez oi) (hT : TY tk tg) (h200 : tn ≤ 200) (hz : trimX (sc 3) (ar 9) (x0) = 2) : hW l yL_act cL_act 6 (some .int) [(0, 302, 303, 78), (0, 302, 308, 81), (0, 302, 313, 84)] { frames := 15, cells := 3, slots := 18, locals := 620 } [.ref (az 0), .int (nI 7), .int (x0), .int (x1), .int (x2)] D cA ga φ sz (fun v φ' => v = some (.int (-16830000)) ∧ φ' = φ) 3 18 := by
  refine hW.of (by decide) (Nat.le_of_ble_eq_true rfl) rfl ?_
  intro p e s m args below meth c ls H locs S hr hlocks ht9 hsz hHz hH hK hX hS hA hl
  refine lv_iload_n (pc := 0) S.1 S.2.1 dL_act_0 rfl (lv_at hl 1 rfl) ?_
  refine hv_if_ne (pc := 1) (tgt := 13) (a := 7) S.1 S.2.1 (by omega) dL_act_1 (by decide) (fun c_1 => ?_) (fun c_1 => ?_)
  · skip
    refine lv_iload_n (pc := 13) S.1 S.2.1 dL_act_13 rfl (lv_at hl 1 rfl) ?_
    refine lv_iconst (pc := 14) (v := nI 1) S.1 S.2.1 dL_act_14 (by decide) ?_
    refine hv_icmp_ne (pc := 15) (tgt := 26) (a := 7) (b := 1) S.1 S.2.1 (by omega) (by omega) dL_act_15 (by decide) (fun c_2 => ?_) (fun c_2 => ?_)
    · skip
      refine lv_iload_n (pc := 26) S.1 S.2.1 dL_act_26 rfl (lv_at hl 1 rfl) ?_
      refine lv_iconst (pc := 27) (v := nI 2) S.1 S.2.1 dL_act_27 (by decide) ?_
      refine hv_icmp_ne (pc := 28) (tgt := 42) (a := 7) (b := 2) S.1 S.2.1 (by omega) (by omega) dL_act_28 (by decide) (fun c_3 => ?_) (fun c_3 => ?_)
      · skip
        refine lv_iload_n (pc := 42) S.1 S.2.1 dL_act_42 rfl (lv_at hl 1 rfl) ?_
        refine lv_iconst (pc := 43) (v := nI 3) S.1 S.2.1 dL_act_43 (by decide) ?_
        refine hv_icmp_ne (pc := 44) (tgt := 54) (a := 7) (b := 3) S.1 S.2.1 (by omega) (by omega) dL_act_44 (by decide) (fun c_4 => ?_) (fun c_4 => ?_)
        · skip
          refine lv_iload_n (pc := 54) S.1 S.2.1 dL_act_54 rfl (lv_at hl 1 rfl) ?_
          refine lv_iconst (pc := 55) (v := nI 4) S.1 S.2.1 dL_act_55 (by decide) ?_
          refine hv_icmp_ne (pc := 56) (tgt := 68) (a := 7) (b := 4) S.1 S.2.1 (by omega) (by omega) dL_act_56 (by decide) (fun c_5 => ?_) (fun c_5 => ?_)
          · skip
            refine lv_iload_n (pc := 68) S.1 S.2.1 dL_act_68 rfl (lv_at hl 1 rfl) ?_
            refine lv_iconst (pc := 69) (v := nI 5) S.1 S.2.1 dL_act_69 (by decide) ?_
            refine hv_icmp_ne (pc := 70) (tgt := 82) (a := 7) (b := 5) S.1 S.2.1 (by omega) (by omega) dL_act_70 (by decide) (fun c_6 => ?_) (fun c_6 => ?_)
            · skip
              refine lv_iload_n (pc := 82) S.1 S.2.1 dL_act_82 rfl (lv_at hl 1 rfl) ?_
              refine lv_bipush (pc := 83) (v := nI 6) S.1 S.2.1 dL_act_83 (by decide) ?_
              refine hv_icmp_ne (pc := 85) (tgt := 97) (a := 7) (b := 6) S.1 S.2.1 (by omega) (by omega) dL_act_85 (by decide) (fun c_7 => ?_) (fun c_7 => ?_)
              · skip
                refine lv_iload_n (pc := 97) S.1 S.2.1 dL_act_97 rfl (lv_at hl 1 rfl) ?_
                refine lv_bipush (pc := 98) (v := nI 7) S.1 S.2.1 dL_act_98 (by decide) ?_
                refine hv_icmp_ne (pc := 100) (tgt := 119) (a := 7) (b := 7) S.1 S.2.1 (by omega) (by omega) dL_act_100 (by decide) (fun c_8 => ?_) (fun c_8 => ?_)
                · skip
                  exact absurd c_8 (by omega)
                · skip
                  refine lv_aload_n (pc := 103) S.1 S.2.1 dL_act_103 rfl (lv_at hl 0 rfl) ?_
                  refine lv_iload_n (pc := 104) S.1 S.2.1 dL_act_104 rfl (lv_at hl 2 rfl) ?_
                  refine hv_callX (pc := 105) (vx_runV (As := [.int (x0)]) (rest := []) S (yr_trim l hfl D cA ga φ H.size az tn tk tm tg sc ar w ez o oi (x0) hY hI hT h200 2 hz (by decide)) (cwV 1 S.2.2.2.2 (gV tw_775 tw_776 tw_777 tw_1 tw_778) rfl rfl rfl (by decide +kernel) ⟨Nat.le_of_ble_eq_true rfl, Nat.le_of_ble_eq_true rfl⟩) (pre0_V hH hK hX hS hA (ycv hH hK hY)) rfl rfl hl.1 rfl (lv_room (Nat.le_of_ble_eq_true rfl)) dL_act_105 ⟨Nat.le_of_ble_eq_true rfl, Nat.le_of_ble_eq_true rfl⟩) hS (af_le hH hS hA) (fun E ce q9 φ9 H locs hx9 hH hS hce hcv hcl => ?_) (fun v φ9 H locs hw9 hH hS => ?_)
                  · skip
                    obtain ⟨hq9, rfl⟩ := hx9
                    rw [hq9] at hH
                    refine vx_catch (own := RL) (name := "java/lang/IllegalStateException") S.2.2.2.1 [⟨0, 302, 303, 78⟩, ⟨0, 302, 308, 81⟩] ⟨0, 302, 313, 84⟩ [] (by rw [ht9]; rfl) (List.forall_mem_cons.mpr ⟨Or.inr ⟨by decide, _, S.2.2.2.2 _ tw_264, hX.nc3⟩, List.forall_mem_cons.mpr ⟨Or.inr ⟨by decide, _, S.2.2.2.2 _ tw_265, hX.nc1⟩, fun z hz => by cases hz⟩⟩) (by decide) (by decide) (S.2.2.2.2 _ tw_266) (va_Nw.use (tabW_on tabISE) (hX.tabs _ tabISE)) hce hcv hcl ?_
                    refine lv_astore (pc := 313) (lv' := [(5, .ref q9), (0, .ref (az 0)), (1, .int (nI 7)), (2, .int (x0)), (3, .int (x1)), (4, .int (x2))]) S.1 S.2.1 dL_act_313 hl (by decide) rfl (fun ls hl => ?_)
                    refine lv_ldc (pc := 315) (v := (-16830000 : Int32)) S.1 S.2.1 S.2.2.2.1 (S.2.2.2.2 _ tw_887) dL_act_315 ?_
                    exact hv_ret (pc := 317) (v := (-16830000 : Int32)) S hr rfl hlocks hH hS (⟨rfl, rfl⟩) (Nat.le_of_ble_eq_true rfl) (Nat.le_of_ble_eq_true rfl) dL_act_317
                  · skip
                    exact absurd hw9 id
              · skip
                exact absurd c_7 (by omega)
            · skip
              exact absurd c_6 (by omega)
          · skip
            exact absurd c_5 (by omega)
        · skip
          exact absurd c_4 (by omega)
      · skip
        exact absurd c_3 (by omega)
    · skip
      exact absurd c_2 (by omega)
  · skip
    exact absurd c_1 (by omega)

set_option maxHeartbeats 4000000 in
set_option maxRecDepth 100000 in
/-- act, pass: it refuses -/
theorem ax_pass_1 (l : Launch) (hfl : l.stackTraces = false) (D : va_G) (cA : Nat → ClassId) (ga : Nat → Nat → Nat) (φ : hpM) (sz : Nat) (az : Nat → Nat) (tn tk tm : Nat) (tg sc : Nat → Nat) (ar : Nat → Nat → Nat) (w : Nat → Nat → Nat → Nat) (ez o oi : Nat → Nat → Nat) (x0 x1 x2 : Int32) (hY : YW cA ga az tk tm tg sc ar w ez o φ) (hI : LI tn sc ar w ez oi) (hT : TY tk tg) (h200 : tn ≤ 200) (hz : passX (x0) = 1) : hW l yL_act cL_act 6 (some .int) [(0, 302, 303, 78), (0, 302, 308, 81), (0, 302, 313, 84)] { frames := 10, cells := 1, slots := 6, locals := 320 } [.ref (az 0), .int (nI 8), .int (x0), .int (x1), .int (x2)] D cA ga φ sz (fun v φ' => v = some (.int (-16820000)) ∧ φ' = φ) 1 6 := by
  refine hW.of (by decide) (Nat.le_of_ble_eq_true rfl) rfl ?_
  intro p e s m args below meth c ls H locs S hr hlocks ht9 hsz hHz hH hK hX hS hA hl
  refine lv_iload_n (pc := 0) S.1 S.2.1 dL_act_0 rfl (lv_at hl 1 rfl) ?_
  refine hv_if_ne (pc := 1) (tgt := 13) (a := 8) S.1 S.2.1 (by omega) dL_act_1 (by decide) (fun c_1 => ?_) (fun c_1 => ?_)
  · skip
    refine lv_iload_n (pc := 13) S.1 S.2.1 dL_act_13 rfl (lv_at hl 1 rfl) ?_
    refine lv_iconst (pc := 14) (v := nI 1) S.1 S.2.1 dL_act_14 (by decide) ?_
    refine hv_icmp_ne (pc := 15) (tgt := 26) (a := 8) (b := 1) S.1 S.2.1 (by omega) (by omega) dL_act_15 (by decide) (fun c_2 => ?_) (fun c_2 => ?_)
    · skip
      refine lv_iload_n (pc := 26) S.1 S.2.1 dL_act_26 rfl (lv_at hl 1 rfl) ?_
      refine lv_iconst (pc := 27) (v := nI 2) S.1 S.2.1 dL_act_27 (by decide) ?_
      refine hv_icmp_ne (pc := 28) (tgt := 42) (a := 8) (b := 2) S.1 S.2.1 (by omega) (by omega) dL_act_28 (by decide) (fun c_3 => ?_) (fun c_3 => ?_)
      · skip
        refine lv_iload_n (pc := 42) S.1 S.2.1 dL_act_42 rfl (lv_at hl 1 rfl) ?_
        refine lv_iconst (pc := 43) (v := nI 3) S.1 S.2.1 dL_act_43 (by decide) ?_
        refine hv_icmp_ne (pc := 44) (tgt := 54) (a := 8) (b := 3) S.1 S.2.1 (by omega) (by omega) dL_act_44 (by decide) (fun c_4 => ?_) (fun c_4 => ?_)
        · skip
          refine lv_iload_n (pc := 54) S.1 S.2.1 dL_act_54 rfl (lv_at hl 1 rfl) ?_
          refine lv_iconst (pc := 55) (v := nI 4) S.1 S.2.1 dL_act_55 (by decide) ?_
          refine hv_icmp_ne (pc := 56) (tgt := 68) (a := 8) (b := 4) S.1 S.2.1 (by omega) (by omega) dL_act_56 (by decide) (fun c_5 => ?_) (fun c_5 => ?_)
          · skip
            refine lv_iload_n (pc := 68) S.1 S.2.1 dL_act_68 rfl (lv_at hl 1 rfl) ?_
            refine lv_iconst (pc := 69) (v := nI 5) S.1 S.2.1 dL_act_69 (by decide) ?_
            refine hv_icmp_ne (pc := 70) (tgt := 82) (a := 8) (b := 5) S.1 S.2.1 (by omega) (by omega) dL_act_70 (by decide) (fun c_6 => ?_) (fun c_6 => ?_)
            · skip
              refine lv_iload_n (pc := 82) S.1 S.2.1 dL_act_82 rfl (lv_at hl 1 rfl) ?_
              refine lv_bipush (pc := 83) (v := nI 6) S.1 S.2.1 dL_act_83 (by decide) ?_
              refine hv_icmp_ne (pc := 85) (tgt := 97) (a := 8) (b := 6) S.1 S.2.1 (by omega) (by omega) dL_act_85 (by decide) (fun c_7 => ?_) (fun c_7 => ?_)
              · skip
                refine lv_iload_n (pc := 97) S.1 S.2.1 dL_act_97 rfl (lv_at hl 1 rfl) ?_
                refine lv_bipush (pc := 98) (v := nI 7) S.1 S.2.1 dL_act_98 (by decide) ?_
                refine hv_icmp_ne (pc := 100) (tgt := 119) (a := 8) (b := 7) S.1 S.2.1 (by omega) (by omega) dL_act_100 (by decide) (fun c_8 => ?_) (fun c_8 => ?_)
                · skip
                  refine lv_iload_n (pc := 119) S.1 S.2.1 dL_act_119 rfl (lv_at hl 1 rfl) ?_
                  refine lv_bipush (pc := 120) (v := nI 8) S.1 S.2.1 dL_act_120 (by decide) ?_
                  refine hv_icmp_ne (pc := 122) (tgt := 133) (a := 8) (b := 8) S.1 S.2.1 (by omega) (by omega) dL_act_122 (by decide) (fun c_9 => ?_) (fun c_9 => ?_)
                  · skip
                    exact absurd c_9 (by omega)
                  · skip
                    refine lv_aload_n (pc := 125) S.1 S.2.1 dL_act_125 rfl (lv_at hl 0 rfl) ?_
                    refine lv_iload_n (pc := 126) S.1 S.2.1 dL_act_126 rfl (lv_at hl 2 rfl) ?_
                    refine hv_callX (pc := 127) (vx_runV (As := [.int (x0)]) (rest := []) S (yr_pass l hfl D cA ga φ H.size az tn tk tm tg sc ar w ez o oi (x0) hY hI hT h200 1 hz (by decide)) (cwV 1 S.2.2.2.2 (gV tw_795 tw_796 tw_797 tw_1 tw_798) rfl rfl rfl (by decide +kernel) ⟨Nat.le_of_ble_eq_true rfl, Nat.le_of_ble_eq_true rfl⟩) (pre0_V hH hK hX hS hA (ycv hH hK hY)) rfl rfl hl.1 rfl (lv_room (Nat.le_of_ble_eq_true rfl)) dL_act_127 ⟨Nat.le_of_ble_eq_true rfl, Nat.le_of_ble_eq_true rfl⟩) hS (af_le hH hS hA) (fun E ce q9 φ9 H locs hx9 hH hS hce hcv hcl => ?_) (fun v φ9 H locs hw9 hH hS => ?_)
                    · skip
                      obtain ⟨hq9, rfl⟩ := hx9
                      rw [hq9] at hH
                      refine vx_catch (own := RL) (name := "java/lang/IllegalArgumentException") S.2.2.2.1 [⟨0, 302, 303, 78⟩] ⟨0, 302, 308, 81⟩ [⟨0, 302, 313, 84⟩] (by rw [ht9]; rfl) (fun z hz => by obtain rfl := List.mem_singleton.mp hz; exact Or.inr ⟨by decide, _, S.2.2.2.2 _ tw_264, hX.nc2⟩) (by decide) (by decide) (S.2.2.2.2 _ tw_265) (va_Nw.use (tabW_on tabIAE) (hX.tabs _ tabIAE)) hce hcv hcl ?_
                      refine lv_astore (pc := 308) (lv' := [(5, .ref q9), (0, .ref (az 0)), (1, .int (nI 8)), (2, .int (x0)), (3, .int (x1)), (4, .int (x2))]) S.1 S.2.1 dL_act_308 hl (by decide) rfl (fun ls hl => ?_)
                      refine lv_ldc (pc := 310) (v := (-16820000 : Int32)) S.1 S.2.1 S.2.2.2.1 (S.2.2.2.2 _ tw_886) dL_act_310 ?_
                      exact hv_ret (pc := 312) (v := (-16820000 : Int32)) S hr rfl hlocks hH hS (⟨rfl, rfl⟩) (Nat.le_of_ble_eq_true rfl) (Nat.le_of_ble_eq_true rfl) dL_act_312
                    · skip
                      exact absurd hw9 id
                · skip
                  exact absurd c_8 (by omega)
              · skip
                exact absurd c_7 (by omega)
            · skip
              exact absurd c_6 (by omega)
          · skip
            exact absurd c_5 (by omega)
        · skip
          exact absurd c_4 (by omega)
      · skip
        exact absurd c_3 (by omega)
    · skip
      exact absurd c_2 (by omega)
  · skip
    exact absurd c_1 (by omega)

set_option maxHeartbeats 4000000 in
set_option maxRecDepth 100000 in
/-- act, about: it refuses -/
theorem ax_about_3 (l : Launch) (hfl : l.stackTraces = false) (D : va_G) (cA : Nat → ClassId) (ga : Nat → Nat → Nat) (φ : hpM) (sz : Nat) (az : Nat → Nat) (tn tk tm : Nat) (tg sc : Nat → Nat) (ar : Nat → Nat → Nat) (w : Nat → Nat → Nat → Nat) (ez o oi : Nat → Nat → Nat) (x0 x1 x2 : Int32) (hY : YW cA ga az tk tm tg sc ar w ez o φ) (hI : LI tn sc ar w ez oi) (hT : TY tk tg) (h200 : tn ≤ 200) (hz : aboutX (sc 3) (x0) (x1) (x2) = 3) : hW l yL_act cL_act 6 (some .int) [(0, 302, 303, 78), (0, 302, 308, 81), (0, 302, 313, 84)] { frames := 11, cells := 5, slots := 30, locals := 380 } [.ref (az 0), .int (nI 9), .int (x0), .int (x1), .int (x2)] D cA ga φ sz (fun v φ' => v = some (.int (-16810000)) ∧ φ' = φ) 5 30 := by
  refine hW.of (by decide) (Nat.le_of_ble_eq_true rfl) rfl ?_
  intro p e s m args below meth c ls H locs S hr hlocks ht9 hsz hHz hH hK hX hS hA hl
  refine lv_iload_n (pc := 0) S.1 S.2.1 dL_act_0 rfl (lv_at hl 1 rfl) ?_
  refine hv_if_ne (pc := 1) (tgt := 13) (a := 9) S.1 S.2.1 (by omega) dL_act_1 (by decide) (fun c_1 => ?_) (fun c_1 => ?_)
  · skip
    refine lv_iload_n (pc := 13) S.1 S.2.1 dL_act_13 rfl (lv_at hl 1 rfl) ?_
    refine lv_iconst (pc := 14) (v := nI 1) S.1 S.2.1 dL_act_14 (by decide) ?_
    refine hv_icmp_ne (pc := 15) (tgt := 26) (a := 9) (b := 1) S.1 S.2.1 (by omega) (by omega) dL_act_15 (by decide) (fun c_2 => ?_) (fun c_2 => ?_)
    · skip
      refine lv_iload_n (pc := 26) S.1 S.2.1 dL_act_26 rfl (lv_at hl 1 rfl) ?_
      refine lv_iconst (pc := 27) (v := nI 2) S.1 S.2.1 dL_act_27 (by decide) ?_
      refine hv_icmp_ne (pc := 28) (tgt := 42) (a := 9) (b := 2) S.1 S.2.1 (by omega) (by omega) dL_act_28 (by decide) (fun c_3 => ?_) (fun c_3 => ?_)
      · skip
        refine lv_iload_n (pc := 42) S.1 S.2.1 dL_act_42 rfl (lv_at hl 1 rfl) ?_
        refine lv_iconst (pc := 43) (v := nI 3) S.1 S.2.1 dL_act_43 (by decide) ?_
        refine hv_icmp_ne (pc := 44) (tgt := 54) (a := 9) (b := 3) S.1 S.2.1 (by omega) (by omega) dL_act_44 (by decide) (fun c_4 => ?_) (fun c_4 => ?_)
        · skip
          refine lv_iload_n (pc := 54) S.1 S.2.1 dL_act_54 rfl (lv_at hl 1 rfl) ?_
          refine lv_iconst (pc := 55) (v := nI 4) S.1 S.2.1 dL_act_55 (by decide) ?_
          refine hv_icmp_ne (pc := 56) (tgt := 68) (a := 9) (b := 4) S.1 S.2.1 (by omega) (by omega) dL_act_56 (by decide) (fun c_5 => ?_) (fun c_5 => ?_)
          · skip
            refine lv_iload_n (pc := 68) S.1 S.2.1 dL_act_68 rfl (lv_at hl 1 rfl) ?_
            refine lv_iconst (pc := 69) (v := nI 5) S.1 S.2.1 dL_act_69 (by decide) ?_
            refine hv_icmp_ne (pc := 70) (tgt := 82) (a := 9) (b := 5) S.1 S.2.1 (by omega) (by omega) dL_act_70 (by decide) (fun c_6 => ?_) (fun c_6 => ?_)
            · skip
              refine lv_iload_n (pc := 82) S.1 S.2.1 dL_act_82 rfl (lv_at hl 1 rfl) ?_
              refine lv_bipush (pc := 83) (v := nI 6) S.1 S.2.1 dL_act_83 (by decide) ?_
              refine hv_icmp_ne (pc := 85) (tgt := 97) (a := 9) (b := 6) S.1 S.2.1 (by omega) (by omega) dL_act_85 (by decide) (fun c_7 => ?_) (fun c_7 => ?_)
              · skip
                refine lv_iload_n (pc := 97) S.1 S.2.1 dL_act_97 rfl (lv_at hl 1 rfl) ?_
                refine lv_bipush (pc := 98) (v := nI 7) S.1 S.2.1 dL_act_98 (by decide) ?_
                refine hv_icmp_ne (pc := 100) (tgt := 119) (a := 9) (b := 7) S.1 S.2.1 (by omega) (by omega) dL_act_100 (by decide) (fun c_8 => ?_) (fun c_8 => ?_)
                · skip
                  refine lv_iload_n (pc := 119) S.1 S.2.1 dL_act_119 rfl (lv_at hl 1 rfl) ?_
                  refine lv_bipush (pc := 120) (v := nI 8) S.1 S.2.1 dL_act_120 (by decide) ?_
                  refine hv_icmp_ne (pc := 122) (tgt := 133) (a := 9) (b := 8) S.1 S.2.1 (by omega) (by omega) dL_act_122 (by decide) (fun c_9 => ?_) (fun c_9 => ?_)
                  · skip
                    refine lv_iload_n (pc := 133) S.1 S.2.1 dL_act_133 rfl (lv_at hl 1 rfl) ?_
                    refine lv_bipush (pc := 134) (v := nI 9) S.1 S.2.1 dL_act_134 (by decide) ?_
                    refine hv_icmp_ne (pc := 136) (tgt := 150) (a := 9) (b := 9) S.1 S.2.1 (by omega) (by omega) dL_act_136 (by decide) (fun c_10 => ?_) (fun c_10 => ?_)
                    · skip
                      exact absurd c_10 (by omega)
                    · skip
                      refine lv_aload_n (pc := 139) S.1 S.2.1 dL_act_139 rfl (lv_at hl 0 rfl) ?_
                      refine lv_iload_n (pc := 140) S.1 S.2.1 dL_act_140 rfl (lv_at hl 2 rfl) ?_
                      refine lv_iload_n (pc := 141) S.1 S.2.1 dL_act_141 rfl (lv_at hl 3 rfl) ?_
                      refine lv_iload (pc := 142) S.1 S.2.1 dL_act_142 (lv_at hl 4 rfl) ?_
                      refine hv_callX (pc := 144) (vx_runV (As := [.int (x0), .int (x1), .int (x2)]) (rest := []) S (yr_about l hfl D cA ga φ H.size az tn tk tm tg sc ar w ez o oi (x0) (x1) (x2) hY hI hT h200 3 hz (by decide)) (cwV 3 S.2.2.2.2 (gV tw_122 tw_123 tw_124 tw_1 tw_125) rfl rfl rfl (by decide +kernel) ⟨Nat.le_of_ble_eq_true rfl, Nat.le_of_ble_eq_true rfl⟩) (pre0_V hH hK hX hS hA (ycv hH hK hY)) rfl rfl hl.1 rfl (lv_room (Nat.le_of_ble_eq_true rfl)) dL_act_144 ⟨Nat.le_of_ble_eq_true rfl, Nat.le_of_ble_eq_true rfl⟩) hS (af_le hH hS hA) (fun E ce q9 φ9 H locs hx9 hH hS hce hcv hcl => ?_) (fun v φ9 H locs hw9 hH hS => ?_)
                      · skip
                        obtain ⟨hq9, rfl⟩ := hx9
                        rw [hq9] at hH
                        refine vx_catch (own := RL) (name := "java/lang/IndexOutOfBoundsException") S.2.2.2.1 [] ⟨0, 302, 303, 78⟩ [⟨0, 302, 308, 81⟩, ⟨0, 302, 313, 84⟩] (by rw [ht9]; rfl) (fun z hz => by cases hz) (by decide) (by decide) (S.2.2.2.2 _ tw_264) (va_Nw.use (tabW_on tabIOOBE) (hX.tabs _ tabIOOBE)) hce hcv hcl ?_
                        refine lv_astore (pc := 303) (lv' := [(5, .ref q9), (0, .ref (az 0)), (1, .int (nI 9)), (2, .int (x0)), (3, .int (x1)), (4, .int (x2))]) S.1 S.2.1 dL_act_303 hl (by decide) rfl (fun ls hl => ?_)
                        refine lv_ldc (pc := 305) (v := (-16810000 : Int32)) S.1 S.2.1 S.2.2.2.1 (S.2.2.2.2 _ tw_885) dL_act_305 ?_
                        exact hv_ret (pc := 307) (v := (-16810000 : Int32)) S hr rfl hlocks hH hS (⟨rfl, rfl⟩) (Nat.le_of_ble_eq_true rfl) (Nat.le_of_ble_eq_true rfl) dL_act_307
                      · skip
                        exact absurd hw9 id
                  · skip
                    exact absurd c_9 (by omega)
                · skip
                  exact absurd c_8 (by omega)
              · skip
                exact absurd c_7 (by omega)
            · skip
              exact absurd c_6 (by omega)
          · skip
            exact absurd c_5 (by omega)
        · skip
          exact absurd c_4 (by omega)
      · skip
        exact absurd c_3 (by omega)
    · skip
      exact absurd c_2 (by omega)
  · skip
    exact absurd c_1 (by omega)

set_option maxHeartbeats 4000000 in
set_option maxRecDepth 100000 in
/-- act, about: it refuses -/
theorem ax_about_1 (l : Launch) (hfl : l.stackTraces = false) (D : va_G) (cA : Nat → ClassId) (ga : Nat → Nat → Nat) (φ : hpM) (sz : Nat) (az : Nat → Nat) (tn tk tm : Nat) (tg sc : Nat → Nat) (ar : Nat → Nat → Nat) (w : Nat → Nat → Nat → Nat) (ez o oi : Nat → Nat → Nat) (x0 x1 x2 : Int32) (hY : YW cA ga az tk tm tg sc ar w ez o φ) (hI : LI tn sc ar w ez oi) (hT : TY tk tg) (h200 : tn ≤ 200) (hz : aboutX (sc 3) (x0) (x1) (x2) = 1) : hW l yL_act cL_act 6 (some .int) [(0, 302, 303, 78), (0, 302, 308, 81), (0, 302, 313, 84)] { frames := 11, cells := 5, slots := 30, locals := 380 } [.ref (az 0), .int (nI 9), .int (x0), .int (x1), .int (x2)] D cA ga φ sz (fun v φ' => v = some (.int (-16820000)) ∧ φ' = φ) 5 30 := by
  refine hW.of (by decide) (Nat.le_of_ble_eq_true rfl) rfl ?_
  intro p e s m args below meth c ls H locs S hr hlocks ht9 hsz hHz hH hK hX hS hA hl
  refine lv_iload_n (pc := 0) S.1 S.2.1 dL_act_0 rfl (lv_at hl 1 rfl) ?_
  refine hv_if_ne (pc := 1) (tgt := 13) (a := 9) S.1 S.2.1 (by omega) dL_act_1 (by decide) (fun c_1 => ?_) (fun c_1 => ?_)
  · skip
    refine lv_iload_n (pc := 13) S.1 S.2.1 dL_act_13 rfl (lv_at hl 1 rfl) ?_
    refine lv_iconst (pc := 14) (v := nI 1) S.1 S.2.1 dL_act_14 (by decide) ?_
    refine hv_icmp_ne (pc := 15) (tgt := 26) (a := 9) (b := 1) S.1 S.2.1 (by omega) (by omega) dL_act_15 (by decide) (fun c_2 => ?_) (fun c_2 => ?_)
    · skip
      refine lv_iload_n (pc := 26) S.1 S.2.1 dL_act_26 rfl (lv_at hl 1 rfl) ?_
      refine lv_iconst (pc := 27) (v := nI 2) S.1 S.2.1 dL_act_27 (by decide) ?_
      refine hv_icmp_ne (pc := 28) (tgt := 42) (a := 9) (b := 2) S.1 S.2.1 (by omega) (by omega) dL_act_28 (by decide) (fun c_3 => ?_) (fun c_3 => ?_)
      · skip
        refine lv_iload_n (pc := 42) S.1 S.2.1 dL_act_42 rfl (lv_at hl 1 rfl) ?_
        refine lv_iconst (pc := 43) (v := nI 3) S.1 S.2.1 dL_act_43 (by decide) ?_
        refine hv_icmp_ne (pc := 44) (tgt := 54) (a := 9) (b := 3) S.1 S.2.1 (by omega) (by omega) dL_act_44 (by decide) (fun c_4 => ?_) (fun c_4 => ?_)
        · skip
          refine lv_iload_n (pc := 54) S.1 S.2.1 dL_act_54 rfl (lv_at hl 1 rfl) ?_
          refine lv_iconst (pc := 55) (v := nI 4) S.1 S.2.1 dL_act_55 (by decide) ?_
          refine hv_icmp_ne (pc := 56) (tgt := 68) (a := 9) (b := 4) S.1 S.2.1 (by omega) (by omega) dL_act_56 (by decide) (fun c_5 => ?_) (fun c_5 => ?_)
          · skip
            refine lv_iload_n (pc := 68) S.1 S.2.1 dL_act_68 rfl (lv_at hl 1 rfl) ?_
            refine lv_iconst (pc := 69) (v := nI 5) S.1 S.2.1 dL_act_69 (by decide) ?_
            refine hv_icmp_ne (pc := 70) (tgt := 82) (a := 9) (b := 5) S.1 S.2.1 (by omega) (by omega) dL_act_70 (by decide) (fun c_6 => ?_) (fun c_6 => ?_)
            · skip
              refine lv_iload_n (pc := 82) S.1 S.2.1 dL_act_82 rfl (lv_at hl 1 rfl) ?_
              refine lv_bipush (pc := 83) (v := nI 6) S.1 S.2.1 dL_act_83 (by decide) ?_
              refine hv_icmp_ne (pc := 85) (tgt := 97) (a := 9) (b := 6) S.1 S.2.1 (by omega) (by omega) dL_act_85 (by decide) (fun c_7 => ?_) (fun c_7 => ?_)
              · skip
                refine lv_iload_n (pc := 97) S.1 S.2.1 dL_act_97 rfl (lv_at hl 1 rfl) ?_
                refine lv_bipush (pc := 98) (v := nI 7) S.1 S.2.1 dL_act_98 (by decide) ?_
                refine hv_icmp_ne (pc := 100) (tgt := 119) (a := 9) (b := 7) S.1 S.2.1 (by omega) (by omega) dL_act_100 (by decide) (fun c_8 => ?_) (fun c_8 => ?_)
                · skip
                  refine lv_iload_n (pc := 119) S.1 S.2.1 dL_act_119 rfl (lv_at hl 1 rfl) ?_
                  refine lv_bipush (pc := 120) (v := nI 8) S.1 S.2.1 dL_act_120 (by decide) ?_
                  refine hv_icmp_ne (pc := 122) (tgt := 133) (a := 9) (b := 8) S.1 S.2.1 (by omega) (by omega) dL_act_122 (by decide) (fun c_9 => ?_) (fun c_9 => ?_)
                  · skip
                    refine lv_iload_n (pc := 133) S.1 S.2.1 dL_act_133 rfl (lv_at hl 1 rfl) ?_
                    refine lv_bipush (pc := 134) (v := nI 9) S.1 S.2.1 dL_act_134 (by decide) ?_
                    refine hv_icmp_ne (pc := 136) (tgt := 150) (a := 9) (b := 9) S.1 S.2.1 (by omega) (by omega) dL_act_136 (by decide) (fun c_10 => ?_) (fun c_10 => ?_)
                    · skip
                      exact absurd c_10 (by omega)
                    · skip
                      refine lv_aload_n (pc := 139) S.1 S.2.1 dL_act_139 rfl (lv_at hl 0 rfl) ?_
                      refine lv_iload_n (pc := 140) S.1 S.2.1 dL_act_140 rfl (lv_at hl 2 rfl) ?_
                      refine lv_iload_n (pc := 141) S.1 S.2.1 dL_act_141 rfl (lv_at hl 3 rfl) ?_
                      refine lv_iload (pc := 142) S.1 S.2.1 dL_act_142 (lv_at hl 4 rfl) ?_
                      refine hv_callX (pc := 144) (vx_runV (As := [.int (x0), .int (x1), .int (x2)]) (rest := []) S (yr_about l hfl D cA ga φ H.size az tn tk tm tg sc ar w ez o oi (x0) (x1) (x2) hY hI hT h200 1 hz (by decide)) (cwV 3 S.2.2.2.2 (gV tw_122 tw_123 tw_124 tw_1 tw_125) rfl rfl rfl (by decide +kernel) ⟨Nat.le_of_ble_eq_true rfl, Nat.le_of_ble_eq_true rfl⟩) (pre0_V hH hK hX hS hA (ycv hH hK hY)) rfl rfl hl.1 rfl (lv_room (Nat.le_of_ble_eq_true rfl)) dL_act_144 ⟨Nat.le_of_ble_eq_true rfl, Nat.le_of_ble_eq_true rfl⟩) hS (af_le hH hS hA) (fun E ce q9 φ9 H locs hx9 hH hS hce hcv hcl => ?_) (fun v φ9 H locs hw9 hH hS => ?_)
                      · skip
                        obtain ⟨hq9, rfl⟩ := hx9
                        rw [hq9] at hH
                        refine vx_catch (own := RL) (name := "java/lang/IllegalArgumentException") S.2.2.2.1 [⟨0, 302, 303, 78⟩] ⟨0, 302, 308, 81⟩ [⟨0, 302, 313, 84⟩] (by rw [ht9]; rfl) (fun z hz => by obtain rfl := List.mem_singleton.mp hz; exact Or.inr ⟨by decide, _, S.2.2.2.2 _ tw_264, hX.nc2⟩) (by decide) (by decide) (S.2.2.2.2 _ tw_265) (va_Nw.use (tabW_on tabIAE) (hX.tabs _ tabIAE)) hce hcv hcl ?_
                        refine lv_astore (pc := 308) (lv' := [(5, .ref q9), (0, .ref (az 0)), (1, .int (nI 9)), (2, .int (x0)), (3, .int (x1)), (4, .int (x2))]) S.1 S.2.1 dL_act_308 hl (by decide) rfl (fun ls hl => ?_)
                        refine lv_ldc (pc := 310) (v := (-16820000 : Int32)) S.1 S.2.1 S.2.2.2.1 (S.2.2.2.2 _ tw_886) dL_act_310 ?_
                        exact hv_ret (pc := 312) (v := (-16820000 : Int32)) S hr rfl hlocks hH hS (⟨rfl, rfl⟩) (Nat.le_of_ble_eq_true rfl) (Nat.le_of_ble_eq_true rfl) dL_act_312
                      · skip
                        exact absurd hw9 id
                  · skip
                    exact absurd c_9 (by omega)
                · skip
                  exact absurd c_8 (by omega)
              · skip
                exact absurd c_7 (by omega)
            · skip
              exact absurd c_6 (by omega)
          · skip
            exact absurd c_5 (by omega)
        · skip
          exact absurd c_4 (by omega)
      · skip
        exact absurd c_3 (by omega)
    · skip
      exact absurd c_2 (by omega)
  · skip
    exact absurd c_1 (by omega)

set_option maxHeartbeats 4000000 in
set_option maxRecDepth 100000 in
/-- act, widthAnew: it refuses -/
theorem ax_widthAnew_3 (l : Launch) (hfl : l.stackTraces = false) (D : va_G) (cA : Nat → ClassId) (ga : Nat → Nat → Nat) (φ : hpM) (sz : Nat) (az : Nat → Nat) (tn tk tm : Nat) (tg sc : Nat → Nat) (ar : Nat → Nat → Nat) (w : Nat → Nat → Nat → Nat) (ez o oi : Nat → Nat → Nat) (x0 x1 x2 : Int32) (hY : YW cA ga az tk tm tg sc ar w ez o φ) (hI : LI tn sc ar w ez oi) (hT : TY tk tg) (h200 : tn ≤ 200) (hz : anewX (sc 3) (x0) (x1) = 3) : hW l yL_act cL_act 6 (some .int) [(0, 302, 303, 78), (0, 302, 308, 81), (0, 302, 313, 84)] { frames := 11, cells := 4, slots := 24, locals := 380 } [.ref (az 0), .int (nI 10), .int (x0), .int (x1), .int (x2)] D cA ga φ sz (fun v φ' => v = some (.int (-16810000)) ∧ φ' = φ) 4 24 := by
  refine hW.of (by decide) (Nat.le_of_ble_eq_true rfl) rfl ?_
  intro p e s m args below meth c ls H locs S hr hlocks ht9 hsz hHz hH hK hX hS hA hl
  refine lv_iload_n (pc := 0) S.1 S.2.1 dL_act_0 rfl (lv_at hl 1 rfl) ?_
  refine hv_if_ne (pc := 1) (tgt := 13) (a := 10) S.1 S.2.1 (by omega) dL_act_1 (by decide) (fun c_1 => ?_) (fun c_1 => ?_)
  · skip
    refine lv_iload_n (pc := 13) S.1 S.2.1 dL_act_13 rfl (lv_at hl 1 rfl) ?_
    refine lv_iconst (pc := 14) (v := nI 1) S.1 S.2.1 dL_act_14 (by decide) ?_
    refine hv_icmp_ne (pc := 15) (tgt := 26) (a := 10) (b := 1) S.1 S.2.1 (by omega) (by omega) dL_act_15 (by decide) (fun c_2 => ?_) (fun c_2 => ?_)
    · skip
      refine lv_iload_n (pc := 26) S.1 S.2.1 dL_act_26 rfl (lv_at hl 1 rfl) ?_
      refine lv_iconst (pc := 27) (v := nI 2) S.1 S.2.1 dL_act_27 (by decide) ?_
      refine hv_icmp_ne (pc := 28) (tgt := 42) (a := 10) (b := 2) S.1 S.2.1 (by omega) (by omega) dL_act_28 (by decide) (fun c_3 => ?_) (fun c_3 => ?_)
      · skip
        refine lv_iload_n (pc := 42) S.1 S.2.1 dL_act_42 rfl (lv_at hl 1 rfl) ?_
        refine lv_iconst (pc := 43) (v := nI 3) S.1 S.2.1 dL_act_43 (by decide) ?_
        refine hv_icmp_ne (pc := 44) (tgt := 54) (a := 10) (b := 3) S.1 S.2.1 (by omega) (by omega) dL_act_44 (by decide) (fun c_4 => ?_) (fun c_4 => ?_)
        · skip
          refine lv_iload_n (pc := 54) S.1 S.2.1 dL_act_54 rfl (lv_at hl 1 rfl) ?_
          refine lv_iconst (pc := 55) (v := nI 4) S.1 S.2.1 dL_act_55 (by decide) ?_
          refine hv_icmp_ne (pc := 56) (tgt := 68) (a := 10) (b := 4) S.1 S.2.1 (by omega) (by omega) dL_act_56 (by decide) (fun c_5 => ?_) (fun c_5 => ?_)
          · skip
            refine lv_iload_n (pc := 68) S.1 S.2.1 dL_act_68 rfl (lv_at hl 1 rfl) ?_
            refine lv_iconst (pc := 69) (v := nI 5) S.1 S.2.1 dL_act_69 (by decide) ?_
            refine hv_icmp_ne (pc := 70) (tgt := 82) (a := 10) (b := 5) S.1 S.2.1 (by omega) (by omega) dL_act_70 (by decide) (fun c_6 => ?_) (fun c_6 => ?_)
            · skip
              refine lv_iload_n (pc := 82) S.1 S.2.1 dL_act_82 rfl (lv_at hl 1 rfl) ?_
              refine lv_bipush (pc := 83) (v := nI 6) S.1 S.2.1 dL_act_83 (by decide) ?_
              refine hv_icmp_ne (pc := 85) (tgt := 97) (a := 10) (b := 6) S.1 S.2.1 (by omega) (by omega) dL_act_85 (by decide) (fun c_7 => ?_) (fun c_7 => ?_)
              · skip
                refine lv_iload_n (pc := 97) S.1 S.2.1 dL_act_97 rfl (lv_at hl 1 rfl) ?_
                refine lv_bipush (pc := 98) (v := nI 7) S.1 S.2.1 dL_act_98 (by decide) ?_
                refine hv_icmp_ne (pc := 100) (tgt := 119) (a := 10) (b := 7) S.1 S.2.1 (by omega) (by omega) dL_act_100 (by decide) (fun c_8 => ?_) (fun c_8 => ?_)
                · skip
                  refine lv_iload_n (pc := 119) S.1 S.2.1 dL_act_119 rfl (lv_at hl 1 rfl) ?_
                  refine lv_bipush (pc := 120) (v := nI 8) S.1 S.2.1 dL_act_120 (by decide) ?_
                  refine hv_icmp_ne (pc := 122) (tgt := 133) (a := 10) (b := 8) S.1 S.2.1 (by omega) (by omega) dL_act_122 (by decide) (fun c_9 => ?_) (fun c_9 => ?_)
                  · skip
                    refine lv_iload_n (pc := 133) S.1 S.2.1 dL_act_133 rfl (lv_at hl 1 rfl) ?_
                    refine lv_bipush (pc := 134) (v := nI 9) S.1 S.2.1 dL_act_134 (by decide) ?_
                    refine hv_icmp_ne (pc := 136) (tgt := 150) (a := 10) (b := 9) S.1 S.2.1 (by omega) (by omega) dL_act_136 (by decide) (fun c_10 => ?_) (fun c_10 => ?_)
                    · skip
                      refine lv_iload_n (pc := 150) S.1 S.2.1 dL_act_150 rfl (lv_at hl 1 rfl) ?_
                      refine lv_bipush (pc := 151) (v := nI 10) S.1 S.2.1 dL_act_151 (by decide) ?_
                      refine hv_icmp_ne (pc := 153) (tgt := 165) (a := 10) (b := 10) S.1 S.2.1 (by omega) (by omega) dL_act_153 (by decide) (fun c_11 => ?_) (fun c_11 => ?_)
                      · skip
                        exact absurd c_11 (by omega)
                      · skip
                        refine lv_aload_n (pc := 156) S.1 S.2.1 dL_act_156 rfl (lv_at hl 0 rfl) ?_
                        refine lv_iload_n (pc := 157) S.1 S.2.1 dL_act_157 rfl (lv_at hl 2 rfl) ?_
                        refine lv_iload_n (pc := 158) S.1 S.2.1 dL_act_158 rfl (lv_at hl 3 rfl) ?_
                        refine hv_callX (pc := 159) (vx_runV (As := [.int (x0), .int (x1)]) (rest := []) S (yr_widthAnew l hfl D cA ga φ H.size az tn tk tm tg sc ar w ez o oi (x0) (x1) hY hI hT h200 3 hz (by decide)) (cwV 2 S.2.2.2.2 (gV tw_799 tw_800 tw_801 tw_1 tw_802) rfl rfl rfl (by decide +kernel) ⟨Nat.le_of_ble_eq_true rfl, Nat.le_of_ble_eq_true rfl⟩) (pre0_V hH hK hX hS hA (ycv hH hK hY)) rfl rfl hl.1 rfl (lv_room (Nat.le_of_ble_eq_true rfl)) dL_act_159 ⟨Nat.le_of_ble_eq_true rfl, Nat.le_of_ble_eq_true rfl⟩) hS (af_le hH hS hA) (fun E ce q9 φ9 H locs hx9 hH hS hce hcv hcl => ?_) (fun v φ9 H locs hw9 hH hS => ?_)
                        · skip
                          obtain ⟨hq9, rfl⟩ := hx9
                          rw [hq9] at hH
                          refine vx_catch (own := RL) (name := "java/lang/IndexOutOfBoundsException") S.2.2.2.1 [] ⟨0, 302, 303, 78⟩ [⟨0, 302, 308, 81⟩, ⟨0, 302, 313, 84⟩] (by rw [ht9]; rfl) (fun z hz => by cases hz) (by decide) (by decide) (S.2.2.2.2 _ tw_264) (va_Nw.use (tabW_on tabIOOBE) (hX.tabs _ tabIOOBE)) hce hcv hcl ?_
                          refine lv_astore (pc := 303) (lv' := [(5, .ref q9), (0, .ref (az 0)), (1, .int (nI 10)), (2, .int (x0)), (3, .int (x1)), (4, .int (x2))]) S.1 S.2.1 dL_act_303 hl (by decide) rfl (fun ls hl => ?_)
                          refine lv_ldc (pc := 305) (v := (-16810000 : Int32)) S.1 S.2.1 S.2.2.2.1 (S.2.2.2.2 _ tw_885) dL_act_305 ?_
                          exact hv_ret (pc := 307) (v := (-16810000 : Int32)) S hr rfl hlocks hH hS (⟨rfl, rfl⟩) (Nat.le_of_ble_eq_true rfl) (Nat.le_of_ble_eq_true rfl) dL_act_307
                        · skip
                          exact absurd hw9 id
                    · skip
                      exact absurd c_10 (by omega)
                  · skip
                    exact absurd c_9 (by omega)
                · skip
                  exact absurd c_8 (by omega)
              · skip
                exact absurd c_7 (by omega)
            · skip
              exact absurd c_6 (by omega)
          · skip
            exact absurd c_5 (by omega)
        · skip
          exact absurd c_4 (by omega)
      · skip
        exact absurd c_3 (by omega)
    · skip
      exact absurd c_2 (by omega)
  · skip
    exact absurd c_1 (by omega)

set_option maxHeartbeats 4000000 in
set_option maxRecDepth 100000 in
/-- act, brim: it refuses -/
theorem ax_brim_3 (l : Launch) (hfl : l.stackTraces = false) (D : va_G) (cA : Nat → ClassId) (ga : Nat → Nat → Nat) (φ : hpM) (sz : Nat) (az : Nat → Nat) (tn tk tm : Nat) (tg sc : Nat → Nat) (ar : Nat → Nat → Nat) (w : Nat → Nat → Nat → Nat) (ez o oi : Nat → Nat → Nat) (x0 x1 x2 : Int32) (hY : YW cA ga az tk tm tg sc ar w ez o φ) (hI : LI tn sc ar w ez oi) (hT : TY tk tg) (h200 : tn ≤ 200) (hz : brimX (sc 3) (x0) (x1) = 3) : hW l yL_act cL_act 6 (some .int) [(0, 302, 303, 78), (0, 302, 308, 81), (0, 302, 313, 84)] { frames := 11, cells := 3, slots := 18, locals := 380 } [.ref (az 0), .int (nI 11), .int (x0), .int (x1), .int (x2)] D cA ga φ sz (fun v φ' => v = some (.int (-16810000)) ∧ φ' = φ) 3 18 := by
  refine hW.of (by decide) (Nat.le_of_ble_eq_true rfl) rfl ?_
  intro p e s m args below meth c ls H locs S hr hlocks ht9 hsz hHz hH hK hX hS hA hl
  refine lv_iload_n (pc := 0) S.1 S.2.1 dL_act_0 rfl (lv_at hl 1 rfl) ?_
  refine hv_if_ne (pc := 1) (tgt := 13) (a := 11) S.1 S.2.1 (by omega) dL_act_1 (by decide) (fun c_1 => ?_) (fun c_1 => ?_)
  · skip
    refine lv_iload_n (pc := 13) S.1 S.2.1 dL_act_13 rfl (lv_at hl 1 rfl) ?_
    refine lv_iconst (pc := 14) (v := nI 1) S.1 S.2.1 dL_act_14 (by decide) ?_
    refine hv_icmp_ne (pc := 15) (tgt := 26) (a := 11) (b := 1) S.1 S.2.1 (by omega) (by omega) dL_act_15 (by decide) (fun c_2 => ?_) (fun c_2 => ?_)
    · skip
      refine lv_iload_n (pc := 26) S.1 S.2.1 dL_act_26 rfl (lv_at hl 1 rfl) ?_
      refine lv_iconst (pc := 27) (v := nI 2) S.1 S.2.1 dL_act_27 (by decide) ?_
      refine hv_icmp_ne (pc := 28) (tgt := 42) (a := 11) (b := 2) S.1 S.2.1 (by omega) (by omega) dL_act_28 (by decide) (fun c_3 => ?_) (fun c_3 => ?_)
      · skip
        refine lv_iload_n (pc := 42) S.1 S.2.1 dL_act_42 rfl (lv_at hl 1 rfl) ?_
        refine lv_iconst (pc := 43) (v := nI 3) S.1 S.2.1 dL_act_43 (by decide) ?_
        refine hv_icmp_ne (pc := 44) (tgt := 54) (a := 11) (b := 3) S.1 S.2.1 (by omega) (by omega) dL_act_44 (by decide) (fun c_4 => ?_) (fun c_4 => ?_)
        · skip
          refine lv_iload_n (pc := 54) S.1 S.2.1 dL_act_54 rfl (lv_at hl 1 rfl) ?_
          refine lv_iconst (pc := 55) (v := nI 4) S.1 S.2.1 dL_act_55 (by decide) ?_
          refine hv_icmp_ne (pc := 56) (tgt := 68) (a := 11) (b := 4) S.1 S.2.1 (by omega) (by omega) dL_act_56 (by decide) (fun c_5 => ?_) (fun c_5 => ?_)
          · skip
            refine lv_iload_n (pc := 68) S.1 S.2.1 dL_act_68 rfl (lv_at hl 1 rfl) ?_
            refine lv_iconst (pc := 69) (v := nI 5) S.1 S.2.1 dL_act_69 (by decide) ?_
            refine hv_icmp_ne (pc := 70) (tgt := 82) (a := 11) (b := 5) S.1 S.2.1 (by omega) (by omega) dL_act_70 (by decide) (fun c_6 => ?_) (fun c_6 => ?_)
            · skip
              refine lv_iload_n (pc := 82) S.1 S.2.1 dL_act_82 rfl (lv_at hl 1 rfl) ?_
              refine lv_bipush (pc := 83) (v := nI 6) S.1 S.2.1 dL_act_83 (by decide) ?_
              refine hv_icmp_ne (pc := 85) (tgt := 97) (a := 11) (b := 6) S.1 S.2.1 (by omega) (by omega) dL_act_85 (by decide) (fun c_7 => ?_) (fun c_7 => ?_)
              · skip
                refine lv_iload_n (pc := 97) S.1 S.2.1 dL_act_97 rfl (lv_at hl 1 rfl) ?_
                refine lv_bipush (pc := 98) (v := nI 7) S.1 S.2.1 dL_act_98 (by decide) ?_
                refine hv_icmp_ne (pc := 100) (tgt := 119) (a := 11) (b := 7) S.1 S.2.1 (by omega) (by omega) dL_act_100 (by decide) (fun c_8 => ?_) (fun c_8 => ?_)
                · skip
                  refine lv_iload_n (pc := 119) S.1 S.2.1 dL_act_119 rfl (lv_at hl 1 rfl) ?_
                  refine lv_bipush (pc := 120) (v := nI 8) S.1 S.2.1 dL_act_120 (by decide) ?_
                  refine hv_icmp_ne (pc := 122) (tgt := 133) (a := 11) (b := 8) S.1 S.2.1 (by omega) (by omega) dL_act_122 (by decide) (fun c_9 => ?_) (fun c_9 => ?_)
                  · skip
                    refine lv_iload_n (pc := 133) S.1 S.2.1 dL_act_133 rfl (lv_at hl 1 rfl) ?_
                    refine lv_bipush (pc := 134) (v := nI 9) S.1 S.2.1 dL_act_134 (by decide) ?_
                    refine hv_icmp_ne (pc := 136) (tgt := 150) (a := 11) (b := 9) S.1 S.2.1 (by omega) (by omega) dL_act_136 (by decide) (fun c_10 => ?_) (fun c_10 => ?_)
                    · skip
                      refine lv_iload_n (pc := 150) S.1 S.2.1 dL_act_150 rfl (lv_at hl 1 rfl) ?_
                      refine lv_bipush (pc := 151) (v := nI 10) S.1 S.2.1 dL_act_151 (by decide) ?_
                      refine hv_icmp_ne (pc := 153) (tgt := 165) (a := 11) (b := 10) S.1 S.2.1 (by omega) (by omega) dL_act_153 (by decide) (fun c_11 => ?_) (fun c_11 => ?_)
                      · skip
                        refine lv_iload_n (pc := 165) S.1 S.2.1 dL_act_165 rfl (lv_at hl 1 rfl) ?_
                        refine lv_bipush (pc := 166) (v := nI 11) S.1 S.2.1 dL_act_166 (by decide) ?_
                        refine hv_icmp_ne (pc := 168) (tgt := 180) (a := 11) (b := 11) S.1 S.2.1 (by omega) (by omega) dL_act_168 (by decide) (fun c_12 => ?_) (fun c_12 => ?_)
                        · skip
                          exact absurd c_12 (by omega)
                        · skip
                          refine lv_aload_n (pc := 171) S.1 S.2.1 dL_act_171 rfl (lv_at hl 0 rfl) ?_
                          refine lv_iload_n (pc := 172) S.1 S.2.1 dL_act_172 rfl (lv_at hl 2 rfl) ?_
                          refine lv_iload_n (pc := 173) S.1 S.2.1 dL_act_173 rfl (lv_at hl 3 rfl) ?_
                          refine hv_callX (pc := 174) (vx_runV (As := [.int (x0), .int (x1)]) (rest := []) S (yr_brim l hfl D cA ga φ H.size az tn tk tm tg sc ar w ez o oi (x0) (x1) hY hI hT h200 3 hz (by decide)) (cwV 2 S.2.2.2.2 (gV tw_807 tw_808 tw_809 tw_1 tw_810) rfl rfl rfl (by decide +kernel) ⟨Nat.le_of_ble_eq_true rfl, Nat.le_of_ble_eq_true rfl⟩) (pre0_V hH hK hX hS hA (ycv hH hK hY)) rfl rfl hl.1 rfl (lv_room (Nat.le_of_ble_eq_true rfl)) dL_act_174 ⟨Nat.le_of_ble_eq_true rfl, Nat.le_of_ble_eq_true rfl⟩) hS (af_le hH hS hA) (fun E ce q9 φ9 H locs hx9 hH hS hce hcv hcl => ?_) (fun v φ9 H locs hw9 hH hS => ?_)
                          · skip
                            obtain ⟨hq9, rfl⟩ := hx9
                            rw [hq9] at hH
                            refine vx_catch (own := RL) (name := "java/lang/IndexOutOfBoundsException") S.2.2.2.1 [] ⟨0, 302, 303, 78⟩ [⟨0, 302, 308, 81⟩, ⟨0, 302, 313, 84⟩] (by rw [ht9]; rfl) (fun z hz => by cases hz) (by decide) (by decide) (S.2.2.2.2 _ tw_264) (va_Nw.use (tabW_on tabIOOBE) (hX.tabs _ tabIOOBE)) hce hcv hcl ?_
                            refine lv_astore (pc := 303) (lv' := [(5, .ref q9), (0, .ref (az 0)), (1, .int (nI 11)), (2, .int (x0)), (3, .int (x1)), (4, .int (x2))]) S.1 S.2.1 dL_act_303 hl (by decide) rfl (fun ls hl => ?_)
                            refine lv_ldc (pc := 305) (v := (-16810000 : Int32)) S.1 S.2.1 S.2.2.2.1 (S.2.2.2.2 _ tw_885) dL_act_305 ?_
                            exact hv_ret (pc := 307) (v := (-16810000 : Int32)) S hr rfl hlocks hH hS (⟨rfl, rfl⟩) (Nat.le_of_ble_eq_true rfl) (Nat.le_of_ble_eq_true rfl) dL_act_307
                          · skip
                            exact absurd hw9 id
                      · skip
                        exact absurd c_11 (by omega)
                    · skip
                      exact absurd c_10 (by omega)
                  · skip
                    exact absurd c_9 (by omega)
                · skip
                  exact absurd c_8 (by omega)
              · skip
                exact absurd c_7 (by omega)
            · skip
              exact absurd c_6 (by omega)
          · skip
            exact absurd c_5 (by omega)
        · skip
          exact absurd c_4 (by omega)
      · skip
        exact absurd c_3 (by omega)
    · skip
      exact absurd c_2 (by omega)
  · skip
    exact absurd c_1 (by omega)

set_option maxHeartbeats 4000000 in
set_option maxRecDepth 100000 in
/-- act, brim: it refuses -/
theorem ax_brim_1 (l : Launch) (hfl : l.stackTraces = false) (D : va_G) (cA : Nat → ClassId) (ga : Nat → Nat → Nat) (φ : hpM) (sz : Nat) (az : Nat → Nat) (tn tk tm : Nat) (tg sc : Nat → Nat) (ar : Nat → Nat → Nat) (w : Nat → Nat → Nat → Nat) (ez o oi : Nat → Nat → Nat) (x0 x1 x2 : Int32) (hY : YW cA ga az tk tm tg sc ar w ez o φ) (hI : LI tn sc ar w ez oi) (hT : TY tk tg) (h200 : tn ≤ 200) (hz : brimX (sc 3) (x0) (x1) = 1) : hW l yL_act cL_act 6 (some .int) [(0, 302, 303, 78), (0, 302, 308, 81), (0, 302, 313, 84)] { frames := 11, cells := 3, slots := 18, locals := 380 } [.ref (az 0), .int (nI 11), .int (x0), .int (x1), .int (x2)] D cA ga φ sz (fun v φ' => v = some (.int (-16820000)) ∧ φ' = φ) 3 18 := by
  refine hW.of (by decide) (Nat.le_of_ble_eq_true rfl) rfl ?_
  intro p e s m args below meth c ls H locs S hr hlocks ht9 hsz hHz hH hK hX hS hA hl
  refine lv_iload_n (pc := 0) S.1 S.2.1 dL_act_0 rfl (lv_at hl 1 rfl) ?_
  refine hv_if_ne (pc := 1) (tgt := 13) (a := 11) S.1 S.2.1 (by omega) dL_act_1 (by decide) (fun c_1 => ?_) (fun c_1 => ?_)
  · skip
    refine lv_iload_n (pc := 13) S.1 S.2.1 dL_act_13 rfl (lv_at hl 1 rfl) ?_
    refine lv_iconst (pc := 14) (v := nI 1) S.1 S.2.1 dL_act_14 (by decide) ?_
    refine hv_icmp_ne (pc := 15) (tgt := 26) (a := 11) (b := 1) S.1 S.2.1 (by omega) (by omega) dL_act_15 (by decide) (fun c_2 => ?_) (fun c_2 => ?_)
    · skip
      refine lv_iload_n (pc := 26) S.1 S.2.1 dL_act_26 rfl (lv_at hl 1 rfl) ?_
      refine lv_iconst (pc := 27) (v := nI 2) S.1 S.2.1 dL_act_27 (by decide) ?_
      refine hv_icmp_ne (pc := 28) (tgt := 42) (a := 11) (b := 2) S.1 S.2.1 (by omega) (by omega) dL_act_28 (by decide) (fun c_3 => ?_) (fun c_3 => ?_)
      · skip
        refine lv_iload_n (pc := 42) S.1 S.2.1 dL_act_42 rfl (lv_at hl 1 rfl) ?_
        refine lv_iconst (pc := 43) (v := nI 3) S.1 S.2.1 dL_act_43 (by decide) ?_
        refine hv_icmp_ne (pc := 44) (tgt := 54) (a := 11) (b := 3) S.1 S.2.1 (by omega) (by omega) dL_act_44 (by decide) (fun c_4 => ?_) (fun c_4 => ?_)
        · skip
          refine lv_iload_n (pc := 54) S.1 S.2.1 dL_act_54 rfl (lv_at hl 1 rfl) ?_
          refine lv_iconst (pc := 55) (v := nI 4) S.1 S.2.1 dL_act_55 (by decide) ?_
          refine hv_icmp_ne (pc := 56) (tgt := 68) (a := 11) (b := 4) S.1 S.2.1 (by omega) (by omega) dL_act_56 (by decide) (fun c_5 => ?_) (fun c_5 => ?_)
          · skip
            refine lv_iload_n (pc := 68) S.1 S.2.1 dL_act_68 rfl (lv_at hl 1 rfl) ?_
            refine lv_iconst (pc := 69) (v := nI 5) S.1 S.2.1 dL_act_69 (by decide) ?_
            refine hv_icmp_ne (pc := 70) (tgt := 82) (a := 11) (b := 5) S.1 S.2.1 (by omega) (by omega) dL_act_70 (by decide) (fun c_6 => ?_) (fun c_6 => ?_)
            · skip
              refine lv_iload_n (pc := 82) S.1 S.2.1 dL_act_82 rfl (lv_at hl 1 rfl) ?_
              refine lv_bipush (pc := 83) (v := nI 6) S.1 S.2.1 dL_act_83 (by decide) ?_
              refine hv_icmp_ne (pc := 85) (tgt := 97) (a := 11) (b := 6) S.1 S.2.1 (by omega) (by omega) dL_act_85 (by decide) (fun c_7 => ?_) (fun c_7 => ?_)
              · skip
                refine lv_iload_n (pc := 97) S.1 S.2.1 dL_act_97 rfl (lv_at hl 1 rfl) ?_
                refine lv_bipush (pc := 98) (v := nI 7) S.1 S.2.1 dL_act_98 (by decide) ?_
                refine hv_icmp_ne (pc := 100) (tgt := 119) (a := 11) (b := 7) S.1 S.2.1 (by omega) (by omega) dL_act_100 (by decide) (fun c_8 => ?_) (fun c_8 => ?_)
                · skip
                  refine lv_iload_n (pc := 119) S.1 S.2.1 dL_act_119 rfl (lv_at hl 1 rfl) ?_
                  refine lv_bipush (pc := 120) (v := nI 8) S.1 S.2.1 dL_act_120 (by decide) ?_
                  refine hv_icmp_ne (pc := 122) (tgt := 133) (a := 11) (b := 8) S.1 S.2.1 (by omega) (by omega) dL_act_122 (by decide) (fun c_9 => ?_) (fun c_9 => ?_)
                  · skip
                    refine lv_iload_n (pc := 133) S.1 S.2.1 dL_act_133 rfl (lv_at hl 1 rfl) ?_
                    refine lv_bipush (pc := 134) (v := nI 9) S.1 S.2.1 dL_act_134 (by decide) ?_
                    refine hv_icmp_ne (pc := 136) (tgt := 150) (a := 11) (b := 9) S.1 S.2.1 (by omega) (by omega) dL_act_136 (by decide) (fun c_10 => ?_) (fun c_10 => ?_)
                    · skip
                      refine lv_iload_n (pc := 150) S.1 S.2.1 dL_act_150 rfl (lv_at hl 1 rfl) ?_
                      refine lv_bipush (pc := 151) (v := nI 10) S.1 S.2.1 dL_act_151 (by decide) ?_
                      refine hv_icmp_ne (pc := 153) (tgt := 165) (a := 11) (b := 10) S.1 S.2.1 (by omega) (by omega) dL_act_153 (by decide) (fun c_11 => ?_) (fun c_11 => ?_)
                      · skip
                        refine lv_iload_n (pc := 165) S.1 S.2.1 dL_act_165 rfl (lv_at hl 1 rfl) ?_
                        refine lv_bipush (pc := 166) (v := nI 11) S.1 S.2.1 dL_act_166 (by decide) ?_
                        refine hv_icmp_ne (pc := 168) (tgt := 180) (a := 11) (b := 11) S.1 S.2.1 (by omega) (by omega) dL_act_168 (by decide) (fun c_12 => ?_) (fun c_12 => ?_)
                        · skip
                          exact absurd c_12 (by omega)
                        · skip
                          refine lv_aload_n (pc := 171) S.1 S.2.1 dL_act_171 rfl (lv_at hl 0 rfl) ?_
                          refine lv_iload_n (pc := 172) S.1 S.2.1 dL_act_172 rfl (lv_at hl 2 rfl) ?_
                          refine lv_iload_n (pc := 173) S.1 S.2.1 dL_act_173 rfl (lv_at hl 3 rfl) ?_
                          refine hv_callX (pc := 174) (vx_runV (As := [.int (x0), .int (x1)]) (rest := []) S (yr_brim l hfl D cA ga φ H.size az tn tk tm tg sc ar w ez o oi (x0) (x1) hY hI hT h200 1 hz (by decide)) (cwV 2 S.2.2.2.2 (gV tw_807 tw_808 tw_809 tw_1 tw_810) rfl rfl rfl (by decide +kernel) ⟨Nat.le_of_ble_eq_true rfl, Nat.le_of_ble_eq_true rfl⟩) (pre0_V hH hK hX hS hA (ycv hH hK hY)) rfl rfl hl.1 rfl (lv_room (Nat.le_of_ble_eq_true rfl)) dL_act_174 ⟨Nat.le_of_ble_eq_true rfl, Nat.le_of_ble_eq_true rfl⟩) hS (af_le hH hS hA) (fun E ce q9 φ9 H locs hx9 hH hS hce hcv hcl => ?_) (fun v φ9 H locs hw9 hH hS => ?_)
                          · skip
                            obtain ⟨hq9, rfl⟩ := hx9
                            rw [hq9] at hH
                            refine vx_catch (own := RL) (name := "java/lang/IllegalArgumentException") S.2.2.2.1 [⟨0, 302, 303, 78⟩] ⟨0, 302, 308, 81⟩ [⟨0, 302, 313, 84⟩] (by rw [ht9]; rfl) (fun z hz => by obtain rfl := List.mem_singleton.mp hz; exact Or.inr ⟨by decide, _, S.2.2.2.2 _ tw_264, hX.nc2⟩) (by decide) (by decide) (S.2.2.2.2 _ tw_265) (va_Nw.use (tabW_on tabIAE) (hX.tabs _ tabIAE)) hce hcv hcl ?_
                            refine lv_astore (pc := 308) (lv' := [(5, .ref q9), (0, .ref (az 0)), (1, .int (nI 11)), (2, .int (x0)), (3, .int (x1)), (4, .int (x2))]) S.1 S.2.1 dL_act_308 hl (by decide) rfl (fun ls hl => ?_)
                            refine lv_ldc (pc := 310) (v := (-16820000 : Int32)) S.1 S.2.1 S.2.2.2.1 (S.2.2.2.2 _ tw_886) dL_act_310 ?_
                            exact hv_ret (pc := 312) (v := (-16820000 : Int32)) S hr rfl hlocks hH hS (⟨rfl, rfl⟩) (Nat.le_of_ble_eq_true rfl) (Nat.le_of_ble_eq_true rfl) dL_act_312
                          · skip
                            exact absurd hw9 id
                      · skip
                        exact absurd c_11 (by omega)
                    · skip
                      exact absurd c_10 (by omega)
                  · skip
                    exact absurd c_9 (by omega)
                · skip
                  exact absurd c_8 (by omega)
              · skip
                exact absurd c_7 (by omega)
            · skip
              exact absurd c_6 (by omega)
          · skip
            exact absurd c_5 (by omega)
        · skip
          exact absurd c_4 (by omega)
      · skip
        exact absurd c_3 (by omega)
    · skip
      exact absurd c_2 (by omega)
  · skip
    exact absurd c_1 (by omega)

set_option maxHeartbeats 4000000 in
set_option maxRecDepth 100000 in
/-- act, count: it refuses -/
theorem ax_count_1 (l : Launch) (hfl : l.stackTraces = false) (D : va_G) (cA : Nat → ClassId) (ga : Nat → Nat → Nat) (φ : hpM) (sz : Nat) (az : Nat → Nat) (tn tk tm : Nat) (tg sc : Nat → Nat) (ar : Nat → Nat → Nat) (w : Nat → Nat → Nat → Nat) (ez o oi : Nat → Nat → Nat) (x0 x1 x2 : Int32) (hY : YW cA ga az tk tm tg sc ar w ez o φ) (hI : LI tn sc ar w ez oi) (hT : TY tk tg) (h200 : tn ≤ 200) (hz : cntX (x0) = 1) : hW l yL_act cL_act 6 (some .int) [(0, 302, 303, 78), (0, 302, 308, 81), (0, 302, 313, 84)] { frames := 15, cells := 1, slots := 6, locals := 620 } [.ref (az 0), .int (nI 12), .int (x0), .int (x1), .int (x2)] D cA ga φ sz (fun v φ' => v = some (.int (-16820000)) ∧ φ' = φ) 1 6 := by
  refine hW.of (by decide) (Nat.le_of_ble_eq_true rfl) rfl ?_
  intro p e s m args below meth c ls H locs S hr hlocks ht9 hsz hHz hH hK hX hS hA hl
  refine lv_iload_n (pc := 0) S.1 S.2.1 dL_act_0 rfl (lv_at hl 1 rfl) ?_
  refine hv_if_ne (pc := 1) (tgt := 13) (a := 12) S.1 S.2.1 (by omega) dL_act_1 (by decide) (fun c_1 => ?_) (fun c_1 => ?_)
  · skip
    refine lv_iload_n (pc := 13) S.1 S.2.1 dL_act_13 rfl (lv_at hl 1 rfl) ?_
    refine lv_iconst (pc := 14) (v := nI 1) S.1 S.2.1 dL_act_14 (by decide) ?_
    refine hv_icmp_ne (pc := 15) (tgt := 26) (a := 12) (b := 1) S.1 S.2.1 (by omega) (by omega) dL_act_15 (by decide) (fun c_2 => ?_) (fun c_2 => ?_)
    · skip
      refine lv_iload_n (pc := 26) S.1 S.2.1 dL_act_26 rfl (lv_at hl 1 rfl) ?_
      refine lv_iconst (pc := 27) (v := nI 2) S.1 S.2.1 dL_act_27 (by decide) ?_
      refine hv_icmp_ne (pc := 28) (tgt := 42) (a := 12) (b := 2) S.1 S.2.1 (by omega) (by omega) dL_act_28 (by decide) (fun c_3 => ?_) (fun c_3 => ?_)
      · skip
        refine lv_iload_n (pc := 42) S.1 S.2.1 dL_act_42 rfl (lv_at hl 1 rfl) ?_
        refine lv_iconst (pc := 43) (v := nI 3) S.1 S.2.1 dL_act_43 (by decide) ?_
        refine hv_icmp_ne (pc := 44) (tgt := 54) (a := 12) (b := 3) S.1 S.2.1 (by omega) (by omega) dL_act_44 (by decide) (fun c_4 => ?_) (fun c_4 => ?_)
        · skip
          refine lv_iload_n (pc := 54) S.1 S.2.1 dL_act_54 rfl (lv_at hl 1 rfl) ?_
          refine lv_iconst (pc := 55) (v := nI 4) S.1 S.2.1 dL_act_55 (by decide) ?_
          refine hv_icmp_ne (pc := 56) (tgt := 68) (a := 12) (b := 4) S.1 S.2.1 (by omega) (by omega) dL_act_56 (by decide) (fun c_5 => ?_) (fun c_5 => ?_)
          · skip
            refine lv_iload_n (pc := 68) S.1 S.2.1 dL_act_68 rfl (lv_at hl 1 rfl) ?_
            refine lv_iconst (pc := 69) (v := nI 5) S.1 S.2.1 dL_act_69 (by decide) ?_
            refine hv_icmp_ne (pc := 70) (tgt := 82) (a := 12) (b := 5) S.1 S.2.1 (by omega) (by omega) dL_act_70 (by decide) (fun c_6 => ?_) (fun c_6 => ?_)
            · skip
              refine lv_iload_n (pc := 82) S.1 S.2.1 dL_act_82 rfl (lv_at hl 1 rfl) ?_
              refine lv_bipush (pc := 83) (v := nI 6) S.1 S.2.1 dL_act_83 (by decide) ?_
              refine hv_icmp_ne (pc := 85) (tgt := 97) (a := 12) (b := 6) S.1 S.2.1 (by omega) (by omega) dL_act_85 (by decide) (fun c_7 => ?_) (fun c_7 => ?_)
              · skip
                refine lv_iload_n (pc := 97) S.1 S.2.1 dL_act_97 rfl (lv_at hl 1 rfl) ?_
                refine lv_bipush (pc := 98) (v := nI 7) S.1 S.2.1 dL_act_98 (by decide) ?_
                refine hv_icmp_ne (pc := 100) (tgt := 119) (a := 12) (b := 7) S.1 S.2.1 (by omega) (by omega) dL_act_100 (by decide) (fun c_8 => ?_) (fun c_8 => ?_)
                · skip
                  refine lv_iload_n (pc := 119) S.1 S.2.1 dL_act_119 rfl (lv_at hl 1 rfl) ?_
                  refine lv_bipush (pc := 120) (v := nI 8) S.1 S.2.1 dL_act_120 (by decide) ?_
                  refine hv_icmp_ne (pc := 122) (tgt := 133) (a := 12) (b := 8) S.1 S.2.1 (by omega) (by omega) dL_act_122 (by decide) (fun c_9 => ?_) (fun c_9 => ?_)
                  · skip
                    refine lv_iload_n (pc := 133) S.1 S.2.1 dL_act_133 rfl (lv_at hl 1 rfl) ?_
                    refine lv_bipush (pc := 134) (v := nI 9) S.1 S.2.1 dL_act_134 (by decide) ?_
                    refine hv_icmp_ne (pc := 136) (tgt := 150) (a := 12) (b := 9) S.1 S.2.1 (by omega) (by omega) dL_act_136 (by decide) (fun c_10 => ?_) (fun c_10 => ?_)
                    · skip
                      refine lv_iload_n (pc := 150) S.1 S.2.1 dL_act_150 rfl (lv_at hl 1 rfl) ?_
                      refine lv_bipush (pc := 151) (v := nI 10) S.1 S.2.1 dL_act_151 (by decide) ?_
                      refine hv_icmp_ne (pc := 153) (tgt := 165) (a := 12) (b := 10) S.1 S.2.1 (by omega) (by omega) dL_act_153 (by decide) (fun c_11 => ?_) (fun c_11 => ?_)
                      · skip
                        refine lv_iload_n (pc := 165) S.1 S.2.1 dL_act_165 rfl (lv_at hl 1 rfl) ?_
                        refine lv_bipush (pc := 166) (v := nI 11) S.1 S.2.1 dL_act_166 (by decide) ?_
                        refine hv_icmp_ne (pc := 168) (tgt := 180) (a := 12) (b := 11) S.1 S.2.1 (by omega) (by omega) dL_act_168 (by decide) (fun c_12 => ?_) (fun c_12 => ?_)
                        · skip
                          refine lv_iload_n (pc := 180) S.1 S.2.1 dL_act_180 rfl (lv_at hl 1 rfl) ?_
                          refine lv_bipush (pc := 181) (v := nI 12) S.1 S.2.1 dL_act_181 (by decide) ?_
                          refine hv_icmp_ne (pc := 183) (tgt := 194) (a := 12) (b := 12) S.1 S.2.1 (by omega) (by omega) dL_act_183 (by decide) (fun c_13 => ?_) (fun c_13 => ?_)
                          · skip
                            exact absurd c_13 (by omega)
                          · skip
                            refine lv_aload_n (pc := 186) S.1 S.2.1 dL_act_186 rfl (lv_at hl 0 rfl) ?_
                            refine lv_iload_n (pc := 187) S.1 S.2.1 dL_act_187 rfl (lv_at hl 2 rfl) ?_
                            refine hv_callX (pc := 188) (vx_runV (As := [.int (x0)]) (rest := []) S (yr_count l hfl D cA ga φ H.size az tn tk tm tg sc ar w ez o oi (x0) hY hI hT h200 1 hz (by decide)) (cwV 1 S.2.2.2.2 (gV tw_816 tw_817 tw_818 tw_1 tw_819) rfl rfl rfl (by decide +kernel) ⟨Nat.le_of_ble_eq_true rfl, Nat.le_of_ble_eq_true rfl⟩) (pre0_V hH hK hX hS hA (ycv hH hK hY)) rfl rfl hl.1 rfl (lv_room (Nat.le_of_ble_eq_true rfl)) dL_act_188 ⟨Nat.le_of_ble_eq_true rfl, Nat.le_of_ble_eq_true rfl⟩) hS (af_le hH hS hA) (fun E ce q9 φ9 H locs hx9 hH hS hce hcv hcl => ?_) (fun v φ9 H locs hw9 hH hS => ?_)
                            · skip
                              obtain ⟨hq9, rfl⟩ := hx9
                              rw [hq9] at hH
                              refine vx_catch (own := RL) (name := "java/lang/IllegalArgumentException") S.2.2.2.1 [⟨0, 302, 303, 78⟩] ⟨0, 302, 308, 81⟩ [⟨0, 302, 313, 84⟩] (by rw [ht9]; rfl) (fun z hz => by obtain rfl := List.mem_singleton.mp hz; exact Or.inr ⟨by decide, _, S.2.2.2.2 _ tw_264, hX.nc2⟩) (by decide) (by decide) (S.2.2.2.2 _ tw_265) (va_Nw.use (tabW_on tabIAE) (hX.tabs _ tabIAE)) hce hcv hcl ?_
                              refine lv_astore (pc := 308) (lv' := [(5, .ref q9), (0, .ref (az 0)), (1, .int (nI 12)), (2, .int (x0)), (3, .int (x1)), (4, .int (x2))]) S.1 S.2.1 dL_act_308 hl (by decide) rfl (fun ls hl => ?_)
                              refine lv_ldc (pc := 310) (v := (-16820000 : Int32)) S.1 S.2.1 S.2.2.2.1 (S.2.2.2.2 _ tw_886) dL_act_310 ?_
                              exact hv_ret (pc := 312) (v := (-16820000 : Int32)) S hr rfl hlocks hH hS (⟨rfl, rfl⟩) (Nat.le_of_ble_eq_true rfl) (Nat.le_of_ble_eq_true rfl) dL_act_312
                            · skip
                              exact absurd hw9 id
                        · skip
                          exact absurd c_12 (by omega)
                      · skip
                        exact absurd c_11 (by omega)
                    · skip
                      exact absurd c_10 (by omega)
                  · skip
                    exact absurd c_9 (by omega)
                · skip
                  exact absurd c_8 (by omega)
              · skip
                exact absurd c_7 (by omega)
            · skip
              exact absurd c_6 (by omega)
          · skip
            exact absurd c_5 (by omega)
        · skip
          exact absurd c_4 (by omega)
      · skip
        exact absurd c_3 (by omega)
    · skip
      exact absurd c_2 (by omega)
  · skip
    exact absurd c_1 (by omega)

set_option maxHeartbeats 4000000 in
set_option maxRecDepth 100000 in
/-- act, countAnew: it refuses -/
theorem ax_countAnew_1 (l : Launch) (hfl : l.stackTraces = false) (D : va_G) (cA : Nat → ClassId) (ga : Nat → Nat → Nat) (φ : hpM) (sz : Nat) (az : Nat → Nat) (tn tk tm : Nat) (tg sc : Nat → Nat) (ar : Nat → Nat → Nat) (w : Nat → Nat → Nat → Nat) (ez o oi : Nat → Nat → Nat) (x0 x1 x2 : Int32) (hY : YW cA ga az tk tm tg sc ar w ez o φ) (hI : LI tn sc ar w ez oi) (hT : TY tk tg) (h200 : tn ≤ 200) (hz : cntX (x0) = 1) : hW l yL_act cL_act 6 (some .int) [(0, 302, 303, 78), (0, 302, 308, 81), (0, 302, 313, 84)] { frames := 15, cells := 1, slots := 6, locals := 620 } [.ref (az 0), .int (nI 13), .int (x0), .int (x1), .int (x2)] D cA ga φ sz (fun v φ' => v = some (.int (-16820000)) ∧ φ' = φ) 1 6 := by
  refine hW.of (by decide) (Nat.le_of_ble_eq_true rfl) rfl ?_
  intro p e s m args below meth c ls H locs S hr hlocks ht9 hsz hHz hH hK hX hS hA hl
  refine lv_iload_n (pc := 0) S.1 S.2.1 dL_act_0 rfl (lv_at hl 1 rfl) ?_
  refine hv_if_ne (pc := 1) (tgt := 13) (a := 13) S.1 S.2.1 (by omega) dL_act_1 (by decide) (fun c_1 => ?_) (fun c_1 => ?_)
  · skip
    refine lv_iload_n (pc := 13) S.1 S.2.1 dL_act_13 rfl (lv_at hl 1 rfl) ?_
    refine lv_iconst (pc := 14) (v := nI 1) S.1 S.2.1 dL_act_14 (by decide) ?_
    refine hv_icmp_ne (pc := 15) (tgt := 26) (a := 13) (b := 1) S.1 S.2.1 (by omega) (by omega) dL_act_15 (by decide) (fun c_2 => ?_) (fun c_2 => ?_)
    · skip
      refine lv_iload_n (pc := 26) S.1 S.2.1 dL_act_26 rfl (lv_at hl 1 rfl) ?_
      refine lv_iconst (pc := 27) (v := nI 2) S.1 S.2.1 dL_act_27 (by decide) ?_
      refine hv_icmp_ne (pc := 28) (tgt := 42) (a := 13) (b := 2) S.1 S.2.1 (by omega) (by omega) dL_act_28 (by decide) (fun c_3 => ?_) (fun c_3 => ?_)
      · skip
        refine lv_iload_n (pc := 42) S.1 S.2.1 dL_act_42 rfl (lv_at hl 1 rfl) ?_
        refine lv_iconst (pc := 43) (v := nI 3) S.1 S.2.1 dL_act_43 (by decide) ?_
        refine hv_icmp_ne (pc := 44) (tgt := 54) (a := 13) (b := 3) S.1 S.2.1 (by omega) (by omega) dL_act_44 (by decide) (fun c_4 => ?_) (fun c_4 => ?_)
        · skip
          refine lv_iload_n (pc := 54) S.1 S.2.1 dL_act_54 rfl (lv_at hl 1 rfl) ?_
          refine lv_iconst (pc := 55) (v := nI 4) S.1 S.2.1 dL_act_55 (by decide) ?_
          refine hv_icmp_ne (pc := 56) (tgt := 68) (a := 13) (b := 4) S.1 S.2.1 (by omega) (by omega) dL_act_56 (by decide) (fun c_5 => ?_) (fun c_5 => ?_)
          · skip
            refine lv_iload_n (pc := 68) S.1 S.2.1 dL_act_68 rfl (lv_at hl 1 rfl) ?_
            refine lv_iconst (pc := 69) (v := nI 5) S.1 S.2.1 dL_act_69 (by decide) ?_
            refine hv_icmp_ne (pc := 70) (tgt := 82) (a := 13) (b := 5) S.1 S.2.1 (by omega) (by omega) dL_act_70 (by decide) (fun c_6 => ?_) (fun c_6 => ?_)
            · skip
              refine lv_iload_n (pc := 82) S.1 S.2.1 dL_act_82 rfl (lv_at hl 1 rfl) ?_
              refine lv_bipush (pc := 83) (v := nI 6) S.1 S.2.1 dL_act_83 (by decide) ?_
              refine hv_icmp_ne (pc := 85) (tgt := 97) (a := 13) (b := 6) S.1 S.2.1 (by omega) (by omega) dL_act_85 (by decide) (fun c_7 => ?_) (fun c_7 => ?_)
              · skip
                refine lv_iload_n (pc := 97) S.1 S.2.1 dL_act_97 rfl (lv_at hl 1 rfl) ?_
                refine lv_bipush (pc := 98) (v := nI 7) S.1 S.2.1 dL_act_98 (by decide) ?_
                refine hv_icmp_ne (pc := 100) (tgt := 119) (a := 13) (b := 7) S.1 S.2.1 (by omega) (by omega) dL_act_100 (by decide) (fun c_8 => ?_) (fun c_8 => ?_)
                · skip
                  refine lv_iload_n (pc := 119) S.1 S.2.1 dL_act_119 rfl (lv_at hl 1 rfl) ?_
                  refine lv_bipush (pc := 120) (v := nI 8) S.1 S.2.1 dL_act_120 (by decide) ?_
                  refine hv_icmp_ne (pc := 122) (tgt := 133) (a := 13) (b := 8) S.1 S.2.1 (by omega) (by omega) dL_act_122 (by decide) (fun c_9 => ?_) (fun c_9 => ?_)
                  · skip
                    refine lv_iload_n (pc := 133) S.1 S.2.1 dL_act_133 rfl (lv_at hl 1 rfl) ?_
                    refine lv_bipush (pc := 134) (v := nI 9) S.1 S.2.1 dL_act_134 (by decide) ?_
                    refine hv_icmp_ne (pc := 136) (tgt := 150) (a := 13) (b := 9) S.1 S.2.1 (by omega) (by omega) dL_act_136 (by decide) (fun c_10 => ?_) (fun c_10 => ?_)
                    · skip
                      refine lv_iload_n (pc := 150) S.1 S.2.1 dL_act_150 rfl (lv_at hl 1 rfl) ?_
                      refine lv_bipush (pc := 151) (v := nI 10) S.1 S.2.1 dL_act_151 (by decide) ?_
                      refine hv_icmp_ne (pc := 153) (tgt := 165) (a := 13) (b := 10) S.1 S.2.1 (by omega) (by omega) dL_act_153 (by decide) (fun c_11 => ?_) (fun c_11 => ?_)
                      · skip
                        refine lv_iload_n (pc := 165) S.1 S.2.1 dL_act_165 rfl (lv_at hl 1 rfl) ?_
                        refine lv_bipush (pc := 166) (v := nI 11) S.1 S.2.1 dL_act_166 (by decide) ?_
                        refine hv_icmp_ne (pc := 168) (tgt := 180) (a := 13) (b := 11) S.1 S.2.1 (by omega) (by omega) dL_act_168 (by decide) (fun c_12 => ?_) (fun c_12 => ?_)
                        · skip
                          refine lv_iload_n (pc := 180) S.1 S.2.1 dL_act_180 rfl (lv_at hl 1 rfl) ?_
                          refine lv_bipush (pc := 181) (v := nI 12) S.1 S.2.1 dL_act_181 (by decide) ?_
                          refine hv_icmp_ne (pc := 183) (tgt := 194) (a := 13) (b := 12) S.1 S.2.1 (by omega) (by omega) dL_act_183 (by decide) (fun c_13 => ?_) (fun c_13 => ?_)
                          · skip
                            refine lv_iload_n (pc := 194) S.1 S.2.1 dL_act_194 rfl (lv_at hl 1 rfl) ?_
                            refine lv_bipush (pc := 195) (v := nI 13) S.1 S.2.1 dL_act_195 (by decide) ?_
                            refine hv_icmp_ne (pc := 197) (tgt := 208) (a := 13) (b := 13) S.1 S.2.1 (by omega) (by omega) dL_act_197 (by decide) (fun c_14 => ?_) (fun c_14 => ?_)
                            · skip
                              exact absurd c_14 (by omega)
                            · skip
                              refine lv_aload_n (pc := 200) S.1 S.2.1 dL_act_200 rfl (lv_at hl 0 rfl) ?_
                              refine lv_iload_n (pc := 201) S.1 S.2.1 dL_act_201 rfl (lv_at hl 2 rfl) ?_
                              refine hv_callX (pc := 202) (vx_runV (As := [.int (x0)]) (rest := []) S (yr_countAnew l hfl D cA ga φ H.size az tn tk tm tg sc ar w ez o oi (x0) hY hI hT h200 1 hz (by decide)) (cwV 1 S.2.2.2.2 (gV tw_836 tw_837 tw_838 tw_1 tw_839) rfl rfl rfl (by decide +kernel) ⟨Nat.le_of_ble_eq_true rfl, Nat.le_of_ble_eq_true rfl⟩) (pre0_V hH hK hX hS hA (ycv hH hK hY)) rfl rfl hl.1 rfl (lv_room (Nat.le_of_ble_eq_true rfl)) dL_act_202 ⟨Nat.le_of_ble_eq_true rfl, Nat.le_of_ble_eq_true rfl⟩) hS (af_le hH hS hA) (fun E ce q9 φ9 H locs hx9 hH hS hce hcv hcl => ?_) (fun v φ9 H locs hw9 hH hS => ?_)
                              · skip
                                obtain ⟨hq9, rfl⟩ := hx9
                                rw [hq9] at hH
                                refine vx_catch (own := RL) (name := "java/lang/IllegalArgumentException") S.2.2.2.1 [⟨0, 302, 303, 78⟩] ⟨0, 302, 308, 81⟩ [⟨0, 302, 313, 84⟩] (by rw [ht9]; rfl) (fun z hz => by obtain rfl := List.mem_singleton.mp hz; exact Or.inr ⟨by decide, _, S.2.2.2.2 _ tw_264, hX.nc2⟩) (by decide) (by decide) (S.2.2.2.2 _ tw_265) (va_Nw.use (tabW_on tabIAE) (hX.tabs _ tabIAE)) hce hcv hcl ?_
                                refine lv_astore (pc := 308) (lv' := [(5, .ref q9), (0, .ref (az 0)), (1, .int (nI 13)), (2, .int (x0)), (3, .int (x1)), (4, .int (x2))]) S.1 S.2.1 dL_act_308 hl (by decide) rfl (fun ls hl => ?_)
                                refine lv_ldc (pc := 310) (v := (-16820000 : Int32)) S.1 S.2.1 S.2.2.2.1 (S.2.2.2.2 _ tw_886) dL_act_310 ?_
                                exact hv_ret (pc := 312) (v := (-16820000 : Int32)) S hr rfl hlocks hH hS (⟨rfl, rfl⟩) (Nat.le_of_ble_eq_true rfl) (Nat.le_of_ble_eq_true rfl) dL_act_312
                              · skip
                                exact absurd hw9 id
                          · skip
                            exact absurd c_13 (by omega)
                        · skip
                          exact absurd c_12 (by omega)
                      · skip
                        exact absurd c_11 (by omega)
                    · skip
                      exact absurd c_10 (by omega)
                  · skip
                    exact absurd c_9 (by omega)
                · skip
                  exact absurd c_8 (by omega)
              · skip
                exact absurd c_7 (by omega)
            · skip
              exact absurd c_6 (by omega)
          · skip
            exact absurd c_5 (by omega)
        · skip
          exact absurd c_4 (by omega)
      · skip
        exact absurd c_3 (by omega)
    · skip
      exact absurd c_2 (by omega)
  · skip
    exact absurd c_1 (by omega)

set_option maxHeartbeats 4000000 in
set_option maxRecDepth 100000 in
/-- act, rows: it refuses -/
theorem ax_rows_1 (l : Launch) (hfl : l.stackTraces = false) (D : va_G) (cA : Nat → ClassId) (ga : Nat → Nat → Nat) (φ : hpM) (sz : Nat) (az : Nat → Nat) (tn tk tm : Nat) (tg sc : Nat → Nat) (ar : Nat → Nat → Nat) (w : Nat → Nat → Nat → Nat) (ez o oi : Nat → Nat → Nat) (x0 x1 x2 : Int32) (hY : YW cA ga az tk tm tg sc ar w ez o φ) (hI : LI tn sc ar w ez oi) (hT : TY tk tg) (h200 : tn ≤ 200) (hz : rowsX (x0) = 1) : hW l yL_act cL_act 6 (some .int) [(0, 302, 303, 78), (0, 302, 308, 81), (0, 302, 313, 84)] { frames := 15, cells := 1, slots := 6, locals := 620 } [.ref (az 0), .int (nI 14), .int (x0), .int (x1), .int (x2)] D cA ga φ sz (fun v φ' => v = some (.int (-16820000)) ∧ φ' = φ) 1 6 := by
  refine hW.of (by decide) (Nat.le_of_ble_eq_true rfl) rfl ?_
  intro p e s m args below meth c ls H locs S hr hlocks ht9 hsz hHz hH hK hX hS hA hl
  refine lv_iload_n (pc := 0) S.1 S.2.1 dL_act_0 rfl (lv_at hl 1 rfl) ?_
  refine hv_if_ne (pc := 1) (tgt := 13) (a := 14) S.1 S.2.1 (by omega) dL_act_1 (by decide) (fun c_1 => ?_) (fun c_1 => ?_)
  · skip
    refine lv_iload_n (pc := 13) S.1 S.2.1 dL_act_13 rfl (lv_at hl 1 rfl) ?_
    refine lv_iconst (pc := 14) (v := nI 1) S.1 S.2.1 dL_act_14 (by decide) ?_
    refine hv_icmp_ne (pc := 15) (tgt := 26) (a := 14) (b := 1) S.1 S.2.1 (by omega) (by omega) dL_act_15 (by decide) (fun c_2 => ?_) (fun c_2 => ?_)
    · skip
      refine lv_iload_n (pc := 26) S.1 S.2.1 dL_act_26 rfl (lv_at hl 1 rfl) ?_
      refine lv_iconst (pc := 27) (v := nI 2) S.1 S.2.1 dL_act_27 (by decide) ?_
      refine hv_icmp_ne (pc := 28) (tgt := 42) (a := 14) (b := 2) S.1 S.2.1 (by omega) (by omega) dL_act_28 (by decide) (fun c_3 => ?_) (fun c_3 => ?_)
      · skip
        refine lv_iload_n (pc := 42) S.1 S.2.1 dL_act_42 rfl (lv_at hl 1 rfl) ?_
        refine lv_iconst (pc := 43) (v := nI 3) S.1 S.2.1 dL_act_43 (by decide) ?_
        refine hv_icmp_ne (pc := 44) (tgt := 54) (a := 14) (b := 3) S.1 S.2.1 (by omega) (by omega) dL_act_44 (by decide) (fun c_4 => ?_) (fun c_4 => ?_)
        · skip
          refine lv_iload_n (pc := 54) S.1 S.2.1 dL_act_54 rfl (lv_at hl 1 rfl) ?_
          refine lv_iconst (pc := 55) (v := nI 4) S.1 S.2.1 dL_act_55 (by decide) ?_
          refine hv_icmp_ne (pc := 56) (tgt := 68) (a := 14) (b := 4) S.1 S.2.1 (by omega) (by omega) dL_act_56 (by decide) (fun c_5 => ?_) (fun c_5 => ?_)
          · skip
            refine lv_iload_n (pc := 68) S.1 S.2.1 dL_act_68 rfl (lv_at hl 1 rfl) ?_
            refine lv_iconst (pc := 69) (v := nI 5) S.1 S.2.1 dL_act_69 (by decide) ?_
            refine hv_icmp_ne (pc := 70) (tgt := 82) (a := 14) (b := 5) S.1 S.2.1 (by omega) (by omega) dL_act_70 (by decide) (fun c_6 => ?_) (fun c_6 => ?_)
            · skip
              refine lv_iload_n (pc := 82) S.1 S.2.1 dL_act_82 rfl (lv_at hl 1 rfl) ?_
              refine lv_bipush (pc := 83) (v := nI 6) S.1 S.2.1 dL_act_83 (by decide) ?_
              refine hv_icmp_ne (pc := 85) (tgt := 97) (a := 14) (b := 6) S.1 S.2.1 (by omega) (by omega) dL_act_85 (by decide) (fun c_7 => ?_) (fun c_7 => ?_)
              · skip
                refine lv_iload_n (pc := 97) S.1 S.2.1 dL_act_97 rfl (lv_at hl 1 rfl) ?_
                refine lv_bipush (pc := 98) (v := nI 7) S.1 S.2.1 dL_act_98 (by decide) ?_
                refine hv_icmp_ne (pc := 100) (tgt := 119) (a := 14) (b := 7) S.1 S.2.1 (by omega) (by omega) dL_act_100 (by decide) (fun c_8 => ?_) (fun c_8 => ?_)
                · skip
                  refine lv_iload_n (pc := 119) S.1 S.2.1 dL_act_119 rfl (lv_at hl 1 rfl) ?_
                  refine lv_bipush (pc := 120) (v := nI 8) S.1 S.2.1 dL_act_120 (by decide) ?_
                  refine hv_icmp_ne (pc := 122) (tgt := 133) (a := 14) (b := 8) S.1 S.2.1 (by omega) (by omega) dL_act_122 (by decide) (fun c_9 => ?_) (fun c_9 => ?_)
                  · skip
                    refine lv_iload_n (pc := 133) S.1 S.2.1 dL_act_133 rfl (lv_at hl 1 rfl) ?_
                    refine lv_bipush (pc := 134) (v := nI 9) S.1 S.2.1 dL_act_134 (by decide) ?_
                    refine hv_icmp_ne (pc := 136) (tgt := 150) (a := 14) (b := 9) S.1 S.2.1 (by omega) (by omega) dL_act_136 (by decide) (fun c_10 => ?_) (fun c_10 => ?_)
                    · skip
                      refine lv_iload_n (pc := 150) S.1 S.2.1 dL_act_150 rfl (lv_at hl 1 rfl) ?_
                      refine lv_bipush (pc := 151) (v := nI 10) S.1 S.2.1 dL_act_151 (by decide) ?_
                      refine hv_icmp_ne (pc := 153) (tgt := 165) (a := 14) (b := 10) S.1 S.2.1 (by omega) (by omega) dL_act_153 (by decide) (fun c_11 => ?_) (fun c_11 => ?_)
                      · skip
                        refine lv_iload_n (pc := 165) S.1 S.2.1 dL_act_165 rfl (lv_at hl 1 rfl) ?_
                        refine lv_bipush (pc := 166) (v := nI 11) S.1 S.2.1 dL_act_166 (by decide) ?_
                        refine hv_icmp_ne (pc := 168) (tgt := 180) (a := 14) (b := 11) S.1 S.2.1 (by omega) (by omega) dL_act_168 (by decide) (fun c_12 => ?_) (fun c_12 => ?_)
                        · skip
                          refine lv_iload_n (pc := 180) S.1 S.2.1 dL_act_180 rfl (lv_at hl 1 rfl) ?_
                          refine lv_bipush (pc := 181) (v := nI 12) S.1 S.2.1 dL_act_181 (by decide) ?_
                          refine hv_icmp_ne (pc := 183) (tgt := 194) (a := 14) (b := 12) S.1 S.2.1 (by omega) (by omega) dL_act_183 (by decide) (fun c_13 => ?_) (fun c_13 => ?_)
                          · skip
                            refine lv_iload_n (pc := 194) S.1 S.2.1 dL_act_194 rfl (lv_at hl 1 rfl) ?_
                            refine lv_bipush (pc := 195) (v := nI 13) S.1 S.2.1 dL_act_195 (by decide) ?_
                            refine hv_icmp_ne (pc := 197) (tgt := 208) (a := 14) (b := 13) S.1 S.2.1 (by omega) (by omega) dL_act_197 (by decide) (fun c_14 => ?_) (fun c_14 => ?_)
                            · skip
                              refine lv_iload_n (pc := 208) S.1 S.2.1 dL_act_208 rfl (lv_at hl 1 rfl) ?_
                              refine lv_bipush (pc := 209) (v := nI 14) S.1 S.2.1 dL_act_209 (by decide) ?_
                              refine hv_icmp_ne (pc := 211) (tgt := 222) (a := 14) (b := 14) S.1 S.2.1 (by omega) (by omega) dL_act_211 (by decide) (fun c_15 => ?_) (fun c_15 => ?_)
                              · skip
                                exact absurd c_15 (by omega)
                              · skip
                                refine lv_aload_n (pc := 214) S.1 S.2.1 dL_act_214 rfl (lv_at hl 0 rfl) ?_
                                refine lv_iload_n (pc := 215) S.1 S.2.1 dL_act_215 rfl (lv_at hl 2 rfl) ?_
                                refine hv_callX (pc := 216) (vx_runV (As := [.int (x0)]) (rest := []) S (yr_rows l hfl D cA ga φ H.size az tn tk tm tg sc ar w ez o oi (x0) hY hI hT h200 1 hz (by decide)) (cwV 1 S.2.2.2.2 (gV tw_848 tw_849 tw_850 tw_1 tw_851) rfl rfl rfl (by decide +kernel) ⟨Nat.le_of_ble_eq_true rfl, Nat.le_of_ble_eq_true rfl⟩) (pre0_V hH hK hX hS hA (ycv hH hK hY)) rfl rfl hl.1 rfl (lv_room (Nat.le_of_ble_eq_true rfl)) dL_act_216 ⟨Nat.le_of_ble_eq_true rfl, Nat.le_of_ble_eq_true rfl⟩) hS (af_le hH hS hA) (fun E ce q9 φ9 H locs hx9 hH hS hce hcv hcl => ?_) (fun v φ9 H locs hw9 hH hS => ?_)
                                · skip
                                  obtain ⟨hq9, rfl⟩ := hx9
                                  rw [hq9] at hH
                                  refine vx_catch (own := RL) (name := "java/lang/IllegalArgumentException") S.2.2.2.1 [⟨0, 302, 303, 78⟩] ⟨0, 302, 308, 81⟩ [⟨0, 302, 313, 84⟩] (by rw [ht9]; rfl) (fun z hz => by obtain rfl := List.mem_singleton.mp hz; exact Or.inr ⟨by decide, _, S.2.2.2.2 _ tw_264, hX.nc2⟩) (by decide) (by decide) (S.2.2.2.2 _ tw_265) (va_Nw.use (tabW_on tabIAE) (hX.tabs _ tabIAE)) hce hcv hcl ?_
                                  refine lv_astore (pc := 308) (lv' := [(5, .ref q9), (0, .ref (az 0)), (1, .int (nI 14)), (2, .int (x0)), (3, .int (x1)), (4, .int (x2))]) S.1 S.2.1 dL_act_308 hl (by decide) rfl (fun ls hl => ?_)
                                  refine lv_ldc (pc := 310) (v := (-16820000 : Int32)) S.1 S.2.1 S.2.2.2.1 (S.2.2.2.2 _ tw_886) dL_act_310 ?_
                                  exact hv_ret (pc := 312) (v := (-16820000 : Int32)) S hr rfl hlocks hH hS (⟨rfl, rfl⟩) (Nat.le_of_ble_eq_true rfl) (Nat.le_of_ble_eq_true rfl) dL_act_312
                                · skip
                                  exact absurd hw9 id
                            · skip
                              exact absurd c_14 (by omega)
                          · skip
                            exact absurd c_13 (by omega)
                        · skip
                          exact absurd c_12 (by omega)
                      · skip
                        exact absurd c_11 (by omega)
                    · skip
                      exact absurd c_10 (by omega)
                  · skip
                    exact absurd c_9 (by omega)
                · skip
                  exact absurd c_8 (by omega)
              · skip
                exact absurd c_7 (by omega)
            · skip
              exact absurd c_6 (by omega)
          · skip
            exact absurd c_5 (by omega)
        · skip
          exact absurd c_4 (by omega)
      · skip
        exact absurd c_3 (by omega)
    · skip
      exact absurd c_2 (by omega)
  · skip
    exact absurd c_1 (by omega)

set_option maxHeartbeats 4000000 in
set_option maxRecDepth 100000 in
/-- act, measure: it refuses -/
theorem ax_measure_3 (l : Launch) (hfl : l.stackTraces = false) (D : va_G) (cA : Nat → ClassId) (ga : Nat → Nat → Nat) (φ : hpM) (sz : Nat) (az : Nat → Nat) (tn tk tm : Nat) (tg sc : Nat → Nat) (ar : Nat → Nat → Nat) (w : Nat → Nat → Nat → Nat) (ez o oi : Nat → Nat → Nat) (x0 x1 x2 : Int32) (hY : YW cA ga az tk tm tg sc ar w ez o φ) (hI : LI tn sc ar w ez oi) (hT : TY tk tg) (h200 : tn ≤ 200) (hz : measX (x0) (x1) = 3) : hW l yL_act cL_act 6 (some .int) [(0, 302, 303, 78), (0, 302, 308, 81), (0, 302, 313, 84)] { frames := 10, cells := 2, slots := 12, locals := 320 } [.ref (az 0), .int (nI 15), .int (x0), .int (x1), .int (x2)] D cA ga φ sz (fun v φ' => v = some (.int (-16810000)) ∧ φ' = φ) 2 12 := by
  refine hW.of (by decide) (Nat.le_of_ble_eq_true rfl) rfl ?_
  intro p e s m args below meth c ls H locs S hr hlocks ht9 hsz hHz hH hK hX hS hA hl
  refine lv_iload_n (pc := 0) S.1 S.2.1 dL_act_0 rfl (lv_at hl 1 rfl) ?_
  refine hv_if_ne (pc := 1) (tgt := 13) (a := 15) S.1 S.2.1 (by omega) dL_act_1 (by decide) (fun c_1 => ?_) (fun c_1 => ?_)
  · skip
    refine lv_iload_n (pc := 13) S.1 S.2.1 dL_act_13 rfl (lv_at hl 1 rfl) ?_
    refine lv_iconst (pc := 14) (v := nI 1) S.1 S.2.1 dL_act_14 (by decide) ?_
    refine hv_icmp_ne (pc := 15) (tgt := 26) (a := 15) (b := 1) S.1 S.2.1 (by omega) (by omega) dL_act_15 (by decide) (fun c_2 => ?_) (fun c_2 => ?_)
    · skip
      refine lv_iload_n (pc := 26) S.1 S.2.1 dL_act_26 rfl (lv_at hl 1 rfl) ?_
      refine lv_iconst (pc := 27) (v := nI 2) S.1 S.2.1 dL_act_27 (by decide) ?_
      refine hv_icmp_ne (pc := 28) (tgt := 42) (a := 15) (b := 2) S.1 S.2.1 (by omega) (by omega) dL_act_28 (by decide) (fun c_3 => ?_) (fun c_3 => ?_)
      · skip
        refine lv_iload_n (pc := 42) S.1 S.2.1 dL_act_42 rfl (lv_at hl 1 rfl) ?_
        refine lv_iconst (pc := 43) (v := nI 3) S.1 S.2.1 dL_act_43 (by decide) ?_
        refine hv_icmp_ne (pc := 44) (tgt := 54) (a := 15) (b := 3) S.1 S.2.1 (by omega) (by omega) dL_act_44 (by decide) (fun c_4 => ?_) (fun c_4 => ?_)
        · skip
          refine lv_iload_n (pc := 54) S.1 S.2.1 dL_act_54 rfl (lv_at hl 1 rfl) ?_
          refine lv_iconst (pc := 55) (v := nI 4) S.1 S.2.1 dL_act_55 (by decide) ?_
          refine hv_icmp_ne (pc := 56) (tgt := 68) (a := 15) (b := 4) S.1 S.2.1 (by omega) (by omega) dL_act_56 (by decide) (fun c_5 => ?_) (fun c_5 => ?_)
          · skip
            refine lv_iload_n (pc := 68) S.1 S.2.1 dL_act_68 rfl (lv_at hl 1 rfl) ?_
            refine lv_iconst (pc := 69) (v := nI 5) S.1 S.2.1 dL_act_69 (by decide) ?_
            refine hv_icmp_ne (pc := 70) (tgt := 82) (a := 15) (b := 5) S.1 S.2.1 (by omega) (by omega) dL_act_70 (by decide) (fun c_6 => ?_) (fun c_6 => ?_)
            · skip
              refine lv_iload_n (pc := 82) S.1 S.2.1 dL_act_82 rfl (lv_at hl 1 rfl) ?_
              refine lv_bipush (pc := 83) (v := nI 6) S.1 S.2.1 dL_act_83 (by decide) ?_
              refine hv_icmp_ne (pc := 85) (tgt := 97) (a := 15) (b := 6) S.1 S.2.1 (by omega) (by omega) dL_act_85 (by decide) (fun c_7 => ?_) (fun c_7 => ?_)
              · skip
                refine lv_iload_n (pc := 97) S.1 S.2.1 dL_act_97 rfl (lv_at hl 1 rfl) ?_
                refine lv_bipush (pc := 98) (v := nI 7) S.1 S.2.1 dL_act_98 (by decide) ?_
                refine hv_icmp_ne (pc := 100) (tgt := 119) (a := 15) (b := 7) S.1 S.2.1 (by omega) (by omega) dL_act_100 (by decide) (fun c_8 => ?_) (fun c_8 => ?_)
                · skip
                  refine lv_iload_n (pc := 119) S.1 S.2.1 dL_act_119 rfl (lv_at hl 1 rfl) ?_
                  refine lv_bipush (pc := 120) (v := nI 8) S.1 S.2.1 dL_act_120 (by decide) ?_
                  refine hv_icmp_ne (pc := 122) (tgt := 133) (a := 15) (b := 8) S.1 S.2.1 (by omega) (by omega) dL_act_122 (by decide) (fun c_9 => ?_) (fun c_9 => ?_)
                  · skip
                    refine lv_iload_n (pc := 133) S.1 S.2.1 dL_act_133 rfl (lv_at hl 1 rfl) ?_
                    refine lv_bipush (pc := 134) (v := nI 9) S.1 S.2.1 dL_act_134 (by decide) ?_
                    refine hv_icmp_ne (pc := 136) (tgt := 150) (a := 15) (b := 9) S.1 S.2.1 (by omega) (by omega) dL_act_136 (by decide) (fun c_10 => ?_) (fun c_10 => ?_)
                    · skip
                      refine lv_iload_n (pc := 150) S.1 S.2.1 dL_act_150 rfl (lv_at hl 1 rfl) ?_
                      refine lv_bipush (pc := 151) (v := nI 10) S.1 S.2.1 dL_act_151 (by decide) ?_
                      refine hv_icmp_ne (pc := 153) (tgt := 165) (a := 15) (b := 10) S.1 S.2.1 (by omega) (by omega) dL_act_153 (by decide) (fun c_11 => ?_) (fun c_11 => ?_)
                      · skip
                        refine lv_iload_n (pc := 165) S.1 S.2.1 dL_act_165 rfl (lv_at hl 1 rfl) ?_
                        refine lv_bipush (pc := 166) (v := nI 11) S.1 S.2.1 dL_act_166 (by decide) ?_
                        refine hv_icmp_ne (pc := 168) (tgt := 180) (a := 15) (b := 11) S.1 S.2.1 (by omega) (by omega) dL_act_168 (by decide) (fun c_12 => ?_) (fun c_12 => ?_)
                        · skip
                          refine lv_iload_n (pc := 180) S.1 S.2.1 dL_act_180 rfl (lv_at hl 1 rfl) ?_
                          refine lv_bipush (pc := 181) (v := nI 12) S.1 S.2.1 dL_act_181 (by decide) ?_
                          refine hv_icmp_ne (pc := 183) (tgt := 194) (a := 15) (b := 12) S.1 S.2.1 (by omega) (by omega) dL_act_183 (by decide) (fun c_13 => ?_) (fun c_13 => ?_)
                          · skip
                            refine lv_iload_n (pc := 194) S.1 S.2.1 dL_act_194 rfl (lv_at hl 1 rfl) ?_
                            refine lv_bipush (pc := 195) (v := nI 13) S.1 S.2.1 dL_act_195 (by decide) ?_
                            refine hv_icmp_ne (pc := 197) (tgt := 208) (a := 15) (b := 13) S.1 S.2.1 (by omega) (by omega) dL_act_197 (by decide) (fun c_14 => ?_) (fun c_14 => ?_)
                            · skip
                              refine lv_iload_n (pc := 208) S.1 S.2.1 dL_act_208 rfl (lv_at hl 1 rfl) ?_
                              refine lv_bipush (pc := 209) (v := nI 14) S.1 S.2.1 dL_act_209 (by decide) ?_
                              refine hv_icmp_ne (pc := 211) (tgt := 222) (a := 15) (b := 14) S.1 S.2.1 (by omega) (by omega) dL_act_211 (by decide) (fun c_15 => ?_) (fun c_15 => ?_)
                              · skip
                                refine lv_iload_n (pc := 222) S.1 S.2.1 dL_act_222 rfl (lv_at hl 1 rfl) ?_
                                refine lv_bipush (pc := 223) (v := nI 15) S.1 S.2.1 dL_act_223 (by decide) ?_
                                refine hv_icmp_ne (pc := 225) (tgt := 237) (a := 15) (b := 15) S.1 S.2.1 (by omega) (by omega) dL_act_225 (by decide) (fun c_16 => ?_) (fun c_16 => ?_)
                                · skip
                                  exact absurd c_16 (by omega)
                                · skip
                                  refine lv_aload_n (pc := 228) S.1 S.2.1 dL_act_228 rfl (lv_at hl 0 rfl) ?_
                                  refine lv_iload_n (pc := 229) S.1 S.2.1 dL_act_229 rfl (lv_at hl 2 rfl) ?_
                                  refine lv_iload_n (pc := 230) S.1 S.2.1 dL_act_230 rfl (lv_at hl 3 rfl) ?_
                                  refine hv_callX (pc := 231) (vx_runV (As := [.int (x0), .int (x1)]) (rest := []) S (yr_measure l hfl D cA ga φ H.size az tn tk tm tg sc ar w ez o oi (x0) (x1) hY hI hT h200 3 hz (by decide)) (cwV 2 S.2.2.2.2 (gV tw_856 tw_857 tw_858 tw_1 tw_859) rfl rfl rfl (by decide +kernel) ⟨Nat.le_of_ble_eq_true rfl, Nat.le_of_ble_eq_true rfl⟩) (pre0_V hH hK hX hS hA (ycv hH hK hY)) rfl rfl hl.1 rfl (lv_room (Nat.le_of_ble_eq_true rfl)) dL_act_231 ⟨Nat.le_of_ble_eq_true rfl, Nat.le_of_ble_eq_true rfl⟩) hS (af_le hH hS hA) (fun E ce q9 φ9 H locs hx9 hH hS hce hcv hcl => ?_) (fun v φ9 H locs hw9 hH hS => ?_)
                                  · skip
                                    obtain ⟨hq9, rfl⟩ := hx9
                                    rw [hq9] at hH
                                    refine vx_catch (own := RL) (name := "java/lang/IndexOutOfBoundsException") S.2.2.2.1 [] ⟨0, 302, 303, 78⟩ [⟨0, 302, 308, 81⟩, ⟨0, 302, 313, 84⟩] (by rw [ht9]; rfl) (fun z hz => by cases hz) (by decide) (by decide) (S.2.2.2.2 _ tw_264) (va_Nw.use (tabW_on tabIOOBE) (hX.tabs _ tabIOOBE)) hce hcv hcl ?_
                                    refine lv_astore (pc := 303) (lv' := [(5, .ref q9), (0, .ref (az 0)), (1, .int (nI 15)), (2, .int (x0)), (3, .int (x1)), (4, .int (x2))]) S.1 S.2.1 dL_act_303 hl (by decide) rfl (fun ls hl => ?_)
                                    refine lv_ldc (pc := 305) (v := (-16810000 : Int32)) S.1 S.2.1 S.2.2.2.1 (S.2.2.2.2 _ tw_885) dL_act_305 ?_
                                    exact hv_ret (pc := 307) (v := (-16810000 : Int32)) S hr rfl hlocks hH hS (⟨rfl, rfl⟩) (Nat.le_of_ble_eq_true rfl) (Nat.le_of_ble_eq_true rfl) dL_act_307
                                  · skip
                                    exact absurd hw9 id
                              · skip
                                exact absurd c_15 (by omega)
                            · skip
                              exact absurd c_14 (by omega)
                          · skip
                            exact absurd c_13 (by omega)
                        · skip
                          exact absurd c_12 (by omega)
                      · skip
                        exact absurd c_11 (by omega)
                    · skip
                      exact absurd c_10 (by omega)
                  · skip
                    exact absurd c_9 (by omega)
                · skip
                  exact absurd c_8 (by omega)
              · skip
                exact absurd c_7 (by omega)
            · skip
              exact absurd c_6 (by omega)
          · skip
            exact absurd c_5 (by omega)
        · skip
          exact absurd c_4 (by omega)
      · skip
        exact absurd c_3 (by omega)
    · skip
      exact absurd c_2 (by omega)
  · skip
    exact absurd c_1 (by omega)

set_option maxHeartbeats 4000000 in
set_option maxRecDepth 100000 in
/-- act, measure: it refuses -/
theorem ax_measure_1 (l : Launch) (hfl : l.stackTraces = false) (D : va_G) (cA : Nat → ClassId) (ga : Nat → Nat → Nat) (φ : hpM) (sz : Nat) (az : Nat → Nat) (tn tk tm : Nat) (tg sc : Nat → Nat) (ar : Nat → Nat → Nat) (w : Nat → Nat → Nat → Nat) (ez o oi : Nat → Nat → Nat) (x0 x1 x2 : Int32) (hY : YW cA ga az tk tm tg sc ar w ez o φ) (hI : LI tn sc ar w ez oi) (hT : TY tk tg) (h200 : tn ≤ 200) (hz : measX (x0) (x1) = 1) : hW l yL_act cL_act 6 (some .int) [(0, 302, 303, 78), (0, 302, 308, 81), (0, 302, 313, 84)] { frames := 10, cells := 2, slots := 12, locals := 320 } [.ref (az 0), .int (nI 15), .int (x0), .int (x1), .int (x2)] D cA ga φ sz (fun v φ' => v = some (.int (-16820000)) ∧ φ' = φ) 2 12 := by
  refine hW.of (by decide) (Nat.le_of_ble_eq_true rfl) rfl ?_
  intro p e s m args below meth c ls H locs S hr hlocks ht9 hsz hHz hH hK hX hS hA hl
  refine lv_iload_n (pc := 0) S.1 S.2.1 dL_act_0 rfl (lv_at hl 1 rfl) ?_
  refine hv_if_ne (pc := 1) (tgt := 13) (a := 15) S.1 S.2.1 (by omega) dL_act_1 (by decide) (fun c_1 => ?_) (fun c_1 => ?_)
  · skip
    refine lv_iload_n (pc := 13) S.1 S.2.1 dL_act_13 rfl (lv_at hl 1 rfl) ?_
    refine lv_iconst (pc := 14) (v := nI 1) S.1 S.2.1 dL_act_14 (by decide) ?_
    refine hv_icmp_ne (pc := 15) (tgt := 26) (a := 15) (b := 1) S.1 S.2.1 (by omega) (by omega) dL_act_15 (by decide) (fun c_2 => ?_) (fun c_2 => ?_)
    · skip
      refine lv_iload_n (pc := 26) S.1 S.2.1 dL_act_26 rfl (lv_at hl 1 rfl) ?_
      refine lv_iconst (pc := 27) (v := nI 2) S.1 S.2.1 dL_act_27 (by decide) ?_
      refine hv_icmp_ne (pc := 28) (tgt := 42) (a := 15) (b := 2) S.1 S.2.1 (by omega) (by omega) dL_act_28 (by decide) (fun c_3 => ?_) (fun c_3 => ?_)
      · skip
        refine lv_iload_n (pc := 42) S.1 S.2.1 dL_act_42 rfl (lv_at hl 1 rfl) ?_
        refine lv_iconst (pc := 43) (v := nI 3) S.1 S.2.1 dL_act_43 (by decide) ?_
        refine hv_icmp_ne (pc := 44) (tgt := 54) (a := 15) (b := 3) S.1 S.2.1 (by omega) (by omega) dL_act_44 (by decide) (fun c_4 => ?_) (fun c_4 => ?_)
        · skip
          refine lv_iload_n (pc := 54) S.1 S.2.1 dL_act_54 rfl (lv_at hl 1 rfl) ?_
          refine lv_iconst (pc := 55) (v := nI 4) S.1 S.2.1 dL_act_55 (by decide) ?_
          refine hv_icmp_ne (pc := 56) (tgt := 68) (a := 15) (b := 4) S.1 S.2.1 (by omega) (by omega) dL_act_56 (by decide) (fun c_5 => ?_) (fun c_5 => ?_)
          · skip
            refine lv_iload_n (pc := 68) S.1 S.2.1 dL_act_68 rfl (lv_at hl 1 rfl) ?_
            refine lv_iconst (pc := 69) (v := nI 5) S.1 S.2.1 dL_act_69 (by decide) ?_
            refine hv_icmp_ne (pc := 70) (tgt := 82) (a := 15) (b := 5) S.1 S.2.1 (by omega) (by omega) dL_act_70 (by decide) (fun c_6 => ?_) (fun c_6 => ?_)
            · skip
              refine lv_iload_n (pc := 82) S.1 S.2.1 dL_act_82 rfl (lv_at hl 1 rfl) ?_
              refine lv_bipush (pc := 83) (v := nI 6) S.1 S.2.1 dL_act_83 (by decide) ?_
              refine hv_icmp_ne (pc := 85) (tgt := 97) (a := 15) (b := 6) S.1 S.2.1 (by omega) (by omega) dL_act_85 (by decide) (fun c_7 => ?_) (fun c_7 => ?_)
              · skip
                refine lv_iload_n (pc := 97) S.1 S.2.1 dL_act_97 rfl (lv_at hl 1 rfl) ?_
                refine lv_bipush (pc := 98) (v := nI 7) S.1 S.2.1 dL_act_98 (by decide) ?_
                refine hv_icmp_ne (pc := 100) (tgt := 119) (a := 15) (b := 7) S.1 S.2.1 (by omega) (by omega) dL_act_100 (by decide) (fun c_8 => ?_) (fun c_8 => ?_)
                · skip
                  refine lv_iload_n (pc := 119) S.1 S.2.1 dL_act_119 rfl (lv_at hl 1 rfl) ?_
                  refine lv_bipush (pc := 120) (v := nI 8) S.1 S.2.1 dL_act_120 (by decide) ?_
                  refine hv_icmp_ne (pc := 122) (tgt := 133) (a := 15) (b := 8) S.1 S.2.1 (by omega) (by omega) dL_act_122 (by decide) (fun c_9 => ?_) (fun c_9 => ?_)
                  · skip
                    refine lv_iload_n (pc := 133) S.1 S.2.1 dL_act_133 rfl (lv_at hl 1 rfl) ?_
                    refine lv_bipush (pc := 134) (v := nI 9) S.1 S.2.1 dL_act_134 (by decide) ?_
                    refine hv_icmp_ne (pc := 136) (tgt := 150) (a := 15) (b := 9) S.1 S.2.1 (by omega) (by omega) dL_act_136 (by decide) (fun c_10 => ?_) (fun c_10 => ?_)
                    · skip
                      refine lv_iload_n (pc := 150) S.1 S.2.1 dL_act_150 rfl (lv_at hl 1 rfl) ?_
                      refine lv_bipush (pc := 151) (v := nI 10) S.1 S.2.1 dL_act_151 (by decide) ?_
                      refine hv_icmp_ne (pc := 153) (tgt := 165) (a := 15) (b := 10) S.1 S.2.1 (by omega) (by omega) dL_act_153 (by decide) (fun c_11 => ?_) (fun c_11 => ?_)
                      · skip
                        refine lv_iload_n (pc := 165) S.1 S.2.1 dL_act_165 rfl (lv_at hl 1 rfl) ?_
                        refine lv_bipush (pc := 166) (v := nI 11) S.1 S.2.1 dL_act_166 (by decide) ?_
                        refine hv_icmp_ne (pc := 168) (tgt := 180) (a := 15) (b := 11) S.1 S.2.1 (by omega) (by omega) dL_act_168 (by decide) (fun c_12 => ?_) (fun c_12 => ?_)
                        · skip
                          refine lv_iload_n (pc := 180) S.1 S.2.1 dL_act_180 rfl (lv_at hl 1 rfl) ?_
                          refine lv_bipush (pc := 181) (v := nI 12) S.1 S.2.1 dL_act_181 (by decide) ?_
                          refine hv_icmp_ne (pc := 183) (tgt := 194) (a := 15) (b := 12) S.1 S.2.1 (by omega) (by omega) dL_act_183 (by decide) (fun c_13 => ?_) (fun c_13 => ?_)
                          · skip
                            refine lv_iload_n (pc := 194) S.1 S.2.1 dL_act_194 rfl (lv_at hl 1 rfl) ?_
                            refine lv_bipush (pc := 195) (v := nI 13) S.1 S.2.1 dL_act_195 (by decide) ?_
                            refine hv_icmp_ne (pc := 197) (tgt := 208) (a := 15) (b := 13) S.1 S.2.1 (by omega) (by omega) dL_act_197 (by decide) (fun c_14 => ?_) (fun c_14 => ?_)
                            · skip
                              refine lv_iload_n (pc := 208) S.1 S.2.1 dL_act_208 rfl (lv_at hl 1 rfl) ?_
                              refine lv_bipush (pc := 209) (v := nI 14) S.1 S.2.1 dL_act_209 (by decide) ?_
                              refine hv_icmp_ne (pc := 211) (tgt := 222) (a := 15) (b := 14) S.1 S.2.1 (by omega) (by omega) dL_act_211 (by decide) (fun c_15 => ?_) (fun c_15 => ?_)
                              · skip
                                refine lv_iload_n (pc := 222) S.1 S.2.1 dL_act_222 rfl (lv_at hl 1 rfl) ?_
                                refine lv_bipush (pc := 223) (v := nI 15) S.1 S.2.1 dL_act_223 (by decide) ?_
                                refine hv_icmp_ne (pc := 225) (tgt := 237) (a := 15) (b := 15) S.1 S.2.1 (by omega) (by omega) dL_act_225 (by decide) (fun c_16 => ?_) (fun c_16 => ?_)
                                · skip
                                  exact absurd c_16 (by omega)
                                · skip
                                  refine lv_aload_n (pc := 228) S.1 S.2.1 dL_act_228 rfl (lv_at hl 0 rfl) ?_
                                  refine lv_iload_n (pc := 229) S.1 S.2.1 dL_act_229 rfl (lv_at hl 2 rfl) ?_
                                  refine lv_iload_n (pc := 230) S.1 S.2.1 dL_act_230 rfl (lv_at hl 3 rfl) ?_
                                  refine hv_callX (pc := 231) (vx_runV (As := [.int (x0), .int (x1)]) (rest := []) S (yr_measure l hfl D cA ga φ H.size az tn tk tm tg sc ar w ez o oi (x0) (x1) hY hI hT h200 1 hz (by decide)) (cwV 2 S.2.2.2.2 (gV tw_856 tw_857 tw_858 tw_1 tw_859) rfl rfl rfl (by decide +kernel) ⟨Nat.le_of_ble_eq_true rfl, Nat.le_of_ble_eq_true rfl⟩) (pre0_V hH hK hX hS hA (ycv hH hK hY)) rfl rfl hl.1 rfl (lv_room (Nat.le_of_ble_eq_true rfl)) dL_act_231 ⟨Nat.le_of_ble_eq_true rfl, Nat.le_of_ble_eq_true rfl⟩) hS (af_le hH hS hA) (fun E ce q9 φ9 H locs hx9 hH hS hce hcv hcl => ?_) (fun v φ9 H locs hw9 hH hS => ?_)
                                  · skip
                                    obtain ⟨hq9, rfl⟩ := hx9
                                    rw [hq9] at hH
                                    refine vx_catch (own := RL) (name := "java/lang/IllegalArgumentException") S.2.2.2.1 [⟨0, 302, 303, 78⟩] ⟨0, 302, 308, 81⟩ [⟨0, 302, 313, 84⟩] (by rw [ht9]; rfl) (fun z hz => by obtain rfl := List.mem_singleton.mp hz; exact Or.inr ⟨by decide, _, S.2.2.2.2 _ tw_264, hX.nc2⟩) (by decide) (by decide) (S.2.2.2.2 _ tw_265) (va_Nw.use (tabW_on tabIAE) (hX.tabs _ tabIAE)) hce hcv hcl ?_
                                    refine lv_astore (pc := 308) (lv' := [(5, .ref q9), (0, .ref (az 0)), (1, .int (nI 15)), (2, .int (x0)), (3, .int (x1)), (4, .int (x2))]) S.1 S.2.1 dL_act_308 hl (by decide) rfl (fun ls hl => ?_)
                                    refine lv_ldc (pc := 310) (v := (-16820000 : Int32)) S.1 S.2.1 S.2.2.2.1 (S.2.2.2.2 _ tw_886) dL_act_310 ?_
                                    exact hv_ret (pc := 312) (v := (-16820000 : Int32)) S hr rfl hlocks hH hS (⟨rfl, rfl⟩) (Nat.le_of_ble_eq_true rfl) (Nat.le_of_ble_eq_true rfl) dL_act_312
                                  · skip
                                    exact absurd hw9 id
                              · skip
                                exact absurd c_15 (by omega)
                            · skip
                              exact absurd c_14 (by omega)
                          · skip
                            exact absurd c_13 (by omega)
                        · skip
                          exact absurd c_12 (by omega)
                      · skip
                        exact absurd c_11 (by omega)
                    · skip
                      exact absurd c_10 (by omega)
                  · skip
                    exact absurd c_9 (by omega)
                · skip
                  exact absurd c_8 (by omega)
              · skip
                exact absurd c_7 (by omega)
            · skip
              exact absurd c_6 (by omega)
          · skip
            exact absurd c_5 (by omega)
        · skip
          exact absurd c_4 (by omega)
      · skip
        exact absurd c_3 (by omega)
    · skip
      exact absurd c_2 (by omega)
  · skip
    exact absurd c_1 (by omega)

set_option maxHeartbeats 4000000 in
set_option maxRecDepth 100000 in
/-- act, fits: it refuses -/
theorem ax_fits_3 (l : Launch) (hfl : l.stackTraces = false) (D : va_G) (cA : Nat → ClassId) (ga : Nat → Nat → Nat) (φ : hpM) (sz : Nat) (az : Nat → Nat) (tn tk tm : Nat) (tg sc : Nat → Nat) (ar : Nat → Nat → Nat) (w : Nat → Nat → Nat → Nat) (ez o oi : Nat → Nat → Nat) (x0 x1 x2 : Int32) (hY : YW cA ga az tk tm tg sc ar w ez o φ) (hI : LI tn sc ar w ez oi) (hT : TY tk tg) (h200 : tn ≤ 200) (hz : inX (sc 3) (x0) = 3) : hW l yL_act cL_act 6 (some .int) [(0, 302, 303, 78), (0, 302, 308, 81), (0, 302, 313, 84)] { frames := 11, cells := 2, slots := 12, locals := 380 } [.ref (az 0), .int (nI 16), .int (x0), .int (x1), .int (x2)] D cA ga φ sz (fun v φ' => v = some (.int (-16810000)) ∧ φ' = φ) 2 12 := by
  refine hW.of (by decide) (Nat.le_of_ble_eq_true rfl) rfl ?_
  intro p e s m args below meth c ls H locs S hr hlocks ht9 hsz hHz hH hK hX hS hA hl
  refine lv_iload_n (pc := 0) S.1 S.2.1 dL_act_0 rfl (lv_at hl 1 rfl) ?_
  refine hv_if_ne (pc := 1) (tgt := 13) (a := 16) S.1 S.2.1 (by omega) dL_act_1 (by decide) (fun c_1 => ?_) (fun c_1 => ?_)
  · skip
    refine lv_iload_n (pc := 13) S.1 S.2.1 dL_act_13 rfl (lv_at hl 1 rfl) ?_
    refine lv_iconst (pc := 14) (v := nI 1) S.1 S.2.1 dL_act_14 (by decide) ?_
    refine hv_icmp_ne (pc := 15) (tgt := 26) (a := 16) (b := 1) S.1 S.2.1 (by omega) (by omega) dL_act_15 (by decide) (fun c_2 => ?_) (fun c_2 => ?_)
    · skip
      refine lv_iload_n (pc := 26) S.1 S.2.1 dL_act_26 rfl (lv_at hl 1 rfl) ?_
      refine lv_iconst (pc := 27) (v := nI 2) S.1 S.2.1 dL_act_27 (by decide) ?_
      refine hv_icmp_ne (pc := 28) (tgt := 42) (a := 16) (b := 2) S.1 S.2.1 (by omega) (by omega) dL_act_28 (by decide) (fun c_3 => ?_) (fun c_3 => ?_)
      · skip
        refine lv_iload_n (pc := 42) S.1 S.2.1 dL_act_42 rfl (lv_at hl 1 rfl) ?_
        refine lv_iconst (pc := 43) (v := nI 3) S.1 S.2.1 dL_act_43 (by decide) ?_
        refine hv_icmp_ne (pc := 44) (tgt := 54) (a := 16) (b := 3) S.1 S.2.1 (by omega) (by omega) dL_act_44 (by decide) (fun c_4 => ?_) (fun c_4 => ?_)
        · skip
          refine lv_iload_n (pc := 54) S.1 S.2.1 dL_act_54 rfl (lv_at hl 1 rfl) ?_
          refine lv_iconst (pc := 55) (v := nI 4) S.1 S.2.1 dL_act_55 (by decide) ?_
          refine hv_icmp_ne (pc := 56) (tgt := 68) (a := 16) (b := 4) S.1 S.2.1 (by omega) (by omega) dL_act_56 (by decide) (fun c_5 => ?_) (fun c_5 => ?_)
          · skip
            refine lv_iload_n (pc := 68) S.1 S.2.1 dL_act_68 rfl (lv_at hl 1 rfl) ?_
            refine lv_iconst (pc := 69) (v := nI 5) S.1 S.2.1 dL_act_69 (by decide) ?_
            refine hv_icmp_ne (pc := 70) (tgt := 82) (a := 16) (b := 5) S.1 S.2.1 (by omega) (by omega) dL_act_70 (by decide) (fun c_6 => ?_) (fun c_6 => ?_)
            · skip
              refine lv_iload_n (pc := 82) S.1 S.2.1 dL_act_82 rfl (lv_at hl 1 rfl) ?_
              refine lv_bipush (pc := 83) (v := nI 6) S.1 S.2.1 dL_act_83 (by decide) ?_
              refine hv_icmp_ne (pc := 85) (tgt := 97) (a := 16) (b := 6) S.1 S.2.1 (by omega) (by omega) dL_act_85 (by decide) (fun c_7 => ?_) (fun c_7 => ?_)
              · skip
                refine lv_iload_n (pc := 97) S.1 S.2.1 dL_act_97 rfl (lv_at hl 1 rfl) ?_
                refine lv_bipush (pc := 98) (v := nI 7) S.1 S.2.1 dL_act_98 (by decide) ?_
                refine hv_icmp_ne (pc := 100) (tgt := 119) (a := 16) (b := 7) S.1 S.2.1 (by omega) (by omega) dL_act_100 (by decide) (fun c_8 => ?_) (fun c_8 => ?_)
                · skip
                  refine lv_iload_n (pc := 119) S.1 S.2.1 dL_act_119 rfl (lv_at hl 1 rfl) ?_
                  refine lv_bipush (pc := 120) (v := nI 8) S.1 S.2.1 dL_act_120 (by decide) ?_
                  refine hv_icmp_ne (pc := 122) (tgt := 133) (a := 16) (b := 8) S.1 S.2.1 (by omega) (by omega) dL_act_122 (by decide) (fun c_9 => ?_) (fun c_9 => ?_)
                  · skip
                    refine lv_iload_n (pc := 133) S.1 S.2.1 dL_act_133 rfl (lv_at hl 1 rfl) ?_
                    refine lv_bipush (pc := 134) (v := nI 9) S.1 S.2.1 dL_act_134 (by decide) ?_
                    refine hv_icmp_ne (pc := 136) (tgt := 150) (a := 16) (b := 9) S.1 S.2.1 (by omega) (by omega) dL_act_136 (by decide) (fun c_10 => ?_) (fun c_10 => ?_)
                    · skip
                      refine lv_iload_n (pc := 150) S.1 S.2.1 dL_act_150 rfl (lv_at hl 1 rfl) ?_
                      refine lv_bipush (pc := 151) (v := nI 10) S.1 S.2.1 dL_act_151 (by decide) ?_
                      refine hv_icmp_ne (pc := 153) (tgt := 165) (a := 16) (b := 10) S.1 S.2.1 (by omega) (by omega) dL_act_153 (by decide) (fun c_11 => ?_) (fun c_11 => ?_)
                      · skip
                        refine lv_iload_n (pc := 165) S.1 S.2.1 dL_act_165 rfl (lv_at hl 1 rfl) ?_
                        refine lv_bipush (pc := 166) (v := nI 11) S.1 S.2.1 dL_act_166 (by decide) ?_
                        refine hv_icmp_ne (pc := 168) (tgt := 180) (a := 16) (b := 11) S.1 S.2.1 (by omega) (by omega) dL_act_168 (by decide) (fun c_12 => ?_) (fun c_12 => ?_)
                        · skip
                          refine lv_iload_n (pc := 180) S.1 S.2.1 dL_act_180 rfl (lv_at hl 1 rfl) ?_
                          refine lv_bipush (pc := 181) (v := nI 12) S.1 S.2.1 dL_act_181 (by decide) ?_
                          refine hv_icmp_ne (pc := 183) (tgt := 194) (a := 16) (b := 12) S.1 S.2.1 (by omega) (by omega) dL_act_183 (by decide) (fun c_13 => ?_) (fun c_13 => ?_)
                          · skip
                            refine lv_iload_n (pc := 194) S.1 S.2.1 dL_act_194 rfl (lv_at hl 1 rfl) ?_
                            refine lv_bipush (pc := 195) (v := nI 13) S.1 S.2.1 dL_act_195 (by decide) ?_
                            refine hv_icmp_ne (pc := 197) (tgt := 208) (a := 16) (b := 13) S.1 S.2.1 (by omega) (by omega) dL_act_197 (by decide) (fun c_14 => ?_) (fun c_14 => ?_)
                            · skip
                              refine lv_iload_n (pc := 208) S.1 S.2.1 dL_act_208 rfl (lv_at hl 1 rfl) ?_
                              refine lv_bipush (pc := 209) (v := nI 14) S.1 S.2.1 dL_act_209 (by decide) ?_
                              refine hv_icmp_ne (pc := 211) (tgt := 222) (a := 16) (b := 14) S.1 S.2.1 (by omega) (by omega) dL_act_211 (by decide) (fun c_15 => ?_) (fun c_15 => ?_)
                              · skip
                                refine lv_iload_n (pc := 222) S.1 S.2.1 dL_act_222 rfl (lv_at hl 1 rfl) ?_
                                refine lv_bipush (pc := 223) (v := nI 15) S.1 S.2.1 dL_act_223 (by decide) ?_
                                refine hv_icmp_ne (pc := 225) (tgt := 237) (a := 16) (b := 15) S.1 S.2.1 (by omega) (by omega) dL_act_225 (by decide) (fun c_16 => ?_) (fun c_16 => ?_)
                                · skip
                                  refine lv_iload_n (pc := 237) S.1 S.2.1 dL_act_237 rfl (lv_at hl 1 rfl) ?_
                                  refine lv_bipush (pc := 238) (v := nI 16) S.1 S.2.1 dL_act_238 (by decide) ?_
                                  refine hv_icmp_ne (pc := 240) (tgt := 259) (a := 16) (b := 16) S.1 S.2.1 (by omega) (by omega) dL_act_240 (by decide) (fun c_17 => ?_) (fun c_17 => ?_)
                                  · skip
                                    exact absurd c_17 (by omega)
                                  · skip
                                    refine lv_aload_n (pc := 243) S.1 S.2.1 dL_act_243 rfl (lv_at hl 0 rfl) ?_
                                    refine lv_iload_n (pc := 244) S.1 S.2.1 dL_act_244 rfl (lv_at hl 2 rfl) ?_
                                    refine hv_callX (pc := 245) (vx_runV (As := [.int (x0)]) (rest := []) S (yr_fits l hfl D cA ga φ H.size az tn tk tm tg sc ar w ez o oi (x0) hY hI hT h200 3 hz (by decide)) (cwV 1 S.2.2.2.2 (gV tw_868 tw_869 tw_870 tw_1 tw_871) rfl rfl rfl (by decide +kernel) ⟨Nat.le_of_ble_eq_true rfl, Nat.le_of_ble_eq_true rfl⟩) (pre0_V hH hK hX hS hA (ycv hH hK hY)) rfl rfl hl.1 rfl (lv_room (Nat.le_of_ble_eq_true rfl)) dL_act_245 ⟨Nat.le_of_ble_eq_true rfl, Nat.le_of_ble_eq_true rfl⟩) hS (af_le hH hS hA) (fun E ce q9 φ9 H locs hx9 hH hS hce hcv hcl => ?_) (fun v φ9 H locs hw9 hH hS => ?_)
                                    · skip
                                      obtain ⟨hq9, rfl⟩ := hx9
                                      rw [hq9] at hH
                                      refine vx_catch (own := RL) (name := "java/lang/IndexOutOfBoundsException") S.2.2.2.1 [] ⟨0, 302, 303, 78⟩ [⟨0, 302, 308, 81⟩, ⟨0, 302, 313, 84⟩] (by rw [ht9]; rfl) (fun z hz => by cases hz) (by decide) (by decide) (S.2.2.2.2 _ tw_264) (va_Nw.use (tabW_on tabIOOBE) (hX.tabs _ tabIOOBE)) hce hcv hcl ?_
                                      refine lv_astore (pc := 303) (lv' := [(5, .ref q9), (0, .ref (az 0)), (1, .int (nI 16)), (2, .int (x0)), (3, .int (x1)), (4, .int (x2))]) S.1 S.2.1 dL_act_303 hl (by decide) rfl (fun ls hl => ?_)
                                      refine lv_ldc (pc := 305) (v := (-16810000 : Int32)) S.1 S.2.1 S.2.2.2.1 (S.2.2.2.2 _ tw_885) dL_act_305 ?_
                                      exact hv_ret (pc := 307) (v := (-16810000 : Int32)) S hr rfl hlocks hH hS (⟨rfl, rfl⟩) (Nat.le_of_ble_eq_true rfl) (Nat.le_of_ble_eq_true rfl) dL_act_307
                                    · skip
                                      exact absurd hw9 id
                                · skip
                                  exact absurd c_16 (by omega)
                              · skip
                                exact absurd c_15 (by omega)
                            · skip
                              exact absurd c_14 (by omega)
                          · skip
                            exact absurd c_13 (by omega)
                        · skip
                          exact absurd c_12 (by omega)
                      · skip
                        exact absurd c_11 (by omega)
                    · skip
                      exact absurd c_10 (by omega)
                  · skip
                    exact absurd c_9 (by omega)
                · skip
                  exact absurd c_8 (by omega)
              · skip
                exact absurd c_7 (by omega)
            · skip
              exact absurd c_6 (by omega)
          · skip
            exact absurd c_5 (by omega)
        · skip
          exact absurd c_4 (by omega)
      · skip
        exact absurd c_3 (by omega)
    · skip
      exact absurd c_2 (by omega)
  · skip
    exact absurd c_1 (by omega)

set_option maxHeartbeats 4000000 in
set_option maxRecDepth 100000 in
/-- act, size: it refuses -/
theorem ax_size_3 (l : Launch) (hfl : l.stackTraces = false) (D : va_G) (cA : Nat → ClassId) (ga : Nat → Nat → Nat) (φ : hpM) (sz : Nat) (az : Nat → Nat) (tn tk tm : Nat) (tg sc : Nat → Nat) (ar : Nat → Nat → Nat) (w : Nat → Nat → Nat → Nat) (ez o oi : Nat → Nat → Nat) (x0 x1 x2 : Int32) (hY : YW cA ga az tk tm tg sc ar w ez o φ) (hI : LI tn sc ar w ez oi) (hT : TY tk tg) (h200 : tn ≤ 200) (hz : inX 4 (x0) = 3) : hW l yL_act cL_act 6 (some .int) [(0, 302, 303, 78), (0, 302, 308, 81), (0, 302, 313, 84)] { frames := 11, cells := 2, slots := 12, locals := 380 } [.ref (az 0), .int (nI 17), .int (x0), .int (x1), .int (x2)] D cA ga φ sz (fun v φ' => v = some (.int (-16810000)) ∧ φ' = φ) 2 12 := by
  refine hW.of (by decide) (Nat.le_of_ble_eq_true rfl) rfl ?_
  intro p e s m args below meth c ls H locs S hr hlocks ht9 hsz hHz hH hK hX hS hA hl
  refine lv_iload_n (pc := 0) S.1 S.2.1 dL_act_0 rfl (lv_at hl 1 rfl) ?_
  refine hv_if_ne (pc := 1) (tgt := 13) (a := 17) S.1 S.2.1 (by omega) dL_act_1 (by decide) (fun c_1 => ?_) (fun c_1 => ?_)
  · skip
    refine lv_iload_n (pc := 13) S.1 S.2.1 dL_act_13 rfl (lv_at hl 1 rfl) ?_
    refine lv_iconst (pc := 14) (v := nI 1) S.1 S.2.1 dL_act_14 (by decide) ?_
    refine hv_icmp_ne (pc := 15) (tgt := 26) (a := 17) (b := 1) S.1 S.2.1 (by omega) (by omega) dL_act_15 (by decide) (fun c_2 => ?_) (fun c_2 => ?_)
    · skip
      refine lv_iload_n (pc := 26) S.1 S.2.1 dL_act_26 rfl (lv_at hl 1 rfl) ?_
      refine lv_iconst (pc := 27) (v := nI 2) S.1 S.2.1 dL_act_27 (by decide) ?_
      refine hv_icmp_ne (pc := 28) (tgt := 42) (a := 17) (b := 2) S.1 S.2.1 (by omega) (by omega) dL_act_28 (by decide) (fun c_3 => ?_) (fun c_3 => ?_)
      · skip
        refine lv_iload_n (pc := 42) S.1 S.2.1 dL_act_42 rfl (lv_at hl 1 rfl) ?_
        refine lv_iconst (pc := 43) (v := nI 3) S.1 S.2.1 dL_act_43 (by decide) ?_
        refine hv_icmp_ne (pc := 44) (tgt := 54) (a := 17) (b := 3) S.1 S.2.1 (by omega) (by omega) dL_act_44 (by decide) (fun c_4 => ?_) (fun c_4 => ?_)
        · skip
          refine lv_iload_n (pc := 54) S.1 S.2.1 dL_act_54 rfl (lv_at hl 1 rfl) ?_
          refine lv_iconst (pc := 55) (v := nI 4) S.1 S.2.1 dL_act_55 (by decide) ?_
          refine hv_icmp_ne (pc := 56) (tgt := 68) (a := 17) (b := 4) S.1 S.2.1 (by omega) (by omega) dL_act_56 (by decide) (fun c_5 => ?_) (fun c_5 => ?_)
          · skip
            refine lv_iload_n (pc := 68) S.1 S.2.1 dL_act_68 rfl (lv_at hl 1 rfl) ?_
            refine lv_iconst (pc := 69) (v := nI 5) S.1 S.2.1 dL_act_69 (by decide) ?_
            refine hv_icmp_ne (pc := 70) (tgt := 82) (a := 17) (b := 5) S.1 S.2.1 (by omega) (by omega) dL_act_70 (by decide) (fun c_6 => ?_) (fun c_6 => ?_)
            · skip
              refine lv_iload_n (pc := 82) S.1 S.2.1 dL_act_82 rfl (lv_at hl 1 rfl) ?_
              refine lv_bipush (pc := 83) (v := nI 6) S.1 S.2.1 dL_act_83 (by decide) ?_
              refine hv_icmp_ne (pc := 85) (tgt := 97) (a := 17) (b := 6) S.1 S.2.1 (by omega) (by omega) dL_act_85 (by decide) (fun c_7 => ?_) (fun c_7 => ?_)
              · skip
                refine lv_iload_n (pc := 97) S.1 S.2.1 dL_act_97 rfl (lv_at hl 1 rfl) ?_
                refine lv_bipush (pc := 98) (v := nI 7) S.1 S.2.1 dL_act_98 (by decide) ?_
                refine hv_icmp_ne (pc := 100) (tgt := 119) (a := 17) (b := 7) S.1 S.2.1 (by omega) (by omega) dL_act_100 (by decide) (fun c_8 => ?_) (fun c_8 => ?_)
                · skip
                  refine lv_iload_n (pc := 119) S.1 S.2.1 dL_act_119 rfl (lv_at hl 1 rfl) ?_
                  refine lv_bipush (pc := 120) (v := nI 8) S.1 S.2.1 dL_act_120 (by decide) ?_
                  refine hv_icmp_ne (pc := 122) (tgt := 133) (a := 17) (b := 8) S.1 S.2.1 (by omega) (by omega) dL_act_122 (by decide) (fun c_9 => ?_) (fun c_9 => ?_)
                  · skip
                    refine lv_iload_n (pc := 133) S.1 S.2.1 dL_act_133 rfl (lv_at hl 1 rfl) ?_
                    refine lv_bipush (pc := 134) (v := nI 9) S.1 S.2.1 dL_act_134 (by decide) ?_
                    refine hv_icmp_ne (pc := 136) (tgt := 150) (a := 17) (b := 9) S.1 S.2.1 (by omega) (by omega) dL_act_136 (by decide) (fun c_10 => ?_) (fun c_10 => ?_)
                    · skip
                      refine lv_iload_n (pc := 150) S.1 S.2.1 dL_act_150 rfl (lv_at hl 1 rfl) ?_
                      refine lv_bipush (pc := 151) (v := nI 10) S.1 S.2.1 dL_act_151 (by decide) ?_
                      refine hv_icmp_ne (pc := 153) (tgt := 165) (a := 17) (b := 10) S.1 S.2.1 (by omega) (by omega) dL_act_153 (by decide) (fun c_11 => ?_) (fun c_11 => ?_)
                      · skip
                        refine lv_iload_n (pc := 165) S.1 S.2.1 dL_act_165 rfl (lv_at hl 1 rfl) ?_
                        refine lv_bipush (pc := 166) (v := nI 11) S.1 S.2.1 dL_act_166 (by decide) ?_
                        refine hv_icmp_ne (pc := 168) (tgt := 180) (a := 17) (b := 11) S.1 S.2.1 (by omega) (by omega) dL_act_168 (by decide) (fun c_12 => ?_) (fun c_12 => ?_)
                        · skip
                          refine lv_iload_n (pc := 180) S.1 S.2.1 dL_act_180 rfl (lv_at hl 1 rfl) ?_
                          refine lv_bipush (pc := 181) (v := nI 12) S.1 S.2.1 dL_act_181 (by decide) ?_
                          refine hv_icmp_ne (pc := 183) (tgt := 194) (a := 17) (b := 12) S.1 S.2.1 (by omega) (by omega) dL_act_183 (by decide) (fun c_13 => ?_) (fun c_13 => ?_)
                          · skip
                            refine lv_iload_n (pc := 194) S.1 S.2.1 dL_act_194 rfl (lv_at hl 1 rfl) ?_
                            refine lv_bipush (pc := 195) (v := nI 13) S.1 S.2.1 dL_act_195 (by decide) ?_
                            refine hv_icmp_ne (pc := 197) (tgt := 208) (a := 17) (b := 13) S.1 S.2.1 (by omega) (by omega) dL_act_197 (by decide) (fun c_14 => ?_) (fun c_14 => ?_)
                            · skip
                              refine lv_iload_n (pc := 208) S.1 S.2.1 dL_act_208 rfl (lv_at hl 1 rfl) ?_
                              refine lv_bipush (pc := 209) (v := nI 14) S.1 S.2.1 dL_act_209 (by decide) ?_
                              refine hv_icmp_ne (pc := 211) (tgt := 222) (a := 17) (b := 14) S.1 S.2.1 (by omega) (by omega) dL_act_211 (by decide) (fun c_15 => ?_) (fun c_15 => ?_)
                              · skip
                                refine lv_iload_n (pc := 222) S.1 S.2.1 dL_act_222 rfl (lv_at hl 1 rfl) ?_
                                refine lv_bipush (pc := 223) (v := nI 15) S.1 S.2.1 dL_act_223 (by decide) ?_
                                refine hv_icmp_ne (pc := 225) (tgt := 237) (a := 17) (b := 15) S.1 S.2.1 (by omega) (by omega) dL_act_225 (by decide) (fun c_16 => ?_) (fun c_16 => ?_)
                                · skip
                                  refine lv_iload_n (pc := 237) S.1 S.2.1 dL_act_237 rfl (lv_at hl 1 rfl) ?_
                                  refine lv_bipush (pc := 238) (v := nI 16) S.1 S.2.1 dL_act_238 (by decide) ?_
                                  refine hv_icmp_ne (pc := 240) (tgt := 259) (a := 17) (b := 16) S.1 S.2.1 (by omega) (by omega) dL_act_240 (by decide) (fun c_17 => ?_) (fun c_17 => ?_)
                                  · skip
                                    refine lv_iload_n (pc := 259) S.1 S.2.1 dL_act_259 rfl (lv_at hl 1 rfl) ?_
                                    refine lv_bipush (pc := 260) (v := nI 17) S.1 S.2.1 dL_act_260 (by decide) ?_
                                    refine hv_icmp_ne (pc := 262) (tgt := 273) (a := 17) (b := 17) S.1 S.2.1 (by omega) (by omega) dL_act_262 (by decide) (fun c_18 => ?_) (fun c_18 => ?_)
                                    · skip
                                      exact absurd c_18 (by omega)
                                    · skip
                                      refine lv_aload_n (pc := 265) S.1 S.2.1 dL_act_265 rfl (lv_at hl 0 rfl) ?_
                                      refine lv_iload_n (pc := 266) S.1 S.2.1 dL_act_266 rfl (lv_at hl 2 rfl) ?_
                                      refine hv_callX (pc := 267) (vx_runV (As := [.int (x0)]) (rest := []) S (yr_size l hfl D cA ga φ H.size az tn tk tm tg sc ar w ez o oi (x0) hY hI hT h200 3 hz (by decide)) (cwV 1 S.2.2.2.2 (gV tw_872 tw_873 tw_874 tw_1 tw_875) rfl rfl rfl (by decide +kernel) ⟨Nat.le_of_ble_eq_true rfl, Nat.le_of_ble_eq_true rfl⟩) (pre0_V hH hK hX hS hA (ycv hH hK hY)) rfl rfl hl.1 rfl (lv_room (Nat.le_of_ble_eq_true rfl)) dL_act_267 ⟨Nat.le_of_ble_eq_true rfl, Nat.le_of_ble_eq_true rfl⟩) hS (af_le hH hS hA) (fun E ce q9 φ9 H locs hx9 hH hS hce hcv hcl => ?_) (fun v φ9 H locs hw9 hH hS => ?_)
                                      · skip
                                        obtain ⟨hq9, rfl⟩ := hx9
                                        rw [hq9] at hH
                                        refine vx_catch (own := RL) (name := "java/lang/IndexOutOfBoundsException") S.2.2.2.1 [] ⟨0, 302, 303, 78⟩ [⟨0, 302, 308, 81⟩, ⟨0, 302, 313, 84⟩] (by rw [ht9]; rfl) (fun z hz => by cases hz) (by decide) (by decide) (S.2.2.2.2 _ tw_264) (va_Nw.use (tabW_on tabIOOBE) (hX.tabs _ tabIOOBE)) hce hcv hcl ?_
                                        refine lv_astore (pc := 303) (lv' := [(5, .ref q9), (0, .ref (az 0)), (1, .int (nI 17)), (2, .int (x0)), (3, .int (x1)), (4, .int (x2))]) S.1 S.2.1 dL_act_303 hl (by decide) rfl (fun ls hl => ?_)
                                        refine lv_ldc (pc := 305) (v := (-16810000 : Int32)) S.1 S.2.1 S.2.2.2.1 (S.2.2.2.2 _ tw_885) dL_act_305 ?_
                                        exact hv_ret (pc := 307) (v := (-16810000 : Int32)) S hr rfl hlocks hH hS (⟨rfl, rfl⟩) (Nat.le_of_ble_eq_true rfl) (Nat.le_of_ble_eq_true rfl) dL_act_307
                                      · skip
                                        exact absurd hw9 id
                                  · skip
                                    exact absurd c_17 (by omega)
                                · skip
                                  exact absurd c_16 (by omega)
                              · skip
                                exact absurd c_15 (by omega)
                            · skip
                              exact absurd c_14 (by omega)
                          · skip
                            exact absurd c_13 (by omega)
                        · skip
                          exact absurd c_12 (by omega)
                      · skip
                        exact absurd c_11 (by omega)
                    · skip
                      exact absurd c_10 (by omega)
                  · skip
                    exact absurd c_9 (by omega)
                · skip
                  exact absurd c_8 (by omega)
              · skip
                exact absurd c_7 (by omega)
            · skip
              exact absurd c_6 (by omega)
          · skip
            exact absurd c_5 (by omega)
        · skip
          exact absurd c_4 (by omega)
      · skip
        exact absurd c_3 (by omega)
    · skip
      exact absurd c_2 (by omega)
  · skip
    exact absurd c_1 (by omega)

set_option maxHeartbeats 4000000 in
set_option maxRecDepth 100000 in
/-- act, air: it refuses -/
theorem ax_air_3 (l : Launch) (hfl : l.stackTraces = false) (D : va_G) (cA : Nat → ClassId) (ga : Nat → Nat → Nat) (φ : hpM) (sz : Nat) (az : Nat → Nat) (tn tk tm : Nat) (tg sc : Nat → Nat) (ar : Nat → Nat → Nat) (w : Nat → Nat → Nat → Nat) (ez o oi : Nat → Nat → Nat) (x0 x2 : Int32) (hY : YW cA ga az tk tm tg sc ar w ez o φ) (hI : LI tn sc ar w ez oi) (hT : TY tk tg) (h200 : tn ≤ 200) (hz : inX (sc 5) (x0) = 3) : hW l yL_act cL_act 6 (some .int) [(0, 302, 303, 78), (0, 302, 308, 81), (0, 302, 313, 84)] { frames := 11, cells := 2, slots := 12, locals := 380 } [.ref (az 0), .int (nI 18), .int (x0), .int (nI 0), .int (x2)] D cA ga φ sz (fun v φ' => v = some (.int (-16810000)) ∧ φ' = φ) 2 12 := by
  refine hW.of (by decide) (Nat.le_of_ble_eq_true rfl) rfl ?_
  intro p e s m args below meth c ls H locs S hr hlocks ht9 hsz hHz hH hK hX hS hA hl
  refine lv_iload_n (pc := 0) S.1 S.2.1 dL_act_0 rfl (lv_at hl 1 rfl) ?_
  refine hv_if_ne (pc := 1) (tgt := 13) (a := 18) S.1 S.2.1 (by omega) dL_act_1 (by decide) (fun c_1 => ?_) (fun c_1 => ?_)
  · skip
    refine lv_iload_n (pc := 13) S.1 S.2.1 dL_act_13 rfl (lv_at hl 1 rfl) ?_
    refine lv_iconst (pc := 14) (v := nI 1) S.1 S.2.1 dL_act_14 (by decide) ?_
    refine hv_icmp_ne (pc := 15) (tgt := 26) (a := 18) (b := 1) S.1 S.2.1 (by omega) (by omega) dL_act_15 (by decide) (fun c_2 => ?_) (fun c_2 => ?_)
    · skip
      refine lv_iload_n (pc := 26) S.1 S.2.1 dL_act_26 rfl (lv_at hl 1 rfl) ?_
      refine lv_iconst (pc := 27) (v := nI 2) S.1 S.2.1 dL_act_27 (by decide) ?_
      refine hv_icmp_ne (pc := 28) (tgt := 42) (a := 18) (b := 2) S.1 S.2.1 (by omega) (by omega) dL_act_28 (by decide) (fun c_3 => ?_) (fun c_3 => ?_)
      · skip
        refine lv_iload_n (pc := 42) S.1 S.2.1 dL_act_42 rfl (lv_at hl 1 rfl) ?_
        refine lv_iconst (pc := 43) (v := nI 3) S.1 S.2.1 dL_act_43 (by decide) ?_
        refine hv_icmp_ne (pc := 44) (tgt := 54) (a := 18) (b := 3) S.1 S.2.1 (by omega) (by omega) dL_act_44 (by decide) (fun c_4 => ?_) (fun c_4 => ?_)
        · skip
          refine lv_iload_n (pc := 54) S.1 S.2.1 dL_act_54 rfl (lv_at hl 1 rfl) ?_
          refine lv_iconst (pc := 55) (v := nI 4) S.1 S.2.1 dL_act_55 (by decide) ?_
          refine hv_icmp_ne (pc := 56) (tgt := 68) (a := 18) (b := 4) S.1 S.2.1 (by omega) (by omega) dL_act_56 (by decide) (fun c_5 => ?_) (fun c_5 => ?_)
          · skip
            refine lv_iload_n (pc := 68) S.1 S.2.1 dL_act_68 rfl (lv_at hl 1 rfl) ?_
            refine lv_iconst (pc := 69) (v := nI 5) S.1 S.2.1 dL_act_69 (by decide) ?_
            refine hv_icmp_ne (pc := 70) (tgt := 82) (a := 18) (b := 5) S.1 S.2.1 (by omega) (by omega) dL_act_70 (by decide) (fun c_6 => ?_) (fun c_6 => ?_)
            · skip
              refine lv_iload_n (pc := 82) S.1 S.2.1 dL_act_82 rfl (lv_at hl 1 rfl) ?_
              refine lv_bipush (pc := 83) (v := nI 6) S.1 S.2.1 dL_act_83 (by decide) ?_
              refine hv_icmp_ne (pc := 85) (tgt := 97) (a := 18) (b := 6) S.1 S.2.1 (by omega) (by omega) dL_act_85 (by decide) (fun c_7 => ?_) (fun c_7 => ?_)
              · skip
                refine lv_iload_n (pc := 97) S.1 S.2.1 dL_act_97 rfl (lv_at hl 1 rfl) ?_
                refine lv_bipush (pc := 98) (v := nI 7) S.1 S.2.1 dL_act_98 (by decide) ?_
                refine hv_icmp_ne (pc := 100) (tgt := 119) (a := 18) (b := 7) S.1 S.2.1 (by omega) (by omega) dL_act_100 (by decide) (fun c_8 => ?_) (fun c_8 => ?_)
                · skip
                  refine lv_iload_n (pc := 119) S.1 S.2.1 dL_act_119 rfl (lv_at hl 1 rfl) ?_
                  refine lv_bipush (pc := 120) (v := nI 8) S.1 S.2.1 dL_act_120 (by decide) ?_
                  refine hv_icmp_ne (pc := 122) (tgt := 133) (a := 18) (b := 8) S.1 S.2.1 (by omega) (by omega) dL_act_122 (by decide) (fun c_9 => ?_) (fun c_9 => ?_)
                  · skip
                    refine lv_iload_n (pc := 133) S.1 S.2.1 dL_act_133 rfl (lv_at hl 1 rfl) ?_
                    refine lv_bipush (pc := 134) (v := nI 9) S.1 S.2.1 dL_act_134 (by decide) ?_
                    refine hv_icmp_ne (pc := 136) (tgt := 150) (a := 18) (b := 9) S.1 S.2.1 (by omega) (by omega) dL_act_136 (by decide) (fun c_10 => ?_) (fun c_10 => ?_)
                    · skip
                      refine lv_iload_n (pc := 150) S.1 S.2.1 dL_act_150 rfl (lv_at hl 1 rfl) ?_
                      refine lv_bipush (pc := 151) (v := nI 10) S.1 S.2.1 dL_act_151 (by decide) ?_
                      refine hv_icmp_ne (pc := 153) (tgt := 165) (a := 18) (b := 10) S.1 S.2.1 (by omega) (by omega) dL_act_153 (by decide) (fun c_11 => ?_) (fun c_11 => ?_)
                      · skip
                        refine lv_iload_n (pc := 165) S.1 S.2.1 dL_act_165 rfl (lv_at hl 1 rfl) ?_
                        refine lv_bipush (pc := 166) (v := nI 11) S.1 S.2.1 dL_act_166 (by decide) ?_
                        refine hv_icmp_ne (pc := 168) (tgt := 180) (a := 18) (b := 11) S.1 S.2.1 (by omega) (by omega) dL_act_168 (by decide) (fun c_12 => ?_) (fun c_12 => ?_)
                        · skip
                          refine lv_iload_n (pc := 180) S.1 S.2.1 dL_act_180 rfl (lv_at hl 1 rfl) ?_
                          refine lv_bipush (pc := 181) (v := nI 12) S.1 S.2.1 dL_act_181 (by decide) ?_
                          refine hv_icmp_ne (pc := 183) (tgt := 194) (a := 18) (b := 12) S.1 S.2.1 (by omega) (by omega) dL_act_183 (by decide) (fun c_13 => ?_) (fun c_13 => ?_)
                          · skip
                            refine lv_iload_n (pc := 194) S.1 S.2.1 dL_act_194 rfl (lv_at hl 1 rfl) ?_
                            refine lv_bipush (pc := 195) (v := nI 13) S.1 S.2.1 dL_act_195 (by decide) ?_
                            refine hv_icmp_ne (pc := 197) (tgt := 208) (a := 18) (b := 13) S.1 S.2.1 (by omega) (by omega) dL_act_197 (by decide) (fun c_14 => ?_) (fun c_14 => ?_)
                            · skip
                              refine lv_iload_n (pc := 208) S.1 S.2.1 dL_act_208 rfl (lv_at hl 1 rfl) ?_
                              refine lv_bipush (pc := 209) (v := nI 14) S.1 S.2.1 dL_act_209 (by decide) ?_
                              refine hv_icmp_ne (pc := 211) (tgt := 222) (a := 18) (b := 14) S.1 S.2.1 (by omega) (by omega) dL_act_211 (by decide) (fun c_15 => ?_) (fun c_15 => ?_)
                              · skip
                                refine lv_iload_n (pc := 222) S.1 S.2.1 dL_act_222 rfl (lv_at hl 1 rfl) ?_
                                refine lv_bipush (pc := 223) (v := nI 15) S.1 S.2.1 dL_act_223 (by decide) ?_
                                refine hv_icmp_ne (pc := 225) (tgt := 237) (a := 18) (b := 15) S.1 S.2.1 (by omega) (by omega) dL_act_225 (by decide) (fun c_16 => ?_) (fun c_16 => ?_)
                                · skip
                                  refine lv_iload_n (pc := 237) S.1 S.2.1 dL_act_237 rfl (lv_at hl 1 rfl) ?_
                                  refine lv_bipush (pc := 238) (v := nI 16) S.1 S.2.1 dL_act_238 (by decide) ?_
                                  refine hv_icmp_ne (pc := 240) (tgt := 259) (a := 18) (b := 16) S.1 S.2.1 (by omega) (by omega) dL_act_240 (by decide) (fun c_17 => ?_) (fun c_17 => ?_)
                                  · skip
                                    refine lv_iload_n (pc := 259) S.1 S.2.1 dL_act_259 rfl (lv_at hl 1 rfl) ?_
                                    refine lv_bipush (pc := 260) (v := nI 17) S.1 S.2.1 dL_act_260 (by decide) ?_
                                    refine hv_icmp_ne (pc := 262) (tgt := 273) (a := 18) (b := 17) S.1 S.2.1 (by omega) (by omega) dL_act_262 (by decide) (fun c_18 => ?_) (fun c_18 => ?_)
                                    · skip
                                      refine lv_iload_n (pc := 273) S.1 S.2.1 dL_act_273 rfl (lv_at hl 1 rfl) ?_
                                      refine lv_bipush (pc := 274) (v := nI 18) S.1 S.2.1 dL_act_274 (by decide) ?_
                                      refine hv_icmp_ne (pc := 276) (tgt := 297) (a := 18) (b := 18) S.1 S.2.1 (by omega) (by omega) dL_act_276 (by decide) (fun c_19 => ?_) (fun c_19 => ?_)
                                      · skip
                                        exact absurd c_19 (by omega)
                                      · skip
                                        refine lv_aload_n (pc := 279) S.1 S.2.1 dL_act_279 rfl (lv_at hl 0 rfl) ?_
                                        refine lv_iload_n (pc := 280) S.1 S.2.1 dL_act_280 rfl (lv_at hl 2 rfl) ?_
                                        refine lv_iload_n (pc := 281) S.1 S.2.1 dL_act_281 rfl (lv_at hl 3 rfl) ?_
                                        refine lv_iconst (pc := 282) (v := nI 1) S.1 S.2.1 dL_act_282 (by decide) ?_
                                        refine hv_icmp_ne (pc := 283) (tgt := 290) (a := 0) (b := 1) S.1 S.2.1 (by omega) (by omega) dL_act_283 (by decide) (fun c_20 => ?_) (fun c_20 => ?_)
                                        · skip
                                          refine lv_iconst (pc := 290) (v := nI 0) S.1 S.2.1 dL_act_290 (by decide) ?_
                                          refine hv_callX (pc := 291) (vx_runV (As := [.int (x0), .int (nI 0)]) (rest := []) S (yr_air l hfl D cA ga φ H.size az tn tk tm tg sc ar w ez o oi (x0) (nI 0) hY hI hT h200 3 hz (by decide)) (cwV 2 S.2.2.2.2 (gV tw_238 tw_239 tw_240 tw_1 tw_241) rfl rfl rfl (by decide +kernel) ⟨Nat.le_of_ble_eq_true rfl, Nat.le_of_ble_eq_true rfl⟩) (pre0_V hH hK hX hS hA (ycv hH hK hY)) rfl rfl hl.1 rfl (lv_room (Nat.le_of_ble_eq_true rfl)) dL_act_291 ⟨Nat.le_of_ble_eq_true rfl, Nat.le_of_ble_eq_true rfl⟩) hS (af_le hH hS hA) (fun E ce q9 φ9 H locs hx9 hH hS hce hcv hcl => ?_) (fun v φ9 H locs hw9 hH hS => ?_)
                                          · skip
                                            obtain ⟨hq9, rfl⟩ := hx9
                                            rw [hq9] at hH
                                            refine vx_catch (own := RL) (name := "java/lang/IndexOutOfBoundsException") S.2.2.2.1 [] ⟨0, 302, 303, 78⟩ [⟨0, 302, 308, 81⟩, ⟨0, 302, 313, 84⟩] (by rw [ht9]; rfl) (fun z hz => by cases hz) (by decide) (by decide) (S.2.2.2.2 _ tw_264) (va_Nw.use (tabW_on tabIOOBE) (hX.tabs _ tabIOOBE)) hce hcv hcl ?_
                                            refine lv_astore (pc := 303) (lv' := [(5, .ref q9), (0, .ref (az 0)), (1, .int (nI 18)), (2, .int (x0)), (3, .int (nI 0)), (4, .int (x2))]) S.1 S.2.1 dL_act_303 hl (by decide) rfl (fun ls hl => ?_)
                                            refine lv_ldc (pc := 305) (v := (-16810000 : Int32)) S.1 S.2.1 S.2.2.2.1 (S.2.2.2.2 _ tw_885) dL_act_305 ?_
                                            exact hv_ret (pc := 307) (v := (-16810000 : Int32)) S hr rfl hlocks hH hS (⟨rfl, rfl⟩) (Nat.le_of_ble_eq_true rfl) (Nat.le_of_ble_eq_true rfl) dL_act_307
                                          · skip
                                            exact absurd hw9 id
                                        · skip
                                          exact absurd c_20 (by omega)
                                    · skip
                                      exact absurd c_18 (by omega)
                                  · skip
                                    exact absurd c_17 (by omega)
                                · skip
                                  exact absurd c_16 (by omega)
                              · skip
                                exact absurd c_15 (by omega)
                            · skip
                              exact absurd c_14 (by omega)
                          · skip
                            exact absurd c_13 (by omega)
                        · skip
                          exact absurd c_12 (by omega)
                      · skip
                        exact absurd c_11 (by omega)
                    · skip
                      exact absurd c_10 (by omega)
                  · skip
                    exact absurd c_9 (by omega)
                · skip
                  exact absurd c_8 (by omega)
              · skip
                exact absurd c_7 (by omega)
            · skip
              exact absurd c_6 (by omega)
          · skip
            exact absurd c_5 (by omega)
        · skip
          exact absurd c_4 (by omega)
      · skip
        exact absurd c_3 (by omega)
    · skip
      exact absurd c_2 (by omega)
  · skip
    exact absurd c_1 (by omega)

set_option maxHeartbeats 4000000 in
set_option maxRecDepth 100000 in
/-- act, grams: it refuses -/
theorem ax_grams_3 (l : Launch) (hfl : l.stackTraces = false) (D : va_G) (cA : Nat → ClassId) (ga : Nat → Nat → Nat) (φ : hpM) (sz : Nat) (az : Nat → Nat) (tn tk tm : Nat) (tg sc : Nat → Nat) (ar : Nat → Nat → Nat) (w : Nat → Nat → Nat → Nat) (ez o oi : Nat → Nat → Nat) (x0 x1 x2 : Int32) (hY : YW cA ga az tk tm tg sc ar w ez o φ) (hI : LI tn sc ar w ez oi) (hT : TY tk tg) (h200 : tn ≤ 200) (hz : inX (sc 2) (x0) = 3) : hW l yL_act cL_act 6 (some .int) [(0, 302, 303, 78), (0, 302, 308, 81), (0, 302, 313, 84)] { frames := 11, cells := 2, slots := 12, locals := 380 } [.ref (az 0), .int (nI 19), .int (x0), .int (x1), .int (x2)] D cA ga φ sz (fun v φ' => v = some (.int (-16810000)) ∧ φ' = φ) 2 12 := by
  refine hW.of (by decide) (Nat.le_of_ble_eq_true rfl) rfl ?_
  intro p e s m args below meth c ls H locs S hr hlocks ht9 hsz hHz hH hK hX hS hA hl
  refine lv_iload_n (pc := 0) S.1 S.2.1 dL_act_0 rfl (lv_at hl 1 rfl) ?_
  refine hv_if_ne (pc := 1) (tgt := 13) (a := 19) S.1 S.2.1 (by omega) dL_act_1 (by decide) (fun c_1 => ?_) (fun c_1 => ?_)
  · skip
    refine lv_iload_n (pc := 13) S.1 S.2.1 dL_act_13 rfl (lv_at hl 1 rfl) ?_
    refine lv_iconst (pc := 14) (v := nI 1) S.1 S.2.1 dL_act_14 (by decide) ?_
    refine hv_icmp_ne (pc := 15) (tgt := 26) (a := 19) (b := 1) S.1 S.2.1 (by omega) (by omega) dL_act_15 (by decide) (fun c_2 => ?_) (fun c_2 => ?_)
    · skip
      refine lv_iload_n (pc := 26) S.1 S.2.1 dL_act_26 rfl (lv_at hl 1 rfl) ?_
      refine lv_iconst (pc := 27) (v := nI 2) S.1 S.2.1 dL_act_27 (by decide) ?_
      refine hv_icmp_ne (pc := 28) (tgt := 42) (a := 19) (b := 2) S.1 S.2.1 (by omega) (by omega) dL_act_28 (by decide) (fun c_3 => ?_) (fun c_3 => ?_)
      · skip
        refine lv_iload_n (pc := 42) S.1 S.2.1 dL_act_42 rfl (lv_at hl 1 rfl) ?_
        refine lv_iconst (pc := 43) (v := nI 3) S.1 S.2.1 dL_act_43 (by decide) ?_
        refine hv_icmp_ne (pc := 44) (tgt := 54) (a := 19) (b := 3) S.1 S.2.1 (by omega) (by omega) dL_act_44 (by decide) (fun c_4 => ?_) (fun c_4 => ?_)
        · skip
          refine lv_iload_n (pc := 54) S.1 S.2.1 dL_act_54 rfl (lv_at hl 1 rfl) ?_
          refine lv_iconst (pc := 55) (v := nI 4) S.1 S.2.1 dL_act_55 (by decide) ?_
          refine hv_icmp_ne (pc := 56) (tgt := 68) (a := 19) (b := 4) S.1 S.2.1 (by omega) (by omega) dL_act_56 (by decide) (fun c_5 => ?_) (fun c_5 => ?_)
          · skip
            refine lv_iload_n (pc := 68) S.1 S.2.1 dL_act_68 rfl (lv_at hl 1 rfl) ?_
            refine lv_iconst (pc := 69) (v := nI 5) S.1 S.2.1 dL_act_69 (by decide) ?_
            refine hv_icmp_ne (pc := 70) (tgt := 82) (a := 19) (b := 5) S.1 S.2.1 (by omega) (by omega) dL_act_70 (by decide) (fun c_6 => ?_) (fun c_6 => ?_)
            · skip
              refine lv_iload_n (pc := 82) S.1 S.2.1 dL_act_82 rfl (lv_at hl 1 rfl) ?_
              refine lv_bipush (pc := 83) (v := nI 6) S.1 S.2.1 dL_act_83 (by decide) ?_
              refine hv_icmp_ne (pc := 85) (tgt := 97) (a := 19) (b := 6) S.1 S.2.1 (by omega) (by omega) dL_act_85 (by decide) (fun c_7 => ?_) (fun c_7 => ?_)
              · skip
                refine lv_iload_n (pc := 97) S.1 S.2.1 dL_act_97 rfl (lv_at hl 1 rfl) ?_
                refine lv_bipush (pc := 98) (v := nI 7) S.1 S.2.1 dL_act_98 (by decide) ?_
                refine hv_icmp_ne (pc := 100) (tgt := 119) (a := 19) (b := 7) S.1 S.2.1 (by omega) (by omega) dL_act_100 (by decide) (fun c_8 => ?_) (fun c_8 => ?_)
                · skip
                  refine lv_iload_n (pc := 119) S.1 S.2.1 dL_act_119 rfl (lv_at hl 1 rfl) ?_
                  refine lv_bipush (pc := 120) (v := nI 8) S.1 S.2.1 dL_act_120 (by decide) ?_
                  refine hv_icmp_ne (pc := 122) (tgt := 133) (a := 19) (b := 8) S.1 S.2.1 (by omega) (by omega) dL_act_122 (by decide) (fun c_9 => ?_) (fun c_9 => ?_)
                  · skip
                    refine lv_iload_n (pc := 133) S.1 S.2.1 dL_act_133 rfl (lv_at hl 1 rfl) ?_
                    refine lv_bipush (pc := 134) (v := nI 9) S.1 S.2.1 dL_act_134 (by decide) ?_
                    refine hv_icmp_ne (pc := 136) (tgt := 150) (a := 19) (b := 9) S.1 S.2.1 (by omega) (by omega) dL_act_136 (by decide) (fun c_10 => ?_) (fun c_10 => ?_)
                    · skip
                      refine lv_iload_n (pc := 150) S.1 S.2.1 dL_act_150 rfl (lv_at hl 1 rfl) ?_
                      refine lv_bipush (pc := 151) (v := nI 10) S.1 S.2.1 dL_act_151 (by decide) ?_
                      refine hv_icmp_ne (pc := 153) (tgt := 165) (a := 19) (b := 10) S.1 S.2.1 (by omega) (by omega) dL_act_153 (by decide) (fun c_11 => ?_) (fun c_11 => ?_)
                      · skip
                        refine lv_iload_n (pc := 165) S.1 S.2.1 dL_act_165 rfl (lv_at hl 1 rfl) ?_
                        refine lv_bipush (pc := 166) (v := nI 11) S.1 S.2.1 dL_act_166 (by decide) ?_
                        refine hv_icmp_ne (pc := 168) (tgt := 180) (a := 19) (b := 11) S.1 S.2.1 (by omega) (by omega) dL_act_168 (by decide) (fun c_12 => ?_) (fun c_12 => ?_)
                        · skip
                          refine lv_iload_n (pc := 180) S.1 S.2.1 dL_act_180 rfl (lv_at hl 1 rfl) ?_
                          refine lv_bipush (pc := 181) (v := nI 12) S.1 S.2.1 dL_act_181 (by decide) ?_
                          refine hv_icmp_ne (pc := 183) (tgt := 194) (a := 19) (b := 12) S.1 S.2.1 (by omega) (by omega) dL_act_183 (by decide) (fun c_13 => ?_) (fun c_13 => ?_)
                          · skip
                            refine lv_iload_n (pc := 194) S.1 S.2.1 dL_act_194 rfl (lv_at hl 1 rfl) ?_
                            refine lv_bipush (pc := 195) (v := nI 13) S.1 S.2.1 dL_act_195 (by decide) ?_
                            refine hv_icmp_ne (pc := 197) (tgt := 208) (a := 19) (b := 13) S.1 S.2.1 (by omega) (by omega) dL_act_197 (by decide) (fun c_14 => ?_) (fun c_14 => ?_)
                            · skip
                              refine lv_iload_n (pc := 208) S.1 S.2.1 dL_act_208 rfl (lv_at hl 1 rfl) ?_
                              refine lv_bipush (pc := 209) (v := nI 14) S.1 S.2.1 dL_act_209 (by decide) ?_
                              refine hv_icmp_ne (pc := 211) (tgt := 222) (a := 19) (b := 14) S.1 S.2.1 (by omega) (by omega) dL_act_211 (by decide) (fun c_15 => ?_) (fun c_15 => ?_)
                              · skip
                                refine lv_iload_n (pc := 222) S.1 S.2.1 dL_act_222 rfl (lv_at hl 1 rfl) ?_
                                refine lv_bipush (pc := 223) (v := nI 15) S.1 S.2.1 dL_act_223 (by decide) ?_
                                refine hv_icmp_ne (pc := 225) (tgt := 237) (a := 19) (b := 15) S.1 S.2.1 (by omega) (by omega) dL_act_225 (by decide) (fun c_16 => ?_) (fun c_16 => ?_)
                                · skip
                                  refine lv_iload_n (pc := 237) S.1 S.2.1 dL_act_237 rfl (lv_at hl 1 rfl) ?_
                                  refine lv_bipush (pc := 238) (v := nI 16) S.1 S.2.1 dL_act_238 (by decide) ?_
                                  refine hv_icmp_ne (pc := 240) (tgt := 259) (a := 19) (b := 16) S.1 S.2.1 (by omega) (by omega) dL_act_240 (by decide) (fun c_17 => ?_) (fun c_17 => ?_)
                                  · skip
                                    refine lv_iload_n (pc := 259) S.1 S.2.1 dL_act_259 rfl (lv_at hl 1 rfl) ?_
                                    refine lv_bipush (pc := 260) (v := nI 17) S.1 S.2.1 dL_act_260 (by decide) ?_
                                    refine hv_icmp_ne (pc := 262) (tgt := 273) (a := 19) (b := 17) S.1 S.2.1 (by omega) (by omega) dL_act_262 (by decide) (fun c_18 => ?_) (fun c_18 => ?_)
                                    · skip
                                      refine lv_iload_n (pc := 273) S.1 S.2.1 dL_act_273 rfl (lv_at hl 1 rfl) ?_
                                      refine lv_bipush (pc := 274) (v := nI 18) S.1 S.2.1 dL_act_274 (by decide) ?_
                                      refine hv_icmp_ne (pc := 276) (tgt := 297) (a := 19) (b := 18) S.1 S.2.1 (by omega) (by omega) dL_act_276 (by decide) (fun c_19 => ?_) (fun c_19 => ?_)
                                      · skip
                                        refine lv_aload_n (pc := 297) S.1 S.2.1 dL_act_297 rfl (lv_at hl 0 rfl) ?_
                                        refine lv_iload_n (pc := 298) S.1 S.2.1 dL_act_298 rfl (lv_at hl 2 rfl) ?_
                                        refine hv_callX (pc := 299) (vx_runV (As := [.int (x0)]) (rest := []) S (yr_grams l hfl D cA ga φ H.size az tn tk tm tg sc ar w ez o oi (x0) hY hI hT h200 3 hz (by decide)) (cwV 1 S.2.2.2.2 (gV tw_247 tw_248 tw_249 tw_1 tw_250) rfl rfl rfl (by decide +kernel) ⟨Nat.le_of_ble_eq_true rfl, Nat.le_of_ble_eq_true rfl⟩) (pre0_V hH hK hX hS hA (ycv hH hK hY)) rfl rfl hl.1 rfl (lv_room (Nat.le_of_ble_eq_true rfl)) dL_act_299 ⟨Nat.le_of_ble_eq_true rfl, Nat.le_of_ble_eq_true rfl⟩) hS (af_le hH hS hA) (fun E ce q9 φ9 H locs hx9 hH hS hce hcv hcl => ?_) (fun v φ9 H locs hw9 hH hS => ?_)
                                        · skip
                                          obtain ⟨hq9, rfl⟩ := hx9
                                          rw [hq9] at hH
                                          refine vx_catch (own := RL) (name := "java/lang/IndexOutOfBoundsException") S.2.2.2.1 [] ⟨0, 302, 303, 78⟩ [⟨0, 302, 308, 81⟩, ⟨0, 302, 313, 84⟩] (by rw [ht9]; rfl) (fun z hz => by cases hz) (by decide) (by decide) (S.2.2.2.2 _ tw_264) (va_Nw.use (tabW_on tabIOOBE) (hX.tabs _ tabIOOBE)) hce hcv hcl ?_
                                          refine lv_astore (pc := 303) (lv' := [(5, .ref q9), (0, .ref (az 0)), (1, .int (nI 19)), (2, .int (x0)), (3, .int (x1)), (4, .int (x2))]) S.1 S.2.1 dL_act_303 hl (by decide) rfl (fun ls hl => ?_)
                                          refine lv_ldc (pc := 305) (v := (-16810000 : Int32)) S.1 S.2.1 S.2.2.2.1 (S.2.2.2.2 _ tw_885) dL_act_305 ?_
                                          exact hv_ret (pc := 307) (v := (-16810000 : Int32)) S hr rfl hlocks hH hS (⟨rfl, rfl⟩) (Nat.le_of_ble_eq_true rfl) (Nat.le_of_ble_eq_true rfl) dL_act_307
                                        · skip
                                          exact absurd hw9 id
                                      · skip
                                        exact absurd c_19 (by omega)
                                    · skip
                                      exact absurd c_18 (by omega)
                                  · skip
                                    exact absurd c_17 (by omega)
                                · skip
                                  exact absurd c_16 (by omega)
                              · skip
                                exact absurd c_15 (by omega)
                            · skip
                              exact absurd c_14 (by omega)
                          · skip
                            exact absurd c_13 (by omega)
                        · skip
                          exact absurd c_12 (by omega)
                      · skip
                        exact absurd c_11 (by omega)
                    · skip
                      exact absurd c_10 (by omega)
                  · skip
                    exact absurd c_9 (by omega)
                · skip
                  exact absurd c_8 (by omega)
              · skip
                exact absurd c_7 (by omega)
            · skip
              exact absurd c_6 (by omega)
          · skip
            exact absurd c_5 (by omega)
        · skip
          exact absurd c_4 (by omega)
      · skip
        exact absurd c_3 (by omega)
    · skip
      exact absurd c_2 (by omega)
  · skip
    exact absurd c_1 (by omega)

