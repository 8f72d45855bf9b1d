/-! THE CLAIM OUT OF ONE WALK OF THE LAW'S BODY. Your part is whole_start (and what it stands on); all else here is the same for every law, but numbers. -/
def R_law : String := "HatbandYardLaw"
def lw_P (b : Addr) (xs : List Int32) (args : Array Value) (s : State) : Prop := args = #[.ref b] ∧ s.IntsAt b xs ∧ xs.length ≤ 260 ∧ (Jvm.Cond.and given_1 narrow_1).before args s = true
/-- what a walk over the start with the record d0 says of its end, said of the start itself -/
theorem lw_closed {s t : State} {o : Outcome} {d0 : Drawn} {L : List Loc} {k n : Nat} (hd0 : s.drawn.sameBut d0 lw_cs) (hv : ∃ v, o = .returned v) (hW : (s.setDrawn d0).WarmedH t.vm) (hs : (s.setDrawn d0).sameButNew ({ t with vm := s.vm } : State) L k n) : State.butDraws s t lw_cs (fun t1 => Framed s o t1 L k n) := by
  have h2 : t.drawn = d0 := congrArg State.drawn hs.1
  refine ⟨⟨hv, hW, State.sameButNew.setDrawn hs s.drawn⟩, ?_, by decide⟩
  rw [h2]
  exact hd0
def lw_Q (_ : Array Value) (s : State) (o : Outcome) (t : State) : Prop := o = .returned (some (.int 1)) ∧ State.butDraws s t lw_cs (fun t1 => Framed s o t1 [] 605932 7283671)
def lw_Z (below : List Frame) (a : Array Value) (s : State) : State → Prop := fun t => ∃ o, t.status = .running ∧ Ended t below o ∧ lw_Q a s o t
/-- the law's own end, with 1 on the stack, nothing written that was there before, its room as the claim has it; d0: the record of draws at this point (at the entry s.drawn: begin with 'refine W.base ?_' and 'have hd0 := Drawn.sameBut.refl s.drawn lw_cs') -/
theorem lw_ret {p : Program} {l : Launch} {e : Env} {s : State} {m : MethodId} {below : List Frame} {meth : Method} {c : Code} {b : Nat} {d0 : Drawn} (hd0 : s.drawn.sameBut d0 lw_cs) (hx : p.tables.exec = Jvm.exec) (hb : c.code = code) (hr : meth.sig.returnType = ret) (hlocks : meth.locks = false) {pc : Nat} {H : Heap} {ls : Array Slot} (hdg : decode code pc = .ok (.ireturn, 1)) : W p l e room_1 (s.setDrawn d0) m #[Value.ref b] below meth c H [] 605932 7283671 (lw_Z below #[Value.ref b] s) (F0 m pc ls [.int 1]) := by
  intro T hT X
  obtain ⟨fs, hret, hrun, hended, hW, hframe⟩ := X.leave (v := some (.int 1)) (hlocks := hlocks) (fun h => by rw [hr] at h; cases h)
  have hmeth' : T.vm.method? m = some meth := X.method'
  refine ⟨T.setFrames fs, ?_, .returned (some (.int 1)), hrun, hended, rfl, lw_closed hd0 ⟨_, rfl⟩ hW hframe⟩
  jvm_step X.here [X.here.top, hx, hb, hdg, hmeth', hr, ret, narrow_b1]
  (try refine ⟨rfl, ?_⟩); (try refine ⟨rfl, ?_⟩)
  first | (intro acts; rw [hret _ acts rfl rfl rfl]) | rw [hret _ _ rfl rfl rfl]
  exact Steps.refl _
/-- what holds at the law's entry: the machine, the code, the tables' words (any of lw_tbl by 'hts w (by decide +kernel)'), the script of L ints xs at the cell b, what the Statement gives of the start (any of its parts by flat_of_before) -/
def lw_At (p : Program) (s : State) (m : MethodId) (meth : Method) (c : Code) (b L : Nat) (xs : Nat → Int32) : Prop :=
  p.tables.exec = Jvm.exec ∧ c.code = code ∧ meth.sig.returnType = ret ∧ c.maxLocals = 19 ∧ s.vm.findClass R_law = some m.cls ∧ (∀ w ∈ lw_tbl, w.before #[Value.ref b] s = true) ∧ va_X b L xs s s.heap ∧ b < s.heap.size ∧ meth.locks = false ∧ (Jvm.Cond.and given_1 narrow_1).before #[Value.ref b] s = true
set_option maxHeartbeats 4000000 in
set_option maxRecDepth 100000 in
theorem law_exit (l : Launch) (hfl : l.stackTraces = false) {p : Program} {e : Env} {s : State} {m : MethodId} {below : List Frame} {meth : Method} {c : Code} {b : Nat} {D : va_G} {cA : Nat → ClassId} {ga : Nat → Nat → Nat} (S : CallFix p m c code 19 s #[.ref b] Wc RL) (hK : va_K D vwCl (tysL cA) s) (hX : Sx ga (fun q => s.heap.size ≤ q) s s.heap) (hr : meth.sig.returnType = ret) (hlocks : meth.locks = false) {az : Nat → Nat} (hgb : ga 7 0 = b) (hgL : ga 8 0 ≤ 260) {cells slots : Nat} {H : Heap} {locs : List Loc} {ls : Array Slot} (hc : cells ≤ 500000) (hs : slots ≤ 5000000) (hS : va_S (fun q => s.heap.size ≤ q) s.heap H locs) (hl : lv_has ls 19 [(8, .int (nI 130)), (7, .int (nI 1)), (6, .ref (az 13)), (5, .ref (az 12)), (4, .ref (az 11)), (3, .ref (az 10)), (2, .ref (az 9)), (1, .ref (az 0)), (0, .ref b)]) : W p l e room_1 s m #[.ref b] below meth c H locs (cells) (slots) (lw_Z below #[.ref b] s) (F0 m 80 ls []) := by
  refine lv_iload (pc := 80) S.1 S.2.1 dL_law_80 (lv_at hl 0 rfl) ?_
  refine lv_sipush (pc := 82) (v := nI 130) S.1 S.2.1 dL_law_82 (by decide) ?_
  refine hv_icmp_ge (pc := 85) (tgt := 1543) (a := 130) (b := 130) S.1 S.2.1 (by omega) (by omega) dL_law_85 (by decide) (fun c_1 => ?_) (fun c9 => absurd c9 (by omega))
  refine lv_iload (pc := 1543) S.1 S.2.1 dL_law_1543 (lv_at hl 1 rfl) ?_
  refine W.widen (k := 605932) (n := 7283671) (Nat.le_trans (show _ ≤ 600000 by omega) (Nat.le_of_ble_eq_true rfl)) (Nat.le_trans (show _ ≤ 7000000 by omega) (Nat.le_of_ble_eq_true rfl)) ?_
  refine va_forget (fun q hq => hS.2.2 q hq) ?_
  refine W.base ?_
  exact lw_ret (Drawn.sameBut.refl s.drawn lw_cs) S.1 S.2.1 hr hlocks dL_law_1545
set_option maxHeartbeats 4000000 in
set_option maxRecDepth 100000 in
theorem law_loop (l : Launch) (hfl : l.stackTraces = false) {p : Program} {e : Env} {s : State} {m : MethodId} {below : List Frame} {meth : Method} {c : Code} {b : Nat} {D : va_G} {cA : Nat → ClassId} {ga : Nat → Nat → Nat} (S : CallFix p m c code 19 s #[.ref b] Wc RL) (hK : va_K D vwCl (tysL cA) s) (hX : Sx ga (fun q => s.heap.size ≤ q) s s.heap) (hr : meth.sig.returnType = ret) (hlocks : meth.locks = false) {az : Nat → Nat} (hgb : ga 7 0 = b) (hgL : ga 8 0 ≤ 260) : ∀ (n9 k cells slots : Nat) (H : Heap) (locs : List Loc) (ls : Array Slot), k + n9 = 130 → cells ≤ 7600 + 2450 * k + 2600 * ((k + 39) / 40) → slots ≤ 48000 + 14600 * k + 17000 * ((k + 39) / 40) → WLD cA ga D (fun q => s.heap.size ≤ q) az k H → va_S (fun q => s.heap.size ≤ q) s.heap H locs → lv_has ls 19 [(8, .int (nI k)), (7, .int (nI 1)), (6, .ref (az 13)), (5, .ref (az 12)), (4, .ref (az 11)), (3, .ref (az 10)), (2, .ref (az 9)), (1, .ref (az 0)), (0, .ref b)] → W p l e room_1 s m #[.ref b] below meth c H locs (cells) (slots) (lw_Z below #[.ref b] s) (F0 m 80 ls [])
  | 0, k, cells, slots, H, locs, ls, hk, hc, hs, hW, hS, hl => by
    have hk9 : k = 130 := by omega
    subst hk9
    exact law_exit l hfl S hK hX hr hlocks (az := az) hgb hgL (by omega) (by omega) hS hl
  | n9 + 1, k, cells, slots, H, locs, ls, hk, hc, hs, hW, hS, hl => by
    refine law_turn l hfl S hK hX hgb hgL (by omega) (by omega) (by omega) hW hS hl (fun x9 y9 hx9 hy9 H1 locs1 ls1 hW1 hS1 hl1 => ?_)
    refine law_tail l hfl S hK hX (by omega) (by omega) (by omega) hx9 hy9 hW1 hS1 hl1 (fun c1 s1 H2 locs2 ls2 hc1 hs1 hW2 hS2 hl2 => ?_)
    exact law_loop l hfl S hK hX hr hlocks hgb hgL n9 (k + 1) c1 s1 H2 locs2 ls2 (by omega) (by omega) (by omega) hW2 hS2 hl2
set_option maxHeartbeats 4000000 in
set_option maxRecDepth 100000 in
/-- YOUR PART: from the entry, for every script of at most 260 ints, the law comes to its end with true ('hflags': the launch's flags, for a law that throws: no stack traces) -/
theorem whole_start {p : Program} {e : Env} {s : State} {m : MethodId} {below : List Frame} {meth : Method} {c : Code} (l : Launch) (hflags : l.flags = flags0) {b L : Nat} {xs : Nat → Int32} (hL : L ≤ 260) (C0 : lw_At p s m meth c b L xs) : W p l e room_1 s m #[Value.ref b] below meth c s.heap [] 0 0 (lw_Z below #[Value.ref b] s) (entryFrame m ([Value.ref b] : List Value).toArray 19) := by
  obtain ⟨hx, hb, hr, hml, hown, hts, hXs, hbl, hlocks, hgv⟩ := C0
  have hfl : l.stackTraces = false := by unfold Launch.stackTraces; rw [hflags]; decide
  have hflat : ∀ w ∈ fl, w.before #[Value.ref b] s = true := flat_of_before _ hgv
  have hA0 : ∀ a : Nat, a < s.heap.size → ¬ (fun q : Nat => s.heap.size ≤ q) a := fun a h => Nat.not_le.mpr h
  obtain ⟨ga, hgb, hgL, hX⟩ := sx_start (A := fun q : Nat => s.heap.size ≤ q) hXs hflat hts hA0
  have hgL : ga 8 0 ≤ 260 := by rw [hgL]; exact hL
  obtain ⟨D, cA, hK⟩ := k_start hts
  have S : CallFix p m c code 19 s #[.ref b] Wc RL := ⟨hx, hb, hml, hown, wc_start hts⟩
  have hA : ∀ q : Nat, s.heap.size ≤ q → (fun q : Nat => s.heap.size ≤ q) q := fun _ h => h
  have hS : va_S (fun q : Nat => s.heap.size ≤ q) s.heap s.heap [] := va_S.rf
  have hH : hp D (fun q : Nat => s.heap.size ≤ q) noM s.heap := hp.no
  have hl := lv_entry ([.ref b]) (n := 19) (Nat.le_of_ble_eq_true rfl)
  rw [lg_entry_eq]
  generalize (lg_sl ([.ref b]) ++ List.replicate (19 - (lg_sl ([.ref b])).length) Slot.unset).toArray = ls at hl ⊢
  have hl : lv_has ls 19 [(0, .ref b)] := hl
  refine hv_new (pc := 0) (ci := 12) (fs := [.null, .null, .null, .null, .null, .null, .int (nI 0), .int (nI 0), .int (nI 0), .int (nI 0), .int (nI 0)]) (C := RX8) (T := TX8) (N := 11) S uwX8 tyX8 tyX8_ok tw_28 tw_29 tw_1 hK hH hS hA rfl (fun j hj => by rcases (show j = 0 ∨ j = 1 ∨ j = 2 ∨ j = 3 ∨ j = 4 ∨ j = 5 ∨ j = 6 ∨ j = 7 ∨ j = 8 ∨ j = 9 ∨ j = 10 by omega) with rfl | rfl | rfl | rfl | rfl | rfl | rfl | rfl | rfl | rfl | rfl <;> rfl) (Nat.le_of_ble_eq_true rfl) (Nat.le_of_ble_eq_true rfl) dL_law_0 (fun y H hq_y hH hS => ?_)
  refine lv_dup (pc := 3) S.1 S.2.1 dL_law_3 rfl ?_
  refine hv_call (pc := 4) (va_runI (As := []) (rest := [.ref y]) S (c_YardInit l D cA ga (ups noM y (.inr (12, [.null, .null, .null, .null, .null, .null, .int (nI 0), .int (nI 0), .int (nI 0), .int (nI 0), .int (nI 0)]))) H.size y (ups_s _ _ _)) (cwI 0 S.2.2.2.2 (gw tw_32) rfl rfl rfl (S.2.2.2.2 _ tw_1) (S.2.2.2.2 _ tw_30) (S.2.2.2.2 _ tw_31) rfl (by decide +kernel) ⟨Nat.le_of_ble_eq_true rfl, Nat.le_of_ble_eq_true rfl⟩) (pre0_S hH hK hX hS hA) rfl rfl hl.1 rfl (lv_room (Nat.le_of_ble_eq_true rfl)) dL_law_4 ⟨Nat.le_of_ble_eq_true rfl, Nat.le_of_ble_eq_true rfl⟩) hS (af_le hH hS hA) (fun v φ H locs hw hH hS => ?_)
  obtain ⟨rfl, sb, bq, la, ca, ha, ba, hd, rq, f0, f1, f2, f3, f4, f5, f6, f7, f8⟩ := hw
  refine lv_astore_n (pc := 7) (lv' := [(1, .ref y), (0, .ref b)]) S.1 S.2.1 dL_law_7 rfl hl (by decide) rfl (fun ls hl => ?_)
  refine lv_bipush (pc := 8) (v := nI 6) S.1 S.2.1 dL_law_8 (by decide) ?_
  refine hv_newa (pc := 10) (atype := .int) (a0 := (6, .inl (fun j => nI (zr j)))) (N' := 6) S tw_87 (ty := .int) rfl hK 1 rfl hH hS hA (fun _ => rfl) (by decide) (by decide) (Nat.le_of_ble_eq_true rfl) (Nat.le_of_ble_eq_true rfl) (Nat.le_of_ble_eq_true rfl) dL_law_10 (fun q_1 H hq_q_1 hH hS => ?_)
  replace hH := nup (e := .inl (cA 1, 6, .inl (fun j => nI (zr j)))) hH
  obtain ⟨φ_2, hφ_2, fa_φ_2, fr_φ_2, hH⟩ := hH
  have f_3 := fr_φ_2 _ _ (hp_nf f0 hq_q_1) f0
  have f_4 := fr_φ_2 _ _ (hp_nf f1 hq_q_1) f1
  have f_5 := fr_φ_2 _ _ (hp_nf f2 hq_q_1) f2
  have f_6 := fr_φ_2 _ _ (hp_nf f3 hq_q_1) f3
  have f_7 := fr_φ_2 _ _ (hp_nf f4 hq_q_1) f4
  have f_8 := fr_φ_2 _ _ (hp_nf f5 hq_q_1) f5
  have f_9 := fr_φ_2 _ _ (hp_nf f6 hq_q_1) f6
  have f_10 := fr_φ_2 _ _ (hp_nf f7 hq_q_1) f7
  have f_11 := fr_φ_2 _ _ (hp_nf f8 hq_q_1) f8
  refine lv_astore_n (pc := 12) (lv' := [(2, .ref q_1), (1, .ref y), (0, .ref b)]) S.1 S.2.1 dL_law_12 rfl hl (by decide) rfl (fun ls hl => ?_)
  refine lv_bipush (pc := 13) (v := nI 48) S.1 S.2.1 dL_law_13 (by decide) ?_
  refine hv_newa (pc := 15) (atype := .int) (a0 := (48, .inl (fun j => nI (zr j)))) (N' := 48) S tw_87 (ty := .int) rfl hK 1 rfl hH hS hA (fun _ => rfl) (by decide) (by decide) (Nat.le_of_ble_eq_true rfl) (Nat.le_of_ble_eq_true rfl) (Nat.le_of_ble_eq_true rfl) dL_law_15 (fun q_12 H hq_q_12 hH hS => ?_)
  replace hH := nup (e := .inl (cA 1, 48, .inl (fun j => nI (zr j)))) hH
  obtain ⟨φ_13, hφ_13, fa_φ_13, fr_φ_13, hH⟩ := hH
  have f_14 := fr_φ_13 _ _ (hp_nf f_3 hq_q_12) f_3
  have f_15 := fr_φ_13 _ _ (hp_nf f_4 hq_q_12) f_4
  have f_16 := fr_φ_13 _ _ (hp_nf f_5 hq_q_12) f_5
  have f_17 := fr_φ_13 _ _ (hp_nf f_6 hq_q_12) f_6
  have f_18 := fr_φ_13 _ _ (hp_nf f_7 hq_q_12) f_7
  have f_19 := fr_φ_13 _ _ (hp_nf f_8 hq_q_12) f_8
  have f_20 := fr_φ_13 _ _ (hp_nf f_9 hq_q_12) f_9
  have f_21 := fr_φ_13 _ _ (hp_nf f_10 hq_q_12) f_10
  have f_22 := fr_φ_13 _ _ (hp_nf f_11 hq_q_12) f_11
  have f_23 := fr_φ_13 _ _ (hp_nf fa_φ_2 hq_q_12) fa_φ_2
  refine lv_astore_n (pc := 17) (lv' := [(3, .ref q_12), (2, .ref q_1), (1, .ref y), (0, .ref b)]) S.1 S.2.1 dL_law_17 rfl hl (by decide) rfl (fun ls hl => ?_)
  refine lv_bipush (pc := 18) (v := nI 16) S.1 S.2.1 dL_law_18 (by decide) ?_
  refine hv_newa (pc := 20) (atype := .int) (a0 := (16, .inl (fun j => nI (zr j)))) (N' := 16) S tw_87 (ty := .int) rfl hK 1 rfl hH hS hA (fun _ => rfl) (by decide) (by decide) (Nat.le_of_ble_eq_true rfl) (Nat.le_of_ble_eq_true rfl) (Nat.le_of_ble_eq_true rfl) dL_law_20 (fun q_24 H hq_q_24 hH hS => ?_)
  replace hH := nup (e := .inl (cA 1, 16, .inl (fun j => nI (zr j)))) hH
  obtain ⟨φ_25, hφ_25, fa_φ_25, fr_φ_25, hH⟩ := hH
  have f_26 := fr_φ_25 _ _ (hp_nf f_14 hq_q_24) f_14
  have f_27 := fr_φ_25 _ _ (hp_nf f_15 hq_q_24) f_15
  have f_28 := fr_φ_25 _ _ (hp_nf f_16 hq_q_24) f_16
  have f_29 := fr_φ_25 _ _ (hp_nf f_17 hq_q_24) f_17
  have f_30 := fr_φ_25 _ _ (hp_nf f_18 hq_q_24) f_18
  have f_31 := fr_φ_25 _ _ (hp_nf f_19 hq_q_24) f_19
  have f_32 := fr_φ_25 _ _ (hp_nf f_20 hq_q_24) f_20
  have f_33 := fr_φ_25 _ _ (hp_nf f_21 hq_q_24) f_21
  have f_34 := fr_φ_25 _ _ (hp_nf f_22 hq_q_24) f_22
  have f_35 := fr_φ_25 _ _ (hp_nf f_23 hq_q_24) f_23
  have f_36 := fr_φ_25 _ _ (hp_nf fa_φ_13 hq_q_24) fa_φ_13
  have hbb := hp_nf f_16 hq_q_24
  refine lv_astore (pc := 22) (lv' := [(4, .ref q_24), (3, .ref q_12), (2, .ref q_1), (1, .ref y), (0, .ref b)]) S.1 S.2.1 dL_law_22 hl (by decide) rfl (fun ls hl => ?_)
  refine lv_bipush (pc := 24) (v := nI 6) S.1 S.2.1 dL_law_24 (by decide) ?_
  refine hv_newa (pc := 26) (atype := .int) (a0 := (6, .inl (fun j => nI (zr j)))) (N' := 6) S tw_87 (ty := .int) rfl hK 1 rfl hH hS hA (fun _ => rfl) (by decide) (by decide) (Nat.le_of_ble_eq_true rfl) (Nat.le_of_ble_eq_true rfl) (Nat.le_of_ble_eq_true rfl) dL_law_26 (fun q_37 H hq_q_37 hH hS => ?_)
  replace hH := nup (e := .inl (cA 1, 6, .inl (fun j => nI (zr j)))) hH
  obtain ⟨φ_38, hφ_38, fa_φ_38, fr_φ_38, hH⟩ := hH
  have f_39 := fr_φ_38 _ _ (hp_nf f_26 hq_q_37) f_26
  have f_40 := fr_φ_38 _ _ (hp_nf f_27 hq_q_37) f_27
  have f_41 := fr_φ_38 _ _ (hp_nf f_28 hq_q_37) f_28
  have f_42 := fr_φ_38 _ _ (hp_nf f_29 hq_q_37) f_29
  have f_43 := fr_φ_38 _ _ (hp_nf f_30 hq_q_37) f_30
  have f_44 := fr_φ_38 _ _ (hp_nf f_31 hq_q_37) f_31
  have f_45 := fr_φ_38 _ _ (hp_nf f_32 hq_q_37) f_32
  have f_46 := fr_φ_38 _ _ (hp_nf f_33 hq_q_37) f_33
  have f_47 := fr_φ_38 _ _ (hp_nf f_34 hq_q_37) f_34
  have f_48 := fr_φ_38 _ _ (hp_nf f_35 hq_q_37) f_35
  have f_49 := fr_φ_38 _ _ (hp_nf f_36 hq_q_37) f_36
  have f_50 := fr_φ_38 _ _ (hp_nf fa_φ_25 hq_q_37) fa_φ_25
  have hmh := hp_nf f_35 hq_q_37
  refine lv_astore (pc := 28) (lv' := [(5, .ref q_37), (4, .ref q_24), (3, .ref q_12), (2, .ref q_1), (1, .ref y), (0, .ref b)]) S.1 S.2.1 dL_law_28 hl (by decide) rfl (fun ls hl => ?_)
  refine lv_bipush (pc := 30) (v := nI 9) S.1 S.2.1 dL_law_30 (by decide) ?_
  refine hv_newa (pc := 32) (atype := .int) (a0 := (9, .inl (fun j => nI (zr j)))) (N' := 9) S tw_87 (ty := .int) rfl hK 1 rfl hH hS hA (fun _ => rfl) (by decide) (by decide) (Nat.le_of_ble_eq_true rfl) (Nat.le_of_ble_eq_true rfl) (Nat.le_of_ble_eq_true rfl) dL_law_32 (fun q_51 H hq_q_51 hH hS => ?_)
  replace hH := nup (e := .inl (cA 1, 9, .inl (fun j => nI (zr j)))) hH
  obtain ⟨φ_52, hφ_52, fa_φ_52, fr_φ_52, hH⟩ := hH
  have f_53 := fr_φ_52 _ _ (hp_nf f_39 hq_q_51) f_39
  have f_54 := fr_φ_52 _ _ (hp_nf f_40 hq_q_51) f_40
  have f_55 := fr_φ_52 _ _ (hp_nf f_41 hq_q_51) f_41
  have f_56 := fr_φ_52 _ _ (hp_nf f_42 hq_q_51) f_42
  have f_57 := fr_φ_52 _ _ (hp_nf f_43 hq_q_51) f_43
  have f_58 := fr_φ_52 _ _ (hp_nf f_44 hq_q_51) f_44
  have f_59 := fr_φ_52 _ _ (hp_nf f_45 hq_q_51) f_45
  have f_60 := fr_φ_52 _ _ (hp_nf f_46 hq_q_51) f_46
  have f_61 := fr_φ_52 _ _ (hp_nf f_47 hq_q_51) f_47
  have f_62 := fr_φ_52 _ _ (hp_nf f_48 hq_q_51) f_48
  have f_63 := fr_φ_52 _ _ (hp_nf f_49 hq_q_51) f_49
  have f_64 := fr_φ_52 _ _ (hp_nf f_50 hq_q_51) f_50
  have f_65 := fr_φ_52 _ _ (hp_nf fa_φ_38 hq_q_51) fa_φ_38
  refine lv_astore (pc := 34) (lv' := [(6, .ref q_51), (5, .ref q_37), (4, .ref q_24), (3, .ref q_12), (2, .ref q_1), (1, .ref y), (0, .ref b)]) S.1 S.2.1 dL_law_34 hl (by decide) rfl (fun ls hl => ?_)
  refine lv_aload_n (pc := 36) S.1 S.2.1 dL_law_36 rfl (lv_at hl 5 rfl) ?_
  refine lv_aload_n (pc := 37) S.1 S.2.1 dL_law_37 rfl (lv_at hl 4 rfl) ?_
  refine lv_aload_n (pc := 38) S.1 S.2.1 dL_law_38 rfl (lv_at hl 3 rfl) ?_
  refine lv_iconst (pc := 39) (v := nI 0) S.1 S.2.1 dL_law_39 (by decide) ?_
  obtain ⟨az, hz0, hz9, hz10, hz11, hz12, hz13, hY⟩ := pic_init (cA := cA) (ga := ga) f_53 f_54 f_55 f_56 f_57 f_58 f_59 f_60 f_61 f_62 f_63 f_64 f_65 fa_φ_52 hmh hbb
  have hHf := hH
  have hlf := hl
  have hSf := hS
  have hYf := hY
  subst hz0
  subst hz9
  subst hz10
  subst hz11
  subst hz12
  subst hz13
  have hH := hHf
  have hl := hlf
  have hS := hSf
  have hY := hYf
  have hI : LI 0 (fun _ => 0) (fun _ _ => 0) (fun _ _ _ => 0) (fun _ _ => 0) (fun _ => zr) := LI.init
  have hT := TY.nil zr
  refine hv_call (pc := 40) (va_runS (As := [.ref (az 0), .ref (az 9), .ref (az 10), .int (nI 0)]) (rest := []) S (l_isRefused l hfl D cA ga φ_52 H.size az 0 0 0 zr (fun _ => 0) (fun _ _ => 0) (fun _ _ _ => 0) (fun _ _ => 0) (fun _ => zr) 0 hY hI hT (by decide) rfl (by decide)) (va_cwS 4 S.2.2.2.2 (gS tw_888 tw_889 tw_0 tw_890) rfl rfl rfl (by decide +kernel) ⟨Nat.le_of_ble_eq_true rfl, Nat.le_of_ble_eq_true rfl⟩) (pre0_S hH hK hX hS hA) rfl rfl hl.1 rfl (lv_room (Nat.le_of_ble_eq_true rfl)) dL_law_40 ⟨Nat.le_of_ble_eq_true rfl, Nat.le_of_ble_eq_true rfl⟩) hS (af_le hH hS hA) (fun v_66 φ_67 H locs hw_v_66 hH hS => ?_)
  obtain ⟨rfl, hqv_66⟩ := hw_v_66
  rw [hqv_66] at hH
  refine hv_if_eq (pc := 43) (tgt := 74) (a := 1) S.1 S.2.1 (by omega) dL_law_43 (by decide) (fun c9 => absurd c9 (by omega)) (fun c_68 => ?_)
  refine lv_aload_n (pc := 46) S.1 S.2.1 dL_law_46 rfl (lv_at hl 5 rfl) ?_
  refine lv_aload_n (pc := 47) S.1 S.2.1 dL_law_47 rfl (lv_at hl 4 rfl) ?_
  refine lv_aload_n (pc := 48) S.1 S.2.1 dL_law_48 rfl (lv_at hl 3 rfl) ?_
  refine lv_iconst (pc := 49) (v := nI 1) S.1 S.2.1 dL_law_49 (by decide) ?_
  refine hv_call (pc := 50) (va_runS (As := [.ref (az 0), .ref (az 9), .ref (az 10), .int (nI 1)]) (rest := []) S (l_isRefused l hfl D cA ga φ_52 H.size az 0 0 0 zr (fun _ => 0) (fun _ _ => 0) (fun _ _ _ => 0) (fun _ _ => 0) (fun _ => zr) 1 hY hI hT (by decide) rfl (by decide)) (va_cwS 4 S.2.2.2.2 (gS tw_888 tw_889 tw_0 tw_890) rfl rfl rfl (by decide +kernel) ⟨Nat.le_of_ble_eq_true rfl, Nat.le_of_ble_eq_true rfl⟩) (pre0_S hH hK hX hS hA) rfl rfl hl.1 rfl (lv_room (Nat.le_of_ble_eq_true rfl)) dL_law_50 ⟨Nat.le_of_ble_eq_true rfl, Nat.le_of_ble_eq_true rfl⟩) hS (af_le hH hS hA) (fun v_69 φ_70 H locs hw_v_69 hH hS => ?_)
  obtain ⟨rfl, hqv_69⟩ := hw_v_69
  rw [hqv_69] at hH
  refine hv_if_eq (pc := 53) (tgt := 74) (a := 1) S.1 S.2.1 (by omega) dL_law_53 (by decide) (fun c9 => absurd c9 (by omega)) (fun c_71 => ?_)
  refine lv_aload_n (pc := 56) S.1 S.2.1 dL_law_56 rfl (lv_at hl 5 rfl) ?_
  refine lv_aload_n (pc := 57) S.1 S.2.1 dL_law_57 rfl (lv_at hl 4 rfl) ?_
  refine lv_aload_n (pc := 58) S.1 S.2.1 dL_law_58 rfl (lv_at hl 3 rfl) ?_
  refine lv_aload (pc := 59) S.1 S.2.1 dL_law_59 (lv_at hl 1 rfl) ?_
  refine lv_aload (pc := 61) S.1 S.2.1 dL_law_61 (lv_at hl 0 rfl) ?_
  refine lv_iconst (pc := 63) (v := nI 0) S.1 S.2.1 dL_law_63 (by decide) ?_
  refine hv_call (pc := 64) (va_runS (As := [.ref (az 0), .ref (az 9), .ref (az 10), .ref (az 12), .ref (az 13), .int (nI 0)]) (rest := []) S (l_areSound l hfl D cA ga φ_52 H.size az 0 0 0 zr (fun _ => 0) (fun _ _ => 0) (fun _ _ _ => 0) (fun _ _ => 0) (fun _ => zr) 0 hY hI hT (by decide) (by decide)) (va_cwS 6 S.2.2.2.2 (gS tw_896 tw_897 tw_0 tw_898) rfl rfl rfl (by decide +kernel) ⟨Nat.le_of_ble_eq_true rfl, Nat.le_of_ble_eq_true rfl⟩) (pre0_S hH hK hX hS hA) rfl rfl hl.1 rfl (lv_room (Nat.le_of_ble_eq_true rfl)) dL_law_64 ⟨Nat.le_of_ble_eq_true rfl, Nat.le_of_ble_eq_true rfl⟩) hS (af_le hH hS hA) (fun v_72 φ_73 H locs hw_v_72 hH hS => ?_)
  obtain ⟨rfl, hqv_72⟩ := hw_v_72
  rw [hqv_72] at hH
  refine hv_if_eq (pc := 67) (tgt := 74) (a := 1) S.1 S.2.1 (by omega) dL_law_67 (by decide) (fun c9 => absurd c9 (by omega)) (fun c_74 => ?_)
  refine lv_iconst (pc := 70) (v := nI 1) S.1 S.2.1 dL_law_70 (by decide) ?_
  refine lv_goto (pc := 71) (tgt := 75) S.1 S.2.1 dL_law_71 (by decide) ?_
  refine lv_istore (pc := 75) (lv' := [(7, .int (nI 1)), (6, .ref (az 13)), (5, .ref (az 12)), (4, .ref (az 11)), (3, .ref (az 10)), (2, .ref (az 9)), (1, .ref (az 0)), (0, .ref b)]) S.1 S.2.1 dL_law_75 hl (by decide) rfl (fun ls hl => ?_)
  refine lv_iconst (pc := 77) (v := nI 0) S.1 S.2.1 dL_law_77 (by decide) ?_
  refine lv_istore (pc := 78) (lv' := [(8, .int (nI 0)), (7, .int (nI 1)), (6, .ref (az 13)), (5, .ref (az 12)), (4, .ref (az 11)), (3, .ref (az 10)), (2, .ref (az 9)), (1, .ref (az 0)), (0, .ref b)]) S.1 S.2.1 dL_law_78 hl (by decide) rfl (fun ls hl => ?_)
  exact law_loop l hfl S hK hX hr hlocks hgb hgL 130 0 _ _ _ _ _ rfl (Nat.le_of_ble_eq_true rfl) (Nat.le_of_ble_eq_true rfl) ⟨0, 0, zr, _, _, _, _, _, _, hY, hI, hT, rfl, hH⟩ hS (lv_sub hl [0, 1, 2, 3, 4, 5, 6, 7, 8] rfl)
set_option maxHeartbeats 4000000 in
theorem lw_walk (l : Launch) (hflags : l.flags = flags0) (b : Addr) (xs : List Int32) : MetFree l x (headSpec (Jvm.Cond.code x code maxLocals ret :: tables_1) room_1) (lw_P b xs) (fun _ _ _ _ _ => True) lw_Q := by
  refine MetFree.of_bodyS (code := code) (maxLocals := maxLocals) (ret := ret) (by decide) ?_ ?_
  · intro args s m h hn
    obtain ⟨meth, c, h1, h2, h3, h4, h5, h6, -, -⟩ := Cond.code_spec hn (atoms_spec (ws := Jvm.Cond.code x code maxLocals ret :: tables_1) h _ List.mem_cons_self)
    exact ⟨meth, c, h1, h2, h3, h4, h5, h6⟩
  · intro p e s m args below meth c s₁ B hml0 hP _
    obtain ⟨rfl, hx, hbd, hgv⟩ := hP
    obtain ⟨scr, harrAt, hlist, hof, hsmall⟩ := hx
    obtain ⟨hcb, hkn, -, -⟩ := State.arrayAt?_spec harrAt
    have hown : s.vm.findClass R_law = some m.cls := findClass_of_methodNamed B.named
    have hts0 : ∀ c ∈ (Jvm.Cond.code x code maxLocals ret :: tables_1), c.before #[Value.ref b] s = true := atoms_spec (ws := Jvm.Cond.code x code maxLocals ret :: tables_1) B.pre
    have hts : ∀ w ∈ lw_tbl, w.before #[Value.ref b] s = true := k2_hts_sels lw_privs (fun w hw => hts0 w (List.mem_cons_of_mem _ hw)) lw_privs_ok
    have hml : c.maxLocals = 19 := B.maxLocals_eq (hts0 _ List.mem_cons_self)
    have X₀ : Stand p l e room_1 s m #[Value.ref b] below meth c s₁ [] 0 0 := Stand.of_body B
    have hh0 : s₁.heap = s.heap := by rw [B.state]; rfl
    have hsz : scr.slots.size = xs.length := by rw [← Array.length_toList, hlist, List.length_map]
    have hval : ∀ j : Nat, j < xs.length → scr.slots[j]? = some (.int (xs.getD j 0)) := fun j hj => by
      rw [← Array.getElem?_toList, hlist]
      simp [hj]
    have hbl : b < s.heap.size := (Array.getElem?_eq_some_iff.mp hcb).1
    have hX : va_X b xs.length (fun j => xs.getD j 0) s s.heap := ⟨scr, hcb, hof, hkn, hsz, hval⟩
    have K : W p l e room_1 s m #[Value.ref b] below meth c s₁.heap [] 0 0 (lw_Z below #[Value.ref b] s) (entryFrame m ([Value.ref b] : List Value).toArray 19) := by
      rw [hh0]
      exact whole_start l hflags hbd ⟨B.exec, B.bytes, B.returns, hml, hown, hts, hX, hbl, B.notSynchronized, hgv⟩
    obtain ⟨t, a1, o, b1, b2, b3⟩ := K s₁ rfl X₀
    exact ⟨t, o, a1, b1, b2, b3⟩
theorem lw_pre_spec {args : Array Value} {s : State} (h : (Jvm.Cond.and given_1 narrow_1).before args s = true) (hr : rest_1_c.before args s = true) : ∃ (b : Addr) (xs : List Int32), lw_P b xs args s := by
  have hs := flat_of_before _ h
  have hq := flat_of_before _ hr
  have hc : (Cond.count 1).before args s = true := hs _ (by decide +kernel)
  have harr : (Cond.arrayOf (.arg 0) .int).before args s = true := hs _ (by decide +kernel)
  have hle : (Cond.le (.length (.arg 0)) (.int 260)).before args s = true := hs _ (by decide +kernel)
  have hlen : (Cond.isInt (.length (.arg 0))).before args s = true := hq _ (by decide +kernel)
  have hall : (Cond.all (.arg 0) (.isInt (.elem (.arg 0) (.index 0)))).before args s = true := hq _ (by decide +kernel)
  obtain ⟨b, xs, hb, hx⟩ := State.ints_of_pre rfl harr hlen hall
  have hsm : xs.length < 2 ^ 31 := hx.choose_spec.2.2.2
  have hev : (Term.length (.arg 0)).eval args s none [] s = some (.int xs.length.toInt32) := hx.length_eval hb
  have hv := Cond.le_ints hev (show (Term.int 260).eval args s none [] s = some (.int 260) from rfl)
  have hd : xs.length.toInt32 ≤ 260 := by
    simpa [Cond.before, Cond.holds, hv] using hle
  have hN : xs.length ≤ 260 := (Int32.ofNat_le_ofNat hsm (by decide)).mp (show Int32.ofNat xs.length ≤ Int32.ofNat 260 from hd)
  exact ⟨b, xs, Cond.one_arg hc (show args[0]? = some (.ref b) from hb), hx, hN, h⟩
theorem lw_comes (l : Launch) (hflags : l.flags = flags0) : Comes l x (Jvm.Cond.code x code maxLocals ret :: tables_1) room_1 (fun tb e args s => Calls_1 tb e args s ∧ rest_1 tb e args s ∧ Pre_1 tb e args s)
    (fun _ _ args s o t => lw_Q args s o t) := by
  intro p e ha hc hk s m args below hf hfit hheap happ hpre
  obtain ⟨b, xs, hP⟩ := lw_pre_spec hpre.2.2 hpre.2.1
  obtain ⟨k, o, h1, h2, h3, hQ⟩ := lw_walk l hflags b xs p e ha hc hk s m args below hf ((Spec.applies_iff_loose hf).mp happ).1 hP trivial
  exact ⟨k, o, h1, h2, h3, hQ⟩
theorem lw_frame {s t : State} {o : Outcome} {args : Array Value} (h : State.butDraws s t lw_cs (fun t1 => Framed s o t1 [] 605932 7283671)) :
    State.butDraws s t [Jvm.Choice.named "NaN.bits"] (fun t1 => Framed s o t1 (fieldLocs frame_1_writes args s ++ arrayLocs frame_1_arrays args s ++ staticLocs frame_1_statics s) 605932 7283671) := h
theorem lw_limb (L : Cond) (hL : ∀ (args : Array Value) (s t : State), L.after args s (.returned (some (.int 1))) t = true) :
    ArmFor flags0 classFile x code maxLocals ret World_1 tables_1 room_1 Calls_1 rest_1 Pre_1
      (fun tb e a s o t => postC L tb e a s o t ∧ State.butDraws s t [Jvm.Choice.named "NaN.bits"] (fun t1 => Framed s o t1 (fieldLocs frame_1_writes a s ++ arrayLocs frame_1_arrays a s ++ staticLocs frame_1_statics s) 605932 7283671)) := by
  intro l hflags _ _ p e ha hc hk s m args below hf hfit hheap happ hpre
  obtain ⟨k, o, h1, h2, h3, rfl, hF⟩ := lw_comes l hflags p e ha hc hk s m args below hf hfit hheap happ hpre
  exact ⟨k, _, h1, h2, h3, hL args s _, lw_frame hF⟩
theorem i_vc : Claimed_1_1 ∧ Claimed_1_2 := ⟨lw_limb limb_1_1 (fun args s t => by simp [limb_1_1, Cond.after, Cond.holds, Cond.value]), lw_limb limb_1_2 (fun args s t => Cond.after_iff.mpr (by
  first | (rw [show limb_1_2 = Cond.eq .result (.int 1) from rfl, Cond.eq_ints (x := 1) (y := 1) rfl rfl]; simp; done) | (simp [limb_1_2, Cond.value, Term.eval]; done)))⟩
