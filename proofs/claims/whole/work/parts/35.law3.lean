/-! THE CLAIM OUT OF ONE WALK OF THE LAW'S BODY. Your part is whole_start (and what it stands on); all else here is the same for every law, but numbers. -/
def R_law : String := "HatbandYardLaw"
def lw_P (b : Addr) (xs : List Int32) (args : Array Value) (s : State) : Prop := args = #[.ref b] ∧ s.IntsAt b xs ∧ xs.length ≤ 2048 ∧ (Jvm.Cond.and given_1 narrow_1).before args s = true
/-- what a walk over the start with the record d0 says of its end, said of the start itself -/
theorem lw_closed {s t : State} {o : Outcome} {d0 : Drawn} {L : List Loc} {k n : Nat} (hd0 : s.drawn.sameBut d0 lw_cs) (hv : ∃ v, o = .returned v) (hW : (s.setDrawn d0).WarmedH t.vm) (hs : (s.setDrawn d0).sameButNew ({ t with vm := s.vm } : State) L k n) : State.butDraws s t lw_cs (fun t1 => Framed s o t1 L k n) := by
  have h2 : t.drawn = d0 := congrArg State.drawn hs.1
  refine ⟨⟨hv, hW, State.sameButNew.setDrawn hs s.drawn⟩, ?_, by decide⟩
  rw [h2]
  exact hd0
def lw_Q (_ : Array Value) (s : State) (o : Outcome) (t : State) : Prop := o = .returned (some (.int 1)) ∧ State.butDraws s t lw_cs (fun t1 => Framed s o t1 [] 654435 7132799)
def lw_Z (below : List Frame) (a : Array Value) (s : State) : State → Prop := fun t => ∃ o, t.status = .running ∧ Ended t below o ∧ lw_Q a s o t
/-- the law's own end, with 1 on the stack, nothing written that was there before, its room as the claim has it; d0: the record of draws at this point (at the entry s.drawn: begin with 'refine W.base ?_' and 'have hd0 := Drawn.sameBut.refl s.drawn lw_cs') -/
theorem lw_ret {p : Program} {l : Launch} {e : Env} {s : State} {m : MethodId} {below : List Frame} {meth : Method} {c : Code} {b : Nat} {d0 : Drawn} (hd0 : s.drawn.sameBut d0 lw_cs) (hx : p.tables.exec = Jvm.exec) (hb : c.code = code) (hr : meth.sig.returnType = ret) (hlocks : meth.locks = false) {pc : Nat} {H : Heap} {ls : Array Slot} (hdg : decode code pc = .ok (.ireturn, 1)) : W p l e room_1 (s.setDrawn d0) m #[Value.ref b] below meth c H [] 654435 7132799 (lw_Z below #[Value.ref b] s) (F0 m pc ls [.int 1]) := by
  intro T hT X
  obtain ⟨fs, hret, hrun, hended, hW, hframe⟩ := X.leave (v := some (.int 1)) (hlocks := hlocks) (fun h => by rw [hr] at h; cases h)
  have hmeth' : T.vm.method? m = some meth := X.method'
  refine ⟨T.setFrames fs, ?_, .returned (some (.int 1)), hrun, hended, rfl, lw_closed hd0 ⟨_, rfl⟩ hW hframe⟩
  jvm_step X.here [X.here.top, hx, hb, hdg, hmeth', hr, ret, narrow_b1]
  (try refine ⟨rfl, ?_⟩); (try refine ⟨rfl, ?_⟩)
  first | (intro acts; rw [hret _ acts rfl rfl rfl]) | rw [hret _ _ rfl rfl rfl]
  exact Steps.refl _
/-- what holds at the law's entry: the machine, the code, the tables' words (any of lw_tbl by 'hts w (by decide +kernel)'), the script of L ints xs at the cell b, what the Statement gives of the start (any of its parts by flat_of_before) -/
def lw_At (p : Program) (s : State) (m : MethodId) (meth : Method) (c : Code) (b L : Nat) (xs : Nat → Int32) : Prop :=
  p.tables.exec = Jvm.exec ∧ c.code = code ∧ meth.sig.returnType = ret ∧ c.maxLocals = 7 ∧ s.vm.findClass R_law = some m.cls ∧ (∀ w ∈ lw_tbl, w.before #[Value.ref b] s = true) ∧ va_X b L xs s s.heap ∧ b < s.heap.size ∧ meth.locks = false ∧ (Jvm.Cond.and given_1 narrow_1).before #[Value.ref b] s = true
section INVU
variable {t : Nat} {sc : Nat → Nat} {ar : Nat → Nat → Nat} {w : Nat → Nat → Nat → Nat} {e : Nat → Nat → Nat}
theorem INV.up (h : INV t sc ar w e) : INV (t + 1) sc ar w e := ⟨h.j0, h.j1, h.j2, h.j3, h.j4, h.j5, h.j6, h.j7, h.j8, (h.mono 0).j9⟩
end INVU
theorem WLD.up {cA : Nat → ClassId} {ga : Nat → Nat → Nat} {D : va_G} {A : Nat → Prop} {y ou mo k : Nat} {H : Heap} (h : WLD cA ga D A y ou mo k H) : WLD cA ga D A y ou mo (k + 1) H := by
  obtain ⟨sc, ar, w, e, o, ad, q, φ, ψ, h1, h2, h3, h4, h5⟩ := h
  exact ⟨sc, ar, w, e, o, ad, q, φ, ψ, h1, h2, h3, h4.up, h5⟩
/-- two maps in one -/
def unM (φ ψ : hpM) : hpM := fun a => match φ a with
  | some e => some e
  | none => ψ a
theorem hp.un {D : va_G} {A : Nat → Prop} {φ ψ : hpM} {H : Heap} (h1 : hp D A φ H) (h2 : hp D A ψ H) : hp D A (unM φ ψ) H := fun a e he => by
  unfold unM at he
  split at he
  · next x hx => cases he; exact h1 a _ hx
  · exact h2 a e he
theorem hp.of {D : va_G} {A : Nat → Prop} {θ φ : hpM} {H : Heap} (h : hp D A θ H) (hs : ∀ a e, φ a = some e → θ a = some e) : hp D A φ H := fun a e he => h a e (hs a e he)
theorem unM_l {φ ψ : hpM} {a : Nat} {e : va_E} (h : φ a = some e) : unM φ ψ a = some e := by
  unfold unM; rw [h]
theorem unM_r {φ ψ : hpM} {a : Nat} {e : va_E} (hd : ∀ a, φ a = none ∨ ψ a = none) (h : ψ a = some e) : unM φ ψ a = some e := by
  unfold unM
  rcases hd a with h1 | h1
  · rw [h1]; exact h
  · rw [h1] at h; cases h
theorem unM_n {φ ψ : hpM} {a : Nat} (h : unM φ ψ a = none) : φ a = none ∧ ψ a = none := by
  unfold unM at h
  split at h
  · cases h
  · next hx => exact ⟨hx, h⟩
theorem ups_sub {φ θ : hpM} {q : Nat} {x : va_E} (hq : θ q = none) (hs : ∀ a e, φ a = some e → θ a = some e) : ∀ a e, φ a = some e → ups θ q x a = some e := fun a e he => ups_n (fun z => by have := hs a e he; rw [z, hq] at this; cases this) (hs a e he)
theorem ups_subx {φ θ : hpM} {q : Nat} {x : va_E} (hq : θ q = none) (hs : ∀ a e, φ a = some e → θ a = some e) : ∀ a e, ups φ q x a = some e → ups θ q x a = some e := fun a e he => by
  by_cases ha : a = q
  · subst ha; rw [ups_s] at he ⊢; exact he
  · rw [ups_n ha rfl] at he
    rw [ups_n ha (hs a e he)]
def noM : hpM := fun _ => none
theorem hp.no {D : va_G} {A : Nat → Prop} {H : Heap} : hp D A noM H := fun a e he => by cases he
theorem reF_0 (a : Nat → Nat) : (fun _ => none) = reF 0 a := by
  funext j
  simp [reF]
/-- the yard's first picture, out of its cells, the law's array among them -/
theorem pic_init {cA : Nat → ClassId} {ga : Nat → Nat → Nat} {φ : hpM} {y sb bq la ca ha ba hd rq ou : Nat}
    (h0 : φ y = some (.inr (12, [.ref sb, .ref la, .ref ca, .ref ha, .ref ba, .ref hd, .int (nI 0), .int (nI 0), .int (nI 0), .int (nI 0), .int (nI 0)]))) (h1 : φ sb = some (.inr (1, [.ref bq, .int (nI 0), .int (nI 0), .int (nI 0)]))) (h2 : φ bq = some (.inl (cA 0, 16, .inl (fun j => nI (zr j)))))
    (h3 : φ la = some (.inl (cA 7, 10, .inr (.inr (.inr (.inr (fun _ => none))))))) (h4 : φ ca = some (.inl (cA 5, 12, .inr (.inr (.inr (.inr (fun _ => none))))))) (h5 : φ ha = some (.inl (cA 6, 6, .inr (.inr (.inr (.inr (fun _ => none))))))) (h6 : φ ba = some (.inl (cA 4, 8, .inr (.inr (.inr (.inr (fun _ => none)))))))
    (h7 : φ hd = some (.inr (9, [.ref rq]))) (h8 : φ rq = some (.inl (cA 1, 8, .inl (fun j => nI (zr j))))) (h9 : φ ou = some (.inl (cA 3, 1, .inr (.inl (fun _ => 0))))) :
    ∃ ad : Nat → Nat → Nat, ad 0 0 = y ∧ ad 0 9 = ou ∧ PIC (yC cA ga (fun _ => 0) (fun _ _ => 0) (fun _ _ _ => 0) (fun _ _ => 0) (fun _ => 0) ad) ad φ := by
  obtain ⟨ad, had⟩ : ∃ ad : Nat → Nat → Nat, ad = fun r j => if r = 0 then [y, sb, bq, la, ca, ha, ba, hd, rq, ou].getD j 0 else 0 := ⟨_, rfl⟩
  have e0 : ad 0 0 = y := by rw [had]; rfl
  have e1 : ad 0 1 = sb := by rw [had]; rfl
  have e2 : ad 0 2 = bq := by rw [had]; rfl
  have e3 : ad 0 3 = la := by rw [had]; rfl
  have e4 : ad 0 4 = ca := by rw [had]; rfl
  have e5 : ad 0 5 = ha := by rw [had]; rfl
  have e6 : ad 0 6 = ba := by rw [had]; rfl
  have e7 : ad 0 7 = hd := by rw [had]; rfl
  have e8 : ad 0 8 = rq := by rw [had]; rfl
  have e9 : ad 0 9 = ou := by rw [had]; rfl
  have hC : ∀ r j x, yC cA ga (fun _ => 0) (fun _ _ => 0) (fun _ _ _ => 0) (fun _ _ => 0) (fun _ => 0) ad r j = some x → r = 0 ∧ j < 10 ∧ φ (ad 0 j) = some x := fun r j x hx => by
    have hf : ∀ (c : Nat → va_E), ¬ fam 0 c j = some x := fun c z => by
      unfold fam at z
      rw [if_neg (Nat.not_lt_zero j)] at z
      cases z
    rcases r with _ | _ | _ | _ | _ | _ | _ | r
    · refine ⟨rfl, ?_⟩
      rcases j with _ | _ | _ | _ | _ | _ | _ | _ | _ | _ | j
      · refine ⟨by omega, ?_⟩; show φ (ad 0 0) = _; rw [e0, h0, ← e1, ← e3, ← e4, ← e5, ← e6, ← e7]; exact hx
      · refine ⟨by omega, ?_⟩; show φ (ad 0 1) = _; rw [e1, h1, ← e2]; exact hx
      · refine ⟨by omega, ?_⟩; show φ (ad 0 2) = _; rw [e2, h2]; exact hx
      · refine ⟨by omega, ?_⟩; show φ (ad 0 3) = _; rw [e3, h3, reF_0 (ad 1)]; exact hx
      · refine ⟨by omega, ?_⟩; show φ (ad 0 4) = _; rw [e4, h4, reF_0 (ad 2)]; exact hx
      · refine ⟨by omega, ?_⟩; show φ (ad 0 5) = _; rw [e5, h5, reF_0 (ad 5)]; exact hx
      · refine ⟨by omega, ?_⟩; show φ (ad 0 6) = _; rw [e6, h6, reF_0 (ad 6)]; exact hx
      · refine ⟨by omega, ?_⟩; show φ (ad 0 7) = _; rw [e7, h7, ← e8]; exact hx
      · refine ⟨by omega, ?_⟩; show φ (ad 0 8) = _; rw [e8, h8]; exact hx
      · refine ⟨by omega, ?_⟩; show φ (ad 0 9) = _; rw [e9, h9]; exact hx
      · cases hx
    · exact absurd hx (hf _)
    · exact absurd hx (hf _)
    · exact absurd hx (hf _)
    · exact absurd hx (hf _)
    · exact absurd hx (hf _)
    · exact absurd hx (hf _)
    · cases hx
  refine ⟨ad, e0, e9, fun r j x hx => ?_, fun r j r' j' hc hc' ee => ?_⟩
  · obtain ⟨hr, -, h⟩ := hC r j x hx
    rw [hr]; exact h
  · cases hx : yC cA ga (fun _ => 0) (fun _ _ => 0) (fun _ _ _ => 0) (fun _ _ => 0) (fun _ => 0) ad r j with
    | none => exact absurd hx hc
    | some x =>
      cases hx' : yC cA ga (fun _ => 0) (fun _ _ => 0) (fun _ _ _ => 0) (fun _ _ => 0) (fun _ => 0) ad r' j' with
      | none => exact absurd hx' hc'
      | some x' =>
        obtain ⟨hr, hj, h⟩ := hC r j x hx
        obtain ⟨hr', hj', h'⟩ := hC r' j' x' hx'
        subst hr
        subst hr'
        rw [ee, h'] at h
        have hxx : x' = x := Option.some.inj h
        rw [← hxx, ← hx'] at hx
        refine ⟨rfl, ?_⟩
        have hx9 : yC0 cA (fun _ => 0) (fun _ _ => 0) (fun _ _ => 0) (fun _ => 0) ad j = yC0 cA (fun _ => 0) (fun _ _ => 0) (fun _ _ => 0) (fun _ => 0) ad j' := hx
        rcases j with _ | _ | _ | _ | _ | _ | _ | _ | _ | _ | j <;> rcases j' with _ | _ | _ | _ | _ | _ | _ | _ | _ | _ | j' <;> first | rfl | (exfalso; omega) | (exfalso; simp [yC0] at hx9)
set_option maxHeartbeats 4000000 in
set_option maxRecDepth 100000 in
theorem law_exit (l : Launch) (hfl : l.stackTraces = false) {p : Program} {e : Env} {s : State} {m : MethodId} {below : List Frame} {meth : Method} {c : Code} {b L : Nat} {xs : Nat → Int32} {D : va_G} {cA : Nat → ClassId} {ga : Nat → Nat → Nat} (hr : meth.sig.returnType = ret) (hlocks : meth.locks = false) (S : CallFix p m c code 7 s #[.ref b] Wc RL) (hK : va_K D vwCl (tysL cA) s) (hX : Sx ga (fun q => s.heap.size ≤ q) s s.heap) (hN3 : Nc3 s) (hXs : va_X b L xs s s.heap) (hbl : b < s.heap.size) (hL : L ≤ 2048) {y ou mo : Nat} {k9 cells slots : Nat} {H : Heap} {locs : List Loc} {ls : Array Slot} (hk : k9 ≤ 513) (hi : ¬ 4 * k9 + 4 ≤ L) (hc : cells ≤ 30 + 10 * k9) (hs : slots ≤ 500 + 60 * k9) (hS : va_S (fun q => s.heap.size ≤ q) s.heap H locs) (hl : lv_has ls 7 [(4, .int (nI (4 * k9))), (3, .ref ou), (2, .ref mo), (1, .ref y), (0, .ref b)]) : W p l e room_1 s m #[.ref b] below meth c H locs cells slots (lw_Z below #[.ref b] s) (F0 m 23 ls []) := by
  refine lv_iload (pc := 23) S.1 S.2.1 dL_law_23 (lv_at hl 0 rfl) ?_
  refine lv_aload_n (pc := 25) S.1 S.2.1 dL_law_25 rfl (lv_at hl 4 rfl) ?_
  refine va_slen (pc := 26) S.1 S.2.1 hXs hbl (Nat.not_le.mpr hbl) hS dL_law_26 ?_
  refine hv_ti (y := nI L) (rfl) ?_
  refine lv_iconst (pc := 27) (v := nI 4) S.1 S.2.1 dL_law_27 (by decide) ?_
  refine lv_isub (pc := 28) S.1 S.2.1 dL_law_28 ?_
  have hlt : nI L - nI 4 < nI (4 * k9) := by rw [Int32.lt_iff_toInt_lt, pk_sub_toInt (by omega) (by omega), nI_toInt (by omega)]; omega
  refine lv_icmp_gt (pc := 29) (tgt := 1410) S.1 S.2.1 dL_law_29 (by decide) (fun c_1 => ?_) (fun c_1 => ?_)
  · skip
    refine lv_iconst (pc := 1410) (v := nI 1) S.1 S.2.1 dL_law_1410 (by decide) ?_
    refine hv_ti (y := 1) rfl ?_
    refine W.widen (k := 654435) (n := 7132799) (Nat.le_trans (show _ ≤ 20000 by omega) (Nat.le_of_ble_eq_true rfl)) (Nat.le_trans (show _ ≤ 200000 by omega) (Nat.le_of_ble_eq_true rfl)) ?_
    refine va_forget (fun q hq => hS.2.2 q hq) ?_
    refine W.base ?_
    exact lw_ret (Drawn.sameBut.refl s.drawn lw_cs) S.1 S.2.1 hr hlocks dL_law_1411
  · skip
    exact absurd c_1 (fun h => h hlt)
set_option maxHeartbeats 4000000 in
set_option maxRecDepth 100000 in
theorem law_loop (l : Launch) (hfl : l.stackTraces = false) {p : Program} {e : Env} {s : State} {m : MethodId} {below : List Frame} {meth : Method} {c : Code} {b L : Nat} {xs : Nat → Int32} {D : va_G} {cA : Nat → ClassId} {ga : Nat → Nat → Nat} (hr : meth.sig.returnType = ret) (hlocks : meth.locks = false) (S : CallFix p m c code 7 s #[.ref b] Wc RL) (hK : va_K D vwCl (tysL cA) s) (hX : Sx ga (fun q => s.heap.size ≤ q) s s.heap) (hN3 : Nc3 s) (hXs : va_X b L xs s s.heap) (hbl : b < s.heap.size) (hL : L ≤ 2048) {y ou mo : Nat} : ∀ (n9 k9 cells slots : Nat) (H : Heap) (locs : List Loc) (ls : Array Slot), k9 + n9 = 513 → cells ≤ 30 + 10 * k9 → slots ≤ 500 + 60 * k9 → WLD cA ga D (fun q => s.heap.size ≤ q) y ou mo k9 H → va_S (fun q => s.heap.size ≤ q) s.heap H locs → lv_has ls 7 [(4, .int (nI (4 * k9))), (3, .ref ou), (2, .ref mo), (1, .ref y), (0, .ref b)] → W p l e room_1 s m #[.ref b] below meth c H locs cells slots (lw_Z below #[.ref b] s) (F0 m 23 ls [])
  | 0, k9, cells, slots, H, locs, ls, hk, hc, hs, hW, hS, hl => law_exit l hfl hr hlocks S hK hX hN3 hXs hbl hL (by omega) (by omega) hc hs hS hl
  | n9 + 1, k9, cells, slots, H, locs, ls, hk, hc, hs, hW, hS, hl => by
    by_cases hi : 4 * k9 + 4 ≤ L
    · skip
      refine lv_iload (pc := 23) S.1 S.2.1 dL_law_23 (lv_at hl 0 rfl) ?_
      refine lv_aload_n (pc := 25) S.1 S.2.1 dL_law_25 rfl (lv_at hl 4 rfl) ?_
      refine va_slen (pc := 26) S.1 S.2.1 hXs hbl (Nat.not_le.mpr hbl) hS dL_law_26 ?_
      refine hv_ti (y := nI L) (rfl) ?_
      refine lv_iconst (pc := 27) (v := nI 4) S.1 S.2.1 dL_law_27 (by decide) ?_
      refine lv_isub (pc := 28) S.1 S.2.1 dL_law_28 ?_
      refine hv_ti (y := nI (L - 4)) (pk_sub (by omega)) ?_
      refine hv_icmp_gt (pc := 29) (tgt := 1410) (a := 4 * k9) (b := L - 4) S.1 S.2.1 (by omega) (by omega) dL_law_29 (by decide) (fun c_1 => ?_) (fun c_1 => ?_)
      · skip
        exact absurd c_1 (by omega)
      · skip
        refine lv_aload_n (pc := 32) S.1 S.2.1 dL_law_32 rfl (lv_at hl 4 rfl) ?_
        refine lv_iload (pc := 33) S.1 S.2.1 dL_law_33 (lv_at hl 0 rfl) ?_
        refine va_sld (pc := 35) S.1 S.2.1 hXs hbl (Nat.not_le.mpr hbl) hS (vp_in_nI (by omega) (by omega)) dL_law_35 ?_
        refine hv_ti (y := xs (4 * k9)) (by rw [nI_clamp (by omega)]) ?_
        refine lv_bipush (pc := 36) (v := nI 31) S.1 S.2.1 dL_law_36 (by decide) ?_
        refine lv_iand (pc := 38) S.1 S.2.1 dL_law_38 ?_
        obtain ⟨r9, hr9, hv9⟩ : ∃ r9 : Nat, r9 < 32 ∧ (xs (4 * k9)) &&& nI 31 = nI r9 := ⟨_, (Nat.mod_lt _ (by decide) : _ % 2 ^ 5 < 2 ^ 5), pk_and _ 5 (by decide)⟩
        refine hv_ti (y := nI r9) hv9 ?_
        have kk : ∀ (H1 : Heap) (locs1 : List Loc) (ls1 : Array Slot), WLD cA ga D (fun q => s.heap.size ≤ q) y ou mo (k9 + 1) H1 → va_S (fun q => s.heap.size ≤ q) s.heap H1 locs1 → lv_has ls1 7 [(4, .int (nI (4 * k9))), (3, .ref ou), (2, .ref mo), (1, .ref y), (0, .ref b)] → W p l e room_1 s m #[.ref b] below meth c H1 locs1 (cells + 10) (slots + 60) (lw_Z below #[.ref b] s) (F0 m 1404 ls1 []) := by
          intro H locs ls hW hS hl
          refine lv_iinc (pc := 1404) (v := nI (4 * k9 + 4)) (lv' := [(4, .int (nI (4 * k9 + 4))), (3, .ref ou), (2, .ref mo), (1, .ref y), (0, .ref b)]) S.1 S.2.1 dL_law_1404 hl (k := 0) rfl (by first | rfl | exact nI_add _ _) (by decide) rfl (fun ls hl => ?_)
          refine lv_goto (pc := 1407) (tgt := 23) S.1 S.2.1 dL_law_1407 (by decide) ?_
          exact law_loop l hfl hr hlocks S hK hX hN3 hXs hbl hL n9 (k9 + 1) _ _ _ _ _ (by omega) (by omega) (by omega) hW hS (lv_sub hl [0, 1, 2, 3, 4] rfl)
        rcases (show r9 = 0 ∨ r9 = 1 ∨ r9 = 2 ∨ r9 = 3 ∨ r9 = 4 ∨ r9 = 5 ∨ r9 = 6 ∨ r9 = 7 ∨ r9 = 8 ∨ r9 = 9 ∨ r9 = 10 ∨ r9 = 11 ∨ r9 = 12 ∨ r9 = 13 ∨ r9 = 14 ∨ r9 = 15 ∨ r9 = 16 ∨ r9 = 17 ∨ r9 = 18 ∨ r9 = 19 ∨ r9 = 20 ∨ r9 = 21 ∨ r9 = 22 ∨ r9 = 23 ∨ r9 = 24 ∨ r9 = 25 ∨ r9 = 26 ∨ r9 = 27 ∨ r9 = 28 ∨ r9 = 29 ∨ r9 = 30 ∨ r9 = 31 by omega) with rfl | rfl | rfl | rfl | rfl | rfl | rfl | rfl | rfl | rfl | rfl | rfl | rfl | rfl | rfl | rfl | rfl | rfl | rfl | rfl | rfl | rfl | rfl | rfl | rfl | rfl | rfl | rfl | rfl | rfl | rfl | rfl
        · refine lv_tableIn (pc := 39) (off := 93) (tgt := 132) S.1 S.2.1 dL_law_39 (by decide) (by decide) (by decide) (by decide) ?_
          exact law_letter l hfl S hK hX hN3 hXs hbl hL (by omega) (by omega) hc hs hW hS (lv_sub hl [0, 1, 2, 3, 4] rfl) kk
        · refine lv_tableIn (pc := 39) (off := 151) (tgt := 190) S.1 S.2.1 dL_law_39 (by decide) (by decide) (by decide) (by decide) ?_
          exact law_lot l hfl S hK hX hN3 hXs hbl hL (by omega) (by omega) hc hs hW hS (lv_sub hl [0, 1, 2, 3, 4] rfl) kk
        · refine lv_tableIn (pc := 39) (off := 207) (tgt := 246) S.1 S.2.1 dL_law_39 (by decide) (by decide) (by decide) (by decide) ?_
          exact law_cone l hfl S hK hX hN3 hXs hbl hL (by omega) (by omega) hc hs hW hS (lv_sub hl [0, 1, 2, 3, 4] rfl) kk
        · refine lv_tableIn (pc := 39) (off := 287) (tgt := 326) S.1 S.2.1 dL_law_39 (by decide) (by decide) (by decide) (by decide) ?_
          exact law_hand l hfl S hK hX hN3 hXs hbl hL (by omega) (by omega) hc hs hW hS (lv_sub hl [0, 1, 2, 3, 4] rfl) kk
        · refine lv_tableIn (pc := 39) (off := 331) (tgt := 370) S.1 S.2.1 dL_law_39 (by decide) (by decide) (by decide) (by decide) ?_
          exact law_cycle l hfl S hK hX hN3 hXs hbl hL (by omega) (by omega) hc hs hW hS (lv_sub hl [0, 1, 2, 3, 4] rfl) kk
        · refine lv_tableIn (pc := 39) (off := 399) (tgt := 438) S.1 S.2.1 dL_law_39 (by decide) (by decide) (by decide) (by decide) ?_
          exact law_block l hfl S hK hX hN3 hXs hbl hL (by omega) (by omega) hc hs hW hS (lv_sub hl [0, 1, 2, 3, 4] rfl) kk
        · refine lv_tableIn (pc := 39) (off := 467) (tgt := 506) S.1 S.2.1 dL_law_39 (by decide) (by decide) (by decide) (by decide) ?_
          exact law_draw l hfl S hK hX hN3 hXs hbl hL (by omega) (by omega) hc hs hW hS (lv_sub hl [0, 1, 2, 3, 4] rfl) kk
        · refine lv_tableIn (pc := 39) (off := 535) (tgt := 574) S.1 S.2.1 dL_law_39 (by decide) (by decide) (by decide) (by decide) ?_
          exact law_trim l hfl S hK hX hN3 hXs hbl hL (by omega) (by omega) hc hs hW hS (lv_sub hl [0, 1, 2, 3, 4] rfl) kk
        · refine lv_tableIn (pc := 39) (off := 598) (tgt := 637) S.1 S.2.1 dL_law_39 (by decide) (by decide) (by decide) (by decide) ?_
          exact law_pass l hfl S hK hX hN3 hXs hbl hL (by omega) (by omega) hc hs hW hS (lv_sub hl [0, 1, 2, 3, 4] rfl) kk
        · refine lv_tableIn (pc := 39) (off := 654) (tgt := 693) S.1 S.2.1 dL_law_39 (by decide) (by decide) (by decide) (by decide) ?_
          exact law_about l hfl S hK hX hN3 hXs hbl hL (by omega) (by omega) hc hs hW hS (lv_sub hl [0, 1, 2, 3, 4] rfl) kk
        · refine lv_tableIn (pc := 39) (off := 734) (tgt := 773) S.1 S.2.1 dL_law_39 (by decide) (by decide) (by decide) (by decide) ?_
          exact law_widthAnew l hfl S hK hX hN3 hXs hbl hL (by omega) (by omega) hc hs hW hS (lv_sub hl [0, 1, 2, 3, 4] rfl) kk
        · refine lv_tableIn (pc := 39) (off := 802) (tgt := 841) S.1 S.2.1 dL_law_39 (by decide) (by decide) (by decide) (by decide) ?_
          exact law_brim l hfl S hK hX hN3 hXs hbl hL (by omega) (by omega) hc hs hW hS (lv_sub hl [0, 1, 2, 3, 4] rfl) kk
        · refine lv_tableIn (pc := 39) (off := 870) (tgt := 909) S.1 S.2.1 dL_law_39 (by decide) (by decide) (by decide) (by decide) ?_
          exact law_count l hfl S hK hX hN3 hXs hbl hL (by omega) (by omega) hc hs hW hS (lv_sub hl [0, 1, 2, 3, 4] rfl) kk
        · refine lv_tableIn (pc := 39) (off := 926) (tgt := 965) S.1 S.2.1 dL_law_39 (by decide) (by decide) (by decide) (by decide) ?_
          exact law_countAnew l hfl S hK hX hN3 hXs hbl hL (by omega) (by omega) hc hs hW hS (lv_sub hl [0, 1, 2, 3, 4] rfl) kk
        · refine lv_tableIn (pc := 39) (off := 982) (tgt := 1021) S.1 S.2.1 dL_law_39 (by decide) (by decide) (by decide) (by decide) ?_
          exact law_rows l hfl S hK hX hN3 hXs hbl hL (by omega) (by omega) hc hs hW hS (lv_sub hl [0, 1, 2, 3, 4] rfl) kk
        · refine lv_tableIn (pc := 39) (off := 1038) (tgt := 1077) S.1 S.2.1 dL_law_39 (by decide) (by decide) (by decide) (by decide) ?_
          exact law_measure l hfl S hK hX hN3 hXs hbl hL (by omega) (by omega) hc hs hW hS (lv_sub hl [0, 1, 2, 3, 4] rfl) kk
        · refine lv_tableIn (pc := 39) (off := 1106) (tgt := 1145) S.1 S.2.1 dL_law_39 (by decide) (by decide) (by decide) (by decide) ?_
          exact law_fits l hfl S hK hX hN3 hXs hbl hL (by omega) (by omega) hc hs hW hS (lv_sub hl [0, 1, 2, 3, 4] rfl) kk
        · refine lv_tableIn (pc := 39) (off := 1169) (tgt := 1208) S.1 S.2.1 dL_law_39 (by decide) (by decide) (by decide) (by decide) ?_
          exact law_size l hfl S hK hX hN3 hXs hbl hL (by omega) (by omega) hc hs hW hS (lv_sub hl [0, 1, 2, 3, 4] rfl) kk
        · refine lv_tableIn (pc := 39) (off := 1225) (tgt := 1264) S.1 S.2.1 dL_law_39 (by decide) (by decide) (by decide) (by decide) ?_
          by_cases hz0 : xs (4 * k9 + 2) = 0
          · exact law_air0 l hfl S hK hX hN3 hXs hbl hL (by omega) (by omega) hc hs hW hS (lv_sub hl [0, 1, 2, 3, 4] rfl) kk hz0
          · exact law_air1 l hfl S hK hX hN3 hXs hbl hL (by omega) (by omega) hc hs hW hS (lv_sub hl [0, 1, 2, 3, 4] rfl) kk hz0
        · refine lv_tableIn (pc := 39) (off := 1309) (tgt := 1348) S.1 S.2.1 dL_law_39 (by decide) (by decide) (by decide) (by decide) ?_
          exact law_grams l hfl S hK hX hN3 hXs hbl hL (by omega) (by omega) hc hs hW hS (lv_sub hl [0, 1, 2, 3, 4] rfl) kk
        · refine lv_tableOut (pc := 39) (tgt := 1404) S.1 S.2.1 dL_law_39 (Or.inr (by decide)) (by decide) ?_
          refine W.widen (k := cells + 10) (n := slots + 60) (by omega) (by omega) ?_
          exact kk _ _ _ hW.up hS (lv_sub hl [0, 1, 2, 3, 4] rfl)
        · refine lv_tableOut (pc := 39) (tgt := 1404) S.1 S.2.1 dL_law_39 (Or.inr (by decide)) (by decide) ?_
          refine W.widen (k := cells + 10) (n := slots + 60) (by omega) (by omega) ?_
          exact kk _ _ _ hW.up hS (lv_sub hl [0, 1, 2, 3, 4] rfl)
        · refine lv_tableOut (pc := 39) (tgt := 1404) S.1 S.2.1 dL_law_39 (Or.inr (by decide)) (by decide) ?_
          refine W.widen (k := cells + 10) (n := slots + 60) (by omega) (by omega) ?_
          exact kk _ _ _ hW.up hS (lv_sub hl [0, 1, 2, 3, 4] rfl)
        · refine lv_tableOut (pc := 39) (tgt := 1404) S.1 S.2.1 dL_law_39 (Or.inr (by decide)) (by decide) ?_
          refine W.widen (k := cells + 10) (n := slots + 60) (by omega) (by omega) ?_
          exact kk _ _ _ hW.up hS (lv_sub hl [0, 1, 2, 3, 4] rfl)
        · refine lv_tableOut (pc := 39) (tgt := 1404) S.1 S.2.1 dL_law_39 (Or.inr (by decide)) (by decide) ?_
          refine W.widen (k := cells + 10) (n := slots + 60) (by omega) (by omega) ?_
          exact kk _ _ _ hW.up hS (lv_sub hl [0, 1, 2, 3, 4] rfl)
        · refine lv_tableOut (pc := 39) (tgt := 1404) S.1 S.2.1 dL_law_39 (Or.inr (by decide)) (by decide) ?_
          refine W.widen (k := cells + 10) (n := slots + 60) (by omega) (by omega) ?_
          exact kk _ _ _ hW.up hS (lv_sub hl [0, 1, 2, 3, 4] rfl)
        · refine lv_tableOut (pc := 39) (tgt := 1404) S.1 S.2.1 dL_law_39 (Or.inr (by decide)) (by decide) ?_
          refine W.widen (k := cells + 10) (n := slots + 60) (by omega) (by omega) ?_
          exact kk _ _ _ hW.up hS (lv_sub hl [0, 1, 2, 3, 4] rfl)
        · refine lv_tableOut (pc := 39) (tgt := 1404) S.1 S.2.1 dL_law_39 (Or.inr (by decide)) (by decide) ?_
          refine W.widen (k := cells + 10) (n := slots + 60) (by omega) (by omega) ?_
          exact kk _ _ _ hW.up hS (lv_sub hl [0, 1, 2, 3, 4] rfl)
        · refine lv_tableOut (pc := 39) (tgt := 1404) S.1 S.2.1 dL_law_39 (Or.inr (by decide)) (by decide) ?_
          refine W.widen (k := cells + 10) (n := slots + 60) (by omega) (by omega) ?_
          exact kk _ _ _ hW.up hS (lv_sub hl [0, 1, 2, 3, 4] rfl)
        · refine lv_tableOut (pc := 39) (tgt := 1404) S.1 S.2.1 dL_law_39 (Or.inr (by decide)) (by decide) ?_
          refine W.widen (k := cells + 10) (n := slots + 60) (by omega) (by omega) ?_
          exact kk _ _ _ hW.up hS (lv_sub hl [0, 1, 2, 3, 4] rfl)
        · refine lv_tableOut (pc := 39) (tgt := 1404) S.1 S.2.1 dL_law_39 (Or.inr (by decide)) (by decide) ?_
          refine W.widen (k := cells + 10) (n := slots + 60) (by omega) (by omega) ?_
          exact kk _ _ _ hW.up hS (lv_sub hl [0, 1, 2, 3, 4] rfl)
        · refine lv_tableOut (pc := 39) (tgt := 1404) S.1 S.2.1 dL_law_39 (Or.inr (by decide)) (by decide) ?_
          refine W.widen (k := cells + 10) (n := slots + 60) (by omega) (by omega) ?_
          exact kk _ _ _ hW.up hS (lv_sub hl [0, 1, 2, 3, 4] rfl)
    · skip
      exact law_exit l hfl hr hlocks S hK hX hN3 hXs hbl hL (by omega) hi hc hs hS hl
set_option maxHeartbeats 4000000 in
set_option maxRecDepth 100000 in
/-- YOUR PART: from the entry, for every script of at most 2048 ints, the law comes to its end with true ('hflags': the launch's flags, for a law that throws: no stack traces) -/
theorem whole_start {p : Program} {e : Env} {s : State} {m : MethodId} {below : List Frame} {meth : Method} {c : Code} (l : Launch) (hflags : l.flags = flags0) {b L : Nat} {xs : Nat → Int32} (hL : L ≤ 2048) (C0 : lw_At p s m meth c b L xs) : W p l e room_1 s m #[Value.ref b] below meth c s.heap [] 0 0 (lw_Z below #[Value.ref b] s) (entryFrame m ([Value.ref b] : List Value).toArray 7) := by
  obtain ⟨hx, hb, hr, hml, hown, hts, hXs, hbl, hlocks, hgv⟩ := C0
  have hfl : l.stackTraces = false := by unfold Launch.stackTraces; rw [hflags]; decide
  have hflat : ∀ w ∈ fl, w.before #[Value.ref b] s = true := flat_of_before _ hgv
  have hA0 : ∀ a : Nat, a < s.heap.size → ¬ (fun q : Nat => s.heap.size ≤ q) a := fun a h => Nat.not_le.mpr h
  obtain ⟨ga, hX⟩ := sx_start (A := fun q : Nat => s.heap.size ≤ q) hflat hts hA0
  obtain ⟨D, cA, hK⟩ := k_start hts
  have hN3 := nc_start hflat
  have S : CallFix p m c code 7 s #[.ref b] Wc RL := ⟨hx, hb, hml, hown, wc_start hts⟩
  have hA : ∀ q : Nat, s.heap.size ≤ q → (fun q : Nat => s.heap.size ≤ q) q := fun _ h => h
  have hS : va_S (fun q : Nat => s.heap.size ≤ q) s.heap s.heap [] := va_S.rf
  have hH : hp D (fun q : Nat => s.heap.size ≤ q) noM s.heap := hp.no
  have hl := lv_entry ([.ref b]) (n := 7) (Nat.le_of_ble_eq_true rfl)
  rw [lg_entry_eq]
  generalize (lg_sl ([.ref b]) ++ List.replicate (7 - (lg_sl ([.ref b])).length) Slot.unset).toArray = ls at hl ⊢
  have hl : lv_has ls 7 [(0, .ref b)] := hl
  refine hv_new (pc := 0) (ci := 12) (fs := [.null, .null, .null, .null, .null, .null, .int (nI 0), .int (nI 0), .int (nI 0), .int (nI 0), .int (nI 0)]) (C := RX8) (T := TX8) (N := 11) S uwX8 tyX8 tyX8_ok tw_30 tw_31 tw_1 hK hH hS hA rfl (fun j hj => by rcases (show j = 0 ∨ j = 1 ∨ j = 2 ∨ j = 3 ∨ j = 4 ∨ j = 5 ∨ j = 6 ∨ j = 7 ∨ j = 8 ∨ j = 9 ∨ j = 10 by omega) with rfl | rfl | rfl | rfl | rfl | rfl | rfl | rfl | rfl | rfl | rfl <;> rfl) (Nat.le_of_ble_eq_true rfl) (Nat.le_of_ble_eq_true rfl) dL_law_0 (fun y9 H hq_y9 hH hS => ?_)
  have hy9 : hp D (fun q : Nat => s.heap.size ≤ q) (ups noM y9 (.inr (12, [.null, .null, .null, .null, .null, .null, .int (nI 0), .int (nI 0), .int (nI 0), .int (nI 0), .int (nI 0)]))) H := hH
  refine lv_dup (pc := 3) S.1 S.2.1 dL_law_3 rfl ?_
  refine hv_callP (φ := (ups noM y9 (.inr (12, [.null, .null, .null, .null, .null, .null, .int (nI 0), .int (nI 0), .int (nI 0), .int (nI 0), .int (nI 0)])))) (ψ := noM) (pc := 4) (va_runI (As := []) (rest := [.ref y9]) S (c_YardInit l D cA ga (ups noM y9 (.inr (12, [.null, .null, .null, .null, .null, .null, .int (nI 0), .int (nI 0), .int (nI 0), .int (nI 0), .int (nI 0)]))) H.size y9 (ups_s _ _ _)) (cwI 0 S.2.2.2.2 (gw tw_34) rfl rfl rfl (S.2.2.2.2 _ tw_1) (S.2.2.2.2 _ tw_32) (S.2.2.2.2 _ tw_33) rfl (by decide +kernel) ⟨Nat.le_of_ble_eq_true rfl, Nat.le_of_ble_eq_true rfl⟩) (pre0_S hy9 hK hX hS hA) rfl rfl hl.1 rfl (lv_room (Nat.le_of_ble_eq_true rfl)) dL_law_4 ⟨Nat.le_of_ble_eq_true rfl, Nat.le_of_ble_eq_true rfl⟩) hS hA hy9 hp.no (fun _ => Or.inr rfl) (fun v φ H locs hw hφ hψ hd hS => ?_)
  obtain ⟨rfl, sb, bq, la, ca, ha, ba, hd9, rq, f0, f1, f2, f3, f4, f5, f6, f7, f8⟩ := hw
  refine lv_astore_n (pc := 7) (lv' := [(1, .ref y9), (0, .ref b)]) S.1 S.2.1 dL_law_7 rfl hl (by decide) rfl (fun ls hl => ?_)
  have hH := hφ
  refine hv_new (pc := 8) (ci := 13) (fs := [.int (nI 0), .long (0), .int (nI 0), .null, .null, .int (nI 0), .null, .null, .null, .null, .null, .null, .null, .int (nI 0), .null, .null, .int (nI 0), .null, .null, .null, .int (nI 0), .int (nI 0)]) (C := RX9) (T := TX9) (N := 22) S uwX9 tyX9 tyX9_ok tw_939 tw_940 tw_7 hK hH hS hA rfl (fun j hj => by rcases (show j = 0 ∨ j = 1 ∨ j = 2 ∨ j = 3 ∨ j = 4 ∨ j = 5 ∨ j = 6 ∨ j = 7 ∨ j = 8 ∨ j = 9 ∨ j = 10 ∨ j = 11 ∨ j = 12 ∨ j = 13 ∨ j = 14 ∨ j = 15 ∨ j = 16 ∨ j = 17 ∨ j = 18 ∨ j = 19 ∨ j = 20 ∨ j = 21 by omega) with rfl | rfl | rfl | rfl | rfl | rfl | rfl | rfl | rfl | rfl | rfl | rfl | rfl | rfl | rfl | rfl | rfl | rfl | rfl | rfl | rfl | rfl <;> rfl) (Nat.le_of_ble_eq_true rfl) (Nat.le_of_ble_eq_true rfl) dL_law_8 (fun mo H hq_mo hH hS => ?_)
  have hφ : hp D (fun q : Nat => s.heap.size ≤ q) φ H := hp.of hH (ups_sub hq_mo (fun _ _ h => h))
  have hψ : hp D (fun q : Nat => s.heap.size ≤ q) (ups noM mo (.inr (13, [.int (nI 0), .long (0), .int (nI 0), .null, .null, .int (nI 0), .null, .null, .null, .null, .null, .null, .null, .int (nI 0), .null, .null, .int (nI 0), .null, .null, .null, .int (nI 0), .int (nI 0)]))) H := hp.of hH (ups_subx hq_mo (fun _ _ h => by cases h))
  have hd : ∀ x, (ups noM mo (.inr (13, [.int (nI 0), .long (0), .int (nI 0), .null, .null, .int (nI 0), .null, .null, .null, .null, .null, .null, .null, .int (nI 0), .null, .null, .int (nI 0), .null, .null, .null, .int (nI 0), .int (nI 0)]))) x = none ∨ φ x = none := fun x => (Classical.em (x = mo)).elim (fun h => Or.inr (by rw [h]; exact hq_mo)) (fun h => Or.inl (ups_n h rfl))
  refine lv_dup (pc := 11) S.1 S.2.1 dL_law_11 rfl ?_
  refine hv_callP (φ := (ups noM mo (.inr (13, [.int (nI 0), .long (0), .int (nI 0), .null, .null, .int (nI 0), .null, .null, .null, .null, .null, .null, .null, .int (nI 0), .null, .null, .int (nI 0), .null, .null, .null, .int (nI 0), .int (nI 0)])))) (ψ := φ) (pc := 12) (va_runI (As := []) (rest := [.ref mo]) S (c_m_init l D cA ga (ups noM mo (.inr (13, [.int (nI 0), .long (0), .int (nI 0), .null, .null, .int (nI 0), .null, .null, .null, .null, .null, .null, .null, .int (nI 0), .null, .null, .int (nI 0), .null, .null, .null, .int (nI 0), .int (nI 0)]))) H.size mo (ups_s _ _ _)) (cwI 0 S.2.2.2.2 (gw tw_943) rfl rfl rfl (S.2.2.2.2 _ tw_7) (S.2.2.2.2 _ tw_941) (S.2.2.2.2 _ tw_942) rfl (by decide +kernel) ⟨Nat.le_of_ble_eq_true rfl, Nat.le_of_ble_eq_true rfl⟩) (pre0_S hψ hK hX hS hA) rfl rfl hl.1 rfl (lv_room (Nat.le_of_ble_eq_true rfl)) dL_law_12 ⟨Nat.le_of_ble_eq_true rfl, Nat.le_of_ble_eq_true rfl⟩) hS hA hψ hφ hd (fun v ψ H locs hw hφ hψ hd hS => ?_)
  obtain ⟨rfl, q, hq0, hq, hm⟩ := hw
  refine lv_astore_n (pc := 15) (lv' := [(2, .ref mo), (1, .ref y9), (0, .ref b)]) S.1 S.2.1 dL_law_15 rfl hl (by decide) rfl (fun ls hl => ?_)
  refine lv_iconst (pc := 16) (v := nI 1) S.1 S.2.1 dL_law_16 (by decide) ?_
  have hH := hp.un hψ hφ
  have hd2 : ∀ x, φ x = none ∨ ψ x = none := fun x => (hd x).symm
  refine hv_newa (pc := 17) (atype := .long) (a0 := (1, .inr (.inl (fun _ => 0)))) (N' := 1) S tw_1188 (ty := .long) rfl hK 3 rfl hH hS hA (fun _ => rfl) (by decide) (by decide) (Nat.le_of_ble_eq_true rfl) (Nat.le_of_ble_eq_true rfl) (Nat.le_of_ble_eq_true rfl) dL_law_17 (fun ou H hq_ou hH hS => ?_)
  refine lv_astore_n (pc := 19) (lv' := [(3, .ref ou), (2, .ref mo), (1, .ref y9), (0, .ref b)]) S.1 S.2.1 dL_law_19 rfl hl (by decide) rfl (fun ls hl => ?_)
  refine lv_iconst (pc := 20) (v := nI 0) S.1 S.2.1 dL_law_20 (by decide) ?_
  refine lv_istore (pc := 21) (lv' := [(4, .int (nI 0)), (3, .ref ou), (2, .ref mo), (1, .ref y9), (0, .ref b)]) S.1 S.2.1 dL_law_21 hl (by decide) rfl (fun ls hl => ?_)
  obtain ⟨n1, n2⟩ := unM_n hq_ou
  have hφ : hp D (fun q : Nat => s.heap.size ≤ q) (ups φ ou (.inl (cA 3, 1, .inr (.inl (fun _ => 0))))) H := hp.of hH (ups_subx hq_ou (fun _ _ h => unM_l h))
  have hψ : hp D (fun q : Nat => s.heap.size ≤ q) ψ H := hp.of hH (ups_sub hq_ou (fun _ _ h => unM_r hd2 h))
  have hd : ∀ x, (ups φ ou (.inl (cA 3, 1, .inr (.inl (fun _ => 0))))) x = none ∨ ψ x = none := fun x => (Classical.em (x = ou)).elim (fun h => Or.inr (by rw [h]; exact n2)) (fun h => by rw [ups_n h rfl]; exact hd2 x)
  have hff : ∀ a x, φ a = some x → (ups φ ou (.inl (cA 3, 1, .inr (.inl (fun _ => 0))))) a = some x := ups_sub n1 (fun _ _ h => h)
  obtain ⟨ad, ha0, ha9, hP⟩ := pic_init (cA := cA) (ga := ga) (hff _ _ f0) (hff _ _ f1) (hff _ _ f2) (hff _ _ f3) (hff _ _ f4) (hff _ _ f5) (hff _ _ f6) (hff _ _ f7) (hff _ _ f8) (ups_s _ _ _)
  exact law_loop l hfl hr hlocks S hK hX hN3 hXs hbl hL 513 0 _ _ _ _ _ rfl (Nat.le_of_ble_eq_true rfl) (Nat.le_of_ble_eq_true rfl) ⟨_, _, _, _, _, ad, q, _, ψ, hP, ha0, ha9, INV.init, hm, hq0, hq, hφ, hψ, hd⟩ hS (lv_sub hl [0, 1, 2, 3, 4] rfl)
set_option maxHeartbeats 4000000 in
theorem lw_walk (l : Launch) (hflags : l.flags = flags0) (b : Addr) (xs : List Int32) : MetFree l x (headSpec (Jvm.Cond.code x code maxLocals ret :: tables_1) room_1) (lw_P b xs) (fun _ _ _ _ _ => True) lw_Q := by
  refine MetFree.of_bodyS (code := code) (maxLocals := maxLocals) (ret := ret) (by decide) ?_ ?_
  · intro args s m h hn
    obtain ⟨meth, c, h1, h2, h3, h4, h5, h6, -, -⟩ := Cond.code_spec hn (atoms_spec (ws := Jvm.Cond.code x code maxLocals ret :: tables_1) h _ List.mem_cons_self)
    exact ⟨meth, c, h1, h2, h3, h4, h5, h6⟩
  · intro p e s m args below meth c s₁ B hml0 hP _
    obtain ⟨rfl, hx, hbd, hgv⟩ := hP
    obtain ⟨scr, harrAt, hlist, hof, hsmall⟩ := hx
    obtain ⟨hcb, hkn, -, -⟩ := State.arrayAt?_spec harrAt
    have hown : s.vm.findClass R_law = some m.cls := findClass_of_methodNamed B.named
    have hts0 : ∀ c ∈ (Jvm.Cond.code x code maxLocals ret :: tables_1), c.before #[Value.ref b] s = true := atoms_spec (ws := Jvm.Cond.code x code maxLocals ret :: tables_1) B.pre
    have hts : ∀ w ∈ lw_tbl, w.before #[Value.ref b] s = true := k2_hts_sels lw_privs (fun w hw => hts0 w (List.mem_cons_of_mem _ hw)) lw_privs_ok
    have hml : c.maxLocals = 7 := B.maxLocals_eq (hts0 _ List.mem_cons_self)
    have X₀ : Stand p l e room_1 s m #[Value.ref b] below meth c s₁ [] 0 0 := Stand.of_body B
    have hh0 : s₁.heap = s.heap := by rw [B.state]; rfl
    have hsz : scr.slots.size = xs.length := by rw [← Array.length_toList, hlist, List.length_map]
    have hval : ∀ j : Nat, j < xs.length → scr.slots[j]? = some (.int (xs.getD j 0)) := fun j hj => by
      rw [← Array.getElem?_toList, hlist]
      simp [hj]
    have hbl : b < s.heap.size := (Array.getElem?_eq_some_iff.mp hcb).1
    have hX : va_X b xs.length (fun j => xs.getD j 0) s s.heap := ⟨scr, hcb, hof, hkn, hsz, hval⟩
    have K : W p l e room_1 s m #[Value.ref b] below meth c s₁.heap [] 0 0 (lw_Z below #[Value.ref b] s) (entryFrame m ([Value.ref b] : List Value).toArray 7) := by
      rw [hh0]
      exact whole_start l hflags hbd ⟨B.exec, B.bytes, B.returns, hml, hown, hts, hX, hbl, B.notSynchronized, hgv⟩
    obtain ⟨t, a1, o, b1, b2, b3⟩ := K s₁ rfl X₀
    exact ⟨t, o, a1, b1, b2, b3⟩
theorem lw_pre_spec {args : Array Value} {s : State} (h : (Jvm.Cond.and given_1 narrow_1).before args s = true) (hr : rest_1_c.before args s = true) : ∃ (b : Addr) (xs : List Int32), lw_P b xs args s := by
  have hs := flat_of_before _ h
  have hq := flat_of_before _ hr
  have hc : (Cond.count 1).before args s = true := hs _ (by decide +kernel)
  have harr : (Cond.arrayOf (.arg 0) .int).before args s = true := hs _ (by decide +kernel)
  have hle : (Cond.le (.length (.arg 0)) (.int 2048)).before args s = true := hs _ (by decide +kernel)
  have hlen : (Cond.isInt (.length (.arg 0))).before args s = true := hq _ (by decide +kernel)
  have hall : (Cond.all (.arg 0) (.isInt (.elem (.arg 0) (.index 0)))).before args s = true := hq _ (by decide +kernel)
  obtain ⟨b, xs, hb, hx⟩ := State.ints_of_pre rfl harr hlen hall
  have hsm : xs.length < 2 ^ 31 := hx.choose_spec.2.2.2
  have hev : (Term.length (.arg 0)).eval args s none [] s = some (.int xs.length.toInt32) := hx.length_eval hb
  have hv := Cond.le_ints hev (show (Term.int 2048).eval args s none [] s = some (.int 2048) from rfl)
  have hd : xs.length.toInt32 ≤ 2048 := by
    simpa [Cond.before, Cond.holds, hv] using hle
  have hN : xs.length ≤ 2048 := (Int32.ofNat_le_ofNat hsm (by decide)).mp (show Int32.ofNat xs.length ≤ Int32.ofNat 2048 from hd)
  exact ⟨b, xs, Cond.one_arg hc (show args[0]? = some (.ref b) from hb), hx, hN, h⟩
theorem lw_comes (l : Launch) (hflags : l.flags = flags0) : Comes l x (Jvm.Cond.code x code maxLocals ret :: tables_1) room_1 (fun tb e args s => Calls_1 tb e args s ∧ rest_1 tb e args s ∧ Pre_1 tb e args s)
    (fun _ _ args s o t => lw_Q args s o t) := by
  intro p e ha hc hk s m args below hf hfit hheap happ hpre
  obtain ⟨b, xs, hP⟩ := lw_pre_spec hpre.2.2 hpre.2.1
  obtain ⟨k, o, h1, h2, h3, hQ⟩ := lw_walk l hflags b xs p e ha hc hk s m args below hf ((Spec.applies_iff_loose hf).mp happ).1 hP trivial
  exact ⟨k, o, h1, h2, h3, hQ⟩
theorem lw_frame {s t : State} {o : Outcome} {args : Array Value} (h : State.butDraws s t lw_cs (fun t1 => Framed s o t1 [] 654435 7132799)) :
    State.butDraws s t [Jvm.Choice.named "NaN.bits"] (fun t1 => Framed s o t1 (fieldLocs frame_1_writes args s ++ arrayLocs frame_1_arrays args s ++ staticLocs frame_1_statics s) 654435 7132799) := h
theorem lw_limb (L : Cond) (hL : ∀ (args : Array Value) (s t : State), L.after args s (.returned (some (.int 1))) t = true) :
    ArmFor flags0 classFile x code maxLocals ret World_1 tables_1 room_1 Calls_1 rest_1 Pre_1
      (fun tb e a s o t => postC L tb e a s o t ∧ State.butDraws s t [Jvm.Choice.named "NaN.bits"] (fun t1 => Framed s o t1 (fieldLocs frame_1_writes a s ++ arrayLocs frame_1_arrays a s ++ staticLocs frame_1_statics s) 654435 7132799)) := by
  intro l hflags _ _ p e ha hc hk s m args below hf hfit hheap happ hpre
  obtain ⟨k, o, h1, h2, h3, rfl, hF⟩ := lw_comes l hflags p e ha hc hk s m args below hf hfit hheap happ hpre
  exact ⟨k, _, h1, h2, h3, hL args s _, lw_frame hF⟩
theorem i_vc : Claimed_1_1 ∧ Claimed_1_2 := ⟨lw_limb limb_1_1 (fun args s t => by simp [limb_1_1, Cond.after, Cond.holds, Cond.value]), lw_limb limb_1_2 (fun args s t => Cond.after_iff.mpr (by
  first | (rw [show limb_1_2 = Cond.eq .result (.int 1) from rfl, Cond.eq_ints (x := 1) (y := 1) rfl rfl]; simp; done) | (simp [limb_1_2, Cond.value, Term.eval]; done)))⟩
