/-! The static world at the law's entry -/
def fl : List Cond := flatC (Jvm.Cond.and given_1 narrow_1)
theorem st_choose {P : Nat → Nat → Prop} {N : Nat} (h : ∀ i, i < N → ∃ a, P i a) : ∃ f : Nat → Nat, ∀ i, i < N → P i (f i) := by
  have h0 : ∀ i : Nat, ∃ a : Nat, i < N → P i a := fun i => by
    by_cases hi : i < N
    · obtain ⟨a, ha⟩ := h i hi
      exact ⟨a, fun _ => ha⟩
    · exact ⟨0, fun z => absurd z hi⟩
  obtain ⟨f, hf⟩ := Classical.axiomOfChoice h0
  exact ⟨f, hf⟩
theorem tb {w : Cond} (i : Nat) (h : tables_1[i]? = some w) : w ∈ lw_tbl := List.mem_append_right _ (List.mem_of_getElem? h)
def wdC (i : Nat) : String := if i < 4 then RX3 else if i < 7 then RX2 else RX7
def wdK (i : Nat) : Nat := [53, 59, 62, 65, 41, 50, 53, 66, 72, 75, 78].getD i 0
def furN : List String := ["RABBIT", "WOOL", "BEAVER", "HARE"]
def feaN : List String := ["OSTRICH", "EGRET", "EAGLE"]
def spiN : List String := ["FLAT", "CONE", "DOME", "BRIM"]
def txK (i : Nat) : Nat := [98, 128, 134, 168, 233, 236, 240, 243, 245, 247, 249].getD i 0
theorem g_ex_X3 : ∀ i, i < 4 → Cond.exactly (.static RX3 (furN.getD i "") "LHatbandYard$Fur;") RX3 ∈ fl := by decide +kernel
theorem g_ex_X2 : ∀ i, i < 3 → Cond.exactly (.static RX2 (feaN.getD i "") "LHatbandYard$Feather;") RX2 ∈ fl := by decide +kernel
theorem g_ex_X7 : ∀ i, i < 4 → Cond.exactly (.static RX7 (spiN.getD i "") "LHatbandYard$Spiral;") RX7 ∈ fl := by decide +kernel
theorem g_f_lessAcross : ∀ i, i < 4 → Cond.eq (.field (.static RX3 (furN.getD i "") "LHatbandYard$Fur;") RX3 "lessAcross" "I") (.int (nI (fAcr i))) ∈ fl := by decide +kernel
theorem g_f_lessAlong : ∀ i, i < 4 → Cond.eq (.field (.static RX3 (furN.getD i "") "LHatbandYard$Fur;") RX3 "lessAlong" "I") (.int (nI (fAlo i))) ∈ fl := by decide +kernel
theorem g_f_strain : ∀ i, i < 4 → Cond.eq (.field (.static RX3 (furN.getD i "") "LHatbandYard$Fur;") RX3 "strain" "I") (.int (nI (fStr i))) ∈ fl := by decide +kernel
theorem g_f_airOfCycle : ∀ i, i < 4 → Cond.eq (.field (.static RX3 (furN.getD i "") "LHatbandYard$Fur;") RX3 "airOfCycle" "I") (.int (nI (fAir i))) ∈ fl := by decide +kernel
theorem g_f_protectedFrom : ∀ i, i < 3 → Cond.eq (.field (.static RX2 (feaN.getD i "") "LHatbandYard$Feather;") RX2 "protectedFrom" "I") (.int (nI (fPro i))) ∈ fl := by decide +kernel
theorem g_f_firstGain : ∀ i, i < 4 → Cond.eq (.field (.static RX7 (spiN.getD i "") "LHatbandYard$Spiral;") RX7 "firstGain" "I") (.int (nI (sGai i))) ∈ fl := by decide +kernel
theorem g_f_gainsLess : ∀ i, i < 4 → Cond.eq (.field (.static RX7 (spiN.getD i "") "LHatbandYard$Spiral;") RX7 "gainsLess" "Z") (.int (nI (sLes i))) ∈ fl := by decide +kernel
theorem g_w_X3 : ∀ i, i < 4 → Cond.eq (.field (.static RX3 (furN.getD i "") "LHatbandYard$Fur;") RX3 "word" "Ljava/lang/String;") (.string (wdC i) (wdK i)) ∈ fl := by decide +kernel
theorem g_w_X2 : ∀ i, i < 3 → Cond.eq (.field (.static RX2 (feaN.getD i "") "LHatbandYard$Feather;") RX2 "word" "Ljava/lang/String;") (.string (wdC (4 + i)) (wdK (4 + i))) ∈ fl := by decide +kernel
theorem g_w_X7 : ∀ i, i < 4 → Cond.eq (.field (.static RX7 (spiN.getD i "") "LHatbandYard$Spiral;") RX7 "word" "Ljava/lang/String;") (.string (wdC (7 + i)) (wdK (7 + i))) ∈ fl := by decide +kernel
theorem g_t_ex : ∀ i, i < 11 → Cond.exactly (.string (wdC i) (wdK i)) "java/lang/String" ∈ fl := by decide +kernel
theorem g_t_co : ∀ i, i < 11 → Cond.eq (.field (.string (wdC i) (wdK i)) "java/lang/String" "coder" "B") (.int 0) ∈ fl := by decide +kernel
theorem g_t_ar : ∀ i, i < 11 → Cond.arrayOf (.field (.string (wdC i) (wdK i)) "java/lang/String" "value" "[B") .byte ∈ fl := by decide +kernel
theorem g_t_le : ∀ i, i < 11 → Cond.eq (.length (.field (.string (wdC i) (wdK i)) "java/lang/String" "value" "[B")) (.int (Int32.ofNat (wdT i).length)) ∈ fl := by decide +kernel
theorem g_t_el0 : ∀ j, j < 6 → fl[891 + j]? = some (Cond.eq (.elem (.field (.string (wdC 0) (wdK 0)) "java/lang/String" "value" "[B") (.int (Int32.ofNat j))) (.int (nI ((wdT 0).getD j 0)))) := by decide +kernel
theorem g_t_el1 : ∀ j, j < 4 → fl[901 + j]? = some (Cond.eq (.elem (.field (.string (wdC 1) (wdK 1)) "java/lang/String" "value" "[B") (.int (Int32.ofNat j))) (.int (nI ((wdT 1).getD j 0)))) := by decide +kernel
theorem g_t_el2 : ∀ j, j < 6 → fl[909 + j]? = some (Cond.eq (.elem (.field (.string (wdC 2) (wdK 2)) "java/lang/String" "value" "[B") (.int (Int32.ofNat j))) (.int (nI ((wdT 2).getD j 0)))) := by decide +kernel
theorem g_t_el3 : ∀ j, j < 4 → fl[919 + j]? = some (Cond.eq (.elem (.field (.string (wdC 3) (wdK 3)) "java/lang/String" "value" "[B") (.int (Int32.ofNat j))) (.int (nI ((wdT 3).getD j 0)))) := by decide +kernel
theorem g_t_el4 : ∀ j, j < 7 → fl[927 + j]? = some (Cond.eq (.elem (.field (.string (wdC 4) (wdK 4)) "java/lang/String" "value" "[B") (.int (Int32.ofNat j))) (.int (nI ((wdT 4).getD j 0)))) := by decide +kernel
theorem g_t_el5 : ∀ j, j < 5 → fl[938 + j]? = some (Cond.eq (.elem (.field (.string (wdC 5) (wdK 5)) "java/lang/String" "value" "[B") (.int (Int32.ofNat j))) (.int (nI ((wdT 5).getD j 0)))) := by decide +kernel
theorem g_t_el6 : ∀ j, j < 5 → fl[947 + j]? = some (Cond.eq (.elem (.field (.string (wdC 6) (wdK 6)) "java/lang/String" "value" "[B") (.int (Int32.ofNat j))) (.int (nI ((wdT 6).getD j 0)))) := by decide +kernel
theorem g_t_el7 : ∀ j, j < 4 → fl[956 + j]? = some (Cond.eq (.elem (.field (.string (wdC 7) (wdK 7)) "java/lang/String" "value" "[B") (.int (Int32.ofNat j))) (.int (nI ((wdT 7).getD j 0)))) := by decide +kernel
theorem g_t_el8 : ∀ j, j < 4 → fl[964 + j]? = some (Cond.eq (.elem (.field (.string (wdC 8) (wdK 8)) "java/lang/String" "value" "[B") (.int (Int32.ofNat j))) (.int (nI ((wdT 8).getD j 0)))) := by decide +kernel
theorem g_t_el9 : ∀ j, j < 4 → fl[972 + j]? = some (Cond.eq (.elem (.field (.string (wdC 9) (wdK 9)) "java/lang/String" "value" "[B") (.int (Int32.ofNat j))) (.int (nI ((wdT 9).getD j 0)))) := by decide +kernel
theorem g_t_el10 : ∀ j, j < 4 → fl[980 + j]? = some (Cond.eq (.elem (.field (.string (wdC 10) (wdK 10)) "java/lang/String" "value" "[B") (.int (Int32.ofNat j))) (.int (nI ((wdT 10).getD j 0)))) := by decide +kernel
theorem g_t_el (i : Nat) (hi : i < 11) (j : Nat) (hj : j < (wdT i).length) : Cond.eq (.elem (.field (.string (wdC i) (wdK i)) "java/lang/String" "value" "[B") (.int (Int32.ofNat j))) (.int (nI ((wdT i).getD j 0))) ∈ fl := by
  rcases (show i = 0 ∨ i = 1 ∨ i = 2 ∨ i = 3 ∨ i = 4 ∨ i = 5 ∨ i = 6 ∨ i = 7 ∨ i = 8 ∨ i = 9 ∨ i = 10 by omega) with rfl | rfl | rfl | rfl | rfl | rfl | rfl | rfl | rfl | rfl | rfl
  · exact List.mem_of_getElem? (g_t_el0 j hj)
  · exact List.mem_of_getElem? (g_t_el1 j hj)
  · exact List.mem_of_getElem? (g_t_el2 j hj)
  · exact List.mem_of_getElem? (g_t_el3 j hj)
  · exact List.mem_of_getElem? (g_t_el4 j hj)
  · exact List.mem_of_getElem? (g_t_el5 j hj)
  · exact List.mem_of_getElem? (g_t_el6 j hj)
  · exact List.mem_of_getElem? (g_t_el7 j hj)
  · exact List.mem_of_getElem? (g_t_el8 j hj)
  · exact List.mem_of_getElem? (g_t_el9 j hj)
  · exact List.mem_of_getElem? (g_t_el10 j hj)
theorem g_x_ex : ∀ i, i < 11 → Cond.exactly (.string RX8 (txK i)) "java/lang/String" ∈ fl := by decide +kernel
theorem g_a_ar_FURS : Cond.arrayOf (.static RX8 "FURS" "[LHatbandYard$Fur;") (.object RX3) ∈ fl := by decide +kernel
theorem g_a_le_FURS : Cond.eq (.length (.static RX8 "FURS" "[LHatbandYard$Fur;")) (.int (Int32.ofNat 4)) ∈ fl := by decide +kernel
theorem g_a_el_FURS : ∀ j, j < 4 → Cond.eq (.elem (.static RX8 "FURS" "[LHatbandYard$Fur;") (.int (Int32.ofNat j))) (.static RX3 (furN.getD j "") "LHatbandYard$Fur;") ∈ fl := by decide +kernel
theorem g_a_ar_FEATHERS : Cond.arrayOf (.static RX8 "FEATHERS" "[LHatbandYard$Feather;") (.object RX2) ∈ fl := by decide +kernel
theorem g_a_le_FEATHERS : Cond.eq (.length (.static RX8 "FEATHERS" "[LHatbandYard$Feather;")) (.int (Int32.ofNat 3)) ∈ fl := by decide +kernel
theorem g_a_el_FEATHERS : ∀ j, j < 3 → Cond.eq (.elem (.static RX8 "FEATHERS" "[LHatbandYard$Feather;") (.int (Int32.ofNat j))) (.static RX2 (feaN.getD j "") "LHatbandYard$Feather;") ∈ fl := by decide +kernel
theorem g_a_ar_SPIRALS : Cond.arrayOf (.static RX8 "SPIRALS" "[LHatbandYard$Spiral;") (.object RX7) ∈ fl := by decide +kernel
theorem g_a_le_SPIRALS : Cond.eq (.length (.static RX8 "SPIRALS" "[LHatbandYard$Spiral;")) (.int (Int32.ofNat 4)) ∈ fl := by decide +kernel
theorem g_a_el_SPIRALS : ∀ j, j < 4 → Cond.eq (.elem (.static RX8 "SPIRALS" "[LHatbandYard$Spiral;") (.int (Int32.ofNat j))) (.static RX7 (spiN.getD j "") "LHatbandYard$Spiral;") ∈ fl := by decide +kernel
theorem g_compact : Cond.eq (.static "java/lang/String" "COMPACT_STRINGS" "Z") (.int 1) ∈ fl := by decide +kernel
theorem g_sioobe : Cond.isRef (.static "jdk/internal/util/Preconditions" "SIOOBE_FORMATTER" "Ljava/util/function/BiFunction;") ∈ fl := by decide +kernel
theorem g_thrU : Cond.isRef (.static Bundle.tN "UNASSIGNED_STACK" Bundle.steD) ∈ fl := by decide +kernel
theorem g_thrN : Cond.isRef (.static Bundle.tN "SUPPRESSED_SENTINEL" Bundle.listD) ∈ fl := by decide +kernel
theorem g_nc1 : Cond.not (.castable "java/lang/IllegalStateException" "java/lang/IllegalArgumentException") ∈ fl := by decide +kernel
theorem g_nc2 : Cond.not (.castable "java/lang/IllegalArgumentException" "java/lang/IndexOutOfBoundsException") ∈ fl := by decide +kernel
theorem g_nc3 : Cond.not (.castable "java/lang/IllegalStateException" "java/lang/IndexOutOfBoundsException") ∈ fl := by decide +kernel
theorem g_tabW : ∀ w ∈ tabW, w ∈ lw_tbl := by decide +kernel
theorem g_nestW : ∀ w ∈ nestW, w ∈ lw_tbl := by decide +kernel
theorem g_nestT : nestW.all Cond.onTables = true := by decide +kernel
theorem t_ls_FURS : Cond.laysStatic RX8 "FURS" "[LHatbandYard$Fur;" ∈ lw_tbl := tb 401 (by decide +kernel)
theorem t_ls_FEATHERS : Cond.laysStatic RX8 "FEATHERS" "[LHatbandYard$Feather;" ∈ lw_tbl := tb 785 (by decide +kernel)
theorem t_ls_SPIRALS : Cond.laysStatic RX8 "SPIRALS" "[LHatbandYard$Spiral;" ∈ lw_tbl := tb 825 (by decide +kernel)
theorem t_ls_compact : Cond.laysStatic "java/lang/String" "COMPACT_STRINGS" "Z" ∈ lw_tbl := tb 46 (by decide +kernel)
theorem t_ls_sioobe : Cond.laysStatic "jdk/internal/util/Preconditions" "SIOOBE_FORMATTER" "Ljava/util/function/BiFunction;" ∈ lw_tbl := tb 367 (by decide +kernel)
theorem t_ls_thrU : Cond.laysStatic Bundle.tN "UNASSIGNED_STACK" Bundle.steD ∈ lw_tbl := tb 160 (by decide +kernel)
theorem t_ls_thrN : Cond.laysStatic Bundle.tN "SUPPRESSED_SENTINEL" Bundle.listD ∈ lw_tbl := tb 162 (by decide +kernel)
theorem t_in_yard : Cond.initialized RX8 ∈ lw_tbl := tb 1 (by decide +kernel)
theorem t_in_String : Cond.initialized "java/lang/String" ∈ lw_tbl := tb 4 (by decide +kernel)
theorem t_in_pre : Cond.initialized "jdk/internal/util/Preconditions" ∈ lw_tbl := tb 18 (by decide +kernel)
theorem t_in_thr : Cond.initialized Bundle.tN ∈ lw_tbl := tb 7 (by decide +kernel)
theorem t_sr_98 : Cond.stringRef RX8 98 "the lot has not so much" ∈ lw_tbl := tb 649 (by decide +kernel)
theorem t_sr_128 : Cond.stringRef RX8 128 "too much air for the hand today" ∈ lw_tbl := tb 709 (by decide +kernel)
theorem t_sr_134 : Cond.stringRef RX8 134 "the cone was drawn over a block" ∈ lw_tbl := tb 710 (by decide +kernel)
theorem t_sr_168 : Cond.stringRef RX8 168 "the cone is trimmed" ∈ lw_tbl := tb 779 (by decide +kernel)
theorem t_sr_233 : Cond.stringRef RX8 233 "an argument is out of its range" ∈ lw_tbl := tb 215 (by decide +kernel)
theorem t_sr_236 : Cond.stringRef RX8 236 "there are as many as there may be" ∈ lw_tbl := tb 290 (by decide +kernel)
theorem t_sr_240 : Cond.stringRef RX8 240 "there is no such number" ∈ lw_tbl := tb 176 (by decide +kernel)
theorem t_sr_243 : Cond.stringRef RX8 243 "there is no such lot" ∈ lw_tbl := tb 255 (by decide +kernel)
theorem t_sr_245 : Cond.stringRef RX8 245 "there is no such cone" ∈ lw_tbl := tb 202 (by decide +kernel)
theorem t_sr_247 : Cond.stringRef RX8 247 "there is no such hand" ∈ lw_tbl := tb 246 (by decide +kernel)
theorem t_sr_249 : Cond.stringRef RX8 249 "there is no such block" ∈ lw_tbl := tb 752 (by decide +kernel)
theorem t_ao_X0 : Cond.arrayOver (.object RX0) ∈ lw_tbl := tb 76 (by decide +kernel)
theorem t_ao_X1 : Cond.arrayOver (.object RX1) ∈ lw_tbl := tb 72 (by decide +kernel)
theorem t_ao_X4 : Cond.arrayOver (.object RX4) ∈ lw_tbl := tb 74 (by decide +kernel)
theorem t_ao_X6 : Cond.arrayOver (.object RX6) ∈ lw_tbl := tb 70 (by decide +kernel)
theorem t_ac_byte : Cond.arrayClass .byte ∈ lw_tbl := tb 68 (by decide +kernel)
theorem t_ac_int : Cond.arrayClass .int ∈ lw_tbl := tb 87 (by decide +kernel)
theorem t_is_J0 : Cond.instantiable RJ0 4 ∈ lw_tbl := tb 531 (by decide +kernel)
theorem t_is_J4 : Cond.instantiable RJ4 4 ∈ lw_tbl := tb 37 (by decide +kernel)
theorem t_is_Jx00060 : Cond.instantiable RJx00060 6 ∈ lw_tbl := tb 605 (by decide +kernel)
theorem t_is_Jx7c733 : Cond.instantiable RJx7c733 6 ∈ lw_tbl := tb 455 (by decide +kernel)
theorem t_is_X0 : Cond.instantiable RX0 2 ∈ lw_tbl := tb 732 (by decide +kernel)
theorem t_is_X1 : Cond.instantiable RX1 7 ∈ lw_tbl := tb 225 (by decide +kernel)
theorem t_is_X2 : Cond.instantiable RX2 5 ∈ lw_tbl := tb 793 (by decide +kernel)
theorem t_is_X3 : Cond.instantiable RX3 8 ∈ lw_tbl := tb 722 (by decide +kernel)
theorem t_is_X4 : Cond.instantiable RX4 2 ∈ lw_tbl := tb 691 (by decide +kernel)
theorem t_is_X5 : Cond.instantiable RX5 1 ∈ lw_tbl := tb 78 (by decide +kernel)
theorem t_is_X6 : Cond.instantiable RX6 2 ∈ lw_tbl := tb 631 (by decide +kernel)
theorem t_is_X7 : Cond.instantiable RX7 6 ∈ lw_tbl := tb 829 (by decide +kernel)
theorem t_is_X8 : Cond.instantiable RX8 11 ∈ lw_tbl := tb 29 (by decide +kernel)
theorem t_pECI : Cond.privateMethod yECI ∈ lw_tbl := tb 305 (by decide +kernel)
theorem t_iECI : Cond.instanceMethod yECI ∈ lw_tbl := tb 306 (by decide +kernel)
theorem uwJx00060 : ∀ w ∈ u_ws RJx00060 TJx00060 6, w ∈ lw_tbl := by decide +kernel
theorem uwJx7c733 : ∀ w ∈ u_ws RJx7c733 TJx7c733 6, w ∈ lw_tbl := by decide +kernel
theorem t_isL : Cond.selects "java/lang/StringBuilder" ⟨"java/lang/AbstractStringBuilder", "isLatin1", "()Z"⟩ ⟨"java/lang/AbstractStringBuilder", "isLatin1", "()Z"⟩ ∈ lw_tbl := by decide +kernel
section STX
variable {s : State} {args : Array Value}
theorem ex_ref {t : Term} {nm : String} (h : (Cond.exactly t nm).before args s = true) : ∃ a : Nat, t.eval args s none [] s = some (.ref a) := by
  obtain ⟨a, c, cA, kA, q1, -⟩ := Cond.exactly_spec (args := args) (first := s) (o := none) (s := s) (idx := []) (t := t) (cls := nm) h
  exact ⟨a, q1⟩
theorem va_OFof {t : Term} {o n d : String} {a : Nat} {v : Value} {A : Nat → Prop} (ht : t.eval args s none [] s = some (.ref a)) (hv : (Term.field t o n d).eval args s none [] s = some v) (hA : ∀ a : Nat, a < s.heap.size → ¬ A a) : va_OF o n d v a A s s.heap := by
  cases hfo : s.fieldFound? o n d with
  | none =>
    rw [va_fe ht] at hv
    simp [State.fieldOf?, State.fieldNamed?, hfo] at hv
  | some x =>
    obtain ⟨cf, k, fi, f⟩ := x
    obtain ⟨g1, cell, g2, g3, -, -, g6⟩ := Term.field_spec hfo ht hv
    exact ⟨cf, k, fi, f, cell, hfo, g1, g2, g3, g6, hA _ (Array.getElem?_eq_some_iff.mp g2).1⟩
theorem sw_of {C : String} {k q : Nat} {w : List Nat} {A : Nat → Prop} (hex : (Cond.exactly (.string C k) "java/lang/String").before args s = true) (hco : (Cond.eq (.field (.string C k) "java/lang/String" "coder" "B") (.int 0)).before args s = true) (harr : (Cond.arrayOf (.field (.string C k) "java/lang/String" "value" "[B") .byte).before args s = true)
    (hlen : (Cond.eq (.length (.field (.string C k) "java/lang/String" "value" "[B")) (.int (Int32.ofNat w.length))).before args s = true) (hel : ∀ j, j < w.length → (Cond.eq (.elem (.field (.string C k) "java/lang/String" "value" "[B") (.int (Int32.ofNat j))) (.int (nI (w.getD j 0)))).before args s = true) (hw : w.length < 2 ^ 31)
    (hq : (Term.string C k).eval args s none [] s = some (.ref q)) (hA : ∀ a : Nat, a < s.heap.size → ¬ A a) : ∃ v : Nat, Sw w q v A s s.heap := by
  obtain ⟨v, hv, hT⟩ := va_Tof (f := fun j => .int (nI (w.getD j 0))) hw harr (va_eqt hlen) (fun j hj => va_eqt (hel j hj)) hA
  exact ⟨v, va_Oof hex hq hA, va_OFof hq (va_eqt hco) hA, va_OFof hq hv hA, hT⟩
theorem nI_ofI (x : Int32) : nI x.toBitVec.toNat = x := by
  apply Int32.toBitVec_inj.mp
  apply BitVec.eq_of_toNat_eq
  exact pk_tn x.toBitVec.isLt
theorem scr_T {b L : Nat} {xs : Nat → Int32} {g : Nat → Nat} {A : Nat → Prop} (h : va_X b L xs s s.heap) (hA : ∀ a : Nat, a < s.heap.size → ¬ A a) (hg : ∀ j, nI (g j) = xs j) : va_T .int b L (fun j => .int (nI (g j))) A s s.heap := by
  obtain ⟨scr, h1, h2, h3, h4, h5⟩ := h
  exact ⟨scr, h1, h2, h3, Nat.le_of_eq h4.symm, by rw [h4], fun j hj => by show scr.slots[j]? = some (Value.int (nI (g j))); rw [hg]; exact h5 j hj, hA b (Array.getElem?_eq_some_iff.mp h1).1⟩
set_option maxHeartbeats 4000000 in
theorem sx_start {A : Nat → Prop} {b L : Nat} {xs : Nat → Int32} (hXs : va_X b L xs s s.heap) (hfl : ∀ w ∈ fl, w.before args s = true) (hts : ∀ w ∈ lw_tbl, w.before args s = true) (hA : ∀ a : Nat, a < s.heap.size → ¬ A a) : ∃ ga : Nat → Nat → Nat, ga 7 0 = b ∧ ga 8 0 = L ∧ Sx ga A s s.heap := by
  obtain ⟨g0, h0⟩ := st_choose (fun i hi => ex_ref (hfl _ (g_ex_X3 i hi)))
  obtain ⟨g1, h1⟩ := st_choose (fun i hi => ex_ref (hfl _ (g_ex_X2 i hi)))
  obtain ⟨g2, h2⟩ := st_choose (fun i hi => ex_ref (hfl _ (g_ex_X7 i hi)))
  obtain ⟨g3, h3⟩ := st_choose (fun i hi => ex_ref (hfl _ (g_t_ex i hi)))
  obtain ⟨g4, h4⟩ := st_choose (fun i hi => sw_of (w := wdT i) (hfl _ (g_t_ex i hi)) (hfl _ (g_t_co i hi)) (hfl _ (g_t_ar i hi)) (hfl _ (g_t_le i hi)) (fun j hj => hfl _ (g_t_el i hi j hj)) (by have := wd_len i hi; omega) (h3 i hi) hA)
  obtain ⟨g6, h6⟩ := st_choose (fun i hi => ex_ref (hfl _ (g_x_ex i hi)))
  obtain ⟨t0, k0, T0⟩ := va_Tof (f := fun j => .ref (g0 j)) (by decide) (hfl _ g_a_ar_FURS) (va_eqt (hfl _ g_a_le_FURS)) (fun j hj => va_eqv (hfl _ (g_a_el_FURS j hj)) (h0 j hj)) hA
  obtain ⟨t1, k1, T1⟩ := va_Tof (f := fun j => .ref (g1 j)) (by decide) (hfl _ g_a_ar_FEATHERS) (va_eqt (hfl _ g_a_le_FEATHERS)) (fun j hj => va_eqv (hfl _ (g_a_el_FEATHERS j hj)) (h1 j hj)) hA
  obtain ⟨t2, k2, T2⟩ := va_Tof (f := fun j => .ref (g2 j)) (by decide) (hfl _ g_a_ar_SPIRALS) (va_eqt (hfl _ g_a_le_SPIRALS)) (fun j hj => va_eqv (hfl _ (g_a_el_SPIRALS j hj)) (h2 j hj)) hA
  obtain ⟨ga, e0, e1, e2, e3, e4, e50, e51, e52, e6, e7, e8, e9⟩ : ∃ ga : Nat → Nat → Nat, ga 0 = g0 ∧ ga 1 = g1 ∧ ga 2 = g2 ∧ ga 3 = g3 ∧ ga 4 = g4 ∧ ga 5 0 = t0 ∧ ga 5 1 = t1 ∧ ga 5 2 = t2 ∧ ga 6 = g6 ∧ ga 7 0 = b ∧ ga 8 0 = L ∧ ∀ j, nI (ga 9 j) = xs j :=
    ⟨fun r i => match r with | 0 => g0 i | 1 => g1 i | 2 => g2 i | 3 => g3 i | 4 => g4 i | 5 => (match i with | 0 => t0 | 1 => t1 | _ => t2) | 6 => g6 i | 7 => b | 8 => L | _ => (xs i).toBitVec.toNat, rfl, rfl, rfl, rfl, rfl, rfl, rfl, rfl, rfl, rfl, rfl, fun j => nI_ofI (xs j)⟩
  rw [← e0] at h0 T0
  rw [← e1] at h1 T1
  rw [← e2] at h2 T2
  rw [← e3] at h3 h4
  rw [← e4] at h4
  rw [← e50] at k0 T0
  rw [← e51] at k1 T1
  rw [← e52] at k2 T2
  rw [← e6] at h6
  exact ⟨ga, e7, e8, fun i hi => va_Oof (hfl _ (g_ex_X3 i hi)) (h0 i hi) hA,
    fun i hi => va_Oof (hfl _ (g_ex_X2 i hi)) (h1 i hi) hA,
    fun i hi => va_Oof (hfl _ (g_ex_X7 i hi)) (h2 i hi) hA,
    va_Efof h0 (fun i hi => hfl _ (g_f_lessAcross i hi)) (fun _ _ => rfl) hA,
    va_Efof h0 (fun i hi => hfl _ (g_f_lessAlong i hi)) (fun _ _ => rfl) hA,
    va_Efof h0 (fun i hi => hfl _ (g_f_strain i hi)) (fun _ _ => rfl) hA,
    va_Efof h0 (fun i hi => hfl _ (g_f_airOfCycle i hi)) (fun _ _ => rfl) hA,
    va_Efof h0 (fun i hi => hfl _ (g_w_X3 i hi)) (fun i hi => h3 _ (by omega)) hA,
    va_Efof h1 (fun i hi => hfl _ (g_f_protectedFrom i hi)) (fun _ _ => rfl) hA,
    va_Efof h1 (fun i hi => hfl _ (g_w_X2 i hi)) (fun i hi => h3 _ (by omega)) hA,
    va_Efof h2 (fun i hi => hfl _ (g_f_firstGain i hi)) (fun _ _ => rfl) hA,
    va_Efof h2 (fun i hi => hfl _ (g_f_gainsLess i hi)) (fun _ _ => rfl) hA,
    va_Efof h2 (fun i hi => hfl _ (g_w_X7 i hi)) (fun i hi => h3 _ (by omega)) hA,
    h4,
    va_Zref (hts _ t_ls_FURS) (hts _ t_in_yard) k0 hA,
    T0,
    va_Zref (hts _ t_ls_FEATHERS) (hts _ t_in_yard) k1 hA,
    T1,
    va_Zref (hts _ t_ls_SPIRALS) (hts _ t_in_yard) k2 hA,
    T2,
    va_Zof (hts _ t_ls_compact) (hts _ t_in_String) (va_eqt (hfl _ g_compact)) hA,
    va_Zqof (hts _ t_ls_sioobe) (hts _ t_in_pre) (hfl _ g_sioobe) hA,
    vx_Zqof (hts _ t_ls_thrU) (hts _ t_in_thr) (hfl _ g_thrU) hA,
    vx_Zqof (hts _ t_ls_thrN) (hts _ t_in_thr) (hfl _ g_thrN) hA,
    vk_R.of (A := args) (hts _ t_sr_98) (h6 0 (by decide)),
    vk_R.of (A := args) (hts _ t_sr_128) (h6 1 (by decide)),
    vk_R.of (A := args) (hts _ t_sr_134) (h6 2 (by decide)),
    vk_R.of (A := args) (hts _ t_sr_168) (h6 3 (by decide)),
    vk_R.of (A := args) (hts _ t_sr_233) (h6 4 (by decide)),
    vk_R.of (A := args) (hts _ t_sr_236) (h6 5 (by decide)),
    vk_R.of (A := args) (hts _ t_sr_240) (h6 6 (by decide)),
    vk_R.of (A := args) (hts _ t_sr_243) (h6 7 (by decide)),
    vk_R.of (A := args) (hts _ t_sr_245) (h6 8 (by decide)),
    vk_R.of (A := args) (hts _ t_sr_247) (h6 9 (by decide)),
    vk_R.of (A := args) (hts _ t_sr_249) (h6 10 (by decide)),
    va_AO.of (A := args) (hts _ t_ao_X0),
    va_AO.of (A := args) (hts _ t_ao_X1),
    va_AO.of (A := args) (hts _ t_ao_X4),
    va_AO.of (A := args) (hts _ t_ao_X6),
    by rw [e7, e8]; exact scr_T hXs hA e9,
    va_Nc.of (hfl _ g_nc1),
    va_Nc.of (hfl _ g_nc2),
    va_Nc.of (hfl _ g_nc3),
    fun w hw => va_Nw.of (tabW_on hw) (A := args) (hts _ (g_tabW w hw)),
    fun w hw => va_Nw.of (List.all_eq_true.mp g_nestT w hw) (A := args) (hts _ (g_nestW w hw))⟩
theorem wc_start (hts : ∀ w ∈ lw_tbl, w.before args s = true) : ∀ w ∈ Wc, w.before args s = true := fun w hw => by
  rcases Wc_tbl hw with rfl | h
  · exact wSB_of (hts _ t_is_J4) (hts _ t_pECI) (hts _ t_iECI) (hts _ t_isL)
  · exact hts _ h
theorem ac_start {ty : FieldType} (h : (Cond.arrayClass ty).before args s = true) (hR : ∀ c, s.vm.findClass ("[" ++ ty.toString) = some c → va_RA s c ty) : ∃ c : ClassId, ArrOfT s c ty ∧ va_RA s c ty := by
  obtain ⟨c, k, comp, h1, h2, h3⟩ := Cond.arrayClass_spec (args := args) (first := s) (o := none) (s := s) (idx := []) h
  exact ⟨c, fun n z => ⟨(fun k h => by cases h), k, h2, comp, h3⟩, hR c h1⟩
theorem ao_start {C : String} (h : (Cond.arrayOver (.object C)).before args s = true) : ∃ c : ClassId, ArrOfT s c (.object C) ∧ va_RA s c (.object C) := by
  obtain ⟨comp, c, k, h1, h2, h3, h4, h5⟩ := Cond.arrayOver_spec (args := args) (first := s) (o := none) (s := s) (idx := []) h
  exact ⟨c, fun n z => ⟨(fun k h => by cases h), k, h3, comp, h4⟩, ⟨k, comp, h3, h4, h1, h5⟩⟩
set_option maxHeartbeats 4000000 in
theorem k_start (hts : ∀ w ∈ lw_tbl, w.before args s = true) : ∃ (D : va_G) (cA : Nat → ClassId), va_K D vwCl (tysL cA) s := by
  have hw := wc_start hts
  obtain ⟨a0, A0⟩ := ac_start (hts _ t_ac_byte) (fun c h => h)
  obtain ⟨a1, A1⟩ := ac_start (hts _ t_ac_int) (fun c h => h)
  obtain ⟨a4, A4⟩ := ao_start (hts _ t_ao_X0)
  obtain ⟨a5, A5⟩ := ao_start (hts _ t_ao_X1)
  obtain ⟨a6, A6⟩ := ao_start (hts _ t_ao_X4)
  obtain ⟨a7, A7⟩ := ao_start (hts _ t_ao_X6)
  obtain ⟨c0, i0, K0⟩ := u_known (C := RJ0) (T := TJ0) (N := 4) hw uwJ0 (hts _ t_is_J0)
  obtain ⟨c1, i1, K1⟩ := u_known (C := RJ4) (T := TJ4) (N := 4) hw uwJ4 (hts _ t_is_J4)
  obtain ⟨c2, i2, K2⟩ := u_known (C := RJx00060) (T := TJx00060) (N := 6) hts uwJx00060 (hts _ t_is_Jx00060)
  obtain ⟨c3, i3, K3⟩ := u_known (C := RJx7c733) (T := TJx7c733) (N := 6) hts uwJx7c733 (hts _ t_is_Jx7c733)
  obtain ⟨c4, i4, K4⟩ := u_known (C := RX0) (T := TX0) (N := 2) hw uwX0 (hts _ t_is_X0)
  obtain ⟨c5, i5, K5⟩ := u_known (C := RX1) (T := TX1) (N := 7) hw uwX1 (hts _ t_is_X1)
  obtain ⟨c6, i6, K6⟩ := u_known (C := RX2) (T := TX2) (N := 0) hts (fun w h => by cases h) (hts _ t_is_X2)
  obtain ⟨c7, i7, K7⟩ := u_known (C := RX3) (T := TX3) (N := 0) hts (fun w h => by cases h) (hts _ t_is_X3)
  obtain ⟨c8, i8, K8⟩ := u_known (C := RX4) (T := TX4) (N := 2) hw uwX4 (hts _ t_is_X4)
  obtain ⟨c9, i9, K9⟩ := u_known (C := RX5) (T := TX5) (N := 1) hw uwX5 (hts _ t_is_X5)
  obtain ⟨c10, i10, K10⟩ := u_known (C := RX6) (T := TX6) (N := 2) hw uwX6 (hts _ t_is_X6)
  obtain ⟨c11, i11, K11⟩ := u_known (C := RX7) (T := TX7) (N := 0) hts (fun w h => by cases h) (hts _ t_is_X7)
  obtain ⟨c12, i12, K12⟩ := u_known (C := RX8) (T := TX8) (N := 11) hw uwX8 (hts _ t_is_X8)
  refine ⟨(fun k => match k with | 0 => c0 | 1 => c1 | 2 => c2 | 3 => c3 | 4 => c4 | 5 => c5 | 6 => c6 | 7 => c7 | 8 => c8 | 9 => c9 | 10 => c10 | 11 => c11 | _ => c12, fun k => match k with | 0 => i0 | 1 => i1 | 2 => i2 | 3 => i3 | 4 => i4 | 5 => i5 | 6 => i6 | 7 => i7 | 8 => i8 | 9 => i9 | 10 => i10 | 11 => i11 | _ => i12), fun k => match k with | 0 => a0 | 1 => a1 | 2 => a1 | 3 => a1 | 4 => a4 | 5 => a5 | 6 => a6 | _ => a7, ⟨fun k q hq => ?_, fun k q hq => ?_⟩⟩
  · rcases k with _ | _ | _ | _ | _ | _ | _ | _ | _ | _ | _ | _ | _ | k
    · cases hq; exact K0
    · cases hq; exact K1
    · cases hq; exact K2
    · cases hq; exact K3
    · cases hq; exact K4
    · cases hq; exact K5
    · cases hq; exact K6
    · cases hq; exact K7
    · cases hq; exact K8
    · cases hq; exact K9
    · cases hq; exact K10
    · cases hq; exact K11
    · cases hq; exact K12
    · cases hq
  · rcases k with _ | _ | _ | _ | _ | _ | _ | _ | k
    · cases hq; exact A0
    · cases hq; exact A1
    · cases hq; exact A1
    · cases hq; exact A1
    · cases hq; exact A4
    · cases hq; exact A5
    · cases hq; exact A6
    · cases hq; exact A7
    · cases hq
end STX
