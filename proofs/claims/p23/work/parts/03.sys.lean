/-! What stands still: the enums, their texts, the statics that nobody writes, the words of nest mates; and the form of a contract over a map. -/
def fAcr (k : Nat) : Nat := [8, 10, 5, 7].getD k 0
def fAlo (k : Nat) : Nat := [6, 9, 5, 6].getD k 0
def fStr (k : Nat) : Nat := [20, 15, 35, 25].getD k 0
def fAir (k : Nat) : Nat := [8, 2, 5, 12].getD k 0
def fPro (k : Nat) : Nat := [2147483647, 5, 2].getD k 0
def sGai (k : Nat) : Nat := [6, 4, 6, 9].getD k 0
def sLes (k : Nat) : Nat := [0, 0, 1, 0].getD k 0
/-- the words: furs 0 to 3, feathers 4 to 6, spirals 7 to 10 -/
def wdT (i : Nat) : List Nat := [[114, 97, 98, 98, 105, 116], [119, 111, 111, 108], [98, 101, 97, 118, 101, 114], [104, 97, 114, 101], [111, 115, 116, 114, 105, 99, 104], [101, 103, 114, 101, 116], [101, 97, 103, 108, 101], [102, 108, 97, 116], [99, 111, 110, 101], [100, 111, 109, 101], [98, 114, 105, 109]].getD i []
/-- a text that stands still at q, its bytes at v -/
def Sw (w : List Nat) (q v : Nat) (A : Nat → Prop) (U : State) (H : Heap) : Prop := va_O "java/lang/String" q A U H ∧ va_OF "java/lang/String" "coder" "B" (.int 0) q A U H ∧ va_OF "java/lang/String" "value" "[B" (.ref v) q A U H ∧ va_T .byte v w.length (fun j => .int (nI (w.getD j 0))) A U H
/-- what a fact that stands still keeps: through a call, in a heap where its own cells are as they were, seen with fewer cells to change -/
def SF (P : (Nat → Prop) → State → Heap → Prop) : Prop := ∀ (A B : Nat → Prop) (u U : State) (H H1 : Heap), u.WarmedH U.vm → (∀ a : Nat, a < H.size → ¬ A a → H1[a]? = H[a]?) → (∀ q, B q → A q) → P A u H → P B U H1
theorem SF.and {P R : (Nat → Prop) → State → Heap → Prop} (hP : SF P) (hR : SF R) : SF (fun A U H => P A U H ∧ R A U H) := fun A B u U H H1 hW hk hB h => ⟨hP A B u U H H1 hW hk hB h.1, hR A B u U H H1 hW hk hB h.2⟩
theorem SF.all {P : Nat → (Nat → Prop) → State → Heap → Prop} {N : Nat} (hP : ∀ i, SF (P i)) : SF (fun A U H => ∀ i, i < N → P i A U H) := fun A B u U H H1 hW hk hB h i hi => hP i A B u U H H1 hW hk hB (h i hi)
theorem SF.o {E : String} {t : Nat} : SF (fun A U H => va_O E t A U H) := fun _ _ _ _ _ _ hW hk hB h => ((h.kept hk).moved hW.alike).narrow hB
theorem SF.of {o n d : String} {v : Value} {t : Nat} : SF (fun A U H => va_OF o n d v t A U H) := fun _ _ _ _ _ _ hW hk hB h => ((h.kept hk).moved hW.alike).narrow hB
theorem SF.ef {N : Nat} {o n d : String} {v : Nat → Value} {ad : Nat → Nat} : SF (fun A U H => va_Ef N o n d v ad A U H) := fun _ _ _ _ _ _ hW hk hB h => ((h.kept hk).moved hW.alike).narrow hB
theorem SF.z {C n d : String} {v : Value} : SF (fun A U H => va_Z C n d v A U H) := fun _ _ _ _ _ _ hW hk hB h => ((h.kept hk).moved hW.alike).narrow hB
theorem SF.zq {C n d : String} : SF (fun A U H => va_Zq C n d A U H) := fun _ _ _ _ _ _ hW hk hB h => ((h.kept hk).moved hW.alike).narrow hB
theorem SF.xq {C n d : String} : SF (fun A U H => vx_Zq C n d A U H) := fun _ _ _ _ _ _ hW hk hB h => ((h.kept hk).moved hW.alike).narrow hB
theorem SF.t {ty : FieldType} {t N : Nat} {f : Nat → Value} : SF (fun A U H => va_T ty t N f A U H) := fun _ _ _ _ _ _ hW hk hB h => ((h.kept hk).moved hW.alike).narrow hB
theorem SF.sw {w : List Nat} {q v : Nat} : SF (fun A U H => Sw w q v A U H) := SF.and SF.o (SF.and SF.of (SF.and SF.of SF.t))
theorem SF.r {own tx : String} {k a : Nat} : SF (fun _ U _ => vk_R own k tx a U) := fun _ _ _ _ _ _ hW _ _ h => h.warm hW
theorem SF.ao {C : String} : SF (fun _ U _ => va_AO C U) := fun _ _ _ _ _ _ hW _ _ h => h.moved hW.alike
theorem SF.nc {C T : String} : SF (fun _ U _ => va_Nc C T U) := fun _ _ _ _ _ _ hW _ _ h => h.moved hW.alike
def nestW : List Cond := [.methodLinkNest "HatbandYard" 42 ⟨"HatbandYard$Head", "<init>", "()V"⟩ "HatbandYard", .methodLinkNest "HatbandYard" 146 ⟨"HatbandYard$Cone", "widthOf", "(I)I"⟩ "HatbandYard", .methodLinkNest "HatbandYard" 189 ⟨"HatbandYard$Cone", "gramsOf", "(I)I"⟩ "HatbandYard", .methodLinkNest "HatbandYard" 192 ⟨"HatbandYard$Cone", "thicknessOf", "(I)I"⟩ "HatbandYard", .methodLinkNest "HatbandYard" 86 ⟨"HatbandYard$Lot", "<init>", "(LHatbandYard$Fur;I)V"⟩ "HatbandYard", .methodLinkNest "HatbandYard" 107 ⟨"HatbandYard$Cone", "<init>", "(LHatbandYard$Fur;II)V"⟩ "HatbandYard", .methodLinkNest "HatbandYard" 110 ⟨"HatbandYard$Hand", "<init>", "()V"⟩ "HatbandYard", .methodLinkNest "HatbandYard" 139 ⟨"HatbandYard$Hand", "breathe", "(I)V"⟩ "HatbandYard", .methodLinkNest "HatbandYard" 143 ⟨"HatbandYard$Cone", "shrink", "()V"⟩ "HatbandYard", .methodLinkNest "HatbandYard$Cone" 52 ⟨"HatbandYard$Fur", "shrunkAcross", "(I)I"⟩ "HatbandYard", .methodLinkNest "HatbandYard$Cone" 57 ⟨"HatbandYard$Fur", "shrunkAlong", "(I)I"⟩ "HatbandYard", .methodLinkNest "HatbandYard" 150 ⟨"HatbandYard$Block", "<init>", "(II)V"⟩ "HatbandYard", .methodLinkNest "HatbandYard" 156 ⟨"HatbandYard$Cone", "refusalOf", "(LHatbandYard$Block;)I"⟩ "HatbandYard", .methodLinkNest "HatbandYard$Cone" 64 ⟨"HatbandYard$Block", "widthFor", "(I)I"⟩ "HatbandYard", .methodLinkNest "HatbandYard" 160 ⟨"HatbandYard$Cone", "stretchOver", "(LHatbandYard$Block;)V"⟩ "HatbandYard", .methodLinkNest "HatbandYard" 177 ⟨"HatbandYard$Feather", "isAllowedIn", "(I)Z"⟩ "HatbandYard", .methodLinkNest "HatbandYard" 195 ⟨"HatbandYard$Cone", "widthFollowed", "(I)I"⟩ "HatbandYard", .methodLinkNest "HatbandYard" 207 ⟨"HatbandYard$Spiral", "stitchesRowByRow", "(I)I"⟩ "HatbandYard", .methodLinkNest "HatbandYard" 212 ⟨"HatbandYard$Spiral", "stitchesAtOnce", "(I)I"⟩ "HatbandYard", .methodLinkNest "HatbandYard" 215 ⟨"HatbandYard$Spiral", "rowsToClose", "(I)I"⟩ "HatbandYard", .methodLinkNest "HatbandYard" 218 ⟨"HatbandYard$Head", "setRadius", "(II)V"⟩ "HatbandYard", .methodLinkNest "HatbandYard" 221 ⟨"HatbandYard$Head", "around", "()I"⟩ "HatbandYard", .methodLinkNest "HatbandYard" 224 ⟨"HatbandYard$Head", "sizeIn", "(I)F"⟩ "HatbandYard", .fieldLinkNest "HatbandYard" 103 "HatbandYard$Lot" "fur" "LHatbandYard$Fur;" "HatbandYard", .fieldLinkNest "HatbandYard" 93 "HatbandYard$Lot" "gramsLeft" "I" "HatbandYard", .fieldLinkNest "HatbandYard" 122 "HatbandYard$Cone" "fur" "LHatbandYard$Fur;" "HatbandYard", .fieldLinkNest "HatbandYard" 186 "HatbandYard$Cone" "height" "I" "HatbandYard", .fieldLinkNest "HatbandYard" 136 "HatbandYard$Cone" "cycleCount" "I" "HatbandYard", .fieldLinkNest "HatbandYard" 130 "HatbandYard$Cone" "lastBlock" "LHatbandYard$Block;" "HatbandYard", .fieldLinkNest "HatbandYard" 164 "HatbandYard$Cone" "isTrimmed" "Z" "HatbandYard", .fieldLinkNest "HatbandYard" 119 "HatbandYard$Hand" "airToday" "I" "HatbandYard", .fieldLinkNest "HatbandYard" 228 "HatbandYard$Hand" "airEver" "I" "HatbandYard", .fieldLinkNest "HatbandYard" 255 "HatbandYard$Fur" "word" "Ljava/lang/String;" "HatbandYard", .fieldLinkNest "HatbandYard" 123 "HatbandYard$Fur" "airOfCycle" "I" "HatbandYard", .fieldLinkNest "HatbandYard$Cone" 76 "HatbandYard$Fur" "strain" "I" "HatbandYard", .fieldLinkNest "HatbandYard" 267 "HatbandYard$Feather" "word" "Ljava/lang/String;" "HatbandYard", .fieldLinkNest "HatbandYard" 272 "HatbandYard$Spiral" "word" "Ljava/lang/String;" "HatbandYard"]
theorem SF.nest : SF (fun _ U _ => ∀ w ∈ nestW, va_Nw w U) := by
  intro _ _ u U _ _ hW _ _ h
  have hM : ∀ {a : String} {i : Nat} {x : MethodName} {g : String}, va_Nw (.methodLinkNest a i x g) u → va_Nw (.methodLinkNest a i x g) U := fun h => va_Nw.warmM hW h
  have hF : ∀ {a : String} {i : Nat} {b n d g : String}, va_Nw (.fieldLinkNest a i b n d g) u → va_Nw (.fieldLinkNest a i b n d g) U := fun h => va_Nw.warmF hW h
  simp only [nestW, List.forall_mem_cons] at h ⊢
  obtain ⟨h0, h1, h2, h3, h4, h5, h6, h7, h8, h9, h10, h11, h12, h13, h14, h15, h16, h17, h18, h19, h20, h21, h22, h23, h24, h25, h26, h27, h28, h29, h30, h31, h32, h33, h34, h35, h36, -⟩ := h
  exact ⟨hM h0, hM h1, hM h2, hM h3, hM h4, hM h5, hM h6, hM h7, hM h8, hM h9, hM h10, hM h11, hM h12, hM h13, hM h14, hM h15, hM h16, hM h17, hM h18, hM h19, hM h20, hM h21, hM h22, hF h23, hF h24, hF h25, hF h26, hF h27, hF h28, hF h29, hF h30, hF h31, hF h32, hF h33, hF h34, hF h35, hF h36, fun _ h => absurd h List.not_mem_nil⟩
/-- words of the tables that are not among the common ones -/
def tabW : List Cond := [(Jvm.Cond.castable "java/lang/IndexOutOfBoundsException" "java/lang/IndexOutOfBoundsException"), (Jvm.Cond.declares ({ cls := "java/lang/RuntimeException", name := "<init>", desc := "()V" } : Jvm.MethodName)), (Jvm.Cond.declares ({ cls := "java/lang/RuntimeException", name := "<init>", desc := "(Ljava/lang/String;)V" } : Jvm.MethodName)), (Jvm.Cond.declares ({ cls := "java/lang/Exception", name := "<init>", desc := "()V" } : Jvm.MethodName)), (Jvm.Cond.declares ({ cls := "java/lang/Exception", name := "<init>", desc := "(Ljava/lang/String;)V" } : Jvm.MethodName)), (Jvm.Cond.declares ({ cls := "java/lang/Throwable", name := "<init>", desc := "()V" } : Jvm.MethodName)), (Jvm.Cond.declares ({ cls := "java/lang/Throwable", name := "<init>", desc := "(Ljava/lang/String;)V" } : Jvm.MethodName)), (Jvm.Cond.castable "java/lang/IllegalArgumentException" "java/lang/IllegalArgumentException"), (Jvm.Cond.castable "java/lang/IllegalStateException" "java/lang/IllegalStateException"), (Jvm.Cond.castable "[B" "java/lang/Cloneable"), (Jvm.Cond.castable "java/lang/ArrayIndexOutOfBoundsException" "java/lang/ArrayIndexOutOfBoundsException"), (Jvm.Cond.declares ({ cls := "java/lang/IndexOutOfBoundsException", name := "<init>", desc := "()V" } : Jvm.MethodName)), (Jvm.Cond.declares ({ cls := "java/lang/IndexOutOfBoundsException", name := "<init>", desc := "(Ljava/lang/String;)V" } : Jvm.MethodName)), (Jvm.Cond.castable "java/lang/ArrayIndexOutOfBoundsException" "java/lang/IndexOutOfBoundsException"), (Jvm.Cond.castable "java/lang/StringIndexOutOfBoundsException" "java/lang/IndexOutOfBoundsException")]
theorem SF.tabs : SF (fun _ U _ => ∀ w ∈ tabW, va_Nw w U) := by
  intro _ _ u U _ _ hW _ _ h
  have hC : ∀ {a b : String}, va_Nw (.castable a b) u → va_Nw (.castable a b) U := fun h => va_Nw.warmC hW h
  have hD : ∀ {x : MethodName}, va_Nw (.declares x) u → va_Nw (.declares x) U := fun h => va_Nw.warmD hW h
  simp only [tabW, List.forall_mem_cons] at h ⊢
  obtain ⟨h0, h1, h2, h3, h4, h5, h6, h7, h8, h9, h10, h11, h12, h13, h14, -⟩ := h
  exact ⟨hC h0, hD h1, hD h2, hD h3, hD h4, hD h5, hD h6, hC h7, hC h8, hC h9, hC h10, hD h11, hD h12, hC h13, hC h14, fun _ h => absurd h List.not_mem_nil⟩
/-- ga: 0, 1, 2: the constants of Fur, Feather, Spiral; 3, 4: their texts and the texts' bytes; 5: the arrays of the constants; 6: the texts of what is thrown; 7 to 9: the script, its length, its numbers -/
def Sx (ga : Nat → Nat → Nat) (A : Nat → Prop) (U : State) (H : Heap) : Prop := (∀ i, i < 4 → va_O RX3 (ga 0 i) A U H) ∧ (∀ i, i < 3 → va_O RX2 (ga 1 i) A U H) ∧ (∀ i, i < 4 → va_O RX7 (ga 2 i) A U H) ∧ (va_Ef 4 RX3 "lessAcross" "I" (fun i => .int (nI (fAcr i))) (ga 0) A U H) ∧ (va_Ef 4 RX3 "lessAlong" "I" (fun i => .int (nI (fAlo i))) (ga 0) A U H) ∧ (va_Ef 4 RX3 "strain" "I" (fun i => .int (nI (fStr i))) (ga 0) A U H) ∧ (va_Ef 4 RX3 "airOfCycle" "I" (fun i => .int (nI (fAir i))) (ga 0) A U H) ∧ (va_Ef 4 RX3 "word" "Ljava/lang/String;" (fun i => .ref (ga 3 i)) (ga 0) A U H) ∧ (va_Ef 3 RX2 "protectedFrom" "I" (fun i => .int (nI (fPro i))) (ga 1) A U H) ∧ (va_Ef 3 RX2 "word" "Ljava/lang/String;" (fun i => .ref (ga 3 (4 + i))) (ga 1) A U H) ∧ (va_Ef 4 RX7 "firstGain" "I" (fun i => .int (nI (sGai i))) (ga 2) A U H) ∧ (va_Ef 4 RX7 "gainsLess" "Z" (fun i => .int (nI (sLes i))) (ga 2) A U H) ∧ (va_Ef 4 RX7 "word" "Ljava/lang/String;" (fun i => .ref (ga 3 (7 + i))) (ga 2) A U H) ∧ (∀ i, i < 11 → Sw (wdT i) (ga 3 i) (ga 4 i) A U H) ∧ (va_Z RX8 "FURS" "[LHatbandYard$Fur;" (.ref (ga 5 0)) A U H) ∧ (va_T (.object RX3) (ga 5 0) 4 (fun j => .ref (ga 0 j)) A U H) ∧ (va_Z RX8 "FEATHERS" "[LHatbandYard$Feather;" (.ref (ga 5 1)) A U H) ∧ (va_T (.object RX2) (ga 5 1) 3 (fun j => .ref (ga 1 j)) A U H) ∧ (va_Z RX8 "SPIRALS" "[LHatbandYard$Spiral;" (.ref (ga 5 2)) A U H) ∧ (va_T (.object RX7) (ga 5 2) 4 (fun j => .ref (ga 2 j)) A U H) ∧ (va_Z "java/lang/String" "COMPACT_STRINGS" "Z" (.int 1) A U H) ∧ (va_Zq "jdk/internal/util/Preconditions" "SIOOBE_FORMATTER" "Ljava/util/function/BiFunction;" A U H) ∧ (vx_Zq Bundle.tN "UNASSIGNED_STACK" Bundle.steD A U H) ∧ (vx_Zq Bundle.tN "SUPPRESSED_SENTINEL" Bundle.listD A U H) ∧ (vk_R RX8 98 "the lot has not so much" (ga 6 0) U) ∧ (vk_R RX8 128 "too much air for the hand today" (ga 6 1) U) ∧ (vk_R RX8 134 "the cone was drawn over a block" (ga 6 2) U) ∧ (vk_R RX8 168 "the cone is trimmed" (ga 6 3) U) ∧ (vk_R RX8 233 "an argument is out of its range" (ga 6 4) U) ∧ (vk_R RX8 236 "there are as many as there may be" (ga 6 5) U) ∧ (vk_R RX8 240 "there is no such number" (ga 6 6) U) ∧ (vk_R RX8 243 "there is no such lot" (ga 6 7) U) ∧ (vk_R RX8 245 "there is no such cone" (ga 6 8) U) ∧ (vk_R RX8 247 "there is no such hand" (ga 6 9) U) ∧ (vk_R RX8 249 "there is no such block" (ga 6 10) U) ∧ (va_AO RX0 U) ∧ (va_AO RX1 U) ∧ (va_AO RX4 U) ∧ (va_AO RX6 U) ∧ (va_T .int (ga 7 0) (ga 8 0) (fun j => .int (nI (ga 9 j))) A U H) ∧ (va_Nc "java/lang/IllegalStateException" "java/lang/IllegalArgumentException" U) ∧ (va_Nc "java/lang/IllegalArgumentException" "java/lang/IndexOutOfBoundsException" U) ∧ (va_Nc "java/lang/IllegalStateException" "java/lang/IndexOutOfBoundsException" U) ∧ (∀ w ∈ tabW, va_Nw w U) ∧ (∀ w ∈ nestW, va_Nw w U)
theorem SF.sx {ga : Nat → Nat → Nat} : SF (fun A U H => Sx ga A U H) := SF.and (SF.all (fun _ => SF.o)) (SF.and (SF.all (fun _ => SF.o)) (SF.and (SF.all (fun _ => SF.o)) (SF.and (SF.ef) (SF.and (SF.ef) (SF.and (SF.ef) (SF.and (SF.ef) (SF.and (SF.ef) (SF.and (SF.ef) (SF.and (SF.ef) (SF.and (SF.ef) (SF.and (SF.ef) (SF.and (SF.ef) (SF.and (SF.all (fun _ => SF.sw)) (SF.and (SF.z) (SF.and (SF.t) (SF.and (SF.z) (SF.and (SF.t) (SF.and (SF.z) (SF.and (SF.t) (SF.and (SF.z) (SF.and (SF.zq) (SF.and (SF.xq) (SF.and (SF.xq) (SF.and (SF.r) (SF.and (SF.r) (SF.and (SF.r) (SF.and (SF.r) (SF.and (SF.r) (SF.and (SF.r) (SF.and (SF.r) (SF.and (SF.r) (SF.and (SF.r) (SF.and (SF.r) (SF.and (SF.r) (SF.and (SF.ao) (SF.and (SF.ao) (SF.and (SF.ao) (SF.and (SF.ao) (SF.and (SF.t) (SF.and (SF.nc) (SF.and (SF.nc) (SF.and (SF.nc) (SF.and (SF.tabs) (SF.nest))))))))))))))))))))))))))))))))))))))))))))
theorem Sx.furO {ga : Nat → Nat → Nat} {A : Nat → Prop} {U : State} {H : Heap} (h : Sx ga A U H) : ∀ i, i < 4 → va_O RX3 (ga 0 i) A U H := h.1
theorem Sx.feaO {ga : Nat → Nat → Nat} {A : Nat → Prop} {U : State} {H : Heap} (h : Sx ga A U H) : ∀ i, i < 3 → va_O RX2 (ga 1 i) A U H := h.2.1
theorem Sx.spiO {ga : Nat → Nat → Nat} {A : Nat → Prop} {U : State} {H : Heap} (h : Sx ga A U H) : ∀ i, i < 4 → va_O RX7 (ga 2 i) A U H := h.2.2.1
theorem Sx.fur_lessAcross {ga : Nat → Nat → Nat} {A : Nat → Prop} {U : State} {H : Heap} (h : Sx ga A U H) : va_Ef 4 RX3 "lessAcross" "I" (fun i => .int (nI (fAcr i))) (ga 0) A U H := h.2.2.2.1
theorem Sx.fur_lessAlong {ga : Nat → Nat → Nat} {A : Nat → Prop} {U : State} {H : Heap} (h : Sx ga A U H) : va_Ef 4 RX3 "lessAlong" "I" (fun i => .int (nI (fAlo i))) (ga 0) A U H := h.2.2.2.2.1
theorem Sx.fur_strain {ga : Nat → Nat → Nat} {A : Nat → Prop} {U : State} {H : Heap} (h : Sx ga A U H) : va_Ef 4 RX3 "strain" "I" (fun i => .int (nI (fStr i))) (ga 0) A U H := h.2.2.2.2.2.1
theorem Sx.fur_airOfCycle {ga : Nat → Nat → Nat} {A : Nat → Prop} {U : State} {H : Heap} (h : Sx ga A U H) : va_Ef 4 RX3 "airOfCycle" "I" (fun i => .int (nI (fAir i))) (ga 0) A U H := h.2.2.2.2.2.2.1
theorem Sx.fur_word {ga : Nat → Nat → Nat} {A : Nat → Prop} {U : State} {H : Heap} (h : Sx ga A U H) : va_Ef 4 RX3 "word" "Ljava/lang/String;" (fun i => .ref (ga 3 i)) (ga 0) A U H := h.2.2.2.2.2.2.2.1
theorem Sx.fea_pro {ga : Nat → Nat → Nat} {A : Nat → Prop} {U : State} {H : Heap} (h : Sx ga A U H) : va_Ef 3 RX2 "protectedFrom" "I" (fun i => .int (nI (fPro i))) (ga 1) A U H := h.2.2.2.2.2.2.2.2.1
theorem Sx.fea_word {ga : Nat → Nat → Nat} {A : Nat → Prop} {U : State} {H : Heap} (h : Sx ga A U H) : va_Ef 3 RX2 "word" "Ljava/lang/String;" (fun i => .ref (ga 3 (4 + i))) (ga 1) A U H := h.2.2.2.2.2.2.2.2.2.1
theorem Sx.spi_gain {ga : Nat → Nat → Nat} {A : Nat → Prop} {U : State} {H : Heap} (h : Sx ga A U H) : va_Ef 4 RX7 "firstGain" "I" (fun i => .int (nI (sGai i))) (ga 2) A U H := h.2.2.2.2.2.2.2.2.2.2.1
theorem Sx.spi_less {ga : Nat → Nat → Nat} {A : Nat → Prop} {U : State} {H : Heap} (h : Sx ga A U H) : va_Ef 4 RX7 "gainsLess" "Z" (fun i => .int (nI (sLes i))) (ga 2) A U H := h.2.2.2.2.2.2.2.2.2.2.2.1
theorem Sx.spi_word {ga : Nat → Nat → Nat} {A : Nat → Prop} {U : State} {H : Heap} (h : Sx ga A U H) : va_Ef 4 RX7 "word" "Ljava/lang/String;" (fun i => .ref (ga 3 (7 + i))) (ga 2) A U H := h.2.2.2.2.2.2.2.2.2.2.2.2.1
theorem Sx.words {ga : Nat → Nat → Nat} {A : Nat → Prop} {U : State} {H : Heap} (h : Sx ga A U H) : ∀ i, i < 11 → Sw (wdT i) (ga 3 i) (ga 4 i) A U H := h.2.2.2.2.2.2.2.2.2.2.2.2.2.1
theorem Sx.z_FURS {ga : Nat → Nat → Nat} {A : Nat → Prop} {U : State} {H : Heap} (h : Sx ga A U H) : va_Z RX8 "FURS" "[LHatbandYard$Fur;" (.ref (ga 5 0)) A U H := h.2.2.2.2.2.2.2.2.2.2.2.2.2.2.1
theorem Sx.t_FURS {ga : Nat → Nat → Nat} {A : Nat → Prop} {U : State} {H : Heap} (h : Sx ga A U H) : va_T (.object RX3) (ga 5 0) 4 (fun j => .ref (ga 0 j)) A U H := h.2.2.2.2.2.2.2.2.2.2.2.2.2.2.2.1
theorem Sx.z_FEATHERS {ga : Nat → Nat → Nat} {A : Nat → Prop} {U : State} {H : Heap} (h : Sx ga A U H) : va_Z RX8 "FEATHERS" "[LHatbandYard$Feather;" (.ref (ga 5 1)) A U H := h.2.2.2.2.2.2.2.2.2.2.2.2.2.2.2.2.1
theorem Sx.t_FEATHERS {ga : Nat → Nat → Nat} {A : Nat → Prop} {U : State} {H : Heap} (h : Sx ga A U H) : va_T (.object RX2) (ga 5 1) 3 (fun j => .ref (ga 1 j)) A U H := h.2.2.2.2.2.2.2.2.2.2.2.2.2.2.2.2.2.1
theorem Sx.z_SPIRALS {ga : Nat → Nat → Nat} {A : Nat → Prop} {U : State} {H : Heap} (h : Sx ga A U H) : va_Z RX8 "SPIRALS" "[LHatbandYard$Spiral;" (.ref (ga 5 2)) A U H := h.2.2.2.2.2.2.2.2.2.2.2.2.2.2.2.2.2.2.1
theorem Sx.t_SPIRALS {ga : Nat → Nat → Nat} {A : Nat → Prop} {U : State} {H : Heap} (h : Sx ga A U H) : va_T (.object RX7) (ga 5 2) 4 (fun j => .ref (ga 2 j)) A U H := h.2.2.2.2.2.2.2.2.2.2.2.2.2.2.2.2.2.2.2.1
theorem Sx.compact {ga : Nat → Nat → Nat} {A : Nat → Prop} {U : State} {H : Heap} (h : Sx ga A U H) : va_Z "java/lang/String" "COMPACT_STRINGS" "Z" (.int 1) A U H := h.2.2.2.2.2.2.2.2.2.2.2.2.2.2.2.2.2.2.2.2.1
theorem Sx.sioobe {ga : Nat → Nat → Nat} {A : Nat → Prop} {U : State} {H : Heap} (h : Sx ga A U H) : va_Zq "jdk/internal/util/Preconditions" "SIOOBE_FORMATTER" "Ljava/util/function/BiFunction;" A U H := h.2.2.2.2.2.2.2.2.2.2.2.2.2.2.2.2.2.2.2.2.2.1
theorem Sx.thrU {ga : Nat → Nat → Nat} {A : Nat → Prop} {U : State} {H : Heap} (h : Sx ga A U H) : vx_Zq Bundle.tN "UNASSIGNED_STACK" Bundle.steD A U H := h.2.2.2.2.2.2.2.2.2.2.2.2.2.2.2.2.2.2.2.2.2.2.1
theorem Sx.thrN {ga : Nat → Nat → Nat} {A : Nat → Prop} {U : State} {H : Heap} (h : Sx ga A U H) : vx_Zq Bundle.tN "SUPPRESSED_SENTINEL" Bundle.listD A U H := h.2.2.2.2.2.2.2.2.2.2.2.2.2.2.2.2.2.2.2.2.2.2.2.1
theorem Sx.tx98 {ga : Nat → Nat → Nat} {A : Nat → Prop} {U : State} {H : Heap} (h : Sx ga A U H) : vk_R RX8 98 "the lot has not so much" (ga 6 0) U := h.2.2.2.2.2.2.2.2.2.2.2.2.2.2.2.2.2.2.2.2.2.2.2.2.1
theorem Sx.tx128 {ga : Nat → Nat → Nat} {A : Nat → Prop} {U : State} {H : Heap} (h : Sx ga A U H) : vk_R RX8 128 "too much air for the hand today" (ga 6 1) U := h.2.2.2.2.2.2.2.2.2.2.2.2.2.2.2.2.2.2.2.2.2.2.2.2.2.1
theorem Sx.tx134 {ga : Nat → Nat → Nat} {A : Nat → Prop} {U : State} {H : Heap} (h : Sx ga A U H) : vk_R RX8 134 "the cone was drawn over a block" (ga 6 2) U := h.2.2.2.2.2.2.2.2.2.2.2.2.2.2.2.2.2.2.2.2.2.2.2.2.2.2.1
theorem Sx.tx168 {ga : Nat → Nat → Nat} {A : Nat → Prop} {U : State} {H : Heap} (h : Sx ga A U H) : vk_R RX8 168 "the cone is trimmed" (ga 6 3) U := h.2.2.2.2.2.2.2.2.2.2.2.2.2.2.2.2.2.2.2.2.2.2.2.2.2.2.2.1
theorem Sx.tx233 {ga : Nat → Nat → Nat} {A : Nat → Prop} {U : State} {H : Heap} (h : Sx ga A U H) : vk_R RX8 233 "an argument is out of its range" (ga 6 4) U := h.2.2.2.2.2.2.2.2.2.2.2.2.2.2.2.2.2.2.2.2.2.2.2.2.2.2.2.2.1
theorem Sx.tx236 {ga : Nat → Nat → Nat} {A : Nat → Prop} {U : State} {H : Heap} (h : Sx ga A U H) : vk_R RX8 236 "there are as many as there may be" (ga 6 5) U := h.2.2.2.2.2.2.2.2.2.2.2.2.2.2.2.2.2.2.2.2.2.2.2.2.2.2.2.2.2.1
theorem Sx.tx240 {ga : Nat → Nat → Nat} {A : Nat → Prop} {U : State} {H : Heap} (h : Sx ga A U H) : vk_R RX8 240 "there is no such number" (ga 6 6) U := h.2.2.2.2.2.2.2.2.2.2.2.2.2.2.2.2.2.2.2.2.2.2.2.2.2.2.2.2.2.2.1
theorem Sx.tx243 {ga : Nat → Nat → Nat} {A : Nat → Prop} {U : State} {H : Heap} (h : Sx ga A U H) : vk_R RX8 243 "there is no such lot" (ga 6 7) U := h.2.2.2.2.2.2.2.2.2.2.2.2.2.2.2.2.2.2.2.2.2.2.2.2.2.2.2.2.2.2.2.1
theorem Sx.tx245 {ga : Nat → Nat → Nat} {A : Nat → Prop} {U : State} {H : Heap} (h : Sx ga A U H) : vk_R RX8 245 "there is no such cone" (ga 6 8) U := h.2.2.2.2.2.2.2.2.2.2.2.2.2.2.2.2.2.2.2.2.2.2.2.2.2.2.2.2.2.2.2.2.1
theorem Sx.tx247 {ga : Nat → Nat → Nat} {A : Nat → Prop} {U : State} {H : Heap} (h : Sx ga A U H) : vk_R RX8 247 "there is no such hand" (ga 6 9) U := h.2.2.2.2.2.2.2.2.2.2.2.2.2.2.2.2.2.2.2.2.2.2.2.2.2.2.2.2.2.2.2.2.2.1
theorem Sx.tx249 {ga : Nat → Nat → Nat} {A : Nat → Prop} {U : State} {H : Heap} (h : Sx ga A U H) : vk_R RX8 249 "there is no such block" (ga 6 10) U := h.2.2.2.2.2.2.2.2.2.2.2.2.2.2.2.2.2.2.2.2.2.2.2.2.2.2.2.2.2.2.2.2.2.2.1
theorem Sx.ao0 {ga : Nat → Nat → Nat} {A : Nat → Prop} {U : State} {H : Heap} (h : Sx ga A U H) : va_AO RX0 U := h.2.2.2.2.2.2.2.2.2.2.2.2.2.2.2.2.2.2.2.2.2.2.2.2.2.2.2.2.2.2.2.2.2.2.2.1
theorem Sx.ao1 {ga : Nat → Nat → Nat} {A : Nat → Prop} {U : State} {H : Heap} (h : Sx ga A U H) : va_AO RX1 U := h.2.2.2.2.2.2.2.2.2.2.2.2.2.2.2.2.2.2.2.2.2.2.2.2.2.2.2.2.2.2.2.2.2.2.2.2.1
theorem Sx.ao4 {ga : Nat → Nat → Nat} {A : Nat → Prop} {U : State} {H : Heap} (h : Sx ga A U H) : va_AO RX4 U := h.2.2.2.2.2.2.2.2.2.2.2.2.2.2.2.2.2.2.2.2.2.2.2.2.2.2.2.2.2.2.2.2.2.2.2.2.2.1
theorem Sx.ao6 {ga : Nat → Nat → Nat} {A : Nat → Prop} {U : State} {H : Heap} (h : Sx ga A U H) : va_AO RX6 U := h.2.2.2.2.2.2.2.2.2.2.2.2.2.2.2.2.2.2.2.2.2.2.2.2.2.2.2.2.2.2.2.2.2.2.2.2.2.2.1
theorem Sx.scr {ga : Nat → Nat → Nat} {A : Nat → Prop} {U : State} {H : Heap} (h : Sx ga A U H) : va_T .int (ga 7 0) (ga 8 0) (fun j => .int (nI (ga 9 j))) A U H := h.2.2.2.2.2.2.2.2.2.2.2.2.2.2.2.2.2.2.2.2.2.2.2.2.2.2.2.2.2.2.2.2.2.2.2.2.2.2.2.1
theorem Sx.nc1 {ga : Nat → Nat → Nat} {A : Nat → Prop} {U : State} {H : Heap} (h : Sx ga A U H) : va_Nc "java/lang/IllegalStateException" "java/lang/IllegalArgumentException" U := h.2.2.2.2.2.2.2.2.2.2.2.2.2.2.2.2.2.2.2.2.2.2.2.2.2.2.2.2.2.2.2.2.2.2.2.2.2.2.2.2.1
theorem Sx.nc2 {ga : Nat → Nat → Nat} {A : Nat → Prop} {U : State} {H : Heap} (h : Sx ga A U H) : va_Nc "java/lang/IllegalArgumentException" "java/lang/IndexOutOfBoundsException" U := h.2.2.2.2.2.2.2.2.2.2.2.2.2.2.2.2.2.2.2.2.2.2.2.2.2.2.2.2.2.2.2.2.2.2.2.2.2.2.2.2.2.1
theorem Sx.nc3 {ga : Nat → Nat → Nat} {A : Nat → Prop} {U : State} {H : Heap} (h : Sx ga A U H) : va_Nc "java/lang/IllegalStateException" "java/lang/IndexOutOfBoundsException" U := h.2.2.2.2.2.2.2.2.2.2.2.2.2.2.2.2.2.2.2.2.2.2.2.2.2.2.2.2.2.2.2.2.2.2.2.2.2.2.2.2.2.2.1
theorem Sx.tabs {ga : Nat → Nat → Nat} {A : Nat → Prop} {U : State} {H : Heap} (h : Sx ga A U H) : ∀ w ∈ tabW, va_Nw w U := h.2.2.2.2.2.2.2.2.2.2.2.2.2.2.2.2.2.2.2.2.2.2.2.2.2.2.2.2.2.2.2.2.2.2.2.2.2.2.2.2.2.2.2.1
theorem Sx.nest {ga : Nat → Nat → Nat} {A : Nat → Prop} {U : State} {H : Heap} (h : Sx ga A U H) : ∀ w ∈ nestW, va_Nw w U := h.2.2.2.2.2.2.2.2.2.2.2.2.2.2.2.2.2.2.2.2.2.2.2.2.2.2.2.2.2.2.2.2.2.2.2.2.2.2.2.2.2.2.2.2
/-- a method's start over a map φ -/
def Pre0 (D : va_G) (cA : Nat → ClassId) (ga : Nat → Nat → Nat) (φ : hpM) (sz : Nat) (U : State) : Prop := U.heap.size = sz ∧ hp D (Af φ sz) φ U.heap ∧ va_K D vwCl (tysL cA) U ∧ Sx ga (Af φ sz) U U.heap
/-- its end: the answer and the map behind it -/
def hQ (post : Option Value → hpM → Prop) (D : va_G) (A : Nat → Prop) : Array Value → State → Outcome → State → Prop := fun _ st oc t => (∃ (v : Option Value) (φ' : hpM), oc = .returned v ∧ post v φ' ∧ hp D A φ' t.heap) ∧ va_F A st t
def hX (px : String → hpM → Prop) (D : va_G) (A : Nat → Prop) : String → State → State → Prop := fun E st t => ∃ φ' : hpM, px E φ' ∧ hp D A φ' t.heap ∧ va_F A st t
abbrev hM (l : Launch) (y : MethodName) (cc : ByteArray) (maxL : Nat) (ret : Option FieldType) (rm : Room) (av : List Value) (D : va_G) (cA : Nat → ClassId) (ga : Nat → Nat → Nat) (φ : hpM) (sz : Nat) (post : Option Value → hpM → Prop) (mc ms : Nat) : Prop := Met l y (wl y cc maxL ret) rm (va_Pc av (Pre0 D cA ga φ sz)) (hQ post D (Af φ sz)) mc ms (Af φ sz)
abbrev hMX (l : Launch) (y : MethodName) (cc : ByteArray) (maxL : Nat) (ret : Option FieldType) (rm : Room) (av : List Value) (D : va_G) (cA : Nat → ClassId) (ga : Nat → Nat → Nat) (φ : hpM) (sz : Nat) (post : Option Value → hpM → Prop) (px : String → hpM → Prop) (mc ms : Nat) : Prop := vx_Met l y (wl y cc maxL ret) rm (va_Pc av (Pre0 D cA ga φ sz)) (hQ post D (Af φ sz)) (hX px D (Af φ sz)) mc ms (Af φ sz)
theorem Pre0.at {D : va_G} {cA : Nat → ClassId} {ga : Nat → Nat → Nat} {φ : hpM} {A : Nat → Prop} {s U : State} {H : Heap} {locs : List Loc} (hH : hp D A φ H) (hK : va_K D vwCl (tysL cA) s) (hX : Sx ga A s s.heap) (hS : va_S A s.heap H locs) (hA : ∀ q, s.heap.size ≤ q → A q) (hU : U.heap = H) (hW : s.WarmedH U.vm) : Pre0 D cA ga φ H.size U := by
  subst hU
  refine ⟨rfl, hH.self, va_K.moved hW.alike hK, SF.sx A _ s U s.heap U.heap hW hS.2.1 (fun q h => ?_) hX⟩
  rcases h with h | h
  · cases hc : φ q with
    | none => exact absurd hc h
    | some e => exact (hH q e hc).2
  · exact hA q (Nat.le_trans hS.1 h)
theorem Pre0.blind {D : va_G} {cA : Nat → ClassId} {ga : Nat → Nat → Nat} {φ : hpM} {sz : Nat} (av : List Value) : FrameBlind (va_Pc av (Pre0 D cA ga φ sz)) := fun a U g mk h => by
  obtain ⟨h1, h2, h3, h4, h5⟩ := h
  refine ⟨h1, h2, h3, va_K.moved (u := U) (U := U.calling g mk a) (Vm.Alike.refl U.vm) h4, ?_⟩
  exact SF.sx _ _ U (U.calling g mk a) U.heap U.heap (State.WarmedH.refl U) (fun _ _ _ => rfl) (fun _ h => h) h5
theorem af_le {D : va_G} {φ : hpM} {A : Nat → Prop} {H0 H : Heap} {locs : List Loc} (hH : hp D A φ H) (hS : va_S A H0 H locs) (hA : ∀ q, H0.size ≤ q → A q) : ∀ q, Af φ H.size q → A q := fun q h => by
  rcases h with h | h
  · cases hc : φ q with
    | none => exact absurd hc h
    | some e => exact (hH q e hc).2
  · exact hA q (Nat.le_trans hS.1 h)
theorem pre0_S {D : va_G} {cA : Nat → ClassId} {ga : Nat → Nat → Nat} {φ : hpM} {A : Nat → Prop} {s : State} {H : Heap} {locs : List Loc} {As : List Value} (hH : hp D A φ H) (hK : va_K D vwCl (tysL cA) s) (hX : Sx ga A s s.heap) (hS : va_S A s.heap H locs) (hA : ∀ q, s.heap.size ≤ q → A q) : PreS s H (va_Pc As (Pre0 D cA ga φ H.size)) As :=
  ⟨Pre0.blind As, fun _ hU hW => ⟨rfl, Pre0.at hH hK hX hS hA hU hW⟩⟩
theorem pre0_V {D : va_G} {cA : Nat → ClassId} {ga : Nat → Nat → Nat} {φ : hpM} {A : Nat → Prop} {s : State} {H : Heap} {locs : List Loc} {As : List Value} {C : String} {b : Addr} (hH : hp D A φ H) (hK : va_K D vwCl (tysL cA) s) (hX : Sx ga A s s.heap) (hS : va_S A s.heap H locs) (hA : ∀ q, s.heap.size ≤ q → A q) (hrec : ∃ cellB : Cell, H[b]? = some cellB ∧ cellB.vm.isStatics = false ∧ s.vm.findClass C = some cellB.cls) : PreV s H C b (va_Pc (.ref b :: As) (Pre0 D cA ga φ H.size)) As :=
  ⟨Pre0.blind _, hrec, fun _ hU hW => ⟨rfl, Pre0.at hH hK hX hS hA hU hW⟩⟩
theorem hp.recv {D : va_G} {A : Nat → Prop} {φ : hpM} {s : State} {H : Heap} {tys : List (ClassId × FieldType)} {a ci : Nat} {q : vw_C} {fs : List Value} (hH : hp D A φ H) (hK : va_K D vwCl tys s) (he : φ a = some (.inr (ci, fs))) (hc : vwCl[ci]? = some q) : ∃ cell : Cell, H[a]? = some cell ∧ cell.vm.isStatics = false ∧ s.vm.findClass q.1 = some cell.cls := va_recv hK (hH.p1 he) hc (q0 := 0) rfl
theorem o_recv {E : String} {t : Nat} {A : Nat → Prop} {s : State} {H : Heap} {locs : List Loc} (h : va_O E t A s s.heap) (hS : va_S A s.heap H locs) : ∃ cell : Cell, H[t]? = some cell ∧ cell.vm.isStatics = false ∧ s.vm.findClass E = some cell.cls := by
  obtain ⟨cell, h1, h2, h3, -⟩ := h.kept hS.2.1
  exact ⟨cell, h1, h2, h3⟩
/-- a contract's body, opened -/
theorem hM.of {l : Launch} {y : MethodName} {rm : Room} {av : List Value} {D : va_G} {cA : Nat → ClassId} {ga : Nat → Nat → Nat} {φ : hpM} {sz : Nat} {post : Option Value → hpM → Prop} {mc ms : Nat} {cc : ByteArray} {maxL : Nat} {ret : Option FieldType} {lv : List (Nat × Value)}
    (hy : plainName y.cls = true) (hn : (lg_sl av).length ≤ maxL) (hlv : lv_args 0 av = lv)
    (body : ∀ (p : Program) (e : Env) (s : State) (m : MethodId) (args : Array Value) (below : List Frame) (meth : Method) (c : Code) (ls : Array Slot) (H : Heap) (locs : List Loc), CallFix p m c cc maxL s args Wc y.cls → meth.sig.returnType = ret → meth.locks = false → meth.name = y.name → s.heap.size = sz → H.size = sz → hp D (Af φ sz) φ H → va_K D vwCl (tysL cA) s → Sx ga (Af φ sz) s s.heap → va_S (Af φ sz) s.heap H locs → (∀ q, s.heap.size ≤ q → Af φ sz q) → lv_has ls maxL lv →
      W p l e rm s m args below meth c H locs 0 0 (MQ below (hQ post D (Af φ sz)) args s mc ms (Af φ sz)) (F0 m 0 ls [])) : hM l y cc maxL ret rm av D cA ga φ sz post mc ms := by
  refine Met.ofW (cc := cc) (maxL := maxL) (ret := ret) hy rfl ?_
  intro p e s m args below meth c s₁ B hml hv
  obtain ⟨rfl, hsz, hH, hK, hX⟩ := hv
  have hl := lv_entry av (n := maxL) hn
  rw [lg_entry_eq]
  exact body p e s m _ below meth c _ s.heap [] ⟨B.exec, B.bytes, hml, findClass_of_methodNamed B.named, fun w hw => atoms_spec (ws := wl y cc maxL ret) B.pre w (List.mem_cons_of_mem _ hw)⟩ B.returns B.notSynchronized (name_of_methodNamed B.named B.method).1 hsz hsz hH hK hX va_S.rf (fun q h => Or.inr (by rw [← hsz]; exact h)) (hlv ▸ hl)
theorem hMX.of {l : Launch} {y : MethodName} {rm : Room} {av : List Value} {D : va_G} {cA : Nat → ClassId} {ga : Nat → Nat → Nat} {φ : hpM} {sz : Nat} {post : Option Value → hpM → Prop} {px : String → hpM → Prop} {mc ms : Nat} {cc : ByteArray} {maxL : Nat} {ret : Option FieldType} {lv : List (Nat × Value)}
    (hy : plainName y.cls = true) (hn : (lg_sl av).length ≤ maxL) (hlv : lv_args 0 av = lv)
    (body : ∀ (p : Program) (e : Env) (s : State) (m : MethodId) (args : Array Value) (below : List Frame) (meth : Method) (c : Code) (ls : Array Slot) (H : Heap) (locs : List Loc), CallFix p m c cc maxL s args Wc y.cls → meth.sig.returnType = ret → meth.locks = false → (∀ x ∈ c.exceptionTable.toList, False) → s.heap.size = sz → H.size = sz → hp D (Af φ sz) φ H → va_K D vwCl (tysL cA) s → Sx ga (Af φ sz) s s.heap → va_S (Af φ sz) s.heap H locs → (∀ q, s.heap.size ≤ q → Af φ sz q) → lv_has ls maxL lv →
      W p l e rm s m args below meth c H locs 0 0 (vx_MQ below (hQ post D (Af φ sz)) (hX px D (Af φ sz)) args s mc ms (Af φ sz)) (F0 m 0 ls [])) : hMX l y cc maxL ret rm av D cA ga φ sz post px mc ms := by
  refine vx_ofW (cc := cc) (maxL := maxL) (ret := ret) hy rfl ?_
  intro p e s m args below meth c s₁ B hml hne hv
  obtain ⟨rfl, hsz, hH, hK, hX⟩ := hv
  have hl := lv_entry av (n := maxL) hn
  rw [lg_entry_eq]
  exact body p e s m _ below meth c _ s.heap [] ⟨B.exec, B.bytes, hml, findClass_of_methodNamed B.named, fun w hw => atoms_spec (ws := wl y cc maxL ret) B.pre w (List.mem_cons_of_mem _ hw)⟩ B.returns B.notSynchronized hne hsz hsz hH hK hX va_S.rf (fun q h => Or.inr (by rw [← hsz]; exact h)) (hlv ▸ hl)
section HVC
variable {p : Program} {l : Launch} {e : Env} {R : Room} {s : State} {m : MethodId} {args : Array Value} {below : List Frame} {meth : Method} {c : Code} {H : Heap} {locs : List Loc} {cells slots : Nat} {Q : State → Prop}
variable {cc : ByteArray} {pc nL : Nat} {ls : Array Slot} {rest st0 : List Value} {D : va_G} {A A1 : Nat → Prop} {φ : hpM} {Ts : List Cond} {own : String} {a : Array Value} {mc ms : Nat} {post : Option Value → hpM → Prop} {px : String → hpM → Prop}
theorem hv_call (hr : va_Run p l e R s m args below meth c H locs cells slots mc ms (F0 m pc ls st0) rest (hQ post D A1 a) A1) (hS : va_S A s.heap H locs) (hf : ∀ q, A1 q → A q)
    (kk : ∀ (v : Option Value) (φ1 : hpM) (H1 : Heap) (locs1 : List Loc), post v φ1 → hp D A φ1 H1 → va_S A s.heap H1 locs1 → W p l e R s m args below meth c H1 locs1 (cells + mc) (slots + ms) Q (F0 m (pc + 3) ls (v.toList ++ rest))) : W p l e R s m args below meth c H locs cells slots Q (F0 m pc ls st0) := by
  intro T hT X
  obtain ⟨v, st₀, t, T', L, h0, X', hL, e1, e2, ⟨⟨v', φ1, hv, hp1, hb⟩, hF⟩, st⟩ := hr T hT X
  cases hv
  obtain ⟨k1, k2, k3⟩ := vx_keep (A1 := A1) h0 e1 hS (fun q _ h => hf q h) hf hL hF
  obtain ⟨t2, a1, b1⟩ := kk v φ1 T'.heap (locs ++ L) hp1 (by rw [e1]; exact hb.weaken hf) k3 T' rfl X'
  exact ⟨t2, st t2 a1, b1⟩
theorem hv_callX (hr : vx_Run p l e R s m args below meth c H locs cells slots mc ms (F0 m pc ls st0) rest (hQ post D A1 a) (hX px D A1) A1) (hS : va_S A s.heap H locs) (hf : ∀ q, A1 q → A q)
    (kx : ∀ (E : String) (ce : Cell) (q9 : Addr) (φ1 : hpM) (H1 : Heap) (locs1 : List Loc), px E φ1 → hp D A φ1 H1 → va_S A s.heap H1 locs1 → H1[q9]? = some ce → ce.vm = .none → s.vm.findClass E = some ce.cls → vx_W p l e R s m args below meth c H1 locs1 (cells + mc) (slots + ms) Q (F0 m pc ls rest) q9)
    (kk : ∀ (v : Option Value) (φ1 : hpM) (H1 : Heap) (locs1 : List Loc), post v φ1 → hp D A φ1 H1 → va_S A s.heap H1 locs1 → W p l e R s m args below meth c H1 locs1 (cells + mc) (slots + ms) Q (F0 m (pc + 3) ls (v.toList ++ rest))) : W p l e R s m args below meth c H locs cells slots Q (F0 m pc ls st0) := by
  intro T hT X
  rcases hr T hT X with ⟨v, st₀, t, T', L, h0, X', hL, e1, e2, ⟨⟨v', φ1, hv, hp1, hb⟩, hF⟩, st⟩ | ⟨q, st₀, t, T', L, E, ce, h0, X', hL, e1, e2, ⟨φ1, hp1, hb, hF⟩, hce, hcv, hcl, st⟩
  · cases hv
    obtain ⟨k1, k2, k3⟩ := vx_keep (A1 := A1) h0 e1 hS (fun q _ h => hf q h) hf hL hF
    obtain ⟨t2, a1, b1⟩ := kk v φ1 T'.heap (locs ++ L) hp1 (by rw [e1]; exact hb.weaken hf) k3 T' rfl X'
    exact ⟨t2, st t2 a1, b1⟩
  · obtain ⟨k1, k2, k3⟩ := vx_keep (A1 := A1) h0 e1 hS (fun q _ h => hf q h) hf hL hF
    obtain ⟨t2, a1, b1⟩ := kx E ce q φ1 T'.heap (locs ++ L) hp1 (by rw [e1]; exact hb.weaken hf) k3 (by rw [e1]; exact hce) hcv hcl T' rfl X'
    exact ⟨t2, st.trans a1, b1⟩
theorem tabW_on {w : Cond} (h : w ∈ tabW) : w.onTables = true := List.all_eq_true.mp (show tabW.all Cond.onTables = true by decide +kernel) w h
abbrev XN : List String := ["java/lang/RuntimeException", "java/lang/Exception"]
/-- 'throw new E("text")' in the class -/
theorem hv_throw {ga : Nat → Nat → Nat} (S : CallFix p m c cc nL s args Wc RX8) (hfl : l.stackTraces = false) {cls text : String} {ik is ic sa : Nat} (hcls : Bundle.fit cls = true) (hk : Cond.classLink RX8 ik cls ∈ Wc) (hini : Cond.initialized cls ∈ Wc) (hstr : vk_R RX8 is text sa s) (hat : ∀ w ∈ vx_atS RX8 ic cls XN, w ∈ Wc ∨ w ∈ tabW) (hX9 : Sx ga A s s.heap)
    (hne : ∀ x ∈ c.exceptionTable.toList, False) (hlocks : meth.locks = false) (hH : hp D A φ H) (hS : va_S A s.heap H locs) (hpx : px cls φ) (hls : ls.size = nL)
    (d0 : decode cc pc = .ok (.new ik, 3)) (d3 : decode cc (pc + 3) = .ok (.dup, 1)) (d4 : decode cc (pc + 4) = .ok (.ldc is, 2)) (d6 : decode cc (pc + 6) = .ok (.invokespecial ic, 3)) (d9 : decode cc (pc + 9) = .ok (.athrow, 1))
    (hRf : 5 < R.frames) (hRl : (rest.map fun v => v.category).sum + 82 ≤ R.locals) (hRc : cells + 1 ≤ R.cells) (hRs : slots + 6 ≤ R.slots) (hc : cells + 1 ≤ mc) (hs : slots + 6 ≤ ms) :
    W p l e R s m args below meth c H locs cells slots (vx_MQ below (hQ post D A) (hX px D A) args s mc ms A) (F0 m pc ls rest) := by
  have hts := S.2.2.2.2
  have hg : ∀ w, w ∈ Wc → vx_ot w = true := fun w h => by
    have h2 := (List.mem_filter.mp h).2
    simp only [vx_ot, Bool.or_eq_true]
    exact Or.inr h2
  refine vx_throwS S.1 S.2.1 hfl (A := A) (names := XN) S.2.2.2.1 hcls (by decide +kernel) (hts _ hk) (hts _ hini) hstr (fun w h => ?_) (fun w h => ?_) hX9.thrU hX9.thrN hS (by rw [S.2.2.1]; exact hls) d0 d3 d4 d6 d9 (fun x hx => (hne x hx).elim) hRf hRl hRc hRs hlocks (fun t _ hz hq => ?_) hS.2.2 hc hs
  · rcases hat w h with h | h
    · exact hts _ h
    · exact va_Nw.use (tabW_on h) (hX9.tabs w h)
  · rcases List.mem_cons.mp h with e | h
    · rw [e]; exact hg _ hk
    · rcases List.mem_cons.mp h with e | h
      · rw [e]; exact hg _ hini
      · rcases hat w h with h | h
        · exact hg _ h
        · simp only [vx_ot, Bool.or_eq_true]; exact Or.inl (tabW_on h)
  · exact ⟨φ, hpx, hH.kept (fun a e he => hq a (hH.lt he)), Nat.le_trans hS.1 hz, fun q h1 h2 => (hq q (Nat.lt_of_lt_of_le h1 hS.1)).trans (hS.2.1 q h1 h2)⟩
/-- not caught here: it goes on -/
theorem hv_out {E : String} {ce : Cell} {q : Addr} (hne : ∀ x ∈ c.exceptionTable.toList, False) (hlocks : meth.locks = false) (hcell : H[q]? = some ce) (hv : ce.vm = .none) (hcl : s.vm.findClass E = some ce.cls) (hH : hp D A φ H) (hS : va_S A s.heap H locs) (hpx : px E φ) (hc : cells ≤ mc) (hs : slots ≤ ms) :
    vx_W p l e R s m args below meth c H locs cells slots (vx_MQ below (hQ post D A) (hX px D A) args s mc ms A) (F0 m pc ls rest) q :=
  vx_out (fun x hx => (hne x hx).elim) hlocks hcell hv hcl (fun t ht _ => ⟨φ, hpx, by rw [ht]; exact hH, hS.F ht⟩) hS.2.2 hc hs
theorem hv_ret {v : Int32} {ty : FieldType} (S : CallFix p m c cc nL s args Ts own) (hr : meth.sig.returnType = some ty) (hn : narrow ty (.int v) = .int v) (hlocks : meth.locks = false) (hH : hp D A φ H) (hS : va_S A s.heap H locs) (hpo : post (some (.int v)) φ) (hc : cells ≤ mc) (hs : slots ≤ ms) (hdg : decode cc pc = .ok (.ireturn, 1)) :
    W p l e R s m args below meth c H locs cells slots (MQ below (hQ post D A) args s mc ms A) (F0 m pc ls [.int v]) :=
  W.widen hc hs (W.zret S.1 S.2.1 hr hn (fun t ht _ => ⟨⟨_, φ, rfl, hpo, by rw [ht]; exact hH⟩, hS.F ht⟩) hS.2.2 hdg hlocks)
theorem hv_fret {v : UInt32} (S : CallFix p m c cc nL s args Ts own) (hr : meth.sig.returnType = some .float) (hlocks : meth.locks = false) (hH : hp D A φ H) (hS : va_S A s.heap H locs) (hpo : post (some (.float v)) φ) (hc : cells ≤ mc) (hs : slots ≤ ms) (hdg : decode cc pc = .ok (.freturn, 1)) :
    W p l e R s m args below meth c H locs cells slots (MQ below (hQ post D A) args s mc ms A) (F0 m pc ls [.float v]) :=
  W.widen hc hs (W.fret S.1 S.2.1 hr (fun t ht _ => ⟨⟨_, φ, rfl, hpo, by rw [ht]; exact hH⟩, hS.F ht⟩) hS.2.2 hdg hlocks)
theorem hv_lret {v : Int64} (S : CallFix p m c cc nL s args Ts own) (hr : meth.sig.returnType = some .long) (hlocks : meth.locks = false) (hH : hp D A φ H) (hS : va_S A s.heap H locs) (hpo : post (some (.long v)) φ) (hc : cells ≤ mc) (hs : slots ≤ ms) (hdg : decode cc pc = .ok (.lreturn, 1)) :
    W p l e R s m args below meth c H locs cells slots (MQ below (hQ post D A) args s mc ms A) (F0 m pc ls [.long v]) :=
  W.widen hc hs (W.lret S.1 S.2.1 hr (fun t ht _ => ⟨⟨_, φ, rfl, hpo, by rw [ht]; exact hH⟩, hS.F ht⟩) hS.2.2 hdg hlocks)
theorem hv_vret (S : CallFix p m c cc nL s args Ts own) (hr : meth.sig.returnType = none) (hlocks : meth.locks = false) (hH : hp D A φ H) (hS : va_S A s.heap H locs) (hpo : post none φ) (hc : cells ≤ mc) (hs : slots ≤ ms) (hdg : decode cc pc = .ok (.return_, 1)) :
    W p l e R s m args below meth c H locs cells slots (MQ below (hQ post D A) args s mc ms A) (F0 m pc ls []) :=
  W.widen hc hs (W.vret S.1 S.2.1 hr (fun t ht _ => ⟨⟨_, φ, rfl, hpo, by rw [ht]; exact hH⟩, hS.F ht⟩) hS.2.2 hdg hlocks)
theorem hv_aret {v : Value} {rt : FieldType} (S : CallFix p m c cc nL s args Ts own) (hr : meth.sig.returnType = some rt) (hrt : (∃ n, rt = .object n) ∨ ∃ t, rt = .array t) (hv : v = .null ∨ ∃ a, v = .ref a) (hlocks : meth.locks = false) (hH : hp D A φ H) (hS : va_S A s.heap H locs) (hpo : post (some v) φ) (hc : cells ≤ mc) (hs : slots ≤ ms) (hdg : decode cc pc = .ok (.areturn, 1)) :
    W p l e R s m args below meth c H locs cells slots (MQ below (hQ post D A) args s mc ms A) (F0 m pc ls [v]) :=
  W.widen hc hs (W.aret S.1 S.2.1 hr hrt hv (fun t ht _ => ⟨⟨_, φ, rfl, hpo, by rw [ht]; exact hH⟩, hS.F ht⟩) hS.2.2 hdg hlocks)
theorem hv_getXN (S : CallFix p m c cc nL s args Ts own) {o n d ref host : String} {N : Nat} {v : Nat → Value} {ad : Nat → Nat} {index i : Nat} (hE : va_Ef N o n d v ad A s s.heap) (hi : i < N) (hS : va_S A s.heap H locs) (hlink : va_Nw (.fieldLinkNest own index ref n d host) s) (hsame : ∀ x, s.fieldFound? o n d = some x → s.fieldFound? ref n d = some x) (hdg : decode cc pc = .ok (.getfield index, 3))
    (kk : W p l e R s m args below meth c H locs cells slots Q (F0 m (pc + 3) ls (v i :: rest))) : W p l e R s m args below meth c H locs cells slots Q (F0 m pc ls (.ref (ad i) :: rest)) := by
  obtain ⟨cf, k, fi, f, cell, h1, h2, h3, h4, h5, h6⟩ := (hE i hi).kept hS.2.1
  exact va_Wgetf S.1 S.2.1 S.2.2.2.1 (va_Nw.use rfl hlink) (hsame _ h1) h2 h3 h4 (v := v i) h5 rfl rfl hdg kk
end HVC
