section
-- ===== PART A: goes FIRST, ahead of the names: the tables' words, and 'selects' of the private methods out of them =====
/-- a private method of a class that the tables say can be made, by its rows of tables_1 -/
def lw_okq (q : MethodName × Nat) : Prop := (q.1.cls ≠ "java/lang/invoke/MethodHandle" ∧ q.1.cls ≠ "java/lang/invoke/VarHandle") ∧ Cond.instantiable q.1.cls q.2 ∈ tables_1 ∧ Cond.privateMethod q.1 ∈ tables_1 ∧ Cond.instanceMethod q.1 ∈ tables_1
theorem lw_p0 : lw_okq (⟨"java/lang/Throwable", "fillInStackTrace", "(I)Ljava/lang/Throwable;"⟩, 6) := ⟨⟨by decide +kernel, by decide +kernel⟩, List.mem_of_getElem? (i := 177) (by decide +kernel), List.mem_of_getElem? (i := 175) (by decide +kernel), List.mem_of_getElem? (i := 176) (by decide +kernel)⟩
theorem lw_p1 : lw_okq (⟨"HatbandYard", "typedFur", "()LHatbandYard$Fur;"⟩, 11) := ⟨⟨by decide +kernel, by decide +kernel⟩, List.mem_of_getElem? (i := 31) (by decide +kernel), List.mem_of_getElem? (i := 334) (by decide +kernel), List.mem_of_getElem? (i := 335) (by decide +kernel)⟩
theorem lw_p2 : lw_okq (⟨"HatbandYard", "isTyped", "(Ljava/lang/String;)Z"⟩, 11) := ⟨⟨by decide +kernel, by decide +kernel⟩, List.mem_of_getElem? (i := 31) (by decide +kernel), List.mem_of_getElem? (i := 340) (by decide +kernel), List.mem_of_getElem? (i := 341) (by decide +kernel)⟩
theorem lw_p3 : lw_okq (⟨"HatbandYard", "clearTyped", "()V"⟩, 11) := ⟨⟨by decide +kernel, by decide +kernel⟩, List.mem_of_getElem? (i := 31) (by decide +kernel), List.mem_of_getElem? (i := 381) (by decide +kernel), List.mem_of_getElem? (i := 382) (by decide +kernel)⟩
theorem lw_p4 : lw_okq (⟨"HatbandYard", "lotAt", "(I)LHatbandYard$Lot;"⟩, 11) := ⟨⟨by decide +kernel, by decide +kernel⟩, List.mem_of_getElem? (i := 31) (by decide +kernel), List.mem_of_getElem? (i := 594) (by decide +kernel), List.mem_of_getElem? (i := 595) (by decide +kernel)⟩
theorem lw_p5 : lw_okq (⟨"HatbandYard", "coneAt", "(I)LHatbandYard$Cone;"⟩, 11) := ⟨⟨by decide +kernel, by decide +kernel⟩, List.mem_of_getElem? (i := 31) (by decide +kernel), List.mem_of_getElem? (i := 682) (by decide +kernel), List.mem_of_getElem? (i := 683) (by decide +kernel)⟩
theorem lw_p6 : lw_okq (⟨"HatbandYard", "handAt", "(I)LHatbandYard$Hand;"⟩, 11) := ⟨⟨by decide +kernel, by decide +kernel⟩, List.mem_of_getElem? (i := 31) (by decide +kernel), List.mem_of_getElem? (i := 687) (by decide +kernel), List.mem_of_getElem? (i := 688) (by decide +kernel)⟩
theorem lw_p7 : lw_okq (⟨"HatbandYard$Hand", "breathe", "(I)V"⟩, 2) := ⟨⟨by decide +kernel, by decide +kernel⟩, List.mem_of_getElem? (i := 660) (by decide +kernel), List.mem_of_getElem? (i := 694) (by decide +kernel), List.mem_of_getElem? (i := 695) (by decide +kernel)⟩
theorem lw_p8 : lw_okq (⟨"HatbandYard$Cone", "shrink", "()V"⟩, 7) := ⟨⟨by decide +kernel, by decide +kernel⟩, List.mem_of_getElem? (i := 615) (by decide +kernel), List.mem_of_getElem? (i := 698) (by decide +kernel), List.mem_of_getElem? (i := 699) (by decide +kernel)⟩
theorem lw_p9 : lw_okq (⟨"HatbandYard$Fur", "shrunkAcross", "(I)I"⟩, 8) := ⟨⟨by decide +kernel, by decide +kernel⟩, List.mem_of_getElem? (i := 704) (by decide +kernel), List.mem_of_getElem? (i := 702) (by decide +kernel), List.mem_of_getElem? (i := 703) (by decide +kernel)⟩
theorem lw_p10 : lw_okq (⟨"HatbandYard$Fur", "shrunkAlong", "(I)I"⟩, 8) := ⟨⟨by decide +kernel, by decide +kernel⟩, List.mem_of_getElem? (i := 704) (by decide +kernel), List.mem_of_getElem? (i := 707) (by decide +kernel), List.mem_of_getElem? (i := 708) (by decide +kernel)⟩
theorem lw_p11 : lw_okq (⟨"HatbandYard$Cone", "widthOf", "(I)I"⟩, 7) := ⟨⟨by decide +kernel, by decide +kernel⟩, List.mem_of_getElem? (i := 615) (by decide +kernel), List.mem_of_getElem? (i := 711) (by decide +kernel), List.mem_of_getElem? (i := 712) (by decide +kernel)⟩
theorem lw_p12 : lw_okq (⟨"HatbandYard", "blockAt", "(I)LHatbandYard$Block;"⟩, 11) := ⟨⟨by decide +kernel, by decide +kernel⟩, List.mem_of_getElem? (i := 31) (by decide +kernel), List.mem_of_getElem? (i := 741) (by decide +kernel), List.mem_of_getElem? (i := 742) (by decide +kernel)⟩
theorem lw_p13 : lw_okq (⟨"HatbandYard$Cone", "refusalOf", "(LHatbandYard$Block;)I"⟩, 7) := ⟨⟨by decide +kernel, by decide +kernel⟩, List.mem_of_getElem? (i := 615) (by decide +kernel), List.mem_of_getElem? (i := 746) (by decide +kernel), List.mem_of_getElem? (i := 747) (by decide +kernel)⟩
theorem lw_p14 : lw_okq (⟨"HatbandYard$Cone", "hasHole", "()Z"⟩, 7) := ⟨⟨by decide +kernel, by decide +kernel⟩, List.mem_of_getElem? (i := 615) (by decide +kernel), List.mem_of_getElem? (i := 750) (by decide +kernel), List.mem_of_getElem? (i := 751) (by decide +kernel)⟩
theorem lw_p15 : lw_okq (⟨"HatbandYard$Cone", "thicknessOf", "(I)I"⟩, 7) := ⟨⟨by decide +kernel, by decide +kernel⟩, List.mem_of_getElem? (i := 615) (by decide +kernel), List.mem_of_getElem? (i := 754) (by decide +kernel), List.mem_of_getElem? (i := 755) (by decide +kernel)⟩
def lw_privs_1 : List (MethodName × Nat) := [(⟨"java/lang/Throwable", "fillInStackTrace", "(I)Ljava/lang/Throwable;"⟩, 6), (⟨"HatbandYard", "typedFur", "()LHatbandYard$Fur;"⟩, 11), (⟨"HatbandYard", "isTyped", "(Ljava/lang/String;)Z"⟩, 11), (⟨"HatbandYard", "clearTyped", "()V"⟩, 11), (⟨"HatbandYard", "lotAt", "(I)LHatbandYard$Lot;"⟩, 11), (⟨"HatbandYard", "coneAt", "(I)LHatbandYard$Cone;"⟩, 11), (⟨"HatbandYard", "handAt", "(I)LHatbandYard$Hand;"⟩, 11), (⟨"HatbandYard$Hand", "breathe", "(I)V"⟩, 2), (⟨"HatbandYard$Cone", "shrink", "()V"⟩, 7), (⟨"HatbandYard$Fur", "shrunkAcross", "(I)I"⟩, 8), (⟨"HatbandYard$Fur", "shrunkAlong", "(I)I"⟩, 8), (⟨"HatbandYard$Cone", "widthOf", "(I)I"⟩, 7), (⟨"HatbandYard", "blockAt", "(I)LHatbandYard$Block;"⟩, 11), (⟨"HatbandYard$Cone", "refusalOf", "(LHatbandYard$Block;)I"⟩, 7), (⟨"HatbandYard$Cone", "hasHole", "()Z"⟩, 7), (⟨"HatbandYard$Cone", "thicknessOf", "(I)I"⟩, 7)]
theorem lw_r1 : ∀ q ∈ lw_privs_1, lw_okq q := List.forall_mem_cons.mpr ⟨lw_p0, List.forall_mem_cons.mpr ⟨lw_p1, List.forall_mem_cons.mpr ⟨lw_p2, List.forall_mem_cons.mpr ⟨lw_p3, List.forall_mem_cons.mpr ⟨lw_p4, List.forall_mem_cons.mpr ⟨lw_p5, List.forall_mem_cons.mpr ⟨lw_p6, List.forall_mem_cons.mpr ⟨lw_p7, List.forall_mem_cons.mpr ⟨lw_p8, List.forall_mem_cons.mpr ⟨lw_p9, List.forall_mem_cons.mpr ⟨lw_p10, List.forall_mem_cons.mpr ⟨lw_p11, List.forall_mem_cons.mpr ⟨lw_p12, List.forall_mem_cons.mpr ⟨lw_p13, List.forall_mem_cons.mpr ⟨lw_p14, List.forall_mem_cons.mpr ⟨lw_p15, fun _ h => absurd h List.not_mem_nil⟩⟩⟩⟩⟩⟩⟩⟩⟩⟩⟩⟩⟩⟩⟩⟩
theorem lw_p16 : lw_okq (⟨"HatbandYard$Cone", "gramsOf", "(I)I"⟩, 7) := ⟨⟨by decide +kernel, by decide +kernel⟩, List.mem_of_getElem? (i := 615) (by decide +kernel), List.mem_of_getElem? (i := 759) (by decide +kernel), List.mem_of_getElem? (i := 760) (by decide +kernel)⟩
theorem lw_p17 : lw_okq (⟨"HatbandYard$Block", "widthFor", "(I)I"⟩, 2) := ⟨⟨by decide +kernel, by decide +kernel⟩, List.mem_of_getElem? (i := 721) (by decide +kernel), List.mem_of_getElem? (i := 764) (by decide +kernel), List.mem_of_getElem? (i := 765) (by decide +kernel)⟩
theorem lw_p18 : lw_okq (⟨"HatbandYard$Cone", "isTornBy", "(II)Z"⟩, 7) := ⟨⟨by decide +kernel, by decide +kernel⟩, List.mem_of_getElem? (i := 615) (by decide +kernel), List.mem_of_getElem? (i := 769) (by decide +kernel), List.mem_of_getElem? (i := 770) (by decide +kernel)⟩
theorem lw_p19 : lw_okq (⟨"HatbandYard$Cone", "stretchOver", "(LHatbandYard$Block;)V"⟩, 7) := ⟨⟨by decide +kernel, by decide +kernel⟩, List.mem_of_getElem? (i := 615) (by decide +kernel), List.mem_of_getElem? (i := 773) (by decide +kernel), List.mem_of_getElem? (i := 774) (by decide +kernel)⟩
theorem lw_p20 : lw_okq (⟨"HatbandYard", "typedFeather", "()LHatbandYard$Feather;"⟩, 11) := ⟨⟨by decide +kernel, by decide +kernel⟩, List.mem_of_getElem? (i := 31) (by decide +kernel), List.mem_of_getElem? (i := 785) (by decide +kernel), List.mem_of_getElem? (i := 786) (by decide +kernel)⟩
theorem lw_p21 : lw_okq (⟨"HatbandYard", "year", "()I"⟩, 11) := ⟨⟨by decide +kernel, by decide +kernel⟩, List.mem_of_getElem? (i := 31) (by decide +kernel), List.mem_of_getElem? (i := 791) (by decide +kernel), List.mem_of_getElem? (i := 792) (by decide +kernel)⟩
theorem lw_p22 : lw_okq (⟨"HatbandYard$Feather", "isAllowedIn", "(I)Z"⟩, 5) := ⟨⟨by decide +kernel, by decide +kernel⟩, List.mem_of_getElem? (i := 797) (by decide +kernel), List.mem_of_getElem? (i := 795) (by decide +kernel), List.mem_of_getElem? (i := 796) (by decide +kernel)⟩
theorem lw_p23 : lw_okq (⟨"HatbandYard$Cone", "widthFollowed", "(I)I"⟩, 7) := ⟨⟨by decide +kernel, by decide +kernel⟩, List.mem_of_getElem? (i := 615) (by decide +kernel), List.mem_of_getElem? (i := 823) (by decide +kernel), List.mem_of_getElem? (i := 824) (by decide +kernel)⟩
theorem lw_p24 : lw_okq (⟨"HatbandYard", "typedSpiral", "()LHatbandYard$Spiral;"⟩, 11) := ⟨⟨by decide +kernel, by decide +kernel⟩, List.mem_of_getElem? (i := 31) (by decide +kernel), List.mem_of_getElem? (i := 846) (by decide +kernel), List.mem_of_getElem? (i := 847) (by decide +kernel)⟩
theorem lw_p25 : lw_okq (⟨"HatbandYard$Spiral", "stitchesRowByRow", "(I)I"⟩, 6) := ⟨⟨by decide +kernel, by decide +kernel⟩, List.mem_of_getElem? (i := 854) (by decide +kernel), List.mem_of_getElem? (i := 852) (by decide +kernel), List.mem_of_getElem? (i := 853) (by decide +kernel)⟩
theorem lw_p26 : lw_okq (⟨"HatbandYard$Spiral", "gainOf", "(I)I"⟩, 6) := ⟨⟨by decide +kernel, by decide +kernel⟩, List.mem_of_getElem? (i := 854) (by decide +kernel), List.mem_of_getElem? (i := 857) (by decide +kernel), List.mem_of_getElem? (i := 858) (by decide +kernel)⟩
theorem lw_p27 : lw_okq (⟨"HatbandYard$Spiral", "stitchesAtOnce", "(I)I"⟩, 6) := ⟨⟨by decide +kernel, by decide +kernel⟩, List.mem_of_getElem? (i := 854) (by decide +kernel), List.mem_of_getElem? (i := 869) (by decide +kernel), List.mem_of_getElem? (i := 870) (by decide +kernel)⟩
theorem lw_p28 : lw_okq (⟨"HatbandYard$Spiral", "rowsToClose", "(I)I"⟩, 6) := ⟨⟨by decide +kernel, by decide +kernel⟩, List.mem_of_getElem? (i := 854) (by decide +kernel), List.mem_of_getElem? (i := 884) (by decide +kernel), List.mem_of_getElem? (i := 885) (by decide +kernel)⟩
theorem lw_p29 : lw_okq (⟨"HatbandYard$Head", "setRadius", "(II)V"⟩, 1) := ⟨⟨by decide +kernel, by decide +kernel⟩, List.mem_of_getElem? (i := 80) (by decide +kernel), List.mem_of_getElem? (i := 895) (by decide +kernel), List.mem_of_getElem? (i := 896) (by decide +kernel)⟩
theorem lw_p30 : lw_okq (⟨"HatbandYard$Head", "around", "()I"⟩, 1) := ⟨⟨by decide +kernel, by decide +kernel⟩, List.mem_of_getElem? (i := 80) (by decide +kernel), List.mem_of_getElem? (i := 899) (by decide +kernel), List.mem_of_getElem? (i := 900) (by decide +kernel)⟩
theorem lw_p31 : lw_okq (⟨"HatbandYard$Head", "sizeIn", "(I)F"⟩, 1) := ⟨⟨by decide +kernel, by decide +kernel⟩, List.mem_of_getElem? (i := 80) (by decide +kernel), List.mem_of_getElem? (i := 917) (by decide +kernel), List.mem_of_getElem? (i := 918) (by decide +kernel)⟩
def lw_privs_2 : List (MethodName × Nat) := [(⟨"HatbandYard$Cone", "gramsOf", "(I)I"⟩, 7), (⟨"HatbandYard$Block", "widthFor", "(I)I"⟩, 2), (⟨"HatbandYard$Cone", "isTornBy", "(II)Z"⟩, 7), (⟨"HatbandYard$Cone", "stretchOver", "(LHatbandYard$Block;)V"⟩, 7), (⟨"HatbandYard", "typedFeather", "()LHatbandYard$Feather;"⟩, 11), (⟨"HatbandYard", "year", "()I"⟩, 11), (⟨"HatbandYard$Feather", "isAllowedIn", "(I)Z"⟩, 5), (⟨"HatbandYard$Cone", "widthFollowed", "(I)I"⟩, 7), (⟨"HatbandYard", "typedSpiral", "()LHatbandYard$Spiral;"⟩, 11), (⟨"HatbandYard$Spiral", "stitchesRowByRow", "(I)I"⟩, 6), (⟨"HatbandYard$Spiral", "gainOf", "(I)I"⟩, 6), (⟨"HatbandYard$Spiral", "stitchesAtOnce", "(I)I"⟩, 6), (⟨"HatbandYard$Spiral", "rowsToClose", "(I)I"⟩, 6), (⟨"HatbandYard$Head", "setRadius", "(II)V"⟩, 1), (⟨"HatbandYard$Head", "around", "()I"⟩, 1), (⟨"HatbandYard$Head", "sizeIn", "(I)F"⟩, 1)]
theorem lw_r2 : ∀ q ∈ lw_privs_2, lw_okq q := List.forall_mem_cons.mpr ⟨lw_p16, List.forall_mem_cons.mpr ⟨lw_p17, List.forall_mem_cons.mpr ⟨lw_p18, List.forall_mem_cons.mpr ⟨lw_p19, List.forall_mem_cons.mpr ⟨lw_p20, List.forall_mem_cons.mpr ⟨lw_p21, List.forall_mem_cons.mpr ⟨lw_p22, List.forall_mem_cons.mpr ⟨lw_p23, List.forall_mem_cons.mpr ⟨lw_p24, List.forall_mem_cons.mpr ⟨lw_p25, List.forall_mem_cons.mpr ⟨lw_p26, List.forall_mem_cons.mpr ⟨lw_p27, List.forall_mem_cons.mpr ⟨lw_p28, List.forall_mem_cons.mpr ⟨lw_p29, List.forall_mem_cons.mpr ⟨lw_p30, List.forall_mem_cons.mpr ⟨lw_p31, fun _ h => absurd h List.not_mem_nil⟩⟩⟩⟩⟩⟩⟩⟩⟩⟩⟩⟩⟩⟩⟩⟩
theorem lw_p32 : lw_okq (⟨"HatbandYardModel", "goes", "(I)Z"⟩, 22) := ⟨⟨by decide +kernel, by decide +kernel⟩, List.mem_of_getElem? (i := 940) (by decide +kernel), List.mem_of_getElem? (i := 1022) (by decide +kernel), List.mem_of_getElem? (i := 1023) (by decide +kernel)⟩
theorem lw_p33 : lw_okq (⟨"HatbandYardModel", "fur", "()I"⟩, 22) := ⟨⟨by decide +kernel, by decide +kernel⟩, List.mem_of_getElem? (i := 940) (by decide +kernel), List.mem_of_getElem? (i := 1035) (by decide +kernel), List.mem_of_getElem? (i := 1036) (by decide +kernel)⟩
theorem lw_p34 : lw_okq (⟨"HatbandYardModel", "empties", "()V"⟩, 22) := ⟨⟨by decide +kernel, by decide +kernel⟩, List.mem_of_getElem? (i := 940) (by decide +kernel), List.mem_of_getElem? (i := 1042) (by decide +kernel), List.mem_of_getElem? (i := 1043) (by decide +kernel)⟩
theorem lw_p35 : lw_okq (⟨"HatbandYardModel", "isCone", "(I)Z"⟩, 22) := ⟨⟨by decide +kernel, by decide +kernel⟩, List.mem_of_getElem? (i := 940) (by decide +kernel), List.mem_of_getElem? (i := 1058) (by decide +kernel), List.mem_of_getElem? (i := 1059) (by decide +kernel)⟩
theorem lw_p36 : lw_okq (⟨"HatbandYardModel", "hinders", "(II)I"⟩, 22) := ⟨⟨by decide +kernel, by decide +kernel⟩, List.mem_of_getElem? (i := 940) (by decide +kernel), List.mem_of_getElem? (i := 1082) (by decide +kernel), List.mem_of_getElem? (i := 1083) (by decide +kernel)⟩
theorem lw_p37 : lw_okq (⟨"HatbandYardModel", "blockAt", "(II)I"⟩, 22) := ⟨⟨by decide +kernel, by decide +kernel⟩, List.mem_of_getElem? (i := 940) (by decide +kernel), List.mem_of_getElem? (i := 1086) (by decide +kernel), List.mem_of_getElem? (i := 1087) (by decide +kernel)⟩
theorem lw_p38 : lw_okq (⟨"HatbandYardModel", "thick", "(I)I"⟩, 22) := ⟨⟨by decide +kernel, by decide +kernel⟩, List.mem_of_getElem? (i := 940) (by decide +kernel), List.mem_of_getElem? (i := 1090) (by decide +kernel), List.mem_of_getElem? (i := 1091) (by decide +kernel)⟩
theorem lw_p39 : lw_okq (⟨"HatbandYardModel", "feather", "()I"⟩, 22) := ⟨⟨by decide +kernel, by decide +kernel⟩, List.mem_of_getElem? (i := 940) (by decide +kernel), List.mem_of_getElem? (i := 1102) (by decide +kernel), List.mem_of_getElem? (i := 1103) (by decide +kernel)⟩
theorem lw_p40 : lw_okq (⟨"HatbandYardModel", "isBand", "(II)Z"⟩, 22) := ⟨⟨by decide +kernel, by decide +kernel⟩, List.mem_of_getElem? (i := 940) (by decide +kernel), List.mem_of_getElem? (i := 1115) (by decide +kernel), List.mem_of_getElem? (i := 1116) (by decide +kernel)⟩
theorem lw_p41 : lw_okq (⟨"HatbandYardModel", "countOf", "(I)I"⟩, 22) := ⟨⟨by decide +kernel, by decide +kernel⟩, List.mem_of_getElem? (i := 940) (by decide +kernel), List.mem_of_getElem? (i := 1142) (by decide +kernel), List.mem_of_getElem? (i := 1143) (by decide +kernel)⟩
theorem lw_p42 : lw_okq (⟨"HatbandYardModel", "kind", "()I"⟩, 22) := ⟨⟨by decide +kernel, by decide +kernel⟩, List.mem_of_getElem? (i := 940) (by decide +kernel), List.mem_of_getElem? (i := 1146) (by decide +kernel), List.mem_of_getElem? (i := 1147) (by decide +kernel)⟩
theorem lw_p43 : lw_okq (⟨"HatbandYardModel", "around", "()I"⟩, 22) := ⟨⟨by decide +kernel, by decide +kernel⟩, List.mem_of_getElem? (i := 940) (by decide +kernel), List.mem_of_getElem? (i := 1165) (by decide +kernel), List.mem_of_getElem? (i := 1166) (by decide +kernel)⟩
def lw_privs_3 : List (MethodName × Nat) := [(⟨"HatbandYardModel", "goes", "(I)Z"⟩, 22), (⟨"HatbandYardModel", "fur", "()I"⟩, 22), (⟨"HatbandYardModel", "empties", "()V"⟩, 22), (⟨"HatbandYardModel", "isCone", "(I)Z"⟩, 22), (⟨"HatbandYardModel", "hinders", "(II)I"⟩, 22), (⟨"HatbandYardModel", "blockAt", "(II)I"⟩, 22), (⟨"HatbandYardModel", "thick", "(I)I"⟩, 22), (⟨"HatbandYardModel", "feather", "()I"⟩, 22), (⟨"HatbandYardModel", "isBand", "(II)Z"⟩, 22), (⟨"HatbandYardModel", "countOf", "(I)I"⟩, 22), (⟨"HatbandYardModel", "kind", "()I"⟩, 22), (⟨"HatbandYardModel", "around", "()I"⟩, 22)]
theorem lw_r3 : ∀ q ∈ lw_privs_3, lw_okq q := List.forall_mem_cons.mpr ⟨lw_p32, List.forall_mem_cons.mpr ⟨lw_p33, List.forall_mem_cons.mpr ⟨lw_p34, List.forall_mem_cons.mpr ⟨lw_p35, List.forall_mem_cons.mpr ⟨lw_p36, List.forall_mem_cons.mpr ⟨lw_p37, List.forall_mem_cons.mpr ⟨lw_p38, List.forall_mem_cons.mpr ⟨lw_p39, List.forall_mem_cons.mpr ⟨lw_p40, List.forall_mem_cons.mpr ⟨lw_p41, List.forall_mem_cons.mpr ⟨lw_p42, List.forall_mem_cons.mpr ⟨lw_p43, fun _ h => absurd h List.not_mem_nil⟩⟩⟩⟩⟩⟩⟩⟩⟩⟩⟩⟩
def lw_privs : List (MethodName × Nat) := lw_privs_1 ++ (lw_privs_2 ++ (lw_privs_3))
def lw_tbl : List Cond := k2_sels lw_privs ++ tables_1
theorem lw_privs_ok : ∀ q ∈ lw_privs, lw_okq q := by
  show ∀ q ∈ lw_privs_1 ++ (lw_privs_2 ++ (lw_privs_3)), lw_okq q
  exact List.forall_mem_append.mpr ⟨lw_r1, List.forall_mem_append.mpr ⟨lw_r2, lw_r3⟩⟩
/-- the streams that the claim lets the run draw from -/
abbrev lw_cs : List Choice := [Jvm.Choice.named "NaN.bits"]
theorem lw_bits : nanBits ∈ lw_cs := by first | decide | exact List.mem_cons_self | simp [lw_cs, nanBits]
/-! ===== BEGIN words of one list among another's, by their places ===== -/
theorem goodIn_r {big : List Cond} (ws : List Cond) (ps : List Nat) (hp : ws = ps.filterMap (fun i => big[i]?)) (h : ws.all goodWord = true) : GoodIn big ws := by
  intro w hw
  have h1 := List.all_eq_true.mp h w hw
  rw [hp] at hw
  obtain ⟨i, -, hi⟩ := List.mem_filterMap.mp hw
  have hm : w ∈ big := by first | exact List.mem_of_getElem? hi | exact List.getElem?_mem hi
  exact ⟨hm, good_of_word h1⟩
theorem goodIn_app {big a b : List Cond} (ha : GoodIn big a) (hb : GoodIn big b) : GoodIn big (a ++ b) := fun w h => (List.mem_append.mp h).elim (ha w) (hb w)
theorem goodIn_ca {big a b : List Cond} {c : Cond} (ha : GoodIn big (c :: a)) (hb : GoodIn big b) : GoodIn big (c :: (a ++ b)) := fun w h => (List.mem_cons.mp h).elim (fun e => ha w (List.mem_cons.mpr (Or.inl e))) (fun h => (List.mem_append.mp h).elim (fun h => ha w (List.mem_cons.mpr (Or.inr h))) (hb w))
theorem goodIn_sub {big ws : List Cond} (hm : ∀ w ∈ ws, w ∈ big) (h : ws.all goodWord = true) : GoodIn big ws := fun w hw => ⟨hm w hw, good_of_word (List.all_eq_true.mp h w hw)⟩
/-! ===== END ===== -/

/-! ===== BEGIN exceptions that leave a method, and their catching by the caller (launches without stack traces) ===== -/
section VXA
/-! The laws vx_back, vx_callV, vx_callS, vx_callSW, vx_throw0, vx_throwS follow proofs of the library, with one case more: JvmDerived/Free/Laws.lean (Back.of_free), Shelf42/LK1.lean (callV, callS), Shelf/KitTraced.lean (throwNew0V, throwNewS). -/
/-- where a method has thrown q: the class by its name, the cell, what was written, the world -/
def vx_T (XC : String → State → State → Prop) (st : State) (q : Addr) (t : State) (mc ms : Nat) (free : Addr → Prop) : Prop :=
  ∃ (E : String) (ce : Cell) (L : List Loc), XC E st t ∧ t.heap[q]? = some ce ∧ ce.vm = .none ∧ st.vm.findClass E = some ce.cls ∧ st.WarmedH t.vm ∧ st.sameButNew ({ t with vm := st.vm } : State) L mc ms ∧ ∀ z ∈ L, free z.base
def vx_Q (Qc : Array Value → State → Outcome → State → Prop) (XC : String → State → State → Prop) (mc ms : Nat) (free : Addr → Prop) : Array Value → State → Outcome → State → Prop := fun a st o t =>
  (Qc a st o t ∧ ∃ L, FrameEnd st o t L mc ms ∧ ∀ q ∈ L, free q.base) ∨ ∃ q, o = .threw q ∧ vx_T XC st q t mc ms free
/-- a callee that returns or throws -/
def vx_Met (l : Launch) (y : MethodName) (ws : List Cond) (rm : Room) (Pc : Array Value → State → Prop) (Qc : Array Value → State → Outcome → State → Prop) (XC : String → State → State → Prop) (mc ms : Nat) (free : Addr → Prop) : Prop :=
  MetFree l y (headSpec ws rm) Pc (fun _ _ _ _ _ => True) (vx_Q Qc XC mc ms free)
def vx_Post (XC : String → State → State → Prop) (mc ms : Nat) (free : Addr → Prop) : Pt → Array Value → Addr → Pt → Prop := fun A a q B =>
  ∃ (g : JFrame) (mk : MethodId) (t : State) (L : List Loc) (E : String) (ce : Cell), B.U.heap = t.heap ∧ B.U.vm = t.vm ∧ XC E (A.U.calling g mk a) t ∧ t.heap[q]? = some ce ∧ ce.vm = .none ∧ A.U.vm.findClass E = some ce.cls ∧ B.locs = A.locs ++ L ∧ (∀ z ∈ L, free z.base) ∧ B.cells = A.cells + mc ∧ B.slots = A.slots + ms
def vx_Back (l : Launch) (R : Room) (p : Program) (e : Env) (below : List Frame) (s : State) (sargs : Array Value) (y : MethodName) (len W9 : Nat)
    (Pre : Pt → Array Value → Prop) (Post : Pt → Array Value → Option Value → Pt → Prop) (PostX : Pt → Array Value → Addr → Pt → Prop) : Prop :=
  ∀ (m : MethodId) (meth : Method) (c : Code) (A : Pt) (g : JFrame) (ig : Instr) (mk : MethodId) (a : Array Value),
    Stand p l e R s m sargs below meth c A.U A.locs A.cells A.slots → g.method = m → g.locals.size = c.maxLocals → decode c.code g.pc = .ok (ig, len) →
    2 * g.monitorRoom + (g.stack.map fun v => v.category).sum ≤ W9 → A.U.methodNamed? y = some mk → Pre A a →
    (∃ (v : Option Value) (B : Pt), Stand p l e R s m sargs below meth c B.U B.locs B.cells B.slots ∧ Post A a v B ∧
      Steps p.tables e below (doInvoke e (A.U.setTop g) [] mk a).1 (B.U.setTop { g with pc := g.pc + len, stack := v.toList ++ g.stack })) ∨
    (∃ (q : Addr) (B : Pt), Stand p l e R s m sargs below meth c B.U B.locs B.cells B.slots ∧ PostX A a q B ∧
      Steps p.tables e below (doInvoke e (A.U.setTop g) [] mk a).1 ((B.U.setTop g).pushFrame (.throwing q)))
section Payer
variable {l : Launch} {R : Room} {p : Program} {e : Env} {below : List Frame} {s : State} {sargs : Array Value} {y : MethodName} {len W9 : Nat}
theorem vx_back {ws : List Cond} {rm : Room} {Pc : Array Value → State → Prop} {Qc : Array Value → State → Outcome → State → Prop} {XC : String → State → State → Prop} {mc ms : Nat} {free : Addr → Prop} {bytes : ByteArray} {maxL : Nat} {ret : Option FieldType}
    (hM : vx_Met l y ws rm Pc Qc XC mc ms free) (hblind : FrameBlind Pc) (hrc : rm.cells = mc) (hrs : rm.slots = ms)
    (hframes : rm.frames + 1 ≤ R.frames) (hlocals : W9 + (maxL + 11) + rm.locals ≤ R.locals)
    (hws : ∀ w ∈ ws, ∀ a' U, s.WarmedH U.vm → w.before a' U = true) (hcode : Cond.code y bytes maxL ret ∈ ws) (hinit : ∀ a' U, s.WarmedH U.vm → (Cond.initialized y.cls).before a' U = true) :
    vx_Back l R p e below s sargs y len W9 (PreOf R mc ms Pc) (PostOf Qc mc ms free) (vx_Post XC mc ms free) := by
  intro m meth c A g ig mk a X hg hsize hdg hW hn hp
  have h1 : (headSpec ws rm).pre.before a A.U = true := atoms_intro fun w hw => hws w hw _ _ X.warmed
  have h2 : (Cond.code y bytes maxL ret).before a A.U = true := hws _ hcode _ _ X.warmed
  have h3 : (Cond.initialized y.cls).before a A.U = true := hinit _ _ X.warmed
  have h4 : A.cells + (headSpec ws rm).room.cells ≤ R.cells := by rw [show (headSpec ws rm).room.cells = mc from hrc]; exact hp.1
  have h5 : A.slots + (headSpec ws rm).room.slots ≤ R.slots := by rw [show (headSpec ws rm).room.slots = ms from hrs]; exact hp.2.1
  have hPc : Pc a (A.U.calling g mk a) := hblind _ _ _ _ hp.2.2
  obtain ⟨U, Ls, c0, s0⟩ := A
  dsimp only [Pt.U, Pt.locs, Pt.cells, Pt.slots] at h1 h2 h3 h4 h5 X hn hPc ⊢
  obtain ⟨methY, cY, hmY, hcY, -, hlY, -, -, -, -⟩ := Cond.code_spec hn h2
  obtain ⟨kY, hkY, -⟩ := className_of_methodNamed hn
  have hinitY : kY.init = .initialized := Cond.initialized_spec (findClass_of_methodNamed hn) hkY h3
  have h : At U g.method c below := by rw [hg]; exact X.here
  have hlocals9 : W9 + (maxL + 11) + (headSpec ws rm).room.locals ≤ R.locals := hlocals
  have happ : (headSpec ws rm).appliesLoose y e.platform (U.calling g mk a) = true :=
    Spec.appliesLoose_calling (g := g) h hdg hn hkY hinitY
      (X.room_calling (g := g) (R' := (headSpec ws rm).room) hsize hmY hcY hframes (by rw [hlY]; omega) h4 h5) h1
  obtain ⟨mid, hmid⟩ := h.above
  have hfr : (U.setTop g).frames = (.java g :: mid) ++ below := by rw [State.frames_setTop' g h.top, hmid]; rfl
  obtain ⟨o, s₂, hsteps, -, hend, hq⟩ := Steps.callFree hM p X.admits X.cas X.clock (acts := []) hfr happ hPc trivial
  have hq' : vx_Q Qc XC mc ms free a (U.calling g mk a) o s₂ := hq
  rw [State.frames_setTop' g h.top] at hend
  obtain ⟨g₀, hg0⟩ := Option.isSome_iff_exists.mp h.top
  obtain ⟨r, hr⟩ := State.topJava?_eq_some.mp hg0
  have hr' : (({ U with heap := s₂.heap, slotsUsed := s₂.slotsUsed } : State).setVm s₂.vm).frames = .java g₀ :: r := hr
  rcases hq' with ⟨hqc, L, hfe, hL⟩ | ⟨q, rfl, E, ce, L, hx, hce, hcv, hcl, hW₂, hsm, hL⟩
  · obtain ⟨⟨v, rfl⟩, hW₂, e2, q2, q3, q4, q5, q6⟩ := id hfe
    have e3 : s₂ = ({ (U.calling g mk a).setFrames s₂.frames with heap := s₂.heap, slotsUsed := s₂.slotsUsed } : State).setVm s₂.vm := by
      have : s₂ = ({ s₂ with vm := (U.calling g mk a).vm } : State).setVm s₂.vm := rfl
      rw [e2] at this
      exact this
    obtain ⟨c₂, i₂, len₂, hc₂, hd₂, hf₂⟩ := hend
    have hW' : U.WarmedH s₂.vm := hW₂
    have hcc : c₂ = c := by
      have h1 : s₂.code? g.method = U.code? g.method := by
        rw [State.code?_eq, State.code?_eq, hW'.alike.method?]
      exact Option.some.inj (hc₂.symm.trans (h1.trans h.code))
    subst hcc
    have hlen : len₂ = len := by rw [hdg] at hd₂; cases hd₂; rfl
    subst hlen
    have hs₂ : s₂ = (({ U with heap := s₂.heap, slotsUsed := s₂.slotsUsed } : State).setVm s₂.vm).setTop { g with pc := g.pc + len₂, stack := v.toList ++ g.stack } := by
      refine e3.trans ?_
      rw [hf₂, State.calling_eq h.top, State.setFrames_setFrames, State.setTop_of_frames _ hr', hr]
      rfl
    have hsame : U.sameButNew ({ U with heap := s₂.heap, slotsUsed := s₂.slotsUsed } : State) L mc ms := by
      refine ⟨?_, q2, q3, q4, q5, q6⟩
      obtain ⟨t, ht, -⟩ := State.frames_cons hr
      show ({ U with heap := s₂.heap, slotsUsed := s₂.slotsUsed } : State) = { U.setFrames U.frames with heap := s₂.heap, slotsUsed := s₂.slotsUsed }
      rw [State.setFrames_self ht]
    subst hg
    refine Or.inl ⟨v, ⟨(({ U with heap := s₂.heap, slotsUsed := s₂.slotsUsed } : State).setVm s₂.vm), Ls ++ L, c0 + mc, s0 + ms⟩,
      ⟨X.admits, X.cas, X.clock, X.frames, X.room, X.hears, X.method, X.code, (X.here.setHeapUsed s₂.heap s₂.slotsUsed).setVm hW'.alike, X.tail, State.WarmedH.trans X.warmed hW', X.limits, X.bytes, X.same.trans (hsame.setVm s.vm)⟩,
      ⟨g, mk, s₂, L, rfl, rfl, hqc, rfl, hL, rfl, rfl⟩, ?_⟩
    show Steps p.tables e below _ ((({ U with heap := s₂.heap, slotsUsed := s₂.slotsUsed } : State).setVm s₂.vm).setTop { g with pc := g.pc + len₂, stack := v.toList ++ g.stack })
    rw [← hs₂]
    exact hsteps
  · obtain ⟨e2, q2, q3, q4, q5, q6⟩ := id hsm
    have e3 : s₂ = ({ (U.calling g mk a).setFrames s₂.frames with heap := s₂.heap, slotsUsed := s₂.slotsUsed } : State).setVm s₂.vm := by
      have : s₂ = ({ s₂ with vm := (U.calling g mk a).vm } : State).setVm s₂.vm := rfl
      rw [e2] at this
      exact this
    have hf₂ : s₂.frames = .throwing q :: .java g :: U.frames.tail := hend
    have hW' : U.WarmedH s₂.vm := hW₂
    have hs₂ : s₂ = ((({ U with heap := s₂.heap, slotsUsed := s₂.slotsUsed } : State).setVm s₂.vm).setTop g).pushFrame (.throwing q) := by
      refine e3.trans ?_
      rw [hf₂, State.calling_eq h.top, State.setFrames_setFrames, State.pushFrame, State.frames_setTop _ hr', State.setTop_of_frames _ hr', State.setFrames_setFrames, hr]
      rfl
    have hsame : U.sameButNew ({ U with heap := s₂.heap, slotsUsed := s₂.slotsUsed } : State) L mc ms := by
      refine ⟨?_, q2, q3, q4, q5, q6⟩
      obtain ⟨t, ht, -⟩ := State.frames_cons hr
      show ({ U with heap := s₂.heap, slotsUsed := s₂.slotsUsed } : State) = { U.setFrames U.frames with heap := s₂.heap, slotsUsed := s₂.slotsUsed }
      rw [State.setFrames_self ht]
    subst hg
    refine Or.inr ⟨q, ⟨(({ U with heap := s₂.heap, slotsUsed := s₂.slotsUsed } : State).setVm s₂.vm), Ls ++ L, c0 + mc, s0 + ms⟩,
      ⟨X.admits, X.cas, X.clock, X.frames, X.room, X.hears, X.method, X.code, (X.here.setHeapUsed s₂.heap s₂.slotsUsed).setVm hW'.alike, X.tail, State.WarmedH.trans X.warmed hW', X.limits, X.bytes, X.same.trans (hsame.setVm s.vm)⟩,
      ⟨g, mk, s₂, L, E, ce, rfl, rfl, hx, hce, hcv, hcl, rfl, hL, rfl, rfl⟩, ?_⟩
    show Steps p.tables e below _ (((({ U with heap := s₂.heap, slotsUsed := s₂.slotsUsed } : State).setVm s₂.vm).setTop g).pushFrame (.throwing q))
    rw [← hs₂]
    exact hsteps
end Payer
section Calls
variable {p : Program} {l : Launch} {e : Env} {R : Room} {s : State} {m : MethodId} {args : Array Value} {below : List Frame} {meth : Method} {c : Code} {T : State} {locs : List Loc} {cells slots : Nat}
theorem vx_callV (X : Stand p l e R s m args below meth c T locs cells slots) (hexec : p.tables.exec = Jvm.exec) {own C : String} {index : Nat} {y : MethodName} {bytes : ByteArray} {maxL : Nat} {ret : Option FieldType}
    (hown : s.vm.findClass own = some m.cls) (hlink : (Cond.methodLink own index y).before args s = true) (hinst : (Cond.instanceMethod y).before args s = true) (hsel : (Cond.selects C y y).before args s = true)
    (hcode : (Cond.code y bytes maxL ret).before args s = true) (hy : y.cls ≠ "java/lang/invoke/MethodHandle" ∧ y.cls ≠ "java/lang/invoke/VarHandle")
    {W9 : Nat} {Pre : Pt → Array Value → Prop} {Post : Pt → Array Value → Option Value → Pt → Prop} {PostX : Pt → Array Value → Addr → Pt → Prop} (hK : vx_Back l R p e below s args y 3 W9 Pre Post PostX)
    {b : Addr} {cellB : Cell} (hcell : T.heap[b]? = some cellB) (hobj : cellB.vm.isStatics = false) (hcls : s.vm.findClass C = some cellB.cls)
    {g : JFrame} (hg : g.method = m) (hsize : g.locals.size = c.maxLocals) {argsL rest : List Value} (hlen : ∀ sig, parseMethodDescriptor y.desc = some sig → argsL.length = sig.parameters.length)
    (hstack : g.stack = argsL.reverse ++ .ref b :: rest) (hW : 2 * g.monitorRoom + (rest.map fun v => v.category).sum ≤ W9) (hdg : decode c.code g.pc = .ok (.invokevirtual index, 3))
    (hpre : ∀ vm₁, s.WarmedH vm₁ → Pre ⟨T.setVm vm₁, locs, cells, slots⟩ (Value.ref b :: argsL).toArray) :
    (∃ (v : Option Value) (vm₁ : Vm) (B : Pt), s.WarmedH vm₁ ∧ Stand p l e R s m args below meth c B.U B.locs B.cells B.slots ∧ Post ⟨T.setVm vm₁, locs, cells, slots⟩ (Value.ref b :: argsL).toArray v B ∧
      ∀ target, Steps p.tables e below (B.U.setTop { g with pc := g.pc + 3, stack := v.toList ++ rest }) target → Steps p.tables e below (T.setTop g) target) ∨
    (∃ (q : Addr) (vm₁ : Vm) (B : Pt), s.WarmedH vm₁ ∧ Stand p l e R s m args below meth c B.U B.locs B.cells B.slots ∧ PostX ⟨T.setVm vm₁, locs, cells, slots⟩ (Value.ref b :: argsL).toArray q B ∧
      Steps p.tables e below (T.setTop g) ((B.U.setTop { g with stack := rest }).pushFrame (.throwing q))) := by
  obtain ⟨mk, methM, hnamed, hmethM, hstM, habM⟩ := Cond.instanceMethod_spec hinst
  obtain ⟨methM', cM, hmethM', -, -, -, -, -, -, hsigM⟩ := Cond.code_spec hnamed hcode
  cases hmethM.symm.trans hmethM'
  obtain ⟨c2, r2, m2, q1, q2, q3, q4, kP, hkP, hkPi⟩ := Cond.selects_spec hsel
  cases hcls.symm.trans q1
  cases (State.methodFound?_of_named hnamed hy).symm.trans q2
  cases hnamed.symm.trans q3
  have hselP : selectMethod e.platform s.vm cellB.cls mk = .method mk := by rw [Launch.admits_selectMethod X.admits]; exact q4
  obtain ⟨vm₁, X₁, hstep₁⟩ := X.invokevirtual hexec hown hlink hnamed hmethM hstM hkP hkPi hy (a := b) (cell := cellB) hcell
    (fun z h => by rw [h] at hobj; cases hobj) hselP hmethM habM hkP hkPi (g := g) hg (argsL := argsL) (rest := rest) (hlen _ hsigM) hstack hdg
  rcases hK m meth c ⟨T.setVm vm₁, locs, cells, slots⟩ { g with stack := rest } (.invokevirtual index) mk (Value.ref b :: argsL).toArray X₁ hg hsize hdg hW (X₁.named hnamed) (hpre vm₁ X₁.warmed) with ⟨v, B, X', hpost, hsteps⟩ | ⟨q, B, X', hpost, hsteps⟩
  · exact Or.inl ⟨v, vm₁, B, X₁.warmed, X', hpost, fun target h => hstep₁ _ fun acts => by rw [doInvoke_state]; exact hsteps.trans h⟩
  · exact Or.inr ⟨q, vm₁, B, X₁.warmed, X', hpost, hstep₁ _ fun acts => by rw [doInvoke_state]; exact hsteps⟩
theorem vx_callS (X : Stand p l e R s m args below meth c T locs cells slots) (hexec : p.tables.exec = Jvm.exec) {own : String} {index : Nat} {y : MethodName} {bytes : ByteArray} {maxL : Nat} {ret : Option FieldType}
    (hown : s.vm.findClass own = some m.cls) (hlink : (Cond.methodLink own index y).before args s = true) (hstat : (Cond.static y).before args s = true) (hinit : (Cond.initialized y.cls).before args s = true)
    (hcode : (Cond.code y bytes maxL ret).before args s = true) (hy : y.cls ≠ "java/lang/invoke/MethodHandle" ∧ y.cls ≠ "java/lang/invoke/VarHandle")
    {W9 : Nat} {Pre : Pt → Array Value → Prop} {Post : Pt → Array Value → Option Value → Pt → Prop} {PostX : Pt → Array Value → Addr → Pt → Prop} (hK : vx_Back l R p e below s args y 3 W9 Pre Post PostX)
    {g : JFrame} (hg : g.method = m) (hsize : g.locals.size = c.maxLocals) {argsL rest : List Value} (hlen : ∀ sig, parseMethodDescriptor y.desc = some sig → argsL.length = sig.parameters.length)
    (hstack : g.stack = argsL.reverse ++ rest) (hW : 2 * g.monitorRoom + (rest.map fun v => v.category).sum ≤ W9) (hdg : decode c.code g.pc = .ok (.invokestatic index, 3))
    (hpre : ∀ vm₁, s.WarmedH vm₁ → Pre ⟨T.setVm vm₁, locs, cells, slots⟩ argsL.toArray) :
    (∃ (v : Option Value) (vm₁ : Vm) (B : Pt), s.WarmedH vm₁ ∧ Stand p l e R s m args below meth c B.U B.locs B.cells B.slots ∧ Post ⟨T.setVm vm₁, locs, cells, slots⟩ argsL.toArray v B ∧
      ∀ target, Steps p.tables e below (B.U.setTop { g with pc := g.pc + 3, stack := v.toList ++ rest }) target → Steps p.tables e below (T.setTop g) target) ∨
    (∃ (q : Addr) (vm₁ : Vm) (B : Pt), s.WarmedH vm₁ ∧ Stand p l e R s m args below meth c B.U B.locs B.cells B.slots ∧ PostX ⟨T.setVm vm₁, locs, cells, slots⟩ argsL.toArray q B ∧
      Steps p.tables e below (T.setTop g) ((B.U.setTop { g with stack := rest }).pushFrame (.throwing q))) := by
  obtain ⟨mk, hnamed⟩ := Cond.code_named hcode
  obtain ⟨methM, cM, hmethM, -, -, -, -, -, -, hsigM⟩ := Cond.code_spec hnamed hcode
  have hstatic : methM.isStatic = true := Cond.static_spec hnamed hmethM hstat
  obtain ⟨kP, hkP, -⟩ := className_of_methodNamed hnamed
  have hinitP : kP.init = .initialized := Cond.initialized_spec (findClass_of_methodNamed hnamed) hkP hinit
  obtain ⟨vm₁, X₁, hstep₁⟩ := X.invokestatic hexec hown hlink hnamed hmethM hstatic hkP hinitP hy (g := g) hg (argsL := argsL) (rest := rest) (hlen _ hsigM) hstack hdg
  rcases hK m meth c ⟨T.setVm vm₁, locs, cells, slots⟩ { g with stack := rest } (.invokestatic index) mk argsL.toArray X₁ hg hsize hdg hW (X₁.named hnamed) (hpre vm₁ X₁.warmed) with ⟨v, B, X', hpost, hsteps⟩ | ⟨q, B, X', hpost, hsteps⟩
  · exact Or.inl ⟨v, vm₁, B, X₁.warmed, X', hpost, fun target h => hstep₁ _ fun acts => by rw [doInvoke_state]; exact hsteps.trans h⟩
  · exact Or.inr ⟨q, vm₁, B, X₁.warmed, X', hpost, hstep₁ _ fun acts => by rw [doInvoke_state]; exact hsteps⟩
end Calls
theorem vx_cls {s : State} {T : State} {vm₁ : Vm} {E : String} {k : ClassId} (hW : s.WarmedH vm₁) (h : (T.setVm vm₁).vm.findClass E = some k) : s.vm.findClass E = some k := by
  have h1 : vm₁.findClass E = some k := h
  rw [hW.alike.findClass] at h1
  exact h1
/-- the method's frame g, with q thrown over it -/
def vx_W (p : Program) (l : Launch) (e : Env) (R : Room) (s : State) (m : MethodId) (args : Array Value) (below : List Frame) (meth : Method) (c : Code) (H : Heap) (locs : List Loc) (cells slots : Nat) (Q : State → Prop) (g : JFrame) (q : Addr) : Prop :=
  ∀ T : State, T.heap = H → Stand p l e R s m args below meth c T locs cells slots → ∃ t, Steps p.tables e below ((T.setTop g).pushFrame (.throwing q)) t ∧ Q t
def vx_Run (p : Program) (l : Launch) (e : Env) (R : Room) (s : State) (m : MethodId) (args : Array Value) (below : List Frame) (meth : Method) (c : Code) (H : Heap) (locs : List Loc) (cells slots mc ms : Nat) (g : JFrame) (rest : List Value) (Qa : State → Outcome → State → Prop) (XC : String → State → State → Prop) (free : Addr → Prop) : Prop :=
  ∀ T : State, T.heap = H → Stand p l e R s m args below meth c T locs cells slots →
    (∃ (v : Option Value) (st₀ t T' : State) (L : List Loc), st₀.heap = H ∧ Stand p l e R s m args below meth c T' (locs ++ L) (cells + mc) (slots + ms) ∧ (∀ q ∈ L, free q.base) ∧ T'.heap = t.heap ∧ T'.vm = t.vm ∧ Qa st₀ (.returned v) t ∧
      Goes p e below T g T' { g with pc := g.pc + 3, stack := v.toList ++ rest }) ∨
    (∃ (q : Addr) (st₀ t T' : State) (L : List Loc) (E : String) (ce : Cell), st₀.heap = H ∧ Stand p l e R s m args below meth c T' (locs ++ L) (cells + mc) (slots + ms) ∧ (∀ z ∈ L, free z.base) ∧ T'.heap = t.heap ∧ T'.vm = t.vm ∧ XC E st₀ t ∧ t.heap[q]? = some ce ∧ ce.vm = .none ∧ s.vm.findClass E = some ce.cls ∧
      Steps p.tables e below (T.setTop g) ((T'.setTop { g with stack := rest }).pushFrame (.throwing q)))
def vx_X {S : Type} (px : S → Prop) (B : String → S → State → Prop) (A : Nat → Prop) : String → State → State → Prop := fun E st t => ∃ u : S, px u ∧ B E u t ∧ va_F A st t
section Runs
variable {p : Program} {l : Launch} {e : Env} {R : Room} {s : State} {m : MethodId} {args : Array Value} {below : List Frame} {meth : Method} {c : Code} {H : Heap} {locs : List Loc} {cells slots : Nat}
variable {y : MethodName} {bytes cc : ByteArray} {maxL nL mc ms n index : Nat} {ret : Option FieldType} {ws : List Cond} {rm : Room} {Pc : Array Value → State → Prop} {Qc : Array Value → State → Outcome → State → Prop} {XC : String → State → State → Prop} {free : Addr → Prop} {Ts : List Cond} {own C : String} {b : Addr} {As rest : List Value} {g : JFrame}
theorem vx_callBack (cb : CallB R s args own index y bytes maxL ret ws rm mc ms n) (hM : vx_Met l y ws rm Pc Qc XC mc ms free) (hbl : FrameBlind Pc) : vx_Back l R p e below s args y 3 8 (PreOf R mc ms Pc) (PostOf Qc mc ms free) (vx_Post XC mc ms free) := by
  obtain ⟨hrc, hrs, hfr, hlo, hws, hcw, -, hini, -⟩ := cb
  exact vx_back (bytes := bytes) (maxL := maxL) (ret := ret) hM hbl hrc hrs hfr hlo hws hcw (fun a' U hW => word_at hW (Or.inl (by first | rfl | simp [Cond.onTables, Cond.keeps, Cond.steady])) hini)
theorem vx_runV (S : CallFix p m c cc nL s args Ts own) (hM : vx_Met l y ws rm Pc Qc XC mc ms free) (cw : CallW R s args own C index y bytes maxL ret ws rm mc ms n) (hp : PreV s H C b Pc As)
    (hg : g.method = m) (hn : As.length = n) (hsize : g.locals.size = nL) (hstack : g.stack = As.reverse ++ .ref b :: rest) (hW : 2 * g.monitorRoom + (rest.map fun v => v.category).sum ≤ 8) (hdg : decode cc g.pc = .ok (.invokevirtual index, 3)) (hf : cells + mc ≤ R.cells ∧ slots + ms ≤ R.slots) :
    vx_Run p l e R s m args below meth c H locs cells slots mc ms g rest (Qc (Value.ref b :: As).toArray) XC free := by
  have hK : vx_Back l R p e below s args y 3 8 (PreOf R mc ms Pc) (PostOf Qc mc ms free) (vx_Post XC mc ms free) := vx_callBack cw.1 hM hp.1
  obtain ⟨⟨-, -, -, -, -, -, hcode, -, hy, hlen, hl⟩, hin, hse⟩ := cw
  obtain ⟨hx, hb, hml, ho, -⟩ := S
  obtain ⟨-, ⟨cellB, hcB, hoB, hclB⟩, hPc⟩ := hp
  intro T hT X
  rcases vx_callV X hx (C := C) (bytes := bytes) (maxL := maxL) (ret := ret) ho hl hin hse hcode hy hK (by rw [hT]; exact hcB) hoB hclB hg (hsize.trans hml.symm) (argsL := As) (rest := rest) (fun sig h => hn.trans (hlen sig h)) hstack hW (by rw [hb]; exact hdg)
    (fun vm₁ hW₁ => ⟨hf.1, hf.2, hPc (T.setVm vm₁) hT hW₁⟩) with ⟨v, vm₁, ⟨U', l2, c2, s2⟩, hW₁, X', ⟨g', mk, t, L, e1, e2, hq, h1, hL, h2, h3⟩, st⟩ | ⟨q, vm₁, ⟨U', l2, c2, s2⟩, hW₁, X', ⟨g', mk, t, L, E, ce, e1, e2, hq, hce, hcv, hcl, h1, hL, h2, h3⟩, st⟩
  · dsimp only [Pt.U, Pt.locs, Pt.cells, Pt.slots] at X' e1 e2 h1 h2 h3 st
    subst h1; subst h2; subst h3
    exact Or.inl ⟨v, (T.setVm vm₁).calling g' mk (Value.ref b :: As).toArray, t, U', L, hT, X', hL, e1, e2, hq, st⟩
  · dsimp only [Pt.U, Pt.locs, Pt.cells, Pt.slots] at X' e1 e2 h1 h2 h3 st hcl
    subst h1; subst h2; subst h3
    exact Or.inr ⟨q, (T.setVm vm₁).calling g' mk (Value.ref b :: As).toArray, t, U', L, E, ce, hT, X', hL, e1, e2, hq, hce, hcv, vx_cls hW₁ hcl, st⟩
theorem vx_runS (S : CallFix p m c cc nL s args Ts own) (hM : vx_Met l y ws rm Pc Qc XC mc ms free) (cw : CallB R s args own index y bytes maxL ret ws rm mc ms n ∧ (Cond.static y).before args s = true) (hp : PreS s H Pc As)
    (hg : g.method = m) (hn : As.length = n) (hsize : g.locals.size = nL) (hstack : g.stack = As.reverse ++ rest) (hW : 2 * g.monitorRoom + (rest.map fun v => v.category).sum ≤ 8) (hdg : decode cc g.pc = .ok (.invokestatic index, 3)) (hf : cells + mc ≤ R.cells ∧ slots + ms ≤ R.slots) :
    vx_Run p l e R s m args below meth c H locs cells slots mc ms g rest (Qc As.toArray) XC free := by
  have hK : vx_Back l R p e below s args y 3 8 (PreOf R mc ms Pc) (PostOf Qc mc ms free) (vx_Post XC mc ms free) := vx_callBack cw.1 hM hp.1
  obtain ⟨⟨-, -, -, -, -, -, hcode, hini, hy, hlen, hl⟩, hstt⟩ := cw
  obtain ⟨hx, hb, hml, ho, -⟩ := S
  intro T hT X
  rcases vx_callS X hx (bytes := bytes) (maxL := maxL) (ret := ret) ho hl hstt hini hcode hy hK hg (hsize.trans hml.symm) (argsL := As) (rest := rest) (fun sig h => hn.trans (hlen sig h)) hstack hW (by rw [hb]; exact hdg)
    (fun vm₁ hW₁ => ⟨hf.1, hf.2, hp.2 (T.setVm vm₁) hT hW₁⟩) with ⟨v, vm₁, ⟨U', l2, c2, s2⟩, hW₁, X', ⟨g', mk, t, L, e1, e2, hq, h1, hL, h2, h3⟩, st⟩ | ⟨q, vm₁, ⟨U', l2, c2, s2⟩, hW₁, X', ⟨g', mk, t, L, E, ce, e1, e2, hq, hce, hcv, hcl, h1, hL, h2, h3⟩, st⟩
  · dsimp only [Pt.U, Pt.locs, Pt.cells, Pt.slots] at X' e1 e2 h1 h2 h3 st
    subst h1; subst h2; subst h3
    exact Or.inl ⟨v, (T.setVm vm₁).calling g' mk As.toArray, t, U', L, hT, X', hL, e1, e2, hq, st⟩
  · dsimp only [Pt.U, Pt.locs, Pt.cells, Pt.slots] at X' e1 e2 h1 h2 h3 st hcl
    subst h1; subst h2; subst h3
    exact Or.inr ⟨q, (T.setVm vm₁).calling g' mk As.toArray, t, U', L, E, ce, hT, X', hL, e1, e2, hq, hce, hcv, vx_cls hW₁ hcl, st⟩
end Runs
section Rows
variable {p : Program} {l : Launch} {e : Env} {R : Room} {s : State} {m : MethodId} {args : Array Value} {below : List Frame} {meth : Method} {c : Code} {H : Heap} {locs : List Loc} {cells slots : Nat} {Q : State → Prop}
variable {mc ms : Nat} {free : Addr → Prop} {A0 A1 : Nat → Prop} {H0 : Heap} {a : Array Value} {pc : Nat} {ls : Array Slot} {st0 rest : List Value}
theorem vx_keep {st₀ t T' : State} {L : List Loc} (h0 : st₀.heap = H) (e1 : T'.heap = t.heap) (hS : va_S A0 H0 H locs) (hA : ∀ q, q < H.size → A1 q → A0 q) (hf : ∀ q, free q → A0 q) (hL : ∀ q ∈ L, free q.base) (hF : va_F A1 st₀ t) :
    H.size ≤ T'.heap.size ∧ (∀ q : Nat, q < H.size → ¬ A1 q → T'.heap[q]? = H[q]?) ∧ va_S A0 H0 T'.heap (locs ++ L) := by
  obtain ⟨hz, hk⟩ := hF
  rw [h0] at hz hk
  exact ⟨by rw [e1]; exact hz, fun q h1 h2 => by rw [e1]; exact hk q h1 h2,
    ⟨Nat.le_trans hS.1 (by rw [e1]; exact hz), fun q h1 h2 => by rw [e1, hk q (Nat.lt_of_lt_of_le h1 hS.1) (fun z => h2 (hA q (Nat.lt_of_lt_of_le h1 hS.1) z))]; exact hS.2.1 q h1 h2, fun q hq => by
      rcases List.mem_append.mp hq with h | h
      · exact hS.2.2 q h
      · exact hf _ (hL q h)⟩⟩
theorem vx_calli {S SX : Type} {post : Int32 → S → Prop} {px : SX → Prop} {B : S → State → Prop} {BX : String → SX → State → Prop} {AX : Nat → Prop} (hr : vx_Run p l e R s m args below meth c H locs cells slots mc ms (F0 m pc ls st0) rest (va_Qi post B A1 a) (vx_X px BX AX) free) (hS : va_S A0 H0 H locs) (hA : ∀ q, q < H.size → A1 q → A0 q) (hf : ∀ q, free q → A0 q) (hAX : ∀ q, q < H.size → AX q → A0 q)
    (kx : ∀ (E : String) (ce : Cell) (q9 : Addr) (u : SX) (t : State) (H1 : Heap) (locs1 : List Loc), t.heap = H1 → s.vm.Alike t.vm → px u → BX E u t → H.size ≤ H1.size → (∀ q : Nat, q < H.size → ¬ AX q → H1[q]? = H[q]?) → va_S A0 H0 H1 locs1 → H1[q9]? = some ce → ce.vm = .none → s.vm.findClass E = some ce.cls → vx_W p l e R s m args below meth c H1 locs1 (cells + mc) (slots + ms) Q (F0 m pc ls rest) q9)
    (kk : ∀ (r : Int32) (u : S) (t : State) (H1 : Heap) (locs1 : List Loc), t.heap = H1 → s.vm.Alike t.vm → post r u → B u t → H.size ≤ H1.size → (∀ q : Nat, q < H.size → ¬ A1 q → H1[q]? = H[q]?) → va_S A0 H0 H1 locs1 → W p l e R s m args below meth c H1 locs1 (cells + mc) (slots + ms) Q (F0 m (pc + 3) ls (.int r :: rest))) : W p l e R s m args below meth c H locs cells slots Q (F0 m pc ls st0) := by
  intro T hT X
  rcases hr T hT X with ⟨v, st₀, t, T', L, h0, X', hL, e1, e2, ⟨⟨r, u, hv, hp, hb⟩, hF⟩, st⟩ | ⟨q, st₀, t, T', L, E, ce, h0, X', hL, e1, e2, ⟨u, hp, hb, hF⟩, hce, hcv, hcl, st⟩
  · cases hv
    obtain ⟨k1, k2, k3⟩ := vx_keep h0 e1 hS hA hf hL hF
    obtain ⟨t2, a1, b1⟩ := kk r u t T'.heap (locs ++ L) e1.symm (by rw [← e2]; exact X'.warmed.alike) hp hb k1 k2 k3 T' rfl X'
    exact ⟨t2, st t2 a1, b1⟩
  · obtain ⟨k1, k2, k3⟩ := vx_keep h0 e1 hS hAX hf hL hF
    obtain ⟨t2, a1, b1⟩ := kx E ce q u t T'.heap (locs ++ L) e1.symm (by rw [← e2]; exact X'.warmed.alike) hp hb k1 k2 k3 (by rw [e1]; exact hce) hcv hcl T' rfl X'
    exact ⟨t2, st.trans a1, b1⟩
theorem vx_calll {S SX : Type} {post : Int64 → S → Prop} {px : SX → Prop} {B : S → State → Prop} {BX : String → SX → State → Prop} {AX : Nat → Prop} (hr : vx_Run p l e R s m args below meth c H locs cells slots mc ms (F0 m pc ls st0) rest (va_Ql post B A1 a) (vx_X px BX AX) free) (hS : va_S A0 H0 H locs) (hA : ∀ q, q < H.size → A1 q → A0 q) (hf : ∀ q, free q → A0 q) (hAX : ∀ q, q < H.size → AX q → A0 q)
    (kx : ∀ (E : String) (ce : Cell) (q9 : Addr) (u : SX) (t : State) (H1 : Heap) (locs1 : List Loc), t.heap = H1 → s.vm.Alike t.vm → px u → BX E u t → H.size ≤ H1.size → (∀ q : Nat, q < H.size → ¬ AX q → H1[q]? = H[q]?) → va_S A0 H0 H1 locs1 → H1[q9]? = some ce → ce.vm = .none → s.vm.findClass E = some ce.cls → vx_W p l e R s m args below meth c H1 locs1 (cells + mc) (slots + ms) Q (F0 m pc ls rest) q9)
    (kk : ∀ (r : Int64) (u : S) (t : State) (H1 : Heap) (locs1 : List Loc), t.heap = H1 → s.vm.Alike t.vm → post r u → B u t → H.size ≤ H1.size → (∀ q : Nat, q < H.size → ¬ A1 q → H1[q]? = H[q]?) → va_S A0 H0 H1 locs1 → W p l e R s m args below meth c H1 locs1 (cells + mc) (slots + ms) Q (F0 m (pc + 3) ls (.long r :: rest))) : W p l e R s m args below meth c H locs cells slots Q (F0 m pc ls st0) := by
  intro T hT X
  rcases hr T hT X with ⟨v, st₀, t, T', L, h0, X', hL, e1, e2, ⟨⟨r, u, hv, hp, hb⟩, hF⟩, st⟩ | ⟨q, st₀, t, T', L, E, ce, h0, X', hL, e1, e2, ⟨u, hp, hb, hF⟩, hce, hcv, hcl, st⟩
  · cases hv
    obtain ⟨k1, k2, k3⟩ := vx_keep h0 e1 hS hA hf hL hF
    obtain ⟨t2, a1, b1⟩ := kk r u t T'.heap (locs ++ L) e1.symm (by rw [← e2]; exact X'.warmed.alike) hp hb k1 k2 k3 T' rfl X'
    exact ⟨t2, st t2 a1, b1⟩
  · obtain ⟨k1, k2, k3⟩ := vx_keep h0 e1 hS hAX hf hL hF
    obtain ⟨t2, a1, b1⟩ := kx E ce q u t T'.heap (locs ++ L) e1.symm (by rw [← e2]; exact X'.warmed.alike) hp hb k1 k2 k3 (by rw [e1]; exact hce) hcv hcl T' rfl X'
    exact ⟨t2, st.trans a1, b1⟩
theorem vx_callf {S SX : Type} {post : UInt32 → S → Prop} {px : SX → Prop} {B : S → State → Prop} {BX : String → SX → State → Prop} {AX : Nat → Prop} (hr : vx_Run p l e R s m args below meth c H locs cells slots mc ms (F0 m pc ls st0) rest (va_Qf post B A1 a) (vx_X px BX AX) free) (hS : va_S A0 H0 H locs) (hA : ∀ q, q < H.size → A1 q → A0 q) (hf : ∀ q, free q → A0 q) (hAX : ∀ q, q < H.size → AX q → A0 q)
    (kx : ∀ (E : String) (ce : Cell) (q9 : Addr) (u : SX) (t : State) (H1 : Heap) (locs1 : List Loc), t.heap = H1 → s.vm.Alike t.vm → px u → BX E u t → H.size ≤ H1.size → (∀ q : Nat, q < H.size → ¬ AX q → H1[q]? = H[q]?) → va_S A0 H0 H1 locs1 → H1[q9]? = some ce → ce.vm = .none → s.vm.findClass E = some ce.cls → vx_W p l e R s m args below meth c H1 locs1 (cells + mc) (slots + ms) Q (F0 m pc ls rest) q9)
    (kk : ∀ (r : UInt32) (u : S) (t : State) (H1 : Heap) (locs1 : List Loc), t.heap = H1 → s.vm.Alike t.vm → post r u → B u t → H.size ≤ H1.size → (∀ q : Nat, q < H.size → ¬ A1 q → H1[q]? = H[q]?) → va_S A0 H0 H1 locs1 → W p l e R s m args below meth c H1 locs1 (cells + mc) (slots + ms) Q (F0 m (pc + 3) ls (.float r :: rest))) : W p l e R s m args below meth c H locs cells slots Q (F0 m pc ls st0) := by
  intro T hT X
  rcases hr T hT X with ⟨v, st₀, t, T', L, h0, X', hL, e1, e2, ⟨⟨r, u, hv, hp, hb⟩, hF⟩, st⟩ | ⟨q, st₀, t, T', L, E, ce, h0, X', hL, e1, e2, ⟨u, hp, hb, hF⟩, hce, hcv, hcl, st⟩
  · cases hv
    obtain ⟨k1, k2, k3⟩ := vx_keep h0 e1 hS hA hf hL hF
    obtain ⟨t2, a1, b1⟩ := kk r u t T'.heap (locs ++ L) e1.symm (by rw [← e2]; exact X'.warmed.alike) hp hb k1 k2 k3 T' rfl X'
    exact ⟨t2, st t2 a1, b1⟩
  · obtain ⟨k1, k2, k3⟩ := vx_keep h0 e1 hS hAX hf hL hF
    obtain ⟨t2, a1, b1⟩ := kx E ce q u t T'.heap (locs ++ L) e1.symm (by rw [← e2]; exact X'.warmed.alike) hp hb k1 k2 k3 (by rw [e1]; exact hce) hcv hcl T' rfl X'
    exact ⟨t2, st.trans a1, b1⟩
theorem vx_calld {S SX : Type} {post : UInt64 → S → Prop} {px : SX → Prop} {B : S → State → Prop} {BX : String → SX → State → Prop} {AX : Nat → Prop} (hr : vx_Run p l e R s m args below meth c H locs cells slots mc ms (F0 m pc ls st0) rest (va_Qd post B A1 a) (vx_X px BX AX) free) (hS : va_S A0 H0 H locs) (hA : ∀ q, q < H.size → A1 q → A0 q) (hf : ∀ q, free q → A0 q) (hAX : ∀ q, q < H.size → AX q → A0 q)
    (kx : ∀ (E : String) (ce : Cell) (q9 : Addr) (u : SX) (t : State) (H1 : Heap) (locs1 : List Loc), t.heap = H1 → s.vm.Alike t.vm → px u → BX E u t → H.size ≤ H1.size → (∀ q : Nat, q < H.size → ¬ AX q → H1[q]? = H[q]?) → va_S A0 H0 H1 locs1 → H1[q9]? = some ce → ce.vm = .none → s.vm.findClass E = some ce.cls → vx_W p l e R s m args below meth c H1 locs1 (cells + mc) (slots + ms) Q (F0 m pc ls rest) q9)
    (kk : ∀ (r : UInt64) (u : S) (t : State) (H1 : Heap) (locs1 : List Loc), t.heap = H1 → s.vm.Alike t.vm → post r u → B u t → H.size ≤ H1.size → (∀ q : Nat, q < H.size → ¬ A1 q → H1[q]? = H[q]?) → va_S A0 H0 H1 locs1 → W p l e R s m args below meth c H1 locs1 (cells + mc) (slots + ms) Q (F0 m (pc + 3) ls (.double r :: rest))) : W p l e R s m args below meth c H locs cells slots Q (F0 m pc ls st0) := by
  intro T hT X
  rcases hr T hT X with ⟨v, st₀, t, T', L, h0, X', hL, e1, e2, ⟨⟨r, u, hv, hp, hb⟩, hF⟩, st⟩ | ⟨q, st₀, t, T', L, E, ce, h0, X', hL, e1, e2, ⟨u, hp, hb, hF⟩, hce, hcv, hcl, st⟩
  · cases hv
    obtain ⟨k1, k2, k3⟩ := vx_keep h0 e1 hS hA hf hL hF
    obtain ⟨t2, a1, b1⟩ := kk r u t T'.heap (locs ++ L) e1.symm (by rw [← e2]; exact X'.warmed.alike) hp hb k1 k2 k3 T' rfl X'
    exact ⟨t2, st t2 a1, b1⟩
  · obtain ⟨k1, k2, k3⟩ := vx_keep h0 e1 hS hAX hf hL hF
    obtain ⟨t2, a1, b1⟩ := kx E ce q u t T'.heap (locs ++ L) e1.symm (by rw [← e2]; exact X'.warmed.alike) hp hb k1 k2 k3 (by rw [e1]; exact hce) hcv hcl T' rfl X'
    exact ⟨t2, st.trans a1, b1⟩
theorem vx_callv {S SX : Type} {post : S → Prop} {px : SX → Prop} {B : S → State → Prop} {BX : String → SX → State → Prop} {AX : Nat → Prop} (hr : vx_Run p l e R s m args below meth c H locs cells slots mc ms (F0 m pc ls st0) rest (va_Qv post B A1 a) (vx_X px BX AX) free) (hS : va_S A0 H0 H locs) (hA : ∀ q, q < H.size → A1 q → A0 q) (hf : ∀ q, free q → A0 q) (hAX : ∀ q, q < H.size → AX q → A0 q)
    (kx : ∀ (E : String) (ce : Cell) (q9 : Addr) (u : SX) (t : State) (H1 : Heap) (locs1 : List Loc), t.heap = H1 → s.vm.Alike t.vm → px u → BX E u t → H.size ≤ H1.size → (∀ q : Nat, q < H.size → ¬ AX q → H1[q]? = H[q]?) → va_S A0 H0 H1 locs1 → H1[q9]? = some ce → ce.vm = .none → s.vm.findClass E = some ce.cls → vx_W p l e R s m args below meth c H1 locs1 (cells + mc) (slots + ms) Q (F0 m pc ls rest) q9)
    (kk : ∀ (u : S) (t : State) (H1 : Heap) (locs1 : List Loc), t.heap = H1 → s.vm.Alike t.vm → post u → B u t → H.size ≤ H1.size → (∀ q : Nat, q < H.size → ¬ A1 q → H1[q]? = H[q]?) → va_S A0 H0 H1 locs1 → W p l e R s m args below meth c H1 locs1 (cells + mc) (slots + ms) Q (F0 m (pc + 3) ls (rest))) : W p l e R s m args below meth c H locs cells slots Q (F0 m pc ls st0) := by
  intro T hT X
  rcases hr T hT X with ⟨v, st₀, t, T', L, h0, X', hL, e1, e2, ⟨⟨u, hv, hp, hb⟩, hF⟩, st⟩ | ⟨q, st₀, t, T', L, E, ce, h0, X', hL, e1, e2, ⟨u, hp, hb, hF⟩, hce, hcv, hcl, st⟩
  · cases hv
    obtain ⟨k1, k2, k3⟩ := vx_keep h0 e1 hS hA hf hL hF
    obtain ⟨t2, a1, b1⟩ := kk u t T'.heap (locs ++ L) e1.symm (by rw [← e2]; exact X'.warmed.alike) hp hb k1 k2 k3 T' rfl X'
    exact ⟨t2, st t2 a1, b1⟩
  · obtain ⟨k1, k2, k3⟩ := vx_keep h0 e1 hS hAX hf hL hF
    obtain ⟨t2, a1, b1⟩ := kx E ce q u t T'.heap (locs ++ L) e1.symm (by rw [← e2]; exact X'.warmed.alike) hp hb k1 k2 k3 (by rw [e1]; exact hce) hcv hcl T' rfl X'
    exact ⟨t2, st.trans a1, b1⟩
/-- caught by the row x of this method's table; the rows ahead don't take it -/
theorem vx_catch {own name : String} {E : String} {ce : Cell} {q : Addr} (hown : s.vm.findClass own = some m.cls) (pre : List ExceptionTableEntry) (x : ExceptionTableEntry) (suf : List ExceptionTableEntry) (hsplit : c.exceptionTable.toList = pre ++ x :: suf)
    (hpass : ∀ z ∈ pre, covers z pc = false ∨ (z.catchType ≠ 0 ∧ ∃ nm : String, (Cond.classLink own z.catchType nm).before args s = true ∧ va_Nc E nm s)) (hx : covers x pc = true) (h0 : x.catchType ≠ 0)
    (hlink : (Cond.classLink own x.catchType name).before args s = true) (hcast : (Cond.castable E name).before args s = true) (hcell : H[q]? = some ce) (hv : ce.vm = .none) (hcl : s.vm.findClass E = some ce.cls)
    (kk : W p l e R s m args below meth c H locs cells slots Q (F0 m x.handlerPc ls [.ref q])) : vx_W p l e R s m args below meth c H locs cells slots Q (F0 m pc ls rest) q := by
  intro T hT X
  have hpl : e.platform.magicAccessors = ({} : Platform).magicAccessors := by rw [X.admits.platform]
  obtain ⟨c3, c4, hc3, hc4, hasg⟩ := Cond.castable_spec hcast
  cases Option.some.inj (hc3.symm.trans hcl)
  obtain ⟨c5, hc5, hcl5⟩ := Cond.classLink_spec hown hlink e.platform hpl
  cases Option.some.inj (hc4.symm.trans hc5)
  obtain ⟨vm', X', st⟩ := X.thenCaughtThrough q (g := F0 m pc ls rest) rfl (Steps.refl _) (by rw [hT]; exact hcell) (by rw [hv]; rfl) (by obtain ⟨k9, h9, -⟩ := Vm.findClass_spec hcl; exact ⟨k9, h9⟩) pre x suf hsplit
    (fun z hz => by
      rcases hpass z hz with h | ⟨hz0, nm, hl1, hn1⟩
      · exact Or.inl h
      · obtain ⟨c6, hc6, hcl6⟩ := Cond.classLink_spec hown hl1 e.platform hpl
        obtain ⟨a8, b8, h1, h2, h3⟩ := hn1
        cases Option.some.inj (h1.symm.trans hcl)
        cases Option.some.inj (h2.symm.trans hc6)
        exact Or.inr ⟨hz0, _, hcl6, h3⟩) hx (Or.inr ⟨h0, c4, hcl5, hasg⟩)
  obtain ⟨t, a1, b1⟩ := kk (T.setVm vm') hT X'
  exact ⟨t, st.trans a1, b1⟩
end Rows
section Ends
variable {p : Program} {l : Launch} {e : Env} {R : Room} {s : State} {m : MethodId} {args : Array Value} {below : List Frame} {meth : Method} {c : Code} {H : Heap} {locs : List Loc} {cells slots : Nat} {Q : State → Prop}
variable {mc ms : Nat} {free : Addr → Prop} {A0 A1 : Nat → Prop} {H0 : Heap} {a : Array Value} {ls : Array Slot} {st0 rest : List Value}
variable {Qc : Array Value → State → Outcome → State → Prop} {XC : String → State → State → Prop}
/-- what a body that may throw owes at its end -/
def vx_MQ (below : List Frame) (Qc : Array Value → State → Outcome → State → Prop) (XC : String → State → State → Prop) (a : Array Value) (s : State) (mc ms : Nat) (free : Addr → Prop) : State → Prop := fun t =>
  ∃ o, t.status = .running ∧ Ended t below o ∧ vx_Q Qc XC mc ms free a s o t
theorem vx_ret {g : JFrame} {mc ms : Nat} (k : W p l e R s m args below meth c H locs cells slots (MQ below Qc args s mc ms free) g) : W p l e R s m args below meth c H locs cells slots (vx_MQ below Qc XC args s mc ms free) g := by
  intro T hT X
  obtain ⟨t, a1, o, b1, b2, b3, b4⟩ := k T hT X
  exact ⟨t, a1, o, b1, b2, Or.inl ⟨b3, b4⟩⟩
/-- not caught here: it goes on to the caller -/
theorem vx_widen {g : JFrame} {q : Addr} {k n : Nat} (h1 : cells ≤ k) (h2 : slots ≤ n) (kk : vx_W p l e R s m args below meth c H locs k n Q g q) : vx_W p l e R s m args below meth c H locs cells slots Q g q := fun T hT X => kk T hT (stand_widen X h1 h2)
theorem vx_out {pc : Nat} {E : String} {ce : Cell} {q : Addr} {mc ms : Nat} (hout : ∀ x ∈ c.exceptionTable.toList, covers x pc = false) (hlocks : meth.locks = false) (hcell : H[q]? = some ce) (hv : ce.vm = .none) (hcl : s.vm.findClass E = some ce.cls)
    (hx : ∀ t : State, t.heap = H → s.vm.Alike t.vm → XC E s t) (hf : ∀ z ∈ locs, free z.base) (hc : cells ≤ mc) (hs : slots ≤ ms) :
    vx_W p l e R s m args below meth c H locs cells slots (vx_MQ below Qc XC args s mc ms free) (F0 m pc ls rest) q := by
  intro T hT X
  obtain ⟨st1, hrun, hend, hW, hsm⟩ := X.leaveThrown q (g := F0 m pc ls rest) rfl rfl rfl hout hlocks
  have hcell9 : (T.setFrames (.throwing q :: below)).heap[q]? = some ce := by
    show T.heap[q]? = some ce
    rw [hT]; exact hcell
  exact ⟨_, st1, .threw q, hrun, hend, Or.inr ⟨q, rfl, E, ce, locs, hx _ hT hW.alike, hcell9, hv, hcl, hW, hsm.mono hc hs, hf⟩⟩
theorem vx_frame {U : State} {k n : Nat} (h : s.sameButNew ({ U with vm := s.vm } : State) locs k n) : s.heap.size ≤ U.heap.size ∧ ∀ q : Nat, q < s.heap.size → (∀ z ∈ locs, z.base ≠ q) → U.heap[q]? = s.heap[q]? := by
  obtain ⟨-, h2, -, -, -, h6⟩ := h
  refine ⟨h2, fun q hq hz => ?_⟩
  obtain ⟨c9, e1, e2, e3, e4⟩ := h6 q _ (Array.getElem?_eq_getElem hq)
  have hs : c9.slots = (s.heap[q]).slots := Array.ext_getElem? fun i => e4 i fun hm => hz _ hm rfl
  have h9 : c9 = s.heap[q] := by
    rw [hs] at e2
    exact e2
  have e5 : U.heap[q]? = some c9 := e1
  rw [e5, h9, Array.getElem?_eq_getElem hq]
/-- the words of a throw but the four that speak of the heap -/
def vx_no (w : Cond) : Bool := decide (w ≠ .isRef (.static Bundle.tN "UNASSIGNED_STACK" Bundle.steD)) && decide (w ≠ .isRef (.static Bundle.tN "SUPPRESSED_SENTINEL" Bundle.listD)) && decide (w ≠ .laysStatic Bundle.tN "UNASSIGNED_STACK" Bundle.steD) && decide (w ≠ .laysStatic Bundle.tN "SUPPRESSED_SENTINEL" Bundle.listD)
def vx_at0 (own : String) (ic : Nat) (X : String) (names : List String) : List Cond := (Bundle.ownAtoms0 own ic X names).filter vx_no
def vx_atS (own : String) (ic : Nat) (X : String) (names : List String) : List Cond := (Bundle.ownAtoms own ic X names).filter vx_no
/-- a word that the tables alone decide, or a good one -/
def vx_ot (w : Cond) : Bool := w.onTables || goodWord w
theorem vx_ot_at {args a' : Array Value} {s U : State} {w : Cond} (hW : s.WarmedH U.vm) (hvm : s.vm = U.vm) (hg : vx_ot w = true) (h : w.before args s = true) : w.before a' U = true := by
  simp only [vx_ot, Bool.or_eq_true] at hg
  rcases hg with hg | hg
  · exact va_tabs hg hvm h
  · exact word_at hW (good_of_word hg) h
/-- a list's words: the good ones out of the method's own list, the others by premises of their own -/
theorem vx_hat {args : Array Value} {s : State} {L B : List Cond} (h1 : ∀ w ∈ L.filter goodWord, w.before args s = true) (h2 : ∀ w ∈ L.filter (fun w => !goodWord w), w ∈ B) (h3 : ∀ w ∈ B, w.before args s = true) : ∀ w ∈ L, w.before args s = true := by
  intro w hw
  by_cases g : goodWord w = true
  · exact h1 w (List.mem_filter.mpr ⟨hw, g⟩)
  · refine h3 w (h2 w (List.mem_filter.mpr ⟨hw, ?_⟩))
    show (!goodWord w) = true
    cases hgw : goodWord w
    · rfl
    · exact absurd hgw g
theorem vx_c {args : Array Value} {s : State} {w : Cond} {B : List Cond} (h : w.before args s = true) (t : ∀ w ∈ B, w.before args s = true) : ∀ w' ∈ w :: B, w'.before args s = true := fun w' h' => (List.mem_cons.mp h').elim (fun e => by rw [e]; exact h) (t w')
theorem vx_n {args : Array Value} {s : State} : ∀ w ∈ ([] : List Cond), w.before args s = true := fun _ h => nomatch h
theorem vx_own {args : Array Value} {s : State} {L : List Cond} (h1 : ∀ w ∈ L.filter vx_no, w.before args s = true)
    (hU : (Cond.isRef (.static Bundle.tN "UNASSIGNED_STACK" Bundle.steD)).before args s = true) (hN : (Cond.isRef (.static Bundle.tN "SUPPRESSED_SENTINEL" Bundle.listD)).before args s = true)
    (lU : (Cond.laysStatic Bundle.tN "UNASSIGNED_STACK" Bundle.steD).before args s = true) (lN : (Cond.laysStatic Bundle.tN "SUPPRESSED_SENTINEL" Bundle.listD).before args s = true) : ∀ w ∈ L, w.before args s = true := by
  intro w hw
  by_cases e1 : w = .isRef (.static Bundle.tN "UNASSIGNED_STACK" Bundle.steD)
  · rw [e1]; exact hU
  · by_cases e2 : w = .isRef (.static Bundle.tN "SUPPRESSED_SENTINEL" Bundle.listD)
    · rw [e2]; exact hN
    · by_cases e3 : w = .laysStatic Bundle.tN "UNASSIGNED_STACK" Bundle.steD
      · rw [e3]; exact lU
      · by_cases e4 : w = .laysStatic Bundle.tN "SUPPRESSED_SENTINEL" Bundle.listD
        · rw [e4]; exact lN
        · exact h1 w (List.mem_filter.mpr ⟨hw, by unfold vx_no; rw [decide_eq_true e1, decide_eq_true e2, decide_eq_true e3, decide_eq_true e4]; rfl⟩)
/-- where a static field lies, its class's statics cell in H -/
def vx_L (C n d : String) (A : Nat → Prop) (U : State) (H : Heap) : Prop := ∃ (c : ClassId) (k : Class) (i : Nat) (f : Field) (a : Nat) (cell : Cell), U.vm.findClass C = some c ∧ U.fieldFound? C n d = some (c, k, i, f) ∧ f.isStatic = true ∧ k.statics = some a ∧ H[a]? = some cell ∧ cell.vm.isStatics = true ∧ cell.cls = c ∧ f.slot < cell.slots.size ∧ k.staticTypes[f.slot]? = some f.type ∧ ¬ A a
theorem vx_L.moved {C n d : String} {A : Nat → Prop} {u U : State} {H : Heap} (hvm : u.vm.Alike U.vm) (h : vx_L C n d A u H) : vx_L C n d A U H := by
  obtain ⟨c, k, i, f, a, cell, h1, h2, h3, h4, h5, h6, h7, h8, h9, h10⟩ := h
  obtain ⟨k', hi', he⟩ := State.fieldFound?_setVm hvm h2
  exact ⟨c, k', i, f, a, cell, by rw [hvm.findClass]; exact h1, hi', h3, by rw [he]; exact h4, h5, h6, h7, h8, by rw [he]; exact h9, h10⟩
theorem vx_L.kept {C n d : String} {A : Nat → Prop} {U : State} {H H1 : Heap} (h : vx_L C n d A U H) (hq : ∀ a : Nat, a < H.size → ¬ A a → H1[a]? = H[a]?) : vx_L C n d A U H1 := by
  obtain ⟨c, k, i, f, a, cell, h1, h2, h3, h4, h5, h6, h7, h8, h9, h10⟩ := h
  exact ⟨c, k, i, f, a, cell, h1, h2, h3, h4, by rw [hq a (Array.getElem?_eq_some_iff.mp h5).1 h10]; exact h5, h6, h7, h8, h9, h10⟩
theorem vx_L.narrow {C n d : String} {A B : Nat → Prop} {U : State} {H : Heap} (h : vx_L C n d A U H) (hAB : ∀ q, B q → A q) : vx_L C n d B U H := by
  obtain ⟨c, k, i, f, a, cell, h1, h2, h3, h4, h5, h6, h7, h8, h9, h10⟩ := h
  exact ⟨c, k, i, f, a, cell, h1, h2, h3, h4, h5, h6, h7, h8, h9, fun z => h10 (hAB _ z)⟩
theorem vx_L.word {C n d : String} {A : Nat → Prop} {s : State} {args : Array Value} (h : vx_L C n d A s s.heap) : (Cond.laysStatic C n d).before args s = true := by
  obtain ⟨c, k, i, f, a, cell, h1, h2, h3, h4, h5, h6, h7, h8, h9, -⟩ := h
  show (Cond.laysStatic C n d).holds args s none s [] = true
  exact Cond.laysStatic_of h1 h2 h3 h4 h5 h6 h7 h8 h9
/-- .. and what it holds: null or some reference -/
def vx_Zq (C n d : String) (A : Nat → Prop) (U : State) (H : Heap) : Prop := va_Zq C n d A U H ∧ vx_L C n d A U H
theorem vx_Zq.moved {C n d : String} {A : Nat → Prop} {u U : State} {H : Heap} (hvm : u.vm.Alike U.vm) (h : vx_Zq C n d A u H) : vx_Zq C n d A U H := ⟨va_Zq.moved hvm h.1, vx_L.moved hvm h.2⟩
theorem vx_Zq.kept {C n d : String} {A : Nat → Prop} {U : State} {H H1 : Heap} (h : vx_Zq C n d A U H) (hq : ∀ a : Nat, a < H.size → ¬ A a → H1[a]? = H[a]?) : vx_Zq C n d A U H1 := ⟨va_Zq.kept h.1 hq, vx_L.kept h.2 hq⟩
theorem vx_Zq.narrow {C n d : String} {A B : Nat → Prop} {U : State} {H : Heap} (h : vx_Zq C n d A U H) (hAB : ∀ q, B q → A q) : vx_Zq C n d B U H := ⟨va_Zq.narrow h.1 hAB, vx_L.narrow h.2 hAB⟩
theorem vx_Zqof {args : Array Value} {s : State} {C n d : String} {A : Nat → Prop} (hl : (Cond.laysStatic C n d).before args s = true) (hini : (Cond.initialized C).before args s = true) (h : (Cond.isRef (.static C n d)).before args s = true) (hA : ∀ a : Nat, a < s.heap.size → ¬ A a) : vx_Zq C n d A s s.heap := by
  refine ⟨va_Zqof hl hini h hA, ?_⟩
  obtain ⟨c, k, i, f, a, cell, h1, h2, h3, h4, h5, h6, h7, h8, h9⟩ := Cond.laysStatic_spec hl
  exact ⟨c, k, i, f, a, cell, h1, h2, h3, h4, h5, h6, h7, h8, h9, hA a (Array.getElem?_eq_some_iff.mp h5).1⟩
theorem vx_isRef {C n d : String} {v : Value} {A : Nat → Prop} {s : State} {args : Array Value} (h : va_Z C n d v A s s.heap) (hv : v.isRef = true) : (Cond.isRef (.static C n d)).before args s = true := by
  obtain ⟨cf, kf, fi, f, a, cell, h1, h2, h3, h4, h5, h6, h7, -⟩ := h
  have he : (Term.static C n d).eval args s none [] s = some v := by
    simp [Term.eval, State.fieldNamed?, h1, h2, h4, h5, h6, h7]
  simp only [Cond.before, Cond.holds, Cond.value, he]
  cases v <;> simp_all [Value.isRef]
theorem vx_isRefq {C n d : String} {A : Nat → Prop} {s : State} {args : Array Value} (h : va_Zq C n d A s s.heap) : (Cond.isRef (.static C n d)).before args s = true := by
  rcases h with h | ⟨t, h⟩
  · exact vx_isRef h rfl
  · exact vx_isRef h rfl
/-- the same frame, seen from here: as if the method were called anew in this heap -/
theorem vx_rebase {T : State} (X : Stand p l e R s m args below meth c T locs cells slots) {R' : Room} (hf : R'.frames ≤ R.frames) (hl : R'.locals ≤ R.locals) (hc : cells + R'.cells ≤ R.cells) (hs : slots + R'.slots ≤ R.slots) :
    Stand p l e R' ((T.setVm s.vm).setFrames (.invoking m args :: below)) m args below meth c T [] 0 0 := by
  have htop : (T.setVm s.vm).topJava?.isSome := X.here.top
  have hF : ((T.setVm s.vm).setFrames (.invoking m args :: below)).frames = .invoking m args :: below := State.frames_setFrames _ (State.cur_lt_of_top htop)
  obtain ⟨g₀, hg0⟩ := Option.isSome_iff_exists.mp htop
  obtain ⟨r, hr⟩ := State.topJava?_eq_some.mp hg0
  have hl9 : e.platform.stackLimits (T.setVm s.vm).me = e.platform.stackLimits s.me := X.limits
  have hb9 : (T.setVm s.vm).me.stackBytes = s.me.stackBytes := X.bytes
  refine ⟨X.admits, X.cas, X.clock, hF, ?_, X.hears, X.method, X.code, X.here, X.tail, X.warmed, ?_, ?_, ?_⟩
  · have h := X.room
    have hU : ((T.setVm s.vm).setFrames (.invoking m args :: below)).localsInUse = s.localsInUse := by
      rw [State.localsInUse_invoking hF (meth := meth) (c := c) X.method X.code, State.localsInUse_invoking X.frames X.method X.code]
    simp only [State.hasRoom, Bool.and_eq_true, decide_eq_true_eq] at h ⊢
    obtain ⟨⟨⟨⟨h1, h2, h3, h4, h5, h6⟩, h7⟩, h8⟩, h9⟩ := h
    rw [X.frames, List.length_cons] at h2 h3
    have q1 := X.heapSize
    have q2 := X.used
    simp only [hF, hU, List.length_cons, State.stackLimits_setFrames, State.stackBytes_setFrames, hl9, hb9]
    refine ⟨⟨⟨⟨by omega, by omega, by omega, by omega, by omega, h6⟩, ?_⟩, ?_⟩, X.book⟩
    · show T.heap.size + R'.cells ≤ e.platform.maxCells
      omega
    · show T.slotsUsed + R'.slots ≤ e.platform.maxSlots
      omega
  · rw [State.stackLimits_setFrames]; rfl
  · rw [State.stackBytes_setFrames]; rfl
  · refine ⟨?_, Nat.le_refl _, Nat.le_refl _, ?_, ?_, fun a c9 h9 => ⟨c9, h9, rfl, rfl, fun _ _ => rfl⟩⟩
    · obtain ⟨t, ht, -⟩ := State.frames_cons hr
      show T.setVm s.vm = { ((T.setVm s.vm).setFrames (.invoking m args :: below)).setFrames (T.setVm s.vm).frames with heap := T.heap, slotsUsed := T.slotsUsed }
      rw [State.setFrames_setFrames, State.setFrames_self ht]
      rfl
    · show T.slotsUsed = T.slotsUsed + ((T.heap.toList.drop T.heap.size).map (·.slots.size)).sum
      rw [List.drop_eq_nil_of_le (Nat.le_of_eq Array.length_toList)]
      rfl
    · show ((T.heap.toList.drop T.heap.size).map (·.slots.size)).sum ≤ 0
      rw [List.drop_eq_nil_of_le (Nat.le_of_eq Array.length_toList)]
      exact Nat.le_refl _
/-- 'throw new E()': new; dup; invokespecial; athrow -/
theorem vx_throw0 {cc : ByteArray} {pc : Nat} (hexec : p.tables.exec = Jvm.exec) (hb : c.code = cc) (hl : l.stackTraces = false) {own cls : String} {names : List String} {ik ic mc ms : Nat} {A : Nat → Prop}
    (hown : s.vm.findClass own = some m.cls) (hcls : Bundle.fit cls = true) (hnames : ∀ n ∈ names, Bundle.fit n = true)
    (hk : (Cond.classLink own ik cls).before args s = true) (hini : (Cond.initialized cls).before args s = true) (hat : ∀ w ∈ vx_at0 own ic cls names, w.before args s = true)
    (hgood : ∀ w ∈ Cond.classLink own ik cls :: Cond.initialized cls :: vx_at0 own ic cls names, vx_ot w = true)
    (hU : vx_Zq Bundle.tN "UNASSIGNED_STACK" Bundle.steD A s s.heap) (hN : vx_Zq Bundle.tN "SUPPRESSED_SENTINEL" Bundle.listD A s s.heap) (hS : va_S A s.heap H locs) (hsize : ls.size = c.maxLocals)
    (d0 : decode cc pc = .ok (.new ik, 3)) (d3 : decode cc (pc + 3) = .ok (.dup, 1)) (d4 : decode cc (pc + 4) = .ok (.invokespecial ic, 3)) (d7 : decode cc (pc + 7) = .ok (.athrow, 1))
    (hout : ∀ x ∈ c.exceptionTable.toList, covers x (pc + 7) = false)
    (hRframes : names.length + 3 < R.frames) (hRlocals : (rest.map fun v => v.category).sum + (13 * (names.length + 1) + 42) ≤ R.locals) (hRcells : cells + 1 ≤ R.cells) (hRslots : slots + 6 ≤ R.slots) (hlocks : meth.locks = false)
    (hx : ∀ t : State, s.vm.Alike t.vm → H.size ≤ t.heap.size → (∀ q : Nat, q < H.size → t.heap[q]? = H[q]?) → XC cls s t)
    (hf : ∀ z ∈ locs, free z.base) (hc : cells + 1 ≤ mc) (hs : slots + 6 ≤ ms) :
    W p l e R s m args below meth c H locs cells slots (vx_MQ below Qc XC args s mc ms free) (F0 m pc ls rest) := by
  intro T hT X
  have htr : e.platform.stackTraces = false := (show e.platform.stackTraces = l.stackTraces by rw [X.admits.platform]).trans hl
  have Y := vx_rebase X (R' := { frames := R.frames, locals := R.locals, cells := 1, slots := 6 }) (Nat.le_refl _) (Nat.le_refl _) hRcells hRslots
  obtain ⟨s', hA⟩ : ∃ z, z = (T.setVm s.vm).setFrames (.invoking m args :: below) := ⟨_, rfl⟩
  rw [← hA] at Y
  have hvm : s'.vm = s.vm := by rw [hA]; rfl
  have hhp : s'.heap = H := by rw [hA]; exact hT
  have hW0 : s.WarmedH s'.vm := by rw [hvm]; exact State.WarmedH.refl s
  have hat' : ∀ w ∈ vx_at0 own ic cls names, w.before args s' = true := fun w hw => vx_ot_at hW0 hvm.symm (hgood w (List.mem_cons_of_mem _ (List.mem_cons_of_mem _ hw))) (hat w hw)
  have hk' : (Cond.classLink own ik cls).before args s' = true := vx_ot_at hW0 hvm.symm (hgood _ List.mem_cons_self) hk
  have hini' : (Cond.initialized cls).before args s' = true := vx_ot_at hW0 hvm.symm (hgood _ (List.mem_cons_of_mem _ List.mem_cons_self)) hini
  have hU' : vx_Zq Bundle.tN "UNASSIGNED_STACK" Bundle.steD A s' s'.heap := by rw [hhp]; exact vx_Zq.moved hW0.alike (hU.kept hS.2.1)
  have hN' : vx_Zq Bundle.tN "SUPPRESSED_SENTINEL" Bundle.listD A s' s'.heap := by rw [hhp]; exact vx_Zq.moved hW0.alike (hN.kept hS.2.1)
  have h : ∀ w ∈ Bundle.ownAtoms0 own ic cls names, w.before args s' = true := vx_own hat' (vx_isRefq hU'.1) (vx_isRefq hN'.1) hU'.2.word hN'.2.word
  have hown' : s'.vm.findClass own = some m.cls := by rw [hvm]; exact hown
  have hins : (Cond.instantiable cls 6).before args s' = true := h _ (by simp [Bundle.ownAtoms0])
  obtain ⟨vm₁, cX, kX, hfX, hkX, -, -, X₁, st1⟩ := Y.newCold hexec (own := own) (C := cls) (index := ik) (n := 6) hown' hk' hins hini'
    (g := F0 m pc ls rest) rfl (by rw [hb]; exact d0) (Nat.le_refl _) (Nat.le_refl _)
  generalize hT1 : (T.setVm vm₁).pushCell { cls := cX, slots := kX.instanceTypes.map defaultValue, vm := .none } = T1 at X₁ st1
  have hcat : (Value.ref T.heap.size).category = 1 := rfl
  have hcellA : T1.heap[T.heap.size]? = some (freshCell cX kX) := by rw [← hT1]; exact State.heap_pushCell_size _ _
  have d3' : decode c.code (pc + 3) = .ok (.dup, 1) := by rw [hb]; exact d3
  obtain ⟨U, hsteps, hrun, hend, hW, hsame, ce, hce, hO⟩ := X₁.ctorThrow0 hexec htr (own := own) (cls := cls) (names := names) (ic := ic) hown' hcls hnames h (fun x hx => nomatch hx) hfX hkX hcellA (by rw [hhp, hT]; exact Nat.le_refl _)
    (g := { method := m, pc := pc + 4, locals := ls, stack := .ref T.heap.size :: .ref T.heap.size :: rest, locked := none }) rfl hsize rfl rfl (rest := rest) rfl
    (by rw [hb]; exact d4) (by rw [hb]; exact d7) hout hRframes (by simp only [List.map_cons, List.sum_cons, hcat]; omega) hlocks
  obtain ⟨f1, f2⟩ := vx_frame hsame
  rw [hhp] at f1 f2
  have hWs : s.WarmedH U.vm := State.WarmedH.trans hW0 hW
  have hcl : s.vm.findClass cls = some ce.cls := by
    have h9 := hO.cls
    rw [hvm] at h9
    exact h9
  have hall : s.sameButNew ({ U with vm := s.vm } : State) locs mc ms := by
    subst hA
    obtain ⟨e1, e2⟩ := hsame
    rw [State.setFrames_setFrames] at e1
    have h2 : (T.setVm s.vm).sameButNew ({ U with vm := s.vm } : State) [] (0 + 1) (0 + 6) := ⟨e1, e2⟩
    have h3 := X.same.trans h2
    rw [List.append_nil] at h3
    exact h3.mono hc hs
  refine ⟨U, ?_, .threw T.heap.size, hrun, hend, Or.inr ⟨T.heap.size, rfl, cls, ce, locs, hx U hWs.alike f1 (fun q hq => f2 q hq (fun z hz => nomatch hz)), hce, hO.vm, hcl, hWs, hall, hf⟩⟩
  refine st1 _ ?_
  show Steps p.tables e below (T1.setTop { method := m, pc := pc + 3, locals := ls, stack := .ref T.heap.size :: rest, locked := none }) _
  jvm_step X₁.here [X₁.here.top, hexec, d3', Value.category]
  exact hsteps
/-- 'throw new E("text")': new; dup; ldc; invokespecial; athrow -/
theorem vx_throwS {cc : ByteArray} {pc : Nat} (hexec : p.tables.exec = Jvm.exec) (hb : c.code = cc) (hl : l.stackTraces = false) {own cls text : String} {names : List String} {ik is ic mc ms sa : Nat} {A : Nat → Prop}
    (hown : s.vm.findClass own = some m.cls) (hcls : Bundle.fit cls = true) (hnames : ∀ n ∈ names, Bundle.fit n = true)
    (hk : (Cond.classLink own ik cls).before args s = true) (hini : (Cond.initialized cls).before args s = true) (hstr : vk_R own is text sa s) (hat : ∀ w ∈ vx_atS own ic cls names, w.before args s = true)
    (hgood : ∀ w ∈ Cond.classLink own ik cls :: Cond.initialized cls :: vx_atS own ic cls names, vx_ot w = true)
    (hU : vx_Zq Bundle.tN "UNASSIGNED_STACK" Bundle.steD A s s.heap) (hN : vx_Zq Bundle.tN "SUPPRESSED_SENTINEL" Bundle.listD A s s.heap) (hS : va_S A s.heap H locs) (hsize : ls.size = c.maxLocals)
    (d0 : decode cc pc = .ok (.new ik, 3)) (d3 : decode cc (pc + 3) = .ok (.dup, 1)) (d4 : decode cc (pc + 4) = .ok (.ldc is, 2)) (d6 : decode cc (pc + 6) = .ok (.invokespecial ic, 3)) (d9 : decode cc (pc + 9) = .ok (.athrow, 1))
    (hout : ∀ x ∈ c.exceptionTable.toList, covers x (pc + 9) = false)
    (hRframes : names.length + 3 < R.frames) (hRlocals : (rest.map fun v => v.category).sum + (13 * (names.length + 1) + 43) ≤ R.locals) (hRcells : cells + 1 ≤ R.cells) (hRslots : slots + 6 ≤ R.slots) (hlocks : meth.locks = false)
    (hx : ∀ t : State, s.vm.Alike t.vm → H.size ≤ t.heap.size → (∀ q : Nat, q < H.size → t.heap[q]? = H[q]?) → XC cls s t)
    (hf : ∀ z ∈ locs, free z.base) (hc : cells + 1 ≤ mc) (hs : slots + 6 ≤ ms) :
    W p l e R s m args below meth c H locs cells slots (vx_MQ below Qc XC args s mc ms free) (F0 m pc ls rest) := by
  intro T hT X
  have htr : e.platform.stackTraces = false := (show e.platform.stackTraces = l.stackTraces by rw [X.admits.platform]).trans hl
  have Y := vx_rebase X (R' := { frames := R.frames, locals := R.locals, cells := 1, slots := 6 }) (Nat.le_refl _) (Nat.le_refl _) hRcells hRslots
  obtain ⟨s', hA⟩ : ∃ z, z = (T.setVm s.vm).setFrames (.invoking m args :: below) := ⟨_, rfl⟩
  rw [← hA] at Y
  have hvm : s'.vm = s.vm := by rw [hA]; rfl
  have hhp : s'.heap = H := by rw [hA]; exact hT
  have hW0 : s.WarmedH s'.vm := by rw [hvm]; exact State.WarmedH.refl s
  have hat' : ∀ w ∈ vx_atS own ic cls names, w.before args s' = true := fun w hw => vx_ot_at hW0 hvm.symm (hgood w (List.mem_cons_of_mem _ (List.mem_cons_of_mem _ hw))) (hat w hw)
  have hk' : (Cond.classLink own ik cls).before args s' = true := vx_ot_at hW0 hvm.symm (hgood _ List.mem_cons_self) hk
  have hini' : (Cond.initialized cls).before args s' = true := vx_ot_at hW0 hvm.symm (hgood _ (List.mem_cons_of_mem _ List.mem_cons_self)) hini
  have hU' : vx_Zq Bundle.tN "UNASSIGNED_STACK" Bundle.steD A s' s'.heap := by rw [hhp]; exact vx_Zq.moved hW0.alike (hU.kept hS.2.1)
  have hN' : vx_Zq Bundle.tN "SUPPRESSED_SENTINEL" Bundle.listD A s' s'.heap := by rw [hhp]; exact vx_Zq.moved hW0.alike (hN.kept hS.2.1)
  have h : ∀ w ∈ Bundle.ownAtoms own ic cls names, w.before args s' = true := vx_own hat' (vx_isRefq hU'.1) (vx_isRefq hN'.1) hU'.2.word hN'.2.word
  have hown' : s'.vm.findClass own = some m.cls := by rw [hvm]; exact hown
  have hins : (Cond.instantiable cls 6).before args s' = true := h _ (by simp [Bundle.ownAtoms])
  obtain ⟨vm₁, cX, kX, hfX, hkX, -, -, X₁, st1⟩ := Y.newCold hexec (own := own) (C := cls) (index := ik) (n := 6) hown' hk' hins hini'
    (g := F0 m pc ls rest) rfl (by rw [hb]; exact d0) (Nat.le_refl _) (Nat.le_refl _)
  generalize hT1 : (T.setVm vm₁).pushCell { cls := cX, slots := kX.instanceTypes.map defaultValue, vm := .none } = T1 at X₁ st1
  have hcat : (Value.ref T.heap.size).category = 1 := rfl
  have hcellA : T1.heap[T.heap.size]? = some (freshCell cX kX) := by rw [← hT1]; exact State.heap_pushCell_size _ _
  have d3' : decode c.code (pc + 3) = .ok (.dup, 1) := by rw [hb]; exact d3
  have d4' : decode c.code (pc + 4) = .ok (.ldc is, 2) := by rw [hb]; exact d4
  have hstr' : vk_R own is text sa s' := vk_R.warm hW0 hstr
  obtain ⟨U, hsteps, hrun, hend, hW, hsame, ce, hce, hO⟩ := X₁.ctorThrowS hexec htr (own := own) (cls := cls) (names := names) (ic := ic) hown' hcls hnames h (fun x hx => nomatch hx) hfX hkX hcellA (by rw [hhp, hT]; exact Nat.le_refl _) (msg := .ref sa) rfl
    (g := { method := m, pc := pc + 6, locals := ls, stack := .ref sa :: .ref T.heap.size :: .ref T.heap.size :: rest, locked := none }) rfl hsize rfl rfl (rest := rest) rfl
    (by rw [hb]; exact d6) (by rw [hb]; exact d9) hout hRframes (by simp only [List.map_cons, List.sum_cons, hcat]; omega) hlocks
  obtain ⟨f1, f2⟩ := vx_frame hsame
  rw [hhp] at f1 f2
  have hWs : s.WarmedH U.vm := State.WarmedH.trans hW0 hW
  have hcl : s.vm.findClass cls = some ce.cls := by
    have h9 := hO.cls
    rw [hvm] at h9
    exact h9
  have hall : s.sameButNew ({ U with vm := s.vm } : State) locs mc ms := by
    subst hA
    obtain ⟨e1, e2⟩ := hsame
    rw [State.setFrames_setFrames] at e1
    have h2 : (T.setVm s.vm).sameButNew ({ U with vm := s.vm } : State) [] (0 + 1) (0 + 6) := ⟨e1, e2⟩
    have h3 := X.same.trans h2
    rw [List.append_nil] at h3
    exact h3.mono hc hs
  refine ⟨U, ?_, .threw T.heap.size, hrun, hend, Or.inr ⟨T.heap.size, rfl, cls, ce, locs, hx U hWs.alike f1 (fun q hq => f2 q hq (fun z hz => nomatch hz)), hce, hO.vm, hcl, hWs, hall, hf⟩⟩
  refine st1 _ ?_
  show Steps p.tables e below (T1.setTop { method := m, pc := pc + 3, locals := ls, stack := .ref T.heap.size :: rest, locked := none }) _
  jvm_step X₁.here [X₁.here.top, hexec, d3', Value.category]
  exact X₁.ldcString hexec (own := own) (text := text) (index := is) (a := sa) hown' hstr'.1 hstr'.2
    (g := { method := m, pc := pc + 4, locals := ls, stack := .ref T.heap.size :: .ref T.heap.size :: rest, locked := none }) rfl d4' _ hsteps
/-- 'throw new E("text")', the text by a wide index -/
theorem vx_throwSW {cc : ByteArray} {pc : Nat} (hexec : p.tables.exec = Jvm.exec) (hb : c.code = cc) (hl : l.stackTraces = false) {own cls text : String} {names : List String} {ik is ic mc ms sa : Nat} {A : Nat → Prop}
    (hown : s.vm.findClass own = some m.cls) (hcls : Bundle.fit cls = true) (hnames : ∀ n ∈ names, Bundle.fit n = true)
    (hk : (Cond.classLink own ik cls).before args s = true) (hini : (Cond.initialized cls).before args s = true) (hstr : vk_R own is text sa s) (hat : ∀ w ∈ vx_atS own ic cls names, w.before args s = true)
    (hgood : ∀ w ∈ Cond.classLink own ik cls :: Cond.initialized cls :: vx_atS own ic cls names, vx_ot w = true)
    (hU : vx_Zq Bundle.tN "UNASSIGNED_STACK" Bundle.steD A s s.heap) (hN : vx_Zq Bundle.tN "SUPPRESSED_SENTINEL" Bundle.listD A s s.heap) (hS : va_S A s.heap H locs) (hsize : ls.size = c.maxLocals)
    (d0 : decode cc pc = .ok (.new ik, 3)) (d3 : decode cc (pc + 3) = .ok (.dup, 1)) (d4 : decode cc (pc + 4) = .ok (.ldc_w is, 3)) (d7 : decode cc (pc + 7) = .ok (.invokespecial ic, 3)) (d10 : decode cc (pc + 10) = .ok (.athrow, 1))
    (hout : ∀ x ∈ c.exceptionTable.toList, covers x (pc + 10) = false)
    (hRframes : names.length + 3 < R.frames) (hRlocals : (rest.map fun v => v.category).sum + (13 * (names.length + 1) + 43) ≤ R.locals) (hRcells : cells + 1 ≤ R.cells) (hRslots : slots + 6 ≤ R.slots) (hlocks : meth.locks = false)
    (hx : ∀ t : State, s.vm.Alike t.vm → H.size ≤ t.heap.size → (∀ q : Nat, q < H.size → t.heap[q]? = H[q]?) → XC cls s t)
    (hf : ∀ z ∈ locs, free z.base) (hc : cells + 1 ≤ mc) (hs : slots + 6 ≤ ms) :
    W p l e R s m args below meth c H locs cells slots (vx_MQ below Qc XC args s mc ms free) (F0 m pc ls rest) := by
  intro T hT X
  have htr : e.platform.stackTraces = false := (show e.platform.stackTraces = l.stackTraces by rw [X.admits.platform]).trans hl
  have Y := vx_rebase X (R' := { frames := R.frames, locals := R.locals, cells := 1, slots := 6 }) (Nat.le_refl _) (Nat.le_refl _) hRcells hRslots
  obtain ⟨s', hA⟩ : ∃ z, z = (T.setVm s.vm).setFrames (.invoking m args :: below) := ⟨_, rfl⟩
  rw [← hA] at Y
  have hvm : s'.vm = s.vm := by rw [hA]; rfl
  have hhp : s'.heap = H := by rw [hA]; exact hT
  have hW0 : s.WarmedH s'.vm := by rw [hvm]; exact State.WarmedH.refl s
  have hat' : ∀ w ∈ vx_atS own ic cls names, w.before args s' = true := fun w hw => vx_ot_at hW0 hvm.symm (hgood w (List.mem_cons_of_mem _ (List.mem_cons_of_mem _ hw))) (hat w hw)
  have hk' : (Cond.classLink own ik cls).before args s' = true := vx_ot_at hW0 hvm.symm (hgood _ List.mem_cons_self) hk
  have hini' : (Cond.initialized cls).before args s' = true := vx_ot_at hW0 hvm.symm (hgood _ (List.mem_cons_of_mem _ List.mem_cons_self)) hini
  have hU' : vx_Zq Bundle.tN "UNASSIGNED_STACK" Bundle.steD A s' s'.heap := by rw [hhp]; exact vx_Zq.moved hW0.alike (hU.kept hS.2.1)
  have hN' : vx_Zq Bundle.tN "SUPPRESSED_SENTINEL" Bundle.listD A s' s'.heap := by rw [hhp]; exact vx_Zq.moved hW0.alike (hN.kept hS.2.1)
  have h : ∀ w ∈ Bundle.ownAtoms own ic cls names, w.before args s' = true := vx_own hat' (vx_isRefq hU'.1) (vx_isRefq hN'.1) hU'.2.word hN'.2.word
  have hown' : s'.vm.findClass own = some m.cls := by rw [hvm]; exact hown
  have hins : (Cond.instantiable cls 6).before args s' = true := h _ (by simp [Bundle.ownAtoms])
  obtain ⟨vm₁, cX, kX, hfX, hkX, -, -, X₁, st1⟩ := Y.newCold hexec (own := own) (C := cls) (index := ik) (n := 6) hown' hk' hins hini'
    (g := F0 m pc ls rest) rfl (by rw [hb]; exact d0) (Nat.le_refl _) (Nat.le_refl _)
  generalize hT1 : (T.setVm vm₁).pushCell { cls := cX, slots := kX.instanceTypes.map defaultValue, vm := .none } = T1 at X₁ st1
  have hcat : (Value.ref T.heap.size).category = 1 := rfl
  have hcellA : T1.heap[T.heap.size]? = some (freshCell cX kX) := by rw [← hT1]; exact State.heap_pushCell_size _ _
  have d3' : decode c.code (pc + 3) = .ok (.dup, 1) := by rw [hb]; exact d3
  have d4' : decode c.code (pc + 4) = .ok (.ldc_w is, 3) := by rw [hb]; exact d4
  have hstr' : vk_R own is text sa s' := vk_R.warm hW0 hstr
  obtain ⟨U, hsteps, hrun, hend, hW, hsame, ce, hce, hO⟩ := X₁.ctorThrowS hexec htr (own := own) (cls := cls) (names := names) (ic := ic) hown' hcls hnames h (fun x hx => nomatch hx) hfX hkX hcellA (by rw [hhp, hT]; exact Nat.le_refl _) (msg := .ref sa) rfl
    (g := { method := m, pc := pc + 7, locals := ls, stack := .ref sa :: .ref T.heap.size :: .ref T.heap.size :: rest, locked := none }) rfl hsize rfl rfl (rest := rest) rfl
    (by rw [hb]; exact d7) (by rw [hb]; exact d10) hout hRframes (by simp only [List.map_cons, List.sum_cons, hcat]; omega) hlocks
  obtain ⟨f1, f2⟩ := vx_frame hsame
  rw [hhp] at f1 f2
  have hWs : s.WarmedH U.vm := State.WarmedH.trans hW0 hW
  have hcl : s.vm.findClass cls = some ce.cls := by
    have h9 := hO.cls
    rw [hvm] at h9
    exact h9
  have hall : s.sameButNew ({ U with vm := s.vm } : State) locs mc ms := by
    subst hA
    obtain ⟨e1, e2⟩ := hsame
    rw [State.setFrames_setFrames] at e1
    have h2 : (T.setVm s.vm).sameButNew ({ U with vm := s.vm } : State) [] (0 + 1) (0 + 6) := ⟨e1, e2⟩
    have h3 := X.same.trans h2
    rw [List.append_nil] at h3
    exact h3.mono hc hs
  refine ⟨U, ?_, .threw T.heap.size, hrun, hend, Or.inr ⟨T.heap.size, rfl, cls, ce, locs, hx U hWs.alike f1 (fun q hq => f2 q hq (fun z hz => nomatch hz)), hce, hO.vm, hcl, hWs, hall, hf⟩⟩
  refine st1 _ ?_
  show Steps p.tables e below (T1.setTop { method := m, pc := pc + 3, locals := ls, stack := .ref T.heap.size :: rest, locked := none }) _
  jvm_step X₁.here [X₁.here.top, hexec, d3', Value.category]
  exact X₁.ldcStringW hexec (own := own) (text := text) (index := is) (a := sa) hown' hstr'.1 hstr'.2
    (g := { method := m, pc := pc + 4, locals := ls, stack := .ref T.heap.size :: .ref T.heap.size :: rest, locked := none }) rfl d4' _ hsteps
end Ends
section Bodies
variable {l : Launch}
theorem vx_ofW {y : MethodName} {ws ws' : List Cond} {rm : Room} {Pc : Array Value → State → Prop} {Qc : Array Value → State → Outcome → State → Prop} {XC : String → State → State → Prop} {mc ms : Nat} {free : Addr → Prop} {cc : ByteArray} {maxL : Nat} {ret : Option FieldType}
    (hy : plainName y.cls = true) (hw : ws = Cond.code y cc maxL ret :: ws')
    (body : ∀ p e s m args below meth c s₁, BodyLoose p l y (headSpec ws rm) cc maxL ret e s m args below meth c s₁ → c.maxLocals = maxL → (∀ x ∈ c.exceptionTable.toList, False) → Pc args s →
      W p l e (headSpec ws rm).room s m args below meth c s.heap [] 0 0 (vx_MQ below Qc XC args s mc ms free) (entryFrame m args maxL)) : vx_Met l y ws rm Pc Qc XC mc ms free := by
  refine MetFree.of_bodyS (code := cc) (maxLocals := maxL) (ret := ret) hy ?_ ?_
  · intro args s m h hn
    obtain ⟨meth, c, h1, h2, h3, h4, h5, h6, -, -⟩ := Cond.code_spec hn (atoms_spec (ws := ws) h _ (by rw [hw]; exact List.mem_cons_self))
    exact ⟨meth, c, h1, h2, h3, h4, h5, h6⟩
  · intro p e s m args below meth c s₁ B hml hP _
    have hh0 : s₁.heap = s.heap := by rw [B.state]; rfl
    have ht : ∀ x ∈ c.exceptionTable.toList, False := by
      obtain ⟨meth9, c9, h1, h2, -, -, -, -, h7, -⟩ := Cond.code_spec B.named (atoms_spec (ws := ws) B.pre _ (by rw [hw]; exact List.mem_cons_self))
      cases Option.some.inj (h1.symm.trans B.method)
      cases Option.some.inj (h2.symm.trans (Stand.of_body B).code)
      intro x hx
      rw [Array.isEmpty_iff.mp h7] at hx
      cases hx
    obtain ⟨t, a1, o, b1, b2, b3⟩ := body p e s m args below meth c s₁ B hml ht hP s₁ hh0 (Stand.of_body B)
    exact ⟨t, o, a1, b1, b2, b3⟩
/-- the table of a body with handlers -/
theorem vx_table {p : Program} {x y : MethodName} {S : Spec} {cc bytes : ByteArray} {maxL maxL' : Nat} {ret ret' : Option FieldType} {e : Env} {s s₁ : State} {m : MethodId} {args : Array Value} {below : List Frame} {meth : Method} {c : Code} {hh : List (Nat × Nat × Nat × Nat)}
    (B : BodyLoose p l y S cc maxL ret e s m args below meth c s₁) (h : (Cond.codeWith y bytes maxL' ret' hh).before args s = true) : c.exceptionTable.toList = tableOf hh := by
  obtain ⟨m9, meth9, c9, hn9, h1, h2, -, -, h6, -⟩ := Cond.codeWith_spec h
  cases Option.some.inj (hn9.symm.trans B.named)
  cases Option.some.inj (h1.symm.trans B.method)
  cases Option.some.inj (h2.symm.trans (Stand.of_body B).code)
  rw [← h6, table_eq]
end Bodies
end VXA
/-! ===== END ===== -/
/-! ===== BEGIN a static call of a method with an exception table ===== -/
section VXS
variable {p : Program} {l : Launch} {e : Env} {R : Room} {s : State} {m : MethodId} {args : Array Value} {below : List Frame} {meth : Method} {c : Code} {T : State} {H : Heap} {locs : List Loc} {cells slots : Nat}
abbrev vx_CSW (R : Room) (s : State) (args : Array Value) (own : String) (index : Nat) (y : MethodName) (bytes : ByteArray) (maxL : Nat) (ret : Option FieldType) (hh : List (Nat × Nat × Nat × Nat)) (ws : List Cond) (rm : Room) (mc ms n : Nat) : Prop :=
  (rm.cells = mc ∧ rm.slots = ms ∧ rm.frames + 1 ≤ R.frames ∧ 8 + (maxL + 11) + rm.locals ≤ R.locals ∧ (∀ w ∈ ws, ∀ (a' : Array Value) (U : State), s.WarmedH U.vm → w.before a' U = true) ∧ Cond.codeWith y bytes maxL ret hh ∈ ws) ∧
  (Cond.codeWith y bytes maxL ret hh).before args s = true ∧ (Cond.initialized y.cls).before args s = true ∧ (y.cls ≠ "java/lang/invoke/MethodHandle" ∧ y.cls ≠ "java/lang/invoke/VarHandle") ∧
  (∀ sig, parseMethodDescriptor y.desc = some sig → n = sig.parameters.length) ∧ (Cond.methodLink own index y).before args s = true ∧ (Cond.static y).before args s = true
theorem vx_cwSW {own : String} {index maxL mc ms : Nat} {y : MethodName} {bytes : ByteArray} {ret : Option FieldType} {hh : List (Nat × Nat × Nat × Nat)} {Ts ws ws' : List Cond} {rm : Room} (n : Nat) (ht : ∀ w ∈ Ts, w.before args s = true) (hT : GoodIn Ts (va_wsS own index y ws)) (hw : ws = Cond.codeWith y bytes maxL ret hh :: ws') (hrc : rm.cells = mc) (hrs : rm.slots = ms)
    (hd : y.cls ≠ "java/lang/invoke/MethodHandle" ∧ y.cls ≠ "java/lang/invoke/VarHandle" ∧ (parseMethodDescriptor y.desc).map (fun d => d.parameters.length) = some n) (hR : rm.frames + 1 ≤ R.frames ∧ 8 + (maxL + 11) + rm.locals ≤ R.locals) :
    vx_CSW R s args own index y bytes maxL ret hh ws rm mc ms n := by
  have ok : ∀ w ∈ va_wsS own index y ws, w.before args s = true := fun w h => ht w (hT w h).1
  have hG : GoodIn Ts ws := fun w h => hT w (by unfold va_wsS; exact List.mem_append_right _ h)
  have hc : Cond.codeWith y bytes maxL ret hh ∈ ws := by rw [hw]; exact List.mem_cons_self
  refine ⟨⟨hrc, hrs, hR.1, hR.2, pay_in ht hG, hc⟩, ht _ (hG _ hc).1, ok _ (by simp [va_wsS]), ⟨hd.1, hd.2.1⟩, fun sig h => ?_, ok _ (by simp [va_wsS]), ok _ (by simp [va_wsS])⟩
  have h2 := hd.2.2
  rw [h] at h2
  exact (Option.some.inj h2).symm
theorem vx_callSW (X : Stand p l e R s m args below meth c T locs cells slots) (hexec : p.tables.exec = Jvm.exec) {own : String} {index : Nat} {y : MethodName} {bytes : ByteArray} {maxL : Nat} {ret : Option FieldType} {hh : List (Nat × Nat × Nat × Nat)}
    (hown : s.vm.findClass own = some m.cls) (hlink : (Cond.methodLink own index y).before args s = true) (hstat : (Cond.static y).before args s = true) (hinit : (Cond.initialized y.cls).before args s = true)
    (hcode : (Cond.codeWith y bytes maxL ret hh).before args s = true) (hy : y.cls ≠ "java/lang/invoke/MethodHandle" ∧ y.cls ≠ "java/lang/invoke/VarHandle")
    {W9 : Nat} {Pre : Pt → Array Value → Prop} {Post : Pt → Array Value → Option Value → Pt → Prop} (hK : Back l R p e below s args y 3 W9 Pre Post)
    {g : JFrame} (hg : g.method = m) (hsize : g.locals.size = c.maxLocals) {argsL rest : List Value} (hlen : ∀ sig, parseMethodDescriptor y.desc = some sig → argsL.length = sig.parameters.length)
    (hstack : g.stack = argsL.reverse ++ rest) (hW : 2 * g.monitorRoom + (rest.map fun v => v.category).sum ≤ W9) (hdg : decode c.code g.pc = .ok (.invokestatic index, 3))
    (hpre : ∀ vm₁, s.WarmedH vm₁ → Pre ⟨T.setVm vm₁, locs, cells, slots⟩ argsL.toArray) :
    ∃ (v : Option Value) (vm₁ : Vm) (B : Pt), s.WarmedH vm₁ ∧ Stand p l e R s m args below meth c B.U B.locs B.cells B.slots ∧ Post ⟨T.setVm vm₁, locs, cells, slots⟩ argsL.toArray v B ∧
      ∀ target, Steps p.tables e below (B.U.setTop { g with pc := g.pc + 3, stack := v.toList ++ rest }) target → Steps p.tables e below (T.setTop g) target := by
  obtain ⟨mk, methM, cM, hnamed, hmethM, -, -, -, -, -, -, hsigM⟩ := Cond.codeWith_spec hcode
  have hstatic : methM.isStatic = true := Cond.static_spec hnamed hmethM hstat
  obtain ⟨kP, hkP, -⟩ := className_of_methodNamed hnamed
  have hinitP : kP.init = .initialized := Cond.initialized_spec (findClass_of_methodNamed hnamed) hkP hinit
  obtain ⟨vm₁, X₁, hstep₁⟩ := X.invokestatic hexec hown hlink hnamed hmethM hstatic hkP hinitP hy (g := g) hg (argsL := argsL) (rest := rest) (hlen _ hsigM) hstack hdg
  obtain ⟨v, B, X', hpost, hsteps⟩ := hK m meth c ⟨T.setVm vm₁, locs, cells, slots⟩ { g with stack := rest } (.invokestatic index) mk argsL.toArray X₁ hg hsize hdg hW (X₁.named hnamed) (hpre vm₁ X₁.warmed)
  exact ⟨v, vm₁, B, X₁.warmed, X', hpost, fun target h => hstep₁ _ fun acts => by rw [doInvoke_state]; exact hsteps.trans h⟩
theorem vx_runSW {y : MethodName} {bytes cc : ByteArray} {maxL nL mc ms n index : Nat} {ret : Option FieldType} {hh : List (Nat × Nat × Nat × Nat)} {ws : List Cond} {rm : Room} {Pc : Array Value → State → Prop} {Qc : Array Value → State → Outcome → State → Prop} {free : Addr → Prop} {Ts : List Cond} {own : String} {As rest : List Value} {g : JFrame}
    (S : CallFix p m c cc nL s args Ts own) (hM : Met l y ws rm Pc Qc mc ms free) (cw : vx_CSW R s args own index y bytes maxL ret hh ws rm mc ms n) (hp : PreS s H Pc As)
    (hg : g.method = m) (hn : As.length = n) (hsize : g.locals.size = nL) (hstack : g.stack = As.reverse ++ rest) (hW : 2 * g.monitorRoom + (rest.map fun v => v.category).sum ≤ 8) (hdg : decode cc g.pc = .ok (.invokestatic index, 3)) (hf : cells + mc ≤ R.cells ∧ slots + ms ≤ R.slots) :
    va_Run p l e R s m args below meth c H locs cells slots mc ms g rest (Qc As.toArray) (free) := by
  obtain ⟨⟨hrc, hrs, hfr, hlo, hws, hcw⟩, hcode, hini, hy, hlen, hl, hstt⟩ := cw
  have hK : Back l R p e below s args y 3 8 (PreOf R mc ms Pc) (PostOf Qc mc ms free) := va_backW (hh := hh) (bytes := bytes) (maxL := maxL) (ret := ret) hM hp.1 hrc hrs hfr hlo hws hcw (fun a' U hW => word_at hW (Or.inl (by first | rfl | simp [Cond.onTables, Cond.keeps, Cond.steady])) hini)
  obtain ⟨hx, hb, hml, ho, -⟩ := S
  intro T hT X
  obtain ⟨v, vm₁, ⟨U', l2, c2, s2⟩, hW₁, X', ⟨g', mk, t, L, e1, e2, hq, h1, hL, h2, h3⟩, st⟩ := vx_callSW X hx (hh := hh) (bytes := bytes) (maxL := maxL) (ret := ret) ho hl hstt hini hcode hy hK hg (hsize.trans hml.symm) (argsL := As) (rest := rest) (fun sig h => hn.trans (hlen sig h)) hstack hW (by rw [hb]; exact hdg)
    (fun vm₁ hW₁ => ⟨hf.1, hf.2, hp.2 (T.setVm vm₁) hT hW₁⟩)
  dsimp only [Pt.U, Pt.locs, Pt.cells, Pt.slots] at X' e1 e2 h1 h2 h3 st
  subst h1; subst h2; subst h3
  exact ⟨v, (T.setVm vm₁).calling g' mk As.toArray, t, U', L, hT, X', hL, e1, e2, hq, st⟩
/-- not caught here, past rows that name other classes: it goes on to the caller -/
theorem vx_outP {p : Program} {l : Launch} {e : Env} {R : Room} {s : State} {m : MethodId} {args : Array Value} {below : List Frame} {meth : Method} {c : Code} {H : Heap} {locs : List Loc} {cells slots : Nat} {free : Addr → Prop} {ls : Array Slot} {rest : List Value} {Qc : Array Value → State → Outcome → State → Prop} {XC : String → State → State → Prop}
    {pc : Nat} {own E : String} {ce : Cell} {q : Addr} {mc ms : Nat} (hown : s.vm.findClass own = some m.cls) (hlocks : meth.locks = false)
    (hpass : ∀ z ∈ c.exceptionTable.toList, covers z pc = false ∨ (z.catchType ≠ 0 ∧ ∃ nm : String, (Cond.classLink own z.catchType nm).before args s = true ∧ va_Nc E nm s)) (hcell : H[q]? = some ce) (hv : ce.vm = .none) (hcl : s.vm.findClass E = some ce.cls)
    (hx : ∀ t : State, t.heap = H → s.vm.Alike t.vm → XC E s t) (hf : ∀ z ∈ locs, free z.base) (hc : cells ≤ mc) (hs : slots ≤ ms) :
    vx_W p l e R s m args below meth c H locs cells slots (vx_MQ below Qc XC args s mc ms free) (F0 m pc ls rest) q := by
  intro T hT X
  have hpl : e.platform.magicAccessors = ({} : Platform).magicAccessors := by rw [X.admits.platform]
  obtain ⟨vm', hW', X', st⟩ := X.outThrough hlocks q (g := F0 m pc ls rest) rfl rfl rfl (cell := ce) (by rw [hT]; exact hcell) (by rw [hv]; rfl)
    (by obtain ⟨k9, h9, -⟩ := Vm.findClass_spec hcl; exact ⟨k9, h9⟩) (fun z hz => by
      rcases hpass z hz with h | ⟨hz0, nm, hl1, hn1⟩
      · exact Or.inl h
      · obtain ⟨c6, hc6, hcl6⟩ := Cond.classLink_spec hown hl1 e.platform hpl
        obtain ⟨a8, b8, h1, h2, h3⟩ := hn1
        cases Option.some.inj (h1.symm.trans hcl)
        cases Option.some.inj (h2.symm.trans hc6)
        exact Or.inr ⟨hz0, _, hcl6, h3⟩)
  obtain ⟨g₀, hfr⟩ := X'.frames_eq
  have hcell9 : ((T.setVm vm').setFrames (.throwing q :: below)).heap[q]? = some ce := by
    show T.heap[q]? = some ce
    rw [hT]; exact hcell
  have hend : Ended ((T.setVm vm').setFrames (.throwing q :: below)) below (.threw q) := State.frames_setFrames _ (State.cur_lt_of_frames hfr)
  refine ⟨(T.setVm vm').setFrames (.throwing q :: below), ?_, .threw q, X'.here.running, hend, Or.inr ⟨q, rfl, E, ce, locs, hx _ hT (X'.ends _).1.alike, hcell9, hv, hcl, (X'.ends _).1, (X'.ends _).2.mono hc hs, hf⟩⟩
  rw [X.pushThrowing_eq]
  exact st
/-- a thing of a world lies in the heap -/
theorem vx_lt {D : va_G} {cl : List vw_C} {ws : va_W} {H1 : Heap} (h : va_P D cl ws H1) {k : Nat} {q : Nat × va_E} (hk : ws[k]? = some q) : q.1 < H1.size := (h k q hk).lt
end VXS
/-! ===== END ===== -/
/-! ===== BEGIN methods with a table of their own: called by a name, returning or throwing ===== -/
section VXH
/-! vx_backW, vx_callVX, vx_callSX, vx_callVW, vx_runVW, vx_runVX, vx_runSX, vx_ofWH follow the same proofs as their sisters above (Free/Laws.lean, Shelf42/LK1.lean); vx_outP calls Shelf42/NT130.lean (outThrough). -/
section
variable {l : Launch} {R : Room} {p : Program} {e : Env} {below : List Frame} {s : State} {sargs : Array Value} {y : MethodName} {len W9 : Nat}
theorem vx_backW {ws : List Cond} {rm : Room} {Pc : Array Value → State → Prop} {Qc : Array Value → State → Outcome → State → Prop} {XC : String → State → State → Prop} {mc ms : Nat} {free : Addr → Prop} {bytes : ByteArray} {maxL : Nat} {ret : Option FieldType} {hh : List (Nat × Nat × Nat × Nat)}
    (hM : vx_Met l y ws rm Pc Qc XC mc ms free) (hblind : FrameBlind Pc) (hrc : rm.cells = mc) (hrs : rm.slots = ms)
    (hframes : rm.frames + 1 ≤ R.frames) (hlocals : W9 + (maxL + 11) + rm.locals ≤ R.locals)
    (hws : ∀ w ∈ ws, ∀ a' U, s.WarmedH U.vm → w.before a' U = true) (hcode : Cond.codeWith y bytes maxL ret hh ∈ ws) (hinit : ∀ a' U, s.WarmedH U.vm → (Cond.initialized y.cls).before a' U = true) :
    vx_Back l R p e below s sargs y len W9 (PreOf R mc ms Pc) (PostOf Qc mc ms free) (vx_Post XC mc ms free) := by
  intro m meth c A g ig mk a X hg hsize hdg hW hn hp
  have h1 : (headSpec ws rm).pre.before a A.U = true := atoms_intro fun w hw => hws w hw _ _ X.warmed
  have h2 : (Cond.codeWith y bytes maxL ret hh).before a A.U = true := hws _ hcode _ _ X.warmed
  have h3 : (Cond.initialized y.cls).before a A.U = true := hinit _ _ X.warmed
  have h4 : A.cells + (headSpec ws rm).room.cells ≤ R.cells := by rw [show (headSpec ws rm).room.cells = mc from hrc]; exact hp.1
  have h5 : A.slots + (headSpec ws rm).room.slots ≤ R.slots := by rw [show (headSpec ws rm).room.slots = ms from hrs]; exact hp.2.1
  have hPc : Pc a (A.U.calling g mk a) := hblind _ _ _ _ hp.2.2
  obtain ⟨U, Ls, c0, s0⟩ := A
  dsimp only [Pt.U, Pt.locs, Pt.cells, Pt.slots] at h1 h2 h3 h4 h5 X hn hPc ⊢
  obtain ⟨m9, methY, cY, hn9, hmY, hcY, -, hlY, -⟩ := Cond.codeWith_spec h2
  cases Option.some.inj (hn9.symm.trans hn)
  obtain ⟨kY, hkY, -⟩ := className_of_methodNamed hn
  have hinitY : kY.init = .initialized := Cond.initialized_spec (findClass_of_methodNamed hn) hkY h3
  have h : At U g.method c below := by rw [hg]; exact X.here
  have hlocals9 : W9 + (maxL + 11) + (headSpec ws rm).room.locals ≤ R.locals := hlocals
  have happ : (headSpec ws rm).appliesLoose y e.platform (U.calling g mk a) = true :=
    Spec.appliesLoose_calling (g := g) h hdg hn hkY hinitY
      (X.room_calling (g := g) (R' := (headSpec ws rm).room) hsize hmY hcY hframes (by rw [hlY]; omega) h4 h5) h1
  obtain ⟨mid, hmid⟩ := h.above
  have hfr : (U.setTop g).frames = (.java g :: mid) ++ below := by rw [State.frames_setTop' g h.top, hmid]; rfl
  obtain ⟨o, s₂, hsteps, -, hend, hq⟩ := Steps.callFree hM p X.admits X.cas X.clock (acts := []) hfr happ hPc trivial
  have hq' : vx_Q Qc XC mc ms free a (U.calling g mk a) o s₂ := hq
  rw [State.frames_setTop' g h.top] at hend
  obtain ⟨g₀, hg0⟩ := Option.isSome_iff_exists.mp h.top
  obtain ⟨r, hr⟩ := State.topJava?_eq_some.mp hg0
  have hr' : (({ U with heap := s₂.heap, slotsUsed := s₂.slotsUsed } : State).setVm s₂.vm).frames = .java g₀ :: r := hr
  rcases hq' with ⟨hqc, L, hfe, hL⟩ | ⟨q, rfl, E, ce, L, hx, hce, hcv, hcl, hW₂, hsm, hL⟩
  · obtain ⟨⟨v, rfl⟩, hW₂, e2, q2, q3, q4, q5, q6⟩ := id hfe
    have e3 : s₂ = ({ (U.calling g mk a).setFrames s₂.frames with heap := s₂.heap, slotsUsed := s₂.slotsUsed } : State).setVm s₂.vm := by
      have : s₂ = ({ s₂ with vm := (U.calling g mk a).vm } : State).setVm s₂.vm := rfl
      rw [e2] at this
      exact this
    obtain ⟨c₂, i₂, len₂, hc₂, hd₂, hf₂⟩ := hend
    have hW' : U.WarmedH s₂.vm := hW₂
    have hcc : c₂ = c := by
      have h1 : s₂.code? g.method = U.code? g.method := by
        rw [State.code?_eq, State.code?_eq, hW'.alike.method?]
      exact Option.some.inj (hc₂.symm.trans (h1.trans h.code))
    subst hcc
    have hlen : len₂ = len := by rw [hdg] at hd₂; cases hd₂; rfl
    subst hlen
    have hs₂ : s₂ = (({ U with heap := s₂.heap, slotsUsed := s₂.slotsUsed } : State).setVm s₂.vm).setTop { g with pc := g.pc + len₂, stack := v.toList ++ g.stack } := by
      refine e3.trans ?_
      rw [hf₂, State.calling_eq h.top, State.setFrames_setFrames, State.setTop_of_frames _ hr', hr]
      rfl
    have hsame : U.sameButNew ({ U with heap := s₂.heap, slotsUsed := s₂.slotsUsed } : State) L mc ms := by
      refine ⟨?_, q2, q3, q4, q5, q6⟩
      obtain ⟨t, ht, -⟩ := State.frames_cons hr
      show ({ U with heap := s₂.heap, slotsUsed := s₂.slotsUsed } : State) = { U.setFrames U.frames with heap := s₂.heap, slotsUsed := s₂.slotsUsed }
      rw [State.setFrames_self ht]
    subst hg
    refine Or.inl ⟨v, ⟨(({ U with heap := s₂.heap, slotsUsed := s₂.slotsUsed } : State).setVm s₂.vm), Ls ++ L, c0 + mc, s0 + ms⟩,
      ⟨X.admits, X.cas, X.clock, X.frames, X.room, X.hears, X.method, X.code, (X.here.setHeapUsed s₂.heap s₂.slotsUsed).setVm hW'.alike, X.tail, State.WarmedH.trans X.warmed hW', X.limits, X.bytes, X.same.trans (hsame.setVm s.vm)⟩,
      ⟨g, mk, s₂, L, rfl, rfl, hqc, rfl, hL, rfl, rfl⟩, ?_⟩
    show Steps p.tables e below _ ((({ U with heap := s₂.heap, slotsUsed := s₂.slotsUsed } : State).setVm s₂.vm).setTop { g with pc := g.pc + len₂, stack := v.toList ++ g.stack })
    rw [← hs₂]
    exact hsteps
  · obtain ⟨e2, q2, q3, q4, q5, q6⟩ := id hsm
    have e3 : s₂ = ({ (U.calling g mk a).setFrames s₂.frames with heap := s₂.heap, slotsUsed := s₂.slotsUsed } : State).setVm s₂.vm := by
      have : s₂ = ({ s₂ with vm := (U.calling g mk a).vm } : State).setVm s₂.vm := rfl
      rw [e2] at this
      exact this
    have hf₂ : s₂.frames = .throwing q :: .java g :: U.frames.tail := hend
    have hW' : U.WarmedH s₂.vm := hW₂
    have hs₂ : s₂ = ((({ U with heap := s₂.heap, slotsUsed := s₂.slotsUsed } : State).setVm s₂.vm).setTop g).pushFrame (.throwing q) := by
      refine e3.trans ?_
      rw [hf₂, State.calling_eq h.top, State.setFrames_setFrames, State.pushFrame, State.frames_setTop _ hr', State.setTop_of_frames _ hr', State.setFrames_setFrames, hr]
      rfl
    have hsame : U.sameButNew ({ U with heap := s₂.heap, slotsUsed := s₂.slotsUsed } : State) L mc ms := by
      refine ⟨?_, q2, q3, q4, q5, q6⟩
      obtain ⟨t, ht, -⟩ := State.frames_cons hr
      show ({ U with heap := s₂.heap, slotsUsed := s₂.slotsUsed } : State) = { U.setFrames U.frames with heap := s₂.heap, slotsUsed := s₂.slotsUsed }
      rw [State.setFrames_self ht]
    subst hg
    refine Or.inr ⟨q, ⟨(({ U with heap := s₂.heap, slotsUsed := s₂.slotsUsed } : State).setVm s₂.vm), Ls ++ L, c0 + mc, s0 + ms⟩,
      ⟨X.admits, X.cas, X.clock, X.frames, X.room, X.hears, X.method, X.code, (X.here.setHeapUsed s₂.heap s₂.slotsUsed).setVm hW'.alike, X.tail, State.WarmedH.trans X.warmed hW', X.limits, X.bytes, X.same.trans (hsame.setVm s.vm)⟩,
      ⟨g, mk, s₂, L, E, ce, rfl, rfl, hx, hce, hcv, hcl, rfl, hL, rfl, rfl⟩, ?_⟩
    show Steps p.tables e below _ (((({ U with heap := s₂.heap, slotsUsed := s₂.slotsUsed } : State).setVm s₂.vm).setTop g).pushFrame (.throwing q))
    rw [← hs₂]
    exact hsteps
end
variable {p : Program} {l : Launch} {e : Env} {R : Room} {s : State} {m : MethodId} {args : Array Value} {below : List Frame} {meth : Method} {c : Code} {T : State} {H : Heap} {locs : List Loc} {cells slots : Nat}
theorem vx_callVX (X : Stand p l e R s m args below meth c T locs cells slots) (hexec : p.tables.exec = Jvm.exec) {own C : String} {index : Nat} {y : MethodName} {bytes : ByteArray} {maxL : Nat} {ret : Option FieldType} {hh : List (Nat × Nat × Nat × Nat)}
    (hown : s.vm.findClass own = some m.cls) (hlink : (Cond.methodLink own index y).before args s = true) (hinst : (Cond.instanceMethod y).before args s = true) (hsel : (Cond.selects C y y).before args s = true)
    (hcode : (Cond.codeWith y bytes maxL ret hh).before args s = true) (hy : y.cls ≠ "java/lang/invoke/MethodHandle" ∧ y.cls ≠ "java/lang/invoke/VarHandle")
    {W9 : Nat} {Pre : Pt → Array Value → Prop} {Post : Pt → Array Value → Option Value → Pt → Prop} {PostX : Pt → Array Value → Addr → Pt → Prop} (hK : vx_Back l R p e below s args y 3 W9 Pre Post PostX)
    {b : Addr} {cellB : Cell} (hcell : T.heap[b]? = some cellB) (hobj : cellB.vm.isStatics = false) (hcls : s.vm.findClass C = some cellB.cls)
    {g : JFrame} (hg : g.method = m) (hsize : g.locals.size = c.maxLocals) {argsL rest : List Value} (hlen : ∀ sig, parseMethodDescriptor y.desc = some sig → argsL.length = sig.parameters.length)
    (hstack : g.stack = argsL.reverse ++ .ref b :: rest) (hW : 2 * g.monitorRoom + (rest.map fun v => v.category).sum ≤ W9) (hdg : decode c.code g.pc = .ok (.invokevirtual index, 3))
    (hpre : ∀ vm₁, s.WarmedH vm₁ → Pre ⟨T.setVm vm₁, locs, cells, slots⟩ (Value.ref b :: argsL).toArray) :
    (∃ (v : Option Value) (vm₁ : Vm) (B : Pt), s.WarmedH vm₁ ∧ Stand p l e R s m args below meth c B.U B.locs B.cells B.slots ∧ Post ⟨T.setVm vm₁, locs, cells, slots⟩ (Value.ref b :: argsL).toArray v B ∧
      ∀ target, Steps p.tables e below (B.U.setTop { g with pc := g.pc + 3, stack := v.toList ++ rest }) target → Steps p.tables e below (T.setTop g) target) ∨
    (∃ (q : Addr) (vm₁ : Vm) (B : Pt), s.WarmedH vm₁ ∧ Stand p l e R s m args below meth c B.U B.locs B.cells B.slots ∧ PostX ⟨T.setVm vm₁, locs, cells, slots⟩ (Value.ref b :: argsL).toArray q B ∧
      Steps p.tables e below (T.setTop g) ((B.U.setTop { g with stack := rest }).pushFrame (.throwing q))) := by
  obtain ⟨mk, methM, hnamed, hmethM, hstM, habM⟩ := Cond.instanceMethod_spec hinst
  obtain ⟨m8, methM', cM, hn8, hmethM', -, -, -, -, -, -, hsigM⟩ := Cond.codeWith_spec hcode
  cases Option.some.inj (hn8.symm.trans hnamed)
  cases hmethM.symm.trans hmethM'
  obtain ⟨c2, r2, m2, q1, q2, q3, q4, kP, hkP, hkPi⟩ := Cond.selects_spec hsel
  cases hcls.symm.trans q1
  cases (State.methodFound?_of_named hnamed hy).symm.trans q2
  cases hnamed.symm.trans q3
  have hselP : selectMethod e.platform s.vm cellB.cls mk = .method mk := by rw [Launch.admits_selectMethod X.admits]; exact q4
  obtain ⟨vm₁, X₁, hstep₁⟩ := X.invokevirtual hexec hown hlink hnamed hmethM hstM hkP hkPi hy (a := b) (cell := cellB) hcell
    (fun z h => by rw [h] at hobj; cases hobj) hselP hmethM habM hkP hkPi (g := g) hg (argsL := argsL) (rest := rest) (hlen _ hsigM) hstack hdg
  rcases hK m meth c ⟨T.setVm vm₁, locs, cells, slots⟩ { g with stack := rest } (.invokevirtual index) mk (Value.ref b :: argsL).toArray X₁ hg hsize hdg hW (X₁.named hnamed) (hpre vm₁ X₁.warmed) with ⟨v, B, X', hpost, hsteps⟩ | ⟨q, B, X', hpost, hsteps⟩
  · exact Or.inl ⟨v, vm₁, B, X₁.warmed, X', hpost, fun target h => hstep₁ _ fun acts => by rw [doInvoke_state]; exact hsteps.trans h⟩
  · exact Or.inr ⟨q, vm₁, B, X₁.warmed, X', hpost, hstep₁ _ fun acts => by rw [doInvoke_state]; exact hsteps⟩
theorem vx_callSX (X : Stand p l e R s m args below meth c T locs cells slots) (hexec : p.tables.exec = Jvm.exec) {own : String} {index : Nat} {y : MethodName} {bytes : ByteArray} {maxL : Nat} {ret : Option FieldType} {hh : List (Nat × Nat × Nat × Nat)}
    (hown : s.vm.findClass own = some m.cls) (hlink : (Cond.methodLink own index y).before args s = true) (hstat : (Cond.static y).before args s = true) (hinit : (Cond.initialized y.cls).before args s = true)
    (hcode : (Cond.codeWith y bytes maxL ret hh).before args s = true) (hy : y.cls ≠ "java/lang/invoke/MethodHandle" ∧ y.cls ≠ "java/lang/invoke/VarHandle")
    {W9 : Nat} {Pre : Pt → Array Value → Prop} {Post : Pt → Array Value → Option Value → Pt → Prop} {PostX : Pt → Array Value → Addr → Pt → Prop} (hK : vx_Back l R p e below s args y 3 W9 Pre Post PostX)
    {g : JFrame} (hg : g.method = m) (hsize : g.locals.size = c.maxLocals) {argsL rest : List Value} (hlen : ∀ sig, parseMethodDescriptor y.desc = some sig → argsL.length = sig.parameters.length)
    (hstack : g.stack = argsL.reverse ++ rest) (hW : 2 * g.monitorRoom + (rest.map fun v => v.category).sum ≤ W9) (hdg : decode c.code g.pc = .ok (.invokestatic index, 3))
    (hpre : ∀ vm₁, s.WarmedH vm₁ → Pre ⟨T.setVm vm₁, locs, cells, slots⟩ argsL.toArray) :
    (∃ (v : Option Value) (vm₁ : Vm) (B : Pt), s.WarmedH vm₁ ∧ Stand p l e R s m args below meth c B.U B.locs B.cells B.slots ∧ Post ⟨T.setVm vm₁, locs, cells, slots⟩ argsL.toArray v B ∧
      ∀ target, Steps p.tables e below (B.U.setTop { g with pc := g.pc + 3, stack := v.toList ++ rest }) target → Steps p.tables e below (T.setTop g) target) ∨
    (∃ (q : Addr) (vm₁ : Vm) (B : Pt), s.WarmedH vm₁ ∧ Stand p l e R s m args below meth c B.U B.locs B.cells B.slots ∧ PostX ⟨T.setVm vm₁, locs, cells, slots⟩ argsL.toArray q B ∧
      Steps p.tables e below (T.setTop g) ((B.U.setTop { g with stack := rest }).pushFrame (.throwing q))) := by
  obtain ⟨mk, methM, cM, hnamed, hmethM, -, -, -, -, -, -, hsigM⟩ := Cond.codeWith_spec hcode
  have hstatic : methM.isStatic = true := Cond.static_spec hnamed hmethM hstat
  obtain ⟨kP, hkP, -⟩ := className_of_methodNamed hnamed
  have hinitP : kP.init = .initialized := Cond.initialized_spec (findClass_of_methodNamed hnamed) hkP hinit
  obtain ⟨vm₁, X₁, hstep₁⟩ := X.invokestatic hexec hown hlink hnamed hmethM hstatic hkP hinitP hy (g := g) hg (argsL := argsL) (rest := rest) (hlen _ hsigM) hstack hdg
  rcases hK m meth c ⟨T.setVm vm₁, locs, cells, slots⟩ { g with stack := rest } (.invokestatic index) mk argsL.toArray X₁ hg hsize hdg hW (X₁.named hnamed) (hpre vm₁ X₁.warmed) with ⟨v, B, X', hpost, hsteps⟩ | ⟨q, B, X', hpost, hsteps⟩
  · exact Or.inl ⟨v, vm₁, B, X₁.warmed, X', hpost, fun target h => hstep₁ _ fun acts => by rw [doInvoke_state]; exact hsteps.trans h⟩
  · exact Or.inr ⟨q, vm₁, B, X₁.warmed, X', hpost, hstep₁ _ fun acts => by rw [doInvoke_state]; exact hsteps⟩
theorem vx_callVW (X : Stand p l e R s m args below meth c T locs cells slots) (hexec : p.tables.exec = Jvm.exec) {own C : String} {index : Nat} {y : MethodName} {bytes : ByteArray} {maxL : Nat} {ret : Option FieldType} {hh : List (Nat × Nat × Nat × Nat)}
    (hown : s.vm.findClass own = some m.cls) (hlink : (Cond.methodLink own index y).before args s = true) (hinst : (Cond.instanceMethod y).before args s = true) (hsel : (Cond.selects C y y).before args s = true)
    (hcode : (Cond.codeWith y bytes maxL ret hh).before args s = true) (hy : y.cls ≠ "java/lang/invoke/MethodHandle" ∧ y.cls ≠ "java/lang/invoke/VarHandle")
    {W9 : Nat} {Pre : Pt → Array Value → Prop} {Post : Pt → Array Value → Option Value → Pt → Prop} (hK : Back l R p e below s args y 3 W9 Pre Post)
    {b : Addr} {cellB : Cell} (hcell : T.heap[b]? = some cellB) (hobj : cellB.vm.isStatics = false) (hcls : s.vm.findClass C = some cellB.cls)
    {g : JFrame} (hg : g.method = m) (hsize : g.locals.size = c.maxLocals) {argsL rest : List Value} (hlen : ∀ sig, parseMethodDescriptor y.desc = some sig → argsL.length = sig.parameters.length)
    (hstack : g.stack = argsL.reverse ++ .ref b :: rest) (hW : 2 * g.monitorRoom + (rest.map fun v => v.category).sum ≤ W9) (hdg : decode c.code g.pc = .ok (.invokevirtual index, 3))
    (hpre : ∀ vm₁, s.WarmedH vm₁ → Pre ⟨T.setVm vm₁, locs, cells, slots⟩ (Value.ref b :: argsL).toArray) :
    ∃ (v : Option Value) (vm₁ : Vm) (B : Pt), s.WarmedH vm₁ ∧ Stand p l e R s m args below meth c B.U B.locs B.cells B.slots ∧ Post ⟨T.setVm vm₁, locs, cells, slots⟩ (Value.ref b :: argsL).toArray v B ∧
      ∀ target, Steps p.tables e below (B.U.setTop { g with pc := g.pc + 3, stack := v.toList ++ rest }) target → Steps p.tables e below (T.setTop g) target := by
  obtain ⟨mk, methM, hnamed, hmethM, hstM, habM⟩ := Cond.instanceMethod_spec hinst
  obtain ⟨m8, methM', cM, hn8, hmethM', -, -, -, -, -, -, hsigM⟩ := Cond.codeWith_spec hcode
  cases Option.some.inj (hn8.symm.trans hnamed)
  cases hmethM.symm.trans hmethM'
  obtain ⟨c2, r2, m2, q1, q2, q3, q4, kP, hkP, hkPi⟩ := Cond.selects_spec hsel
  cases hcls.symm.trans q1
  cases (State.methodFound?_of_named hnamed hy).symm.trans q2
  cases hnamed.symm.trans q3
  have hselP : selectMethod e.platform s.vm cellB.cls mk = .method mk := by rw [Launch.admits_selectMethod X.admits]; exact q4
  obtain ⟨vm₁, X₁, hstep₁⟩ := X.invokevirtual hexec hown hlink hnamed hmethM hstM hkP hkPi hy (a := b) (cell := cellB) hcell
    (fun z h => by rw [h] at hobj; cases hobj) hselP hmethM habM hkP hkPi (g := g) hg (argsL := argsL) (rest := rest) (hlen _ hsigM) hstack hdg
  obtain ⟨v, B, X', hpost, hsteps⟩ := hK m meth c ⟨T.setVm vm₁, locs, cells, slots⟩ { g with stack := rest } (.invokevirtual index) mk (Value.ref b :: argsL).toArray X₁ hg hsize hdg hW (X₁.named hnamed) (hpre vm₁ X₁.warmed)
  exact ⟨v, vm₁, B, X₁.warmed, X', hpost, fun target h => hstep₁ _ fun acts => by rw [doInvoke_state]; exact hsteps.trans h⟩
abbrev vx_CVW (R : Room) (s : State) (args : Array Value) (own C : String) (index : Nat) (y : MethodName) (bytes : ByteArray) (maxL : Nat) (ret : Option FieldType) (hh : List (Nat × Nat × Nat × Nat)) (ws : List Cond) (rm : Room) (mc ms n : Nat) : Prop :=
  (rm.cells = mc ∧ rm.slots = ms ∧ rm.frames + 1 ≤ R.frames ∧ 8 + (maxL + 11) + rm.locals ≤ R.locals ∧ (∀ w ∈ ws, ∀ (a' : Array Value) (U : State), s.WarmedH U.vm → w.before a' U = true) ∧ Cond.codeWith y bytes maxL ret hh ∈ ws) ∧
  (Cond.codeWith y bytes maxL ret hh).before args s = true ∧ (Cond.initialized y.cls).before args s = true ∧ (y.cls ≠ "java/lang/invoke/MethodHandle" ∧ y.cls ≠ "java/lang/invoke/VarHandle") ∧
  (∀ sig, parseMethodDescriptor y.desc = some sig → n = sig.parameters.length) ∧ (Cond.methodLink own index y).before args s = true ∧ (Cond.instanceMethod y).before args s = true ∧ (Cond.selects C y y).before args s = true
theorem vx_cwVW {own C : String} {index maxL mc ms : Nat} {y : MethodName} {bytes : ByteArray} {ret : Option FieldType} {hh : List (Nat × Nat × Nat × Nat)} {Ts ws ws' : List Cond} {rm : Room} (n : Nat) (ht : ∀ w ∈ Ts, w.before args s = true) (hT : GoodIn Ts (wsV own index C y ws)) (hw : ws = Cond.codeWith y bytes maxL ret hh :: ws') (hrc : rm.cells = mc) (hrs : rm.slots = ms)
    (hd : y.cls = C ∧ y.cls ≠ "java/lang/invoke/MethodHandle" ∧ y.cls ≠ "java/lang/invoke/VarHandle" ∧ (parseMethodDescriptor y.desc).map (fun d => d.parameters.length) = some n) (hR : rm.frames + 1 ≤ R.frames ∧ 8 + (maxL + 11) + rm.locals ≤ R.locals) :
    vx_CVW R s args own C index y bytes maxL ret hh ws rm mc ms n := by
  obtain ⟨hC, hd⟩ := hd
  subst hC
  have ok : ∀ w ∈ wsV own index y.cls y ws, w.before args s = true := fun w h => ht w (hT w h).1
  have hG : GoodIn Ts ws := fun w h => hT w (by unfold wsV; exact List.mem_append_right _ h)
  have hc : Cond.codeWith y bytes maxL ret hh ∈ ws := by rw [hw]; exact List.mem_cons_self
  refine ⟨⟨hrc, hrs, hR.1, hR.2, pay_in ht hG, hc⟩, ht _ (hG _ hc).1, ok _ (by simp [wsV]), ⟨hd.1, hd.2.1⟩, fun sig h => ?_, ok _ (by simp [wsV]), ok _ (by simp [wsV]), ok _ (by simp [wsV])⟩
  have h2 := hd.2.2
  rw [h] at h2
  exact (Option.some.inj h2).symm
theorem vx_runVW {y : MethodName} {bytes cc : ByteArray} {maxL nL mc ms n index : Nat} {ret : Option FieldType} {hh : List (Nat × Nat × Nat × Nat)} {ws : List Cond} {rm : Room} {Pc : Array Value → State → Prop} {Qc : Array Value → State → Outcome → State → Prop} {free : Addr → Prop} {Ts : List Cond} {own C : String} {b : Addr} {As rest : List Value} {g : JFrame}
    (S : CallFix p m c cc nL s args Ts own) (hM : Met l y ws rm Pc Qc mc ms free) (cw : vx_CVW R s args own C index y bytes maxL ret hh ws rm mc ms n) (hp : PreV s H C b Pc As)
    (hg : g.method = m) (hn : As.length = n) (hsize : g.locals.size = nL) (hstack : g.stack = As.reverse ++ .ref b :: rest) (hW : 2 * g.monitorRoom + (rest.map fun v => v.category).sum ≤ 8) (hdg : decode cc g.pc = .ok (.invokevirtual index, 3)) (hf : cells + mc ≤ R.cells ∧ slots + ms ≤ R.slots) :
    va_Run p l e R s m args below meth c H locs cells slots mc ms g rest (Qc (Value.ref b :: As).toArray) free := by
  obtain ⟨⟨hrc, hrs, hfr, hlo, hws, hcw⟩, hcode, hini, hy, hlen, hl, hin, hse⟩ := cw
  have hK : Back l R p e below s args y 3 8 (PreOf R mc ms Pc) (PostOf Qc mc ms free) := va_backW (hh := hh) (bytes := bytes) (maxL := maxL) (ret := ret) hM hp.1 hrc hrs hfr hlo hws hcw (fun a' U hW => word_at hW (Or.inl (by first | rfl | simp [Cond.onTables, Cond.keeps, Cond.steady])) hini)
  obtain ⟨hx, hb, hml, ho, -⟩ := S
  obtain ⟨-, ⟨cellB, hcB, hoB, hclB⟩, hPc⟩ := hp
  intro T hT X
  obtain ⟨v, vm₁, ⟨U', l2, c2, s2⟩, hW₁, X', ⟨g', mk, t, L, e1, e2, hq, h1, hL, h2, h3⟩, st⟩ := vx_callVW X hx (C := C) (hh := hh) (bytes := bytes) (maxL := maxL) (ret := ret) ho hl hin hse hcode hy hK (by rw [hT]; exact hcB) hoB hclB hg (hsize.trans hml.symm) (argsL := As) (rest := rest) (fun sig h => hn.trans (hlen sig h)) hstack hW (by rw [hb]; exact hdg)
    (fun vm₁ hW₁ => ⟨hf.1, hf.2, hPc (T.setVm vm₁) hT hW₁⟩)
  dsimp only [Pt.U, Pt.locs, Pt.cells, Pt.slots] at X' e1 e2 h1 h2 h3 st
  subst h1; subst h2; subst h3
  exact ⟨v, (T.setVm vm₁).calling g' mk (Value.ref b :: As).toArray, t, U', L, hT, X', hL, e1, e2, hq, st⟩
section
variable {y : MethodName} {bytes cc : ByteArray} {maxL nL mc ms n index : Nat} {ret : Option FieldType} {ws : List Cond} {rm : Room} {Pc : Array Value → State → Prop} {Qc : Array Value → State → Outcome → State → Prop} {XC : String → State → State → Prop} {free : Addr → Prop} {Ts : List Cond} {own C : String} {b : Addr} {As rest : List Value} {g : JFrame}
theorem vx_runVX {hh : List (Nat × Nat × Nat × Nat)} (S : CallFix p m c cc nL s args Ts own) (hM : vx_Met l y ws rm Pc Qc XC mc ms free) (cw : vx_CVW R s args own C index y bytes maxL ret hh ws rm mc ms n) (hp : PreV s H C b Pc As)
    (hg : g.method = m) (hn : As.length = n) (hsize : g.locals.size = nL) (hstack : g.stack = As.reverse ++ .ref b :: rest) (hW : 2 * g.monitorRoom + (rest.map fun v => v.category).sum ≤ 8) (hdg : decode cc g.pc = .ok (.invokevirtual index, 3)) (hf : cells + mc ≤ R.cells ∧ slots + ms ≤ R.slots) :
    vx_Run p l e R s m args below meth c H locs cells slots mc ms g rest (Qc (Value.ref b :: As).toArray) XC free := by
  obtain ⟨⟨hrc, hrs, hfr, hlo, hws, hcw⟩, hcode, hini, hy, hlen, hl, hin, hse⟩ := cw
  have hK : vx_Back l R p e below s args y 3 8 (PreOf R mc ms Pc) (PostOf Qc mc ms free) (vx_Post XC mc ms free) := vx_backW (hh := hh) (bytes := bytes) (maxL := maxL) (ret := ret) hM hp.1 hrc hrs hfr hlo hws hcw (fun a' U hW => word_at hW (Or.inl (by first | rfl | simp [Cond.onTables, Cond.keeps, Cond.steady])) hini)
  obtain ⟨hx, hb, hml, ho, -⟩ := S
  obtain ⟨-, ⟨cellB, hcB, hoB, hclB⟩, hPc⟩ := hp
  intro T hT X
  rcases vx_callVX X hx (C := C) (hh := hh) (bytes := bytes) (maxL := maxL) (ret := ret) ho hl hin hse hcode hy hK (by rw [hT]; exact hcB) hoB hclB hg (hsize.trans hml.symm) (argsL := As) (rest := rest) (fun sig h => hn.trans (hlen sig h)) hstack hW (by rw [hb]; exact hdg)
    (fun vm₁ hW₁ => ⟨hf.1, hf.2, hPc (T.setVm vm₁) hT hW₁⟩) with ⟨v, vm₁, ⟨U', l2, c2, s2⟩, hW₁, X', ⟨g', mk, t, L, e1, e2, hq, h1, hL, h2, h3⟩, st⟩ | ⟨q, vm₁, ⟨U', l2, c2, s2⟩, hW₁, X', ⟨g', mk, t, L, E, ce, e1, e2, hq, hce, hcv, hcl, h1, hL, h2, h3⟩, st⟩
  · dsimp only [Pt.U, Pt.locs, Pt.cells, Pt.slots] at X' e1 e2 h1 h2 h3 st
    subst h1; subst h2; subst h3
    exact Or.inl ⟨v, (T.setVm vm₁).calling g' mk (Value.ref b :: As).toArray, t, U', L, hT, X', hL, e1, e2, hq, st⟩
  · dsimp only [Pt.U, Pt.locs, Pt.cells, Pt.slots] at X' e1 e2 h1 h2 h3 st hcl
    subst h1; subst h2; subst h3
    exact Or.inr ⟨q, (T.setVm vm₁).calling g' mk (Value.ref b :: As).toArray, t, U', L, E, ce, hT, X', hL, e1, e2, hq, hce, hcv, vx_cls hW₁ hcl, st⟩
theorem vx_runSX {hh : List (Nat × Nat × Nat × Nat)} (S : CallFix p m c cc nL s args Ts own) (hM : vx_Met l y ws rm Pc Qc XC mc ms free) (cw : vx_CSW R s args own index y bytes maxL ret hh ws rm mc ms n) (hp : PreS s H Pc As)
    (hg : g.method = m) (hn : As.length = n) (hsize : g.locals.size = nL) (hstack : g.stack = As.reverse ++ rest) (hW : 2 * g.monitorRoom + (rest.map fun v => v.category).sum ≤ 8) (hdg : decode cc g.pc = .ok (.invokestatic index, 3)) (hf : cells + mc ≤ R.cells ∧ slots + ms ≤ R.slots) :
    vx_Run p l e R s m args below meth c H locs cells slots mc ms g rest (Qc As.toArray) XC free := by
  obtain ⟨⟨hrc, hrs, hfr, hlo, hws, hcw⟩, hcode, hini, hy, hlen, hl, hstt⟩ := cw
  have hK : vx_Back l R p e below s args y 3 8 (PreOf R mc ms Pc) (PostOf Qc mc ms free) (vx_Post XC mc ms free) := vx_backW (hh := hh) (bytes := bytes) (maxL := maxL) (ret := ret) hM hp.1 hrc hrs hfr hlo hws hcw (fun a' U hW => word_at hW (Or.inl (by first | rfl | simp [Cond.onTables, Cond.keeps, Cond.steady])) hini)
  obtain ⟨hx, hb, hml, ho, -⟩ := S
  intro T hT X
  rcases vx_callSX X hx (hh := hh) (bytes := bytes) (maxL := maxL) (ret := ret) ho hl hstt hini hcode hy hK hg (hsize.trans hml.symm) (argsL := As) (rest := rest) (fun sig h => hn.trans (hlen sig h)) hstack hW (by rw [hb]; exact hdg)
    (fun vm₁ hW₁ => ⟨hf.1, hf.2, hp.2 (T.setVm vm₁) hT hW₁⟩) with ⟨v, vm₁, ⟨U', l2, c2, s2⟩, hW₁, X', ⟨g', mk, t, L, e1, e2, hq, h1, hL, h2, h3⟩, st⟩ | ⟨q, vm₁, ⟨U', l2, c2, s2⟩, hW₁, X', ⟨g', mk, t, L, E, ce, e1, e2, hq, hce, hcv, hcl, h1, hL, h2, h3⟩, st⟩
  · dsimp only [Pt.U, Pt.locs, Pt.cells, Pt.slots] at X' e1 e2 h1 h2 h3 st
    subst h1; subst h2; subst h3
    exact Or.inl ⟨v, (T.setVm vm₁).calling g' mk As.toArray, t, U', L, hT, X', hL, e1, e2, hq, st⟩
  · dsimp only [Pt.U, Pt.locs, Pt.cells, Pt.slots] at X' e1 e2 h1 h2 h3 st hcl
    subst h1; subst h2; subst h3
    exact Or.inr ⟨q, (T.setVm vm₁).calling g' mk As.toArray, t, U', L, E, ce, hT, X', hL, e1, e2, hq, hce, hcv, vx_cls hW₁ hcl, st⟩
end
end VXH
theorem vx_ofWH {l : Launch} {y : MethodName} {ws ws' : List Cond} {rm : Room} {Pc : Array Value → State → Prop} {Qc : Array Value → State → Outcome → State → Prop} {XC : String → State → State → Prop} {mc ms : Nat} {free : Addr → Prop} {cc : ByteArray} {maxL : Nat} {ret : Option FieldType} {hh : List (Nat × Nat × Nat × Nat)}
    (hy : plainName y.cls = true) (hw : ws = Cond.codeWith y cc maxL ret hh :: ws')
    (body : ∀ p e s m args below meth c s₁, BodyLoose p l y (headSpec ws rm) cc maxL ret e s m args below meth c s₁ → c.maxLocals = maxL → Pc args s →
      W p l e (headSpec ws rm).room s m args below meth c s.heap [] 0 0 (vx_MQ below Qc XC args s mc ms free) (entryFrame m args maxL)) : vx_Met l y ws rm Pc Qc XC mc ms free := by
  refine MetFree.of_bodyS (code := cc) (maxLocals := maxL) (ret := ret) hy ?_ ?_
  · intro args s m h hn
    obtain ⟨m9, meth, c, hn9, h1, h2, h3, h4, -, h5, h6, -⟩ := Cond.codeWith_spec (atoms_spec (ws := ws) h _ (by rw [hw]; exact List.mem_cons_self))
    cases hn.symm.trans hn9
    exact ⟨meth, c, h1, h2, h3, h4, h5, h6⟩
  · intro p e s m args below meth c s₁ B hml hP _
    have hh0 : s₁.heap = s.heap := by rw [B.state]; rfl
    obtain ⟨t, a1, o, b1, b2, b3⟩ := body p e s m args below meth c s₁ B hml hP s₁ hh0 (Stand.of_body B)
    exact ⟨t, o, a1, b1, b2, b3⟩
/-! ===== END ===== -/

/-! ===== BEGIN printed: names, fields, word lists, decode rows ===== -/
def RX0 : String := "HatbandYard$Block"
def TX0 : u_T := fun k => match k with
  | 0 => ("HatbandYard$Block", "size", "I", true)
  | _ => ("HatbandYard$Block", "depth", "I", true)
def tyX0 : Nat → FieldType := fun k => match k with
  | 0 => .int
  | _ => .int
abbrev wsX00 : List Cond := u_ws RX0 TX0 2
theorem nmX0 : ∀ a, a < 2 → ∀ b, b < 2 → a ≠ b → (TX0 a).2.1 ≠ (TX0 b).2.1 := by decide +kernel
theorem tyX0_ok : ∀ k, k < 2 → parseFieldDescriptor (TX0 k).2.2.1 = some (tyX0 k) := by decide +kernel
abbrev cX0_init : ByteArray := prog_2_method_1_code
def yX0_init : MethodName := ⟨RX0, "<init>", "(II)V"⟩
abbrev cX0_widthFor : ByteArray := prog_2_method_2_code
def yX0_widthFor : MethodName := ⟨RX0, "widthFor", "(I)I"⟩
def RX1 : String := "HatbandYard$Cone"
def TX1 : u_T := fun k => match k with
  | 0 => ("HatbandYard$Cone", "fur", "LHatbandYard$Fur;", true)
  | 1 => ("HatbandYard$Cone", "widths", "[I", true)
  | 2 => ("HatbandYard$Cone", "gramsOfBands", "[I", true)
  | 3 => ("HatbandYard$Cone", "height", "I", false)
  | 4 => ("HatbandYard$Cone", "cycleCount", "I", false)
  | 5 => ("HatbandYard$Cone", "lastBlock", "LHatbandYard$Block;", false)
  | _ => ("HatbandYard$Cone", "isTrimmed", "Z", false)
def tyX1 : Nat → FieldType := fun k => match k with
  | 0 => .object "HatbandYard$Fur"
  | 1 => .array .int
  | 2 => .array .int
  | 3 => .int
  | 4 => .int
  | 5 => .object "HatbandYard$Block"
  | _ => .boolean
abbrev wsX10 : List Cond := u_ws RX1 TX1 7
theorem nmX1 : ∀ a, a < 7 → ∀ b, b < 7 → a ≠ b → (TX1 a).2.1 ≠ (TX1 b).2.1 := by decide +kernel
theorem tyX1_ok : ∀ k, k < 7 → parseFieldDescriptor (TX1 k).2.2.1 = some (tyX1 k) := by decide +kernel
abbrev cX1_init : ByteArray := prog_3_method_1_code
def yX1_init : MethodName := ⟨RX1, "<init>", "(LHatbandYard$Fur;II)V"⟩
abbrev cX1_partOf : ByteArray := prog_3_method_2_code
def yX1_partOf : MethodName := ⟨RX1, "partOf", "(II)I"⟩
abbrev cX1_widthFormed : ByteArray := prog_3_method_3_code
def yX1_widthFormed : MethodName := ⟨RX1, "widthFormed", "(I)I"⟩
abbrev cX1_widthOf : ByteArray := prog_3_method_4_code
def yX1_widthOf : MethodName := ⟨RX1, "widthOf", "(I)I"⟩
abbrev cX1_gramsOf : ByteArray := prog_3_method_5_code
def yX1_gramsOf : MethodName := ⟨RX1, "gramsOf", "(I)I"⟩
abbrev cX1_thicknessOf : ByteArray := prog_3_method_6_code
def yX1_thicknessOf : MethodName := ⟨RX1, "thicknessOf", "(I)I"⟩
abbrev cX1_shrink : ByteArray := prog_3_method_7_code
def yX1_shrink : MethodName := ⟨RX1, "shrink", "()V"⟩
abbrev cX1_refusalOf : ByteArray := prog_3_method_8_code
def yX1_refusalOf : MethodName := ⟨RX1, "refusalOf", "(LHatbandYard$Block;)I"⟩
abbrev cX1_hasHole : ByteArray := prog_3_method_9_code
def yX1_hasHole : MethodName := ⟨RX1, "hasHole", "()Z"⟩
abbrev cX1_isTornBy : ByteArray := prog_3_method_10_code
def yX1_isTornBy : MethodName := ⟨RX1, "isTornBy", "(II)Z"⟩
abbrev cX1_stretchOver : ByteArray := prog_3_method_11_code
def yX1_stretchOver : MethodName := ⟨RX1, "stretchOver", "(LHatbandYard$Block;)V"⟩
abbrev cX1_widthFollowed : ByteArray := prog_3_method_12_code
def yX1_widthFollowed : MethodName := ⟨RX1, "widthFollowed", "(I)I"⟩
def RX2 : String := "HatbandYard$Feather"
def TX2 : u_T := fun k => match k with
  | _ => ("", "", "", false)
def tyX2 : Nat → FieldType := fun k => match k with
  | _ => .int
abbrev wsX20 : List Cond := u_ws RX2 TX2 0
theorem nmX2 : ∀ a, a < 0 → ∀ b, b < 0 → a ≠ b → (TX2 a).2.1 ≠ (TX2 b).2.1 := by decide +kernel
theorem tyX2_ok : ∀ k, k < 0 → parseFieldDescriptor (TX2 k).2.2.1 = some (tyX2 k) := by decide +kernel
abbrev cX2_isAllowedIn : ByteArray := prog_4_method_4_code
def yX2_isAllowedIn : MethodName := ⟨RX2, "isAllowedIn", "(I)Z"⟩
def RX3 : String := "HatbandYard$Fur"
def TX3 : u_T := fun k => match k with
  | _ => ("", "", "", false)
def tyX3 : Nat → FieldType := fun k => match k with
  | _ => .int
abbrev wsX30 : List Cond := u_ws RX3 TX3 0
theorem nmX3 : ∀ a, a < 0 → ∀ b, b < 0 → a ≠ b → (TX3 a).2.1 ≠ (TX3 b).2.1 := by decide +kernel
theorem tyX3_ok : ∀ k, k < 0 → parseFieldDescriptor (TX3 k).2.2.1 = some (tyX3 k) := by decide +kernel
abbrev cX3_shrunkAcross : ByteArray := prog_5_method_4_code
def yX3_shrunkAcross : MethodName := ⟨RX3, "shrunkAcross", "(I)I"⟩
abbrev cX3_shrunkAlong : ByteArray := prog_5_method_5_code
def yX3_shrunkAlong : MethodName := ⟨RX3, "shrunkAlong", "(I)I"⟩
def RX4 : String := "HatbandYard$Hand"
def TX4 : u_T := fun k => match k with
  | 0 => ("HatbandYard$Hand", "airToday", "I", false)
  | _ => ("HatbandYard$Hand", "airEver", "I", false)
def tyX4 : Nat → FieldType := fun k => match k with
  | 0 => .int
  | _ => .int
abbrev wsX40 : List Cond := u_ws RX4 TX4 2
theorem nmX4 : ∀ a, a < 2 → ∀ b, b < 2 → a ≠ b → (TX4 a).2.1 ≠ (TX4 b).2.1 := by decide +kernel
theorem tyX4_ok : ∀ k, k < 2 → parseFieldDescriptor (TX4 k).2.2.1 = some (tyX4 k) := by decide +kernel
abbrev cX4_init : ByteArray := prog_6_method_1_code
def yX4_init : MethodName := ⟨RX4, "<init>", "()V"⟩
abbrev cX4_breathe : ByteArray := prog_6_method_2_code
def yX4_breathe : MethodName := ⟨RX4, "breathe", "(I)V"⟩
def RX5 : String := "HatbandYard$Head"
def TX5 : u_T := fun k => match k with
  | _ => ("HatbandYard$Head", "radii", "[I", true)
def tyX5 : Nat → FieldType := fun k => match k with
  | _ => .array .int
abbrev wsX50 : List Cond := u_ws RX5 TX5 1
theorem nmX5 : ∀ a, a < 1 → ∀ b, b < 1 → a ≠ b → (TX5 a).2.1 ≠ (TX5 b).2.1 := by decide +kernel
theorem tyX5_ok : ∀ k, k < 1 → parseFieldDescriptor (TX5 k).2.2.1 = some (tyX5 k) := by decide +kernel
abbrev cX5_init : ByteArray := prog_7_method_1_code
def yX5_init : MethodName := ⟨RX5, "<init>", "()V"⟩
abbrev cX5_setRadius : ByteArray := prog_7_method_2_code
def yX5_setRadius : MethodName := ⟨RX5, "setRadius", "(II)V"⟩
abbrev cX5_around : ByteArray := prog_7_method_3_code
def yX5_around : MethodName := ⟨RX5, "around", "()I"⟩
abbrev cX5_sizeIn : ByteArray := prog_7_method_4_code
def yX5_sizeIn : MethodName := ⟨RX5, "sizeIn", "(I)F"⟩
def RX6 : String := "HatbandYard$Lot"
def TX6 : u_T := fun k => match k with
  | 0 => ("HatbandYard$Lot", "fur", "LHatbandYard$Fur;", true)
  | _ => ("HatbandYard$Lot", "gramsLeft", "I", false)
def tyX6 : Nat → FieldType := fun k => match k with
  | 0 => .object "HatbandYard$Fur"
  | _ => .int
abbrev wsX60 : List Cond := u_ws RX6 TX6 2
theorem nmX6 : ∀ a, a < 2 → ∀ b, b < 2 → a ≠ b → (TX6 a).2.1 ≠ (TX6 b).2.1 := by decide +kernel
theorem tyX6_ok : ∀ k, k < 2 → parseFieldDescriptor (TX6 k).2.2.1 = some (tyX6 k) := by decide +kernel
abbrev cX6_init : ByteArray := prog_8_method_1_code
def yX6_init : MethodName := ⟨RX6, "<init>", "(LHatbandYard$Fur;I)V"⟩
def RX7 : String := "HatbandYard$Spiral"
def TX7 : u_T := fun k => match k with
  | _ => ("", "", "", false)
def tyX7 : Nat → FieldType := fun k => match k with
  | _ => .int
abbrev wsX70 : List Cond := u_ws RX7 TX7 0
theorem nmX7 : ∀ a, a < 0 → ∀ b, b < 0 → a ≠ b → (TX7 a).2.1 ≠ (TX7 b).2.1 := by decide +kernel
theorem tyX7_ok : ∀ k, k < 0 → parseFieldDescriptor (TX7 k).2.2.1 = some (tyX7 k) := by decide +kernel
abbrev cX7_gainOf : ByteArray := prog_9_method_4_code
def yX7_gainOf : MethodName := ⟨RX7, "gainOf", "(I)I"⟩
abbrev cX7_stitchesRowByRow : ByteArray := prog_9_method_5_code
def yX7_stitchesRowByRow : MethodName := ⟨RX7, "stitchesRowByRow", "(I)I"⟩
abbrev cX7_stitchesAtOnce : ByteArray := prog_9_method_6_code
def yX7_stitchesAtOnce : MethodName := ⟨RX7, "stitchesAtOnce", "(I)I"⟩
abbrev cX7_addedByOneEach : ByteArray := prog_9_method_7_code
def yX7_addedByOneEach : MethodName := ⟨RX7, "addedByOneEach", "(II)I"⟩
abbrev cX7_rowsToClose : ByteArray := prog_9_method_8_code
def yX7_rowsToClose : MethodName := ⟨RX7, "rowsToClose", "(I)I"⟩
def RX8 : String := "HatbandYard"
def TX8 : u_T := fun k => match k with
  | 0 => ("HatbandYard", "typed", "Ljava/lang/StringBuilder;", true)
  | 1 => ("HatbandYard", "lots", "[LHatbandYard$Lot;", true)
  | 2 => ("HatbandYard", "cones", "[LHatbandYard$Cone;", true)
  | 3 => ("HatbandYard", "hands", "[LHatbandYard$Hand;", true)
  | 4 => ("HatbandYard", "blocks", "[LHatbandYard$Block;", true)
  | 5 => ("HatbandYard", "head", "LHatbandYard$Head;", true)
  | 6 => ("HatbandYard", "lotCount", "I", false)
  | 7 => ("HatbandYard", "coneCount", "I", false)
  | 8 => ("HatbandYard", "handCount", "I", false)
  | 9 => ("HatbandYard", "blockCount", "I", false)
  | _ => ("HatbandYard", "dayCount", "I", false)
def tyX8 : Nat → FieldType := fun k => match k with
  | 0 => .object "java/lang/StringBuilder"
  | 1 => .array (.object "HatbandYard$Lot")
  | 2 => .array (.object "HatbandYard$Cone")
  | 3 => .array (.object "HatbandYard$Hand")
  | 4 => .array (.object "HatbandYard$Block")
  | 5 => .object "HatbandYard$Head"
  | 6 => .int
  | 7 => .int
  | 8 => .int
  | 9 => .int
  | _ => .int
abbrev wsX80 : List Cond := u_ws RX8 TX8 11
theorem nmX8 : ∀ a, a < 11 → ∀ b, b < 11 → a ≠ b → (TX8 a).2.1 ≠ (TX8 b).2.1 := by decide +kernel
theorem tyX8_ok : ∀ k, k < 11 → parseFieldDescriptor (TX8 k).2.2.1 = some (tyX8 k) := by decide +kernel
abbrev cX8_init : ByteArray := prog_1_method_1_code
def yX8_init : MethodName := ⟨RX8, "<init>", "()V"⟩
abbrev cX8_letter : ByteArray := prog_1_method_2_code
def yX8_letter : MethodName := ⟨RX8, "letter", "(C)I"⟩
abbrev cX8_lot : ByteArray := prog_1_method_3_code
def yX8_lot : MethodName := ⟨RX8, "lot", "(I)I"⟩
abbrev cX8_cone : ByteArray := prog_1_method_4_code
def yX8_cone : MethodName := ⟨RX8, "cone", "(III)I"⟩
abbrev cX8_hand : ByteArray := prog_1_method_5_code
def yX8_hand : MethodName := ⟨RX8, "hand", "()I"⟩
abbrev cX8_cycle : ByteArray := prog_1_method_6_code
def yX8_cycle : MethodName := ⟨RX8, "cycle", "(II)I"⟩
abbrev cX8_block : ByteArray := prog_1_method_7_code
def yX8_block : MethodName := ⟨RX8, "block", "(II)I"⟩
abbrev cX8_draw : ByteArray := prog_1_method_8_code
def yX8_draw : MethodName := ⟨RX8, "draw", "(II)I"⟩
abbrev cX8_trim : ByteArray := prog_1_method_9_code
def yX8_trim : MethodName := ⟨RX8, "trim", "(I)Z"⟩
abbrev cX8_pass : ByteArray := prog_1_method_10_code
def yX8_pass : MethodName := ⟨RX8, "pass", "(I)I"⟩
abbrev cX8_about : ByteArray := prog_1_method_11_code
def yX8_about : MethodName := ⟨RX8, "about", "(III)I"⟩
abbrev cX8_widthAnew : ByteArray := prog_1_method_12_code
def yX8_widthAnew : MethodName := ⟨RX8, "widthAnew", "(II)I"⟩
abbrev cX8_brim : ByteArray := prog_1_method_13_code
def yX8_brim : MethodName := ⟨RX8, "brim", "(II)I"⟩
abbrev cX8_count : ByteArray := prog_1_method_14_code
def yX8_count : MethodName := ⟨RX8, "count", "(I)I"⟩
abbrev cX8_countAnew : ByteArray := prog_1_method_15_code
def yX8_countAnew : MethodName := ⟨RX8, "countAnew", "(I)I"⟩
abbrev cX8_rows : ByteArray := prog_1_method_16_code
def yX8_rows : MethodName := ⟨RX8, "rows", "(I)I"⟩
abbrev cX8_measure : ByteArray := prog_1_method_17_code
def yX8_measure : MethodName := ⟨RX8, "measure", "(II)I"⟩
abbrev cX8_fits : ByteArray := prog_1_method_18_code
def yX8_fits : MethodName := ⟨RX8, "fits", "(I)Z"⟩
abbrev cX8_size : ByteArray := prog_1_method_19_code
def yX8_size : MethodName := ⟨RX8, "size", "(I)I"⟩
abbrev cX8_air : ByteArray := prog_1_method_20_code
def yX8_air : MethodName := ⟨RX8, "air", "(IZ)I"⟩
abbrev cX8_grams : ByteArray := prog_1_method_21_code
def yX8_grams : MethodName := ⟨RX8, "grams", "(I)I"⟩
abbrev cX8_refuseOutside : ByteArray := prog_1_method_22_code
def yX8_refuseOutside : MethodName := ⟨RX8, "refuseOutside", "(III)V"⟩
abbrev cX8_refuseFull : ByteArray := prog_1_method_23_code
def yX8_refuseFull : MethodName := ⟨RX8, "refuseFull", "(II)V"⟩
abbrev cX8_refuseNoSuch : ByteArray := prog_1_method_24_code
def yX8_refuseNoSuch : MethodName := ⟨RX8, "refuseNoSuch", "(II)V"⟩
abbrev cX8_lotAt : ByteArray := prog_1_method_25_code
def yX8_lotAt : MethodName := ⟨RX8, "lotAt", "(I)LHatbandYard$Lot;"⟩
abbrev cX8_coneAt : ByteArray := prog_1_method_26_code
def yX8_coneAt : MethodName := ⟨RX8, "coneAt", "(I)LHatbandYard$Cone;"⟩
abbrev cX8_handAt : ByteArray := prog_1_method_27_code
def yX8_handAt : MethodName := ⟨RX8, "handAt", "(I)LHatbandYard$Hand;"⟩
abbrev cX8_blockAt : ByteArray := prog_1_method_28_code
def yX8_blockAt : MethodName := ⟨RX8, "blockAt", "(I)LHatbandYard$Block;"⟩
abbrev cX8_typedFur : ByteArray := prog_1_method_29_code
def yX8_typedFur : MethodName := ⟨RX8, "typedFur", "()LHatbandYard$Fur;"⟩
abbrev cX8_typedFeather : ByteArray := prog_1_method_30_code
def yX8_typedFeather : MethodName := ⟨RX8, "typedFeather", "()LHatbandYard$Feather;"⟩
abbrev cX8_typedSpiral : ByteArray := prog_1_method_31_code
def yX8_typedSpiral : MethodName := ⟨RX8, "typedSpiral", "()LHatbandYard$Spiral;"⟩
abbrev cX8_isTyped : ByteArray := prog_1_method_32_code
def yX8_isTyped : MethodName := ⟨RX8, "isTyped", "(Ljava/lang/String;)Z"⟩
abbrev cX8_clearTyped : ByteArray := prog_1_method_33_code
def yX8_clearTyped : MethodName := ⟨RX8, "clearTyped", "()V"⟩
abbrev cX8_year : ByteArray := prog_1_method_34_code
def yX8_year : MethodName := ⟨RX8, "year", "()I"⟩
abbrev cX8_bitsOf : ByteArray := prog_1_method_35_code
def yX8_bitsOf : MethodName := ⟨RX8, "bitsOf", "(F)I"⟩
def RX9 : String := "HatbandYardModel"
def TX9 : u_T := fun k => match k with
  | 0 => ("HatbandYardModel", "letters", "I", false)
  | 1 => ("HatbandYardModel", "typed", "J", false)
  | 2 => ("HatbandYardModel", "lots", "I", false)
  | 3 => ("HatbandYardModel", "furs", "[I", true)
  | 4 => ("HatbandYardModel", "grams", "[I", true)
  | 5 => ("HatbandYardModel", "cones", "I", false)
  | 6 => ("HatbandYardModel", "coneFur", "[I", true)
  | 7 => ("HatbandYardModel", "widths", "[I", true)
  | 8 => ("HatbandYardModel", "heights", "[I", true)
  | 9 => ("HatbandYardModel", "felt", "[I", true)
  | 10 => ("HatbandYardModel", "cycles", "[I", true)
  | 11 => ("HatbandYardModel", "isDrawn", "[Z", true)
  | 12 => ("HatbandYardModel", "isTrimmed", "[Z", true)
  | 13 => ("HatbandYardModel", "blocks", "I", false)
  | 14 => ("HatbandYardModel", "sizes", "[I", true)
  | 15 => ("HatbandYardModel", "depths", "[I", true)
  | 16 => ("HatbandYardModel", "hands", "I", false)
  | 17 => ("HatbandYardModel", "airToday", "[I", true)
  | 18 => ("HatbandYardModel", "airEver", "[I", true)
  | 19 => ("HatbandYardModel", "radii", "[I", true)
  | 20 => ("HatbandYardModel", "days", "I", false)
  | _ => ("HatbandYardModel", "thrown", "I", false)
def tyX9 : Nat → FieldType := fun k => match k with
  | 0 => .int
  | 1 => .long
  | 2 => .int
  | 3 => .array .int
  | 4 => .array .int
  | 5 => .int
  | 6 => .array .int
  | 7 => .array .int
  | 8 => .array .int
  | 9 => .array .int
  | 10 => .array .int
  | 11 => .array .boolean
  | 12 => .array .boolean
  | 13 => .int
  | 14 => .array .int
  | 15 => .array .int
  | 16 => .int
  | 17 => .array .int
  | 18 => .array .int
  | 19 => .array .int
  | 20 => .int
  | _ => .int
abbrev wsX90 : List Cond := u_ws RX9 TX9 22
theorem nmX9 : ∀ a, a < 22 → ∀ b, b < 22 → a ≠ b → (TX9 a).2.1 ≠ (TX9 b).2.1 := by decide +kernel
theorem tyX9_ok : ∀ k, k < 22 → parseFieldDescriptor (TX9 k).2.2.1 = some (tyX9 k) := by decide +kernel
abbrev cX9_init : ByteArray := prog_11_method_1_code
def yX9_init : MethodName := ⟨RX9, "<init>", "()V"⟩
abbrev cX9_thrown : ByteArray := prog_11_method_2_code
def yX9_thrown : MethodName := ⟨RX9, "thrown", "()I"⟩
abbrev cX9_goes : ByteArray := prog_11_method_3_code
def yX9_goes : MethodName := ⟨RX9, "goes", "(I)Z"⟩
abbrev cX9_isIn : ByteArray := prog_11_method_4_code
def yX9_isIn : MethodName := ⟨RX9, "isIn", "(III)Z"⟩
abbrev cX9_isCone : ByteArray := prog_11_method_5_code
def yX9_isCone : MethodName := ⟨RX9, "isCone", "(I)Z"⟩
abbrev cX9_isBand : ByteArray := prog_11_method_6_code
def yX9_isBand : MethodName := ⟨RX9, "isBand", "(II)Z"⟩
abbrev cX9_letter : ByteArray := prog_11_method_7_code
def yX9_letter : MethodName := ⟨RX9, "letter", "(C)I"⟩
abbrev cX9_word : ByteArray := prog_11_method_8_code
def yX9_word : MethodName := ⟨RX9, "word", "(CCCCCCC)J"⟩
abbrev cX9_empties : ByteArray := prog_11_method_9_code
def yX9_empties : MethodName := ⟨RX9, "empties", "()V"⟩
abbrev cX9_fur : ByteArray := prog_11_method_10_code
def yX9_fur : MethodName := ⟨RX9, "fur", "()I"⟩
abbrev cX9_feather : ByteArray := prog_11_method_11_code
def yX9_feather : MethodName := ⟨RX9, "feather", "()I"⟩
abbrev cX9_kind : ByteArray := prog_11_method_12_code
def yX9_kind : MethodName := ⟨RX9, "kind", "()I"⟩
abbrev cX9_across : ByteArray := prog_11_method_13_code
def yX9_across : MethodName := ⟨RX9, "across", "(I)I"⟩
abbrev cX9_along : ByteArray := prog_11_method_14_code
def yX9_along : MethodName := ⟨RX9, "along", "(I)I"⟩
abbrev cX9_strain : ByteArray := prog_11_method_15_code
def yX9_strain : MethodName := ⟨RX9, "strain", "(I)I"⟩
abbrev cX9_airOf : ByteArray := prog_11_method_16_code
def yX9_airOf : MethodName := ⟨RX9, "airOf", "(I)I"⟩
abbrev cX9_lot : ByteArray := prog_11_method_17_code
def yX9_lot : MethodName := ⟨RX9, "lot", "(I)I"⟩
abbrev cX9_cone : ByteArray := prog_11_method_18_code
def yX9_cone : MethodName := ⟨RX9, "cone", "(III)I"⟩
abbrev cX9_hand : ByteArray := prog_11_method_19_code
def yX9_hand : MethodName := ⟨RX9, "hand", "()I"⟩
abbrev cX9_shrunk : ByteArray := prog_11_method_20_code
def yX9_shrunk : MethodName := ⟨RX9, "shrunk", "(II)I"⟩
abbrev cX9_cycle : ByteArray := prog_11_method_21_code
def yX9_cycle : MethodName := ⟨RX9, "cycle", "(II)I"⟩
abbrev cX9_thick : ByteArray := prog_11_method_22_code
def yX9_thick : MethodName := ⟨RX9, "thick", "(I)I"⟩
abbrev cX9_block : ByteArray := prog_11_method_23_code
def yX9_block : MethodName := ⟨RX9, "block", "(II)I"⟩
abbrev cX9_blockAt : ByteArray := prog_11_method_24_code
def yX9_blockAt : MethodName := ⟨RX9, "blockAt", "(II)I"⟩
abbrev cX9_hinders : ByteArray := prog_11_method_25_code
def yX9_hinders : MethodName := ⟨RX9, "hinders", "(II)I"⟩
abbrev cX9_draw : ByteArray := prog_11_method_26_code
def yX9_draw : MethodName := ⟨RX9, "draw", "(II)I"⟩
abbrev cX9_trim : ByteArray := prog_11_method_27_code
def yX9_trim : MethodName := ⟨RX9, "trim", "(I)Z"⟩
abbrev cX9_pass : ByteArray := prog_11_method_28_code
def yX9_pass : MethodName := ⟨RX9, "pass", "(I)I"⟩
abbrev cX9_about : ByteArray := prog_11_method_29_code
def yX9_about : MethodName := ⟨RX9, "about", "(III)I"⟩
abbrev cX9_widthAnew : ByteArray := prog_11_method_30_code
def yX9_widthAnew : MethodName := ⟨RX9, "widthAnew", "(II)I"⟩
abbrev cX9_brim : ByteArray := prog_11_method_31_code
def yX9_brim : MethodName := ⟨RX9, "brim", "(II)I"⟩
abbrev cX9_gain : ByteArray := prog_11_method_32_code
def yX9_gain : MethodName := ⟨RX9, "gain", "(II)I"⟩
abbrev cX9_countOf : ByteArray := prog_11_method_33_code
def yX9_countOf : MethodName := ⟨RX9, "countOf", "(I)I"⟩
abbrev cX9_count : ByteArray := prog_11_method_34_code
def yX9_count : MethodName := ⟨RX9, "count", "(I)I"⟩
abbrev cX9_countAnew : ByteArray := prog_11_method_35_code
def yX9_countAnew : MethodName := ⟨RX9, "countAnew", "(I)I"⟩
abbrev cX9_rows : ByteArray := prog_11_method_36_code
def yX9_rows : MethodName := ⟨RX9, "rows", "(I)I"⟩
abbrev cX9_around : ByteArray := prog_11_method_37_code
def yX9_around : MethodName := ⟨RX9, "around", "()I"⟩
abbrev cX9_measure : ByteArray := prog_11_method_38_code
def yX9_measure : MethodName := ⟨RX9, "measure", "(II)I"⟩
abbrev cX9_fits : ByteArray := prog_11_method_39_code
def yX9_fits : MethodName := ⟨RX9, "fits", "(I)Z"⟩
abbrev cX9_size : ByteArray := prog_11_method_40_code
def yX9_size : MethodName := ⟨RX9, "size", "(I)I"⟩
abbrev cX9_air : ByteArray := prog_11_method_41_code
def yX9_air : MethodName := ⟨RX9, "air", "(IZ)I"⟩
abbrev cX9_grams : ByteArray := prog_11_method_42_code
def yX9_grams : MethodName := ⟨RX9, "grams", "(I)I"⟩
def RJ5 : String := "java/lang/AbstractStringBuilder"
def TJ5 : u_T := fun k => match k with
  | _ => ("", "", "", false)
def tyJ5 : Nat → FieldType := fun k => match k with
  | _ => .int
abbrev wsJ50 : List Cond := u_ws RJ5 TJ5 0
theorem nmJ5 : ∀ a, a < 0 → ∀ b, b < 0 → a ≠ b → (TJ5 a).2.1 ≠ (TJ5 b).2.1 := by decide +kernel
theorem tyJ5_ok : ∀ k, k < 0 → parseFieldDescriptor (TJ5 k).2.2.1 = some (tyJ5 k) := by decide +kernel
abbrev cJ5_init_d00df : ByteArray := prog_12_method_2_code
def yJ5_init_d00df : MethodName := ⟨RJ5, "<init>", "(I)V"⟩
abbrev cJ5_length_8abf5 : ByteArray := prog_12_method_6_code
def yJ5_length_8abf5 : MethodName := ⟨RJ5, "length", "()I"⟩
abbrev cJ5_ensureCapacityInternal_d00df : ByteArray := prog_12_method_9_code
def yJ5_ensureCapacityInternal_d00df : MethodName := ⟨RJ5, "ensureCapacityInternal", "(I)V"⟩
abbrev cJ5_newCapacity_0f7a4 : ByteArray := prog_12_method_10_code
def yJ5_newCapacity_0f7a4 : MethodName := ⟨RJ5, "newCapacity", "(I)I"⟩
abbrev cJ5_inflate_da8c8 : ByteArray := prog_12_method_11_code
def yJ5_inflate_da8c8 : MethodName := ⟨RJ5, "inflate", "()V"⟩
abbrev cJ5_setLength_d00df : ByteArray := prog_12_method_13_code
def yJ5_setLength_d00df : MethodName := ⟨RJ5, "setLength", "(I)V"⟩
abbrev cJ5_charAt_5068e : ByteArray := prog_12_method_14_code
def yJ5_charAt_5068e : MethodName := ⟨RJ5, "charAt", "(I)C"⟩
abbrev cJ5_append_cf1ce : ByteArray := prog_12_method_22_code
def yJ5_append_cf1ce : MethodName := ⟨RJ5, "append", "(Ljava/lang/String;)Ljava/lang/AbstractStringBuilder;"⟩
abbrev cJ5_appendNull_278bc : ByteArray := prog_12_method_26_code
def yJ5_appendNull_278bc : MethodName := ⟨RJ5, "appendNull", "()Ljava/lang/AbstractStringBuilder;"⟩
abbrev cJ5_append_3fe6f : ByteArray := prog_12_method_31_code
def yJ5_append_3fe6f : MethodName := ⟨RJ5, "append", "(C)Ljava/lang/AbstractStringBuilder;"⟩
abbrev cJ5_append_c97b9 : ByteArray := prog_12_method_32_code
def yJ5_append_c97b9 : MethodName := ⟨RJ5, "append", "(I)Ljava/lang/AbstractStringBuilder;"⟩
abbrev cJ5_getValue_6d5f1 : ByteArray := prog_12_method_64_code
def yJ5_getValue_6d5f1 : MethodName := ⟨RJ5, "getValue", "()[B"⟩
abbrev cJ5_isLatin1_aae02 : ByteArray := prog_12_method_68_code
def yJ5_isLatin1_aae02 : MethodName := ⟨RJ5, "isLatin1", "()Z"⟩
abbrev cJ5_inflateIfNeededFor_a7421 : ByteArray := prog_12_method_71_code
def yJ5_inflateIfNeededFor_a7421 : MethodName := ⟨RJ5, "inflateIfNeededFor", "(Ljava/lang/String;)V"⟩
abbrev cJ5_putStringAt_47b60 : ByteArray := prog_12_method_73_code
def yJ5_putStringAt_47b60 : MethodName := ⟨RJ5, "putStringAt", "(ILjava/lang/String;)V"⟩
def RJx00060 : String := "java/lang/ArrayIndexOutOfBoundsException"
def TJx00060 : u_T := fun k => match k with
  | 0 => ("java/lang/Throwable", "cause", "Ljava/lang/Throwable;", false)
  | 1 => ("java/lang/Throwable", "stackTrace", "[Ljava/lang/StackTraceElement;", false)
  | 2 => ("java/lang/Throwable", "suppressedExceptions", "Ljava/util/List;", false)
  | 3 => ("java/lang/Throwable", "detailMessage", "Ljava/lang/String;", false)
  | 4 => ("java/lang/Throwable", "backtrace", "Ljava/lang/Object;", false)
  | _ => ("java/lang/Throwable", "depth", "I", false)
def tyJx00060 : Nat → FieldType := fun k => match k with
  | 0 => .object "java/lang/Throwable"
  | 1 => .array (.object "java/lang/StackTraceElement")
  | 2 => .object "java/util/List"
  | 3 => .object "java/lang/String"
  | 4 => .object "java/lang/Object"
  | _ => .int
abbrev wsJx000600 : List Cond := u_ws RJx00060 TJx00060 6
theorem nmJx00060 : ∀ a, a < 6 → ∀ b, b < 6 → a ≠ b → (TJx00060 a).2.1 ≠ (TJx00060 b).2.1 := by decide +kernel
theorem tyJx00060_ok : ∀ k, k < 6 → parseFieldDescriptor (TJx00060 k).2.2.1 = some (tyJx00060 k) := by decide +kernel
abbrev cJx00060_init_d00df : ByteArray := prog_13_method_3_code
def yJx00060_init_d00df : MethodName := ⟨RJx00060, "<init>", "(I)V"⟩
def RJx8e188 : String := "java/lang/Cloneable"
def TJx8e188 : u_T := fun k => match k with
  | _ => ("", "", "", false)
def tyJx8e188 : Nat → FieldType := fun k => match k with
  | _ => .int
abbrev wsJx8e1880 : List Cond := u_ws RJx8e188 TJx8e188 0
theorem nmJx8e188 : ∀ a, a < 0 → ∀ b, b < 0 → a ≠ b → (TJx8e188 a).2.1 ≠ (TJx8e188 b).2.1 := by decide +kernel
theorem tyJx8e188_ok : ∀ k, k < 0 → parseFieldDescriptor (TJx8e188 k).2.2.1 = some (tyJx8e188 k) := by decide +kernel
def RJx29ce0 : String := "java/lang/Enum"
def TJx29ce0 : u_T := fun k => match k with
  | _ => ("", "", "", false)
def tyJx29ce0 : Nat → FieldType := fun k => match k with
  | _ => .int
abbrev wsJx29ce00 : List Cond := u_ws RJx29ce0 TJx29ce0 0
theorem nmJx29ce0 : ∀ a, a < 0 → ∀ b, b < 0 → a ≠ b → (TJx29ce0 a).2.1 ≠ (TJx29ce0 b).2.1 := by decide +kernel
theorem tyJx29ce0_ok : ∀ k, k < 0 → parseFieldDescriptor (TJx29ce0 k).2.2.1 = some (tyJx29ce0 k) := by decide +kernel
def RJxf58ca : String := "java/lang/Float"
def TJxf58ca : u_T := fun k => match k with
  | _ => ("", "", "", false)
def tyJxf58ca : Nat → FieldType := fun k => match k with
  | _ => .int
abbrev wsJxf58ca0 : List Cond := u_ws RJxf58ca TJxf58ca 0
theorem nmJxf58ca : ∀ a, a < 0 → ∀ b, b < 0 → a ≠ b → (TJxf58ca a).2.1 ≠ (TJxf58ca b).2.1 := by decide +kernel
theorem tyJxf58ca_ok : ∀ k, k < 0 → parseFieldDescriptor (TJxf58ca k).2.2.1 = some (tyJxf58ca k) := by decide +kernel
abbrev cJxf58ca_isNaN_12338 : ByteArray := prog_17_method_6_code
def yJxf58ca_isNaN_12338 : MethodName := ⟨RJxf58ca, "isNaN", "(F)Z"⟩
abbrev cJxf58ca_floatToIntBits_5c35a : ByteArray := prog_17_method_24_code
def yJxf58ca_floatToIntBits_5c35a : MethodName := ⟨RJxf58ca, "floatToIntBits", "(F)I"⟩
def RJ6 : String := "java/lang/Integer"
def TJ6 : u_T := fun k => match k with
  | _ => ("", "", "", false)
def tyJ6 : Nat → FieldType := fun k => match k with
  | _ => .int
abbrev wsJ60 : List Cond := u_ws RJ6 TJ6 0
theorem nmJ6 : ∀ a, a < 0 → ∀ b, b < 0 → a ≠ b → (TJ6 a).2.1 ≠ (TJ6 b).2.1 := by decide +kernel
theorem tyJ6_ok : ∀ k, k < 0 → parseFieldDescriptor (TJ6 k).2.2.1 = some (tyJ6 k) := by decide +kernel
abbrev cJ6_getChars_ba4f3 : ByteArray := prog_21_method_12_code
def yJ6_getChars_ba4f3 : MethodName := ⟨RJ6, "getChars", "(II[B)I"⟩
abbrev cJ6_stringSize_0f7a4 : ByteArray := prog_21_method_13_code
def yJ6_stringSize_0f7a4 : MethodName := ⟨RJ6, "stringSize", "(I)I"⟩
def RJ9 : String := "java/lang/Math"
def TJ9 : u_T := fun k => match k with
  | _ => ("", "", "", false)
def tyJ9 : Nat → FieldType := fun k => match k with
  | _ => .int
abbrev wsJ90 : List Cond := u_ws RJ9 TJ9 0
theorem nmJ9 : ∀ a, a < 0 → ∀ b, b < 0 → a ≠ b → (TJ9 a).2.1 ≠ (TJ9 b).2.1 := by decide +kernel
theorem tyJ9_ok : ∀ k, k < 0 → parseFieldDescriptor (TJ9 k).2.2.1 = some (tyJ9 k) := by decide +kernel
abbrev cJ9_max_7cf53 : ByteArray := prog_22_method_65_code
def yJ9_max_7cf53 : MethodName := ⟨RJ9, "max", "(II)I"⟩
abbrev cJ9_min_7cf53 : ByteArray := prog_22_method_69_code
def yJ9_min_7cf53 : MethodName := ⟨RJ9, "min", "(II)I"⟩
def RJ0 : String := "java/lang/String"
def TJ0 : u_T := fun k => match k with
  | 0 => ("java/lang/String", "value", "[B", true)
  | 1 => ("java/lang/String", "coder", "B", true)
  | 2 => ("java/lang/String", "hash", "I", false)
  | _ => ("java/lang/String", "hashIsZero", "Z", false)
def tyJ0 : Nat → FieldType := fun k => match k with
  | 0 => .array .byte
  | 1 => .byte
  | 2 => .int
  | _ => .boolean
abbrev wsJ00 : List Cond := u_ws RJ0 TJ0 4
theorem nmJ0 : ∀ a, a < 4 → ∀ b, b < 4 → a ≠ b → (TJ0 a).2.1 ≠ (TJ0 b).2.1 := by decide +kernel
theorem tyJ0_ok : ∀ k, k < 4 → parseFieldDescriptor (TJ0 k).2.2.1 = some (tyJ0 k) := by decide +kernel
abbrev cJ0_init_81219 : ByteArray := prog_24_method_53_code
def yJ0_init_81219 : MethodName := ⟨RJ0, "<init>", "(Ljava/lang/StringBuilder;)V"⟩
abbrev cJ0_length_8abf5 : ByteArray := prog_24_method_54_code
def yJ0_length_8abf5 : MethodName := ⟨RJ0, "length", "()I"⟩
abbrev cJ0_charAt_5068e : ByteArray := prog_24_method_56_code
def yJ0_charAt_5068e : MethodName := ⟨RJ0, "charAt", "(I)C"⟩
abbrev cJ0_getBytes_840e7 : ByteArray := prog_24_method_147_code
def yJ0_getBytes_840e7 : MethodName := ⟨RJ0, "getBytes", "([BIB)V"⟩
abbrev cJ0_init_db425 : ByteArray := prog_24_method_150_code
def yJ0_init_db425 : MethodName := ⟨RJ0, "<init>", "(Ljava/lang/AbstractStringBuilder;Ljava/lang/Void;)V"⟩
abbrev cJ0_coder_7d493 : ByteArray := prog_24_method_152_code
def yJ0_coder_7d493 : MethodName := ⟨RJ0, "coder", "()B"⟩
abbrev cJ0_isLatin1_aae02 : ByteArray := prog_24_method_154_code
def yJ0_isLatin1_aae02 : MethodName := ⟨RJ0, "isLatin1", "()Z"⟩
abbrev cJ0_checkIndex_df160 : ByteArray := prog_24_method_155_code
def yJ0_checkIndex_df160 : MethodName := ⟨RJ0, "checkIndex", "(II)V"⟩
abbrev cJ0_checkBoundsOffCount_cabcc : ByteArray := prog_24_method_157_code
def yJ0_checkBoundsOffCount_cabcc : MethodName := ⟨RJ0, "checkBoundsOffCount", "(III)I"⟩
abbrev cJ0_checkBoundsBeginEnd_23922 : ByteArray := prog_24_method_158_code
def yJ0_checkBoundsBeginEnd_23922 : MethodName := ⟨RJ0, "checkBoundsBeginEnd", "(III)V"⟩
def RJ4 : String := "java/lang/StringBuilder"
def TJ4 : u_T := fun k => match k with
  | 0 => ("java/lang/AbstractStringBuilder", "value", "[B", false)
  | 1 => ("java/lang/AbstractStringBuilder", "coder", "B", false)
  | 2 => ("java/lang/AbstractStringBuilder", "maybeLatin1", "Z", false)
  | _ => ("java/lang/AbstractStringBuilder", "count", "I", false)
def tyJ4 : Nat → FieldType := fun k => match k with
  | 0 => .array .byte
  | 1 => .byte
  | 2 => .boolean
  | _ => .int
abbrev wsJ40 : List Cond := u_ws RJ4 TJ4 4
theorem nmJ4 : ∀ a, a < 4 → ∀ b, b < 4 → a ≠ b → (TJ4 a).2.1 ≠ (TJ4 b).2.1 := by decide +kernel
theorem tyJ4_ok : ∀ k, k < 4 → parseFieldDescriptor (TJ4 k).2.2.1 = some (tyJ4 k) := by decide +kernel
abbrev cJ4_init_da8c8 : ByteArray := prog_25_method_1_code
def yJ4_init_da8c8 : MethodName := ⟨RJ4, "<init>", "()V"⟩
abbrev cJ4_append_15ec4 : ByteArray := prog_25_method_7_code
def yJ4_append_15ec4 : MethodName := ⟨RJ4, "append", "(Ljava/lang/String;)Ljava/lang/StringBuilder;"⟩
abbrev cJ4_append_cf468 : ByteArray := prog_25_method_14_code
def yJ4_append_cf468 : MethodName := ⟨RJ4, "append", "(C)Ljava/lang/StringBuilder;"⟩
abbrev cJ4_append_bf812 : ByteArray := prog_25_method_15_code
def yJ4_append_bf812 : MethodName := ⟨RJ4, "append", "(I)Ljava/lang/StringBuilder;"⟩
abbrev cJ4_toString_0e30d : ByteArray := prog_25_method_42_code
def yJ4_toString_0e30d : MethodName := ⟨RJ4, "toString", "()Ljava/lang/String;"⟩
abbrev cJ4_charAt_5068e : ByteArray := prog_25_method_88_code
def yJ4_charAt_5068e : MethodName := ⟨RJ4, "charAt", "(I)C"⟩
abbrev cJ4_setLength_d00df : ByteArray := prog_25_method_89_code
def yJ4_setLength_d00df : MethodName := ⟨RJ4, "setLength", "(I)V"⟩
abbrev cJ4_length_8abf5 : ByteArray := prog_25_method_93_code
def yJ4_length_8abf5 : MethodName := ⟨RJ4, "length", "()I"⟩
def RJx7c733 : String := "java/lang/StringIndexOutOfBoundsException"
def TJx7c733 : u_T := fun k => match k with
  | 0 => ("java/lang/Throwable", "backtrace", "Ljava/lang/Object;", false)
  | 1 => ("java/lang/Throwable", "detailMessage", "Ljava/lang/String;", false)
  | 2 => ("java/lang/Throwable", "cause", "Ljava/lang/Throwable;", false)
  | 3 => ("java/lang/Throwable", "stackTrace", "[Ljava/lang/StackTraceElement;", false)
  | 4 => ("java/lang/Throwable", "depth", "I", false)
  | _ => ("java/lang/Throwable", "suppressedExceptions", "Ljava/util/List;", false)
def tyJx7c733 : Nat → FieldType := fun k => match k with
  | 0 => .object "java/lang/Object"
  | 1 => .object "java/lang/String"
  | 2 => .object "java/lang/Throwable"
  | 3 => .array (.object "java/lang/StackTraceElement")
  | 4 => .int
  | _ => .object "java/util/List"
abbrev wsJx7c7330 : List Cond := u_ws RJx7c733 TJx7c733 6
theorem nmJx7c733 : ∀ a, a < 6 → ∀ b, b < 6 → a ≠ b → (TJx7c733 a).2.1 ≠ (TJx7c733 b).2.1 := by decide +kernel
theorem tyJx7c733_ok : ∀ k, k < 6 → parseFieldDescriptor (TJx7c733 k).2.2.1 = some (tyJx7c733 k) := by decide +kernel
abbrev cJx7c733_init_d00df : ByteArray := prog_26_method_3_code
def yJx7c733_init_d00df : MethodName := ⟨RJx7c733, "<init>", "(I)V"⟩
def RJ1 : String := "java/lang/StringLatin1"
def TJ1 : u_T := fun k => match k with
  | _ => ("", "", "", false)
def tyJ1 : Nat → FieldType := fun k => match k with
  | _ => .int
abbrev wsJ10 : List Cond := u_ws RJ1 TJ1 0
theorem nmJ1 : ∀ a, a < 0 → ∀ b, b < 0 → a ≠ b → (TJ1 a).2.1 ≠ (TJ1 b).2.1 := by decide +kernel
theorem tyJ1_ok : ∀ k, k < 0 → parseFieldDescriptor (TJ1 k).2.2.1 = some (tyJ1 k) := by decide +kernel
abbrev cJ1_charAt_3b067 : ByteArray := prog_27_method_2_code
def yJ1_charAt_3b067 : MethodName := ⟨RJ1, "charAt", "([BI)C"⟩
abbrev cJ1_canEncode_fc78d : ByteArray := prog_27_method_3_code
def yJ1_canEncode_fc78d : MethodName := ⟨RJ1, "canEncode", "(C)Z"⟩
abbrev cJ1_fillNull_b72d1 : ByteArray := prog_27_method_48_code
def yJ1_fillNull_b72d1 : MethodName := ⟨RJ1, "fillNull", "([BII)V"⟩
abbrev cJ1_inflate_0e8fd : ByteArray := prog_27_method_50_code
def yJ1_inflate_0e8fd : MethodName := ⟨RJ1, "inflate", "([BI[BII)V"⟩
def RJ2 : String := "java/lang/StringUTF16"
def TJ2 : u_T := fun k => match k with
  | _ => ("", "", "", false)
def tyJ2 : Nat → FieldType := fun k => match k with
  | _ => .int
abbrev wsJ20 : List Cond := u_ws RJ2 TJ2 0
theorem nmJ2 : ∀ a, a < 0 → ∀ b, b < 0 → a ≠ b → (TJ2 a).2.1 ≠ (TJ2 b).2.1 := by decide +kernel
theorem tyJ2_ok : ∀ k, k < 0 → parseFieldDescriptor (TJ2 k).2.2.1 = some (tyJ2 k) := by decide +kernel
abbrev cJ2_newBytesFor_77867 : ByteArray := prog_28_method_2_code
def yJ2_newBytesFor_77867 : MethodName := ⟨RJ2, "newBytesFor", "(I)[B"⟩
abbrev cJ2_newBytesLength_0f7a4 : ByteArray := prog_28_method_3_code
def yJ2_newBytesLength_0f7a4 : MethodName := ⟨RJ2, "newBytesLength", "(I)I"⟩
abbrev cJ2_putChar_b72d1 : ByteArray := prog_28_method_4_code
def yJ2_putChar_b72d1 : MethodName := ⟨RJ2, "putChar", "([BII)V"⟩
abbrev cJ2_getChar_3b067 : ByteArray := prog_28_method_5_code
def yJ2_getChar_3b067 : MethodName := ⟨RJ2, "getChar", "([BI)C"⟩
abbrev cJ2_length_9d52b : ByteArray := prog_28_method_6_code
def yJ2_length_9d52b : MethodName := ⟨RJ2, "length", "([B)I"⟩
abbrev cJ2_coderFromArrayLen_85cad : ByteArray := prog_28_method_15_code
def yJ2_coderFromArrayLen_85cad : MethodName := ⟨RJ2, "coderFromArrayLen", "([BI)B"⟩
abbrev cJ2_compress_39247 : ByteArray := prog_28_method_17_code
def yJ2_compress_39247 : MethodName := ⟨RJ2, "compress", "([BII)[B"⟩
abbrev cJ2_compress_5af95 : ByteArray := prog_28_method_22_code
def yJ2_compress_5af95 : MethodName := ⟨RJ2, "compress", "([BI[BII)I"⟩
abbrev cJ2_fillNull_b72d1 : ByteArray := prog_28_method_70_code
def yJ2_fillNull_b72d1 : MethodName := ⟨RJ2, "fillNull", "([BII)V"⟩
abbrev cJ2_putCharSB_b72d1 : ByteArray := prog_28_method_71_code
def yJ2_putCharSB_b72d1 : MethodName := ⟨RJ2, "putCharSB", "([BII)V"⟩
abbrev cJ2_getChars_46870 : ByteArray := prog_28_method_77_code
def yJ2_getChars_46870 : MethodName := ⟨RJ2, "getChars", "(III[B)I"⟩
abbrev cJ2_putCharsAt_cd4e5 : ByteArray := prog_28_method_81_code
def yJ2_putCharsAt_cd4e5 : MethodName := ⟨RJ2, "putCharsAt", "([BICCCC)I"⟩
abbrev cJ2_charAt_3b067 : ByteArray := prog_28_method_83_code
def yJ2_charAt_3b067 : MethodName := ⟨RJ2, "charAt", "([BI)C"⟩
abbrev cJ2_inflate_0e8fd : ByteArray := prog_28_method_86_code
def yJ2_inflate_0e8fd : MethodName := ⟨RJ2, "inflate", "([BI[BII)V"⟩
abbrev cJ2_getChars_ba4f3 : ByteArray := prog_28_method_89_code
def yJ2_getChars_ba4f3 : MethodName := ⟨RJ2, "getChars", "(II[B)I"⟩
abbrev cJ2_checkIndex_2214a : ByteArray := prog_28_method_91_code
def yJ2_checkIndex_2214a : MethodName := ⟨RJ2, "checkIndex", "(I[B)V"⟩
abbrev cJ2_checkBoundsBeginEnd_d044e : ByteArray := prog_28_method_93_code
def yJ2_checkBoundsBeginEnd_d044e : MethodName := ⟨RJ2, "checkBoundsBeginEnd", "(II[B)V"⟩
abbrev cJ2_checkBoundsOffCount_d044e : ByteArray := prog_28_method_94_code
def yJ2_checkBoundsOffCount_d044e : MethodName := ⟨RJ2, "checkBoundsOffCount", "(II[B)V"⟩
def RJ10 : String := "java/lang/System"
def TJ10 : u_T := fun k => match k with
  | _ => ("", "", "", false)
def tyJ10 : Nat → FieldType := fun k => match k with
  | _ => .int
abbrev wsJ100 : List Cond := u_ws RJ10 TJ10 0
theorem nmJ10 : ∀ a, a < 0 → ∀ b, b < 0 → a ≠ b → (TJ10 a).2.1 ≠ (TJ10 b).2.1 := by decide +kernel
theorem tyJ10_ok : ∀ k, k < 0 → parseFieldDescriptor (TJ10 k).2.2.1 = some (tyJ10 k) := by decide +kernel
def RJ7 : String := "java/util/Arrays"
def TJ7 : u_T := fun k => match k with
  | _ => ("", "", "", false)
def tyJ7 : Nat → FieldType := fun k => match k with
  | _ => .int
abbrev wsJ70 : List Cond := u_ws RJ7 TJ7 0
theorem nmJ7 : ∀ a, a < 0 → ∀ b, b < 0 → a ≠ b → (TJ7 a).2.1 ≠ (TJ7 b).2.1 := by decide +kernel
theorem tyJ7_ok : ∀ k, k < 0 → parseFieldDescriptor (TJ7 k).2.2.1 = some (tyJ7 k) := by decide +kernel
abbrev cJ7_rangeCheck_23922 : ByteArray := prog_31_method_30_code
def yJ7_rangeCheck_23922 : MethodName := ⟨RJ7, "rangeCheck", "(III)V"⟩
abbrev cJ7_fill_eb02e : ByteArray := prog_31_method_110_code
def yJ7_fill_eb02e : MethodName := ⟨RJ7, "fill", "([BIIB)V"⟩
abbrev cJ7_copyOf_9075b : ByteArray := prog_31_method_121_code
def yJ7_copyOf_9075b : MethodName := ⟨RJ7, "copyOf", "([BI)[B"⟩
abbrev cJ7_checkLength_df160 : ByteArray := prog_31_method_131_code
def yJ7_checkLength_df160 : MethodName := ⟨RJ7, "checkLength", "(II)V"⟩
abbrev cJ7_copyOfRange_39247 : ByteArray := prog_31_method_132_code
def yJ7_copyOfRange_39247 : MethodName := ⟨RJ7, "copyOfRange", "([BII)[B"⟩
abbrev cJ7_copyOfRangeByte_39247 : ByteArray := prog_31_method_133_code
def yJ7_copyOfRangeByte_39247 : MethodName := ⟨RJ7, "copyOfRangeByte", "([BII)[B"⟩
def RJ8 : String := "jdk/internal/util/ArraysSupport"
def TJ8 : u_T := fun k => match k with
  | _ => ("", "", "", false)
def tyJ8 : Nat → FieldType := fun k => match k with
  | _ => .int
abbrev wsJ80 : List Cond := u_ws RJ8 TJ8 0
theorem nmJ8 : ∀ a, a < 0 → ∀ b, b < 0 → a ≠ b → (TJ8 a).2.1 ≠ (TJ8 b).2.1 := by decide +kernel
theorem tyJ8_ok : ∀ k, k < 0 → parseFieldDescriptor (TJ8 k).2.2.1 = some (tyJ8 k) := by decide +kernel
abbrev cJ8_newLength_cabcc : ByteArray := prog_32_method_27_code
def yJ8_newLength_cabcc : MethodName := ⟨RJ8, "newLength", "(III)I"⟩
abbrev cJ8_hugeLength_7cf53 : ByteArray := prog_32_method_28_code
def yJ8_hugeLength_7cf53 : MethodName := ⟨RJ8, "hugeLength", "(II)I"⟩
def RJ3 : String := "jdk/internal/util/Preconditions"
def TJ3 : u_T := fun k => match k with
  | _ => ("", "", "", false)
def tyJ3 : Nat → FieldType := fun k => match k with
  | _ => .int
abbrev wsJ30 : List Cond := u_ws RJ3 TJ3 0
theorem nmJ3 : ∀ a, a < 0 → ∀ b, b < 0 → a ≠ b → (TJ3 a).2.1 ≠ (TJ3 b).2.1 := by decide +kernel
theorem tyJ3_ok : ∀ k, k < 0 → parseFieldDescriptor (TJ3 k).2.2.1 = some (tyJ3 k) := by decide +kernel
abbrev cJ3_checkIndex_8e157 : ByteArray := prog_33_method_11_code
def yJ3_checkIndex_8e157 : MethodName := ⟨RJ3, "checkIndex", "(IILjava/util/function/BiFunction;)I"⟩
abbrev cJ3_checkFromToIndex_8c36e : ByteArray := prog_33_method_12_code
def yJ3_checkFromToIndex_8c36e : MethodName := ⟨RJ3, "checkFromToIndex", "(IIILjava/util/function/BiFunction;)I"⟩
abbrev cJ3_checkFromIndexSize_8c36e : ByteArray := prog_33_method_13_code
def yJ3_checkFromIndexSize_8c36e : MethodName := ⟨RJ3, "checkFromIndexSize", "(IIILjava/util/function/BiFunction;)I"⟩
def RL : String := "HatbandYardLaw"
abbrev cL_letter : ByteArray := method_3_code
def yL_letter : MethodName := ⟨RL, "letter", "(LHatbandYard;C[J)I"⟩
abbrev cL_lot : ByteArray := method_4_code
def yL_lot : MethodName := ⟨RL, "lot", "(LHatbandYard;I[J)I"⟩
abbrev cL_cone : ByteArray := method_5_code
def yL_cone : MethodName := ⟨RL, "cone", "(LHatbandYard;III[J)I"⟩
abbrev cL_hand : ByteArray := method_6_code
def yL_hand : MethodName := ⟨RL, "hand", "(LHatbandYard;[J)I"⟩
abbrev cL_cycle : ByteArray := method_7_code
def yL_cycle : MethodName := ⟨RL, "cycle", "(LHatbandYard;II[J)I"⟩
abbrev cL_block : ByteArray := method_8_code
def yL_block : MethodName := ⟨RL, "block", "(LHatbandYard;II[J)I"⟩
abbrev cL_draw : ByteArray := method_9_code
def yL_draw : MethodName := ⟨RL, "draw", "(LHatbandYard;II[J)I"⟩
abbrev cL_trim : ByteArray := method_10_code
def yL_trim : MethodName := ⟨RL, "trim", "(LHatbandYard;I[J)I"⟩
abbrev cL_pass : ByteArray := method_11_code
def yL_pass : MethodName := ⟨RL, "pass", "(LHatbandYard;I[J)I"⟩
abbrev cL_about : ByteArray := method_12_code
def yL_about : MethodName := ⟨RL, "about", "(LHatbandYard;III[J)I"⟩
abbrev cL_widthAnew : ByteArray := method_13_code
def yL_widthAnew : MethodName := ⟨RL, "widthAnew", "(LHatbandYard;II[J)I"⟩
abbrev cL_brim : ByteArray := method_14_code
def yL_brim : MethodName := ⟨RL, "brim", "(LHatbandYard;II[J)I"⟩
abbrev cL_count : ByteArray := method_15_code
def yL_count : MethodName := ⟨RL, "count", "(LHatbandYard;I[J)I"⟩
abbrev cL_countAnew : ByteArray := method_16_code
def yL_countAnew : MethodName := ⟨RL, "countAnew", "(LHatbandYard;I[J)I"⟩
abbrev cL_rows : ByteArray := method_17_code
def yL_rows : MethodName := ⟨RL, "rows", "(LHatbandYard;I[J)I"⟩
abbrev cL_measure : ByteArray := method_18_code
def yL_measure : MethodName := ⟨RL, "measure", "(LHatbandYard;II[J)I"⟩
abbrev cL_fits : ByteArray := method_19_code
def yL_fits : MethodName := ⟨RL, "fits", "(LHatbandYard;I[J)I"⟩
abbrev cL_size : ByteArray := method_20_code
def yL_size : MethodName := ⟨RL, "size", "(LHatbandYard;I[J)I"⟩
abbrev cL_air : ByteArray := method_21_code
def yL_air : MethodName := ⟨RL, "air", "(LHatbandYard;IZ[J)I"⟩
abbrev cL_grams : ByteArray := method_22_code
def yL_grams : MethodName := ⟨RL, "grams", "(LHatbandYard;I[J)I"⟩
abbrev cL_law : ByteArray := code
def yL_law : MethodName := ⟨RL, "law", "([I)Z"⟩
abbrev vwCl : List vw_C := [(RJ0, TJ0, 4), (RJ4, TJ4, 4), (RJx00060, TJx00060, 6), (RJx7c733, TJx7c733, 6), (RX0, TX0, 2), (RX1, TX1, 7), (RX2, TX2, 0), (RX3, TX3, 0), (RX4, TX4, 2), (RX5, TX5, 1), (RX6, TX6, 2), (RX7, TX7, 0), (RX8, TX8, 11), (RX9, TX9, 22)]
end
section
/-! The common words: all good words of the tables and the selects of the private methods. Each by its place. -/
/-- the private ensureCapacityInternal, called on a StringBuilder -/
abbrev yECI : MethodName := ⟨"java/lang/AbstractStringBuilder", "ensureCapacityInternal", "(I)V"⟩
def wSB : Cond := .selects "java/lang/StringBuilder" yECI yECI
theorem wSB_of {s : State} {args : Array Value} {n : Nat} (hins : (Cond.instantiable "java/lang/StringBuilder" n).before args s = true) (hpriv : (Cond.privateMethod yECI).before args s = true) (hinst : (Cond.instanceMethod yECI).before args s = true)
    (hsl : (Cond.selects "java/lang/StringBuilder" ⟨"java/lang/AbstractStringBuilder", "isLatin1", "()Z"⟩ ⟨"java/lang/AbstractStringBuilder", "isLatin1", "()Z"⟩).before args s = true) : wSB.before args s = true := by
  obtain ⟨c, k, hc, hk, -, -, -, -⟩ := Cond.instantiable_spec hins
  obtain ⟨mk, methM, hnamed, hmethM, -, -⟩ := Cond.instanceMethod_spec hinst
  have hfound : s.methodFound? "java/lang/AbstractStringBuilder" "ensureCapacityInternal" "(I)V" = some mk := State.methodFound?_of_named hnamed (by decide)
  obtain ⟨c2, r2, m2, q1, q2, q3, q4, kP, hkP, hni⟩ := Cond.selects_spec hsl
  have f1 : s.vm.findClass "java/lang/AbstractStringBuilder" = some mk.cls := findClass_of_methodNamed hnamed
  have f2 : s.vm.findClass "java/lang/AbstractStringBuilder" = some m2.cls := findClass_of_methodNamed q3
  have hcls : mk.cls = m2.cls := Option.some.inj (f1.symm.trans f2)
  have hsel : selectMethod {} s.vm c mk = .method mk := selectMethod_private hmethM (Cond.privateMethod_at hpriv mk methM hnamed hmethM)
  simp only [wSB, Cond.before, Cond.holds, Cond.value, hc, hfound, hnamed, hsel, hcls, hkP]
  simp; exact hni
def Wc : List Cond := (wSB :: lw_tbl).filter goodWord
theorem tw_SB : Cond.selects "java/lang/StringBuilder" yECI yECI ∈ Wc := List.mem_filter.mpr ⟨List.mem_cons_self, by decide +kernel⟩
theorem Wc_t {w : Cond} (i : Nat) (h : tables_1[i]? = some w) (g : goodWord w = true) : w ∈ Wc := List.mem_filter.mpr ⟨List.mem_cons_of_mem _ (List.mem_append_right _ (List.mem_of_getElem? h)), g⟩
theorem Wc_s {q : MethodName × Nat} (i : Nat) (h : lw_privs[i]? = some q) (g : goodWord (.selects q.1.cls q.1 q.1) = true) : Cond.selects q.1.cls q.1 q.1 ∈ Wc := List.mem_filter.mpr ⟨List.mem_cons_of_mem _ (List.mem_append_left _ (List.mem_map.mpr ⟨q, List.mem_of_getElem? h, rfl⟩)), g⟩
theorem Wc_g {w : Cond} (h : w ∈ Wc) : (w.onTables && w.keeps) = true ∨ ∃ ty, w = .arrayClass ty := good_of_word (List.mem_filter.mp h).2
theorem Wc_tbl {w : Cond} (h : w ∈ Wc) : w = wSB ∨ w ∈ lw_tbl := List.mem_cons.mp (List.mem_filter.mp h).1
/-- the words of a method: its own code, and the common ones -/
def wl (y : MethodName) (cc : ByteArray) (n : Nat) (ret : Option FieldType) : List Cond := .code y cc n ret :: Wc
theorem gw {y : MethodName} {cc : ByteArray} {n : Nat} {ret : Option FieldType} (h : Cond.code y cc n ret ∈ Wc) : GoodIn Wc (wl y cc n ret) := fun w hw => (List.mem_cons.mp hw).elim (fun e => by rw [e]; exact ⟨h, Wc_g h⟩) (fun hw => ⟨hw, Wc_g hw⟩)
theorem gl {ws : List Cond} (h : ∀ w ∈ ws, w ∈ Wc) : GoodIn Wc ws := fun w hw => ⟨h w hw, Wc_g (h w hw)⟩
theorem gV {own C : String} {idx n : Nat} {y : MethodName} {cc : ByteArray} {ret : Option FieldType} (h1 : Cond.methodLink own idx y ∈ Wc) (h2 : Cond.instanceMethod y ∈ Wc) (h3 : Cond.selects C y y ∈ Wc) (h4 : Cond.initialized C ∈ Wc) (h5 : Cond.code y cc n ret ∈ Wc) : GoodIn Wc (wsV own idx C y (wl y cc n ret)) := fun w hw => (List.mem_append.mp hw).elim (gl (by simp only [List.forall_mem_cons]; exact ⟨h1, h2, h3, h4, fun _ h => nomatch h⟩) w) (gw h5 w)
theorem gS {own : String} {idx n : Nat} {y : MethodName} {cc : ByteArray} {ret : Option FieldType} (h1 : Cond.methodLink own idx y ∈ Wc) (h2 : Cond.static y ∈ Wc) (h4 : Cond.initialized y.cls ∈ Wc) (h5 : Cond.code y cc n ret ∈ Wc) : GoodIn Wc (va_wsS own idx y (wl y cc n ret)) := fun w hw => (List.mem_append.mp hw).elim (gl (by simp only [List.forall_mem_cons]; exact ⟨h1, h2, h4, fun _ h => nomatch h⟩) w) (gw h5 w)
theorem gO {own C owner : String} {idx n : Nat} {x y : MethodName} {cc : ByteArray} {ret : Option FieldType} (h1 : Cond.methodLink own idx x ∈ Wc) (h2 : Cond.sameMethod x.cls owner x.name x.desc ∈ Wc) (h3 : Cond.selects C x y ∈ Wc) (h4 : Cond.instanceMethod y ∈ Wc) (h6 : Cond.initialized y.cls ∈ Wc) (h5 : Cond.code y cc n ret ∈ Wc) : GoodIn Wc (va_wsU own idx C owner x y (wl y cc n ret)) := fun w hw => (List.mem_append.mp hw).elim (gl (by simp only [List.forall_mem_cons]; exact ⟨h1, h2, h3, h4, h6, fun _ h => nomatch h⟩) w) (gw h5 w)
theorem gU {own : String} {idx n : Nat} {y : MethodName} {cc : ByteArray} {ret : Option FieldType} (h1 : Cond.methodLink own idx y ∈ Wc) (h2 : Cond.sameMethod y.cls y.cls y.name y.desc ∈ Wc) (h3 : Cond.superclass own y.cls ∈ Wc) (h4 : Cond.instanceMethod y ∈ Wc) (h6 : Cond.initialized y.cls ∈ Wc) (h5 : Cond.code y cc n ret ∈ Wc) : GoodIn Wc (va_wsSU own idx y (wl y cc n ret)) := fun w hw => (List.mem_append.mp hw).elim (gl (by simp only [List.forall_mem_cons]; exact ⟨h1, h2, h3, h4, h6, fun _ h => nomatch h⟩) w) (gw h5 w)
theorem tw_0 : (Jvm.Cond.initialized "HatbandYardLaw") ∈ Wc := Wc_t 0 (by decide +kernel) (by decide +kernel)
theorem tw_1 : (Jvm.Cond.initialized "HatbandYard") ∈ Wc := Wc_t 1 (by decide +kernel) (by decide +kernel)
theorem tw_2 : (Jvm.Cond.initialized "java/lang/AbstractStringBuilder") ∈ Wc := Wc_t 2 (by decide +kernel) (by decide +kernel)
theorem tw_3 : (Jvm.Cond.initialized "java/lang/StringBuilder") ∈ Wc := Wc_t 3 (by decide +kernel) (by decide +kernel)
theorem tw_4 : (Jvm.Cond.initialized "java/lang/String") ∈ Wc := Wc_t 4 (by decide +kernel) (by decide +kernel)
theorem tw_5 : (Jvm.Cond.initialized "java/lang/StringUTF16") ∈ Wc := Wc_t 5 (by decide +kernel) (by decide +kernel)
theorem tw_6 : (Jvm.Cond.initialized "HatbandYard$Head") ∈ Wc := Wc_t 6 (by decide +kernel) (by decide +kernel)
theorem tw_7 : (Jvm.Cond.initialized "HatbandYardModel") ∈ Wc := Wc_t 7 (by decide +kernel) (by decide +kernel)
theorem tw_8 : (Jvm.Cond.initialized "java/lang/Throwable") ∈ Wc := Wc_t 8 (by decide +kernel) (by decide +kernel)
theorem tw_9 : (Jvm.Cond.initialized "java/lang/Exception") ∈ Wc := Wc_t 9 (by decide +kernel) (by decide +kernel)
theorem tw_10 : (Jvm.Cond.initialized "java/lang/RuntimeException") ∈ Wc := Wc_t 10 (by decide +kernel) (by decide +kernel)
theorem tw_11 : (Jvm.Cond.initialized "java/lang/IllegalArgumentException") ∈ Wc := Wc_t 11 (by decide +kernel) (by decide +kernel)
theorem tw_12 : (Jvm.Cond.initialized "java/lang/IllegalStateException") ∈ Wc := Wc_t 12 (by decide +kernel) (by decide +kernel)
theorem tw_13 : (Jvm.Cond.initialized "jdk/internal/util/ArraysSupport") ∈ Wc := Wc_t 13 (by decide +kernel) (by decide +kernel)
theorem tw_14 : (Jvm.Cond.initialized "java/lang/Math") ∈ Wc := Wc_t 14 (by decide +kernel) (by decide +kernel)
theorem tw_15 : (Jvm.Cond.initialized "java/util/Arrays") ∈ Wc := Wc_t 15 (by decide +kernel) (by decide +kernel)
theorem tw_16 : (Jvm.Cond.initialized "java/lang/System") ∈ Wc := Wc_t 16 (by decide +kernel) (by decide +kernel)
theorem tw_17 : (Jvm.Cond.initialized "java/lang/StringLatin1") ∈ Wc := Wc_t 17 (by decide +kernel) (by decide +kernel)
theorem tw_18 : (Jvm.Cond.initialized "jdk/internal/util/Preconditions") ∈ Wc := Wc_t 18 (by decide +kernel) (by decide +kernel)
theorem tw_19 : (Jvm.Cond.initialized "java/lang/IndexOutOfBoundsException") ∈ Wc := Wc_t 19 (by decide +kernel) (by decide +kernel)
theorem tw_20 : (Jvm.Cond.initialized "java/lang/StringIndexOutOfBoundsException") ∈ Wc := Wc_t 20 (by decide +kernel) (by decide +kernel)
theorem tw_21 : (Jvm.Cond.initialized "java/lang/Integer") ∈ Wc := Wc_t 21 (by decide +kernel) (by decide +kernel)
theorem tw_22 : (Jvm.Cond.initialized "java/lang/ArrayIndexOutOfBoundsException") ∈ Wc := Wc_t 22 (by decide +kernel) (by decide +kernel)
theorem tw_23 : (Jvm.Cond.initialized "HatbandYard$Lot") ∈ Wc := Wc_t 23 (by decide +kernel) (by decide +kernel)
theorem tw_24 : (Jvm.Cond.initialized "HatbandYard$Cone") ∈ Wc := Wc_t 24 (by decide +kernel) (by decide +kernel)
theorem tw_25 : (Jvm.Cond.initialized "HatbandYard$Hand") ∈ Wc := Wc_t 25 (by decide +kernel) (by decide +kernel)
theorem tw_26 : (Jvm.Cond.initialized "HatbandYard$Block") ∈ Wc := Wc_t 26 (by decide +kernel) (by decide +kernel)
theorem tw_27 : (Jvm.Cond.initialized "java/lang/Float") ∈ Wc := Wc_t 27 (by decide +kernel) (by decide +kernel)
theorem tw_28 : (Jvm.Cond.initialized "java/lang/Enum") ∈ Wc := Wc_t 28 (by decide +kernel) (by decide +kernel)
theorem tw_29 : (Jvm.Cond.initialized "HatbandYard$Spiral") ∈ Wc := Wc_t 29 (by decide +kernel) (by decide +kernel)
theorem tw_30 : (Jvm.Cond.classLink "HatbandYardLaw" (8 : Nat) "HatbandYard") ∈ Wc := Wc_t 30 (by decide +kernel) (by decide +kernel)
theorem tw_31 : (Jvm.Cond.instantiable "HatbandYard" (11 : Nat)) ∈ Wc := Wc_t 31 (by decide +kernel) (by decide +kernel)
theorem tw_32 : (Jvm.Cond.methodLink "HatbandYardLaw" (82 : Nat) ({ cls := "HatbandYard", name := "<init>", desc := "()V" } : Jvm.MethodName)) ∈ Wc := Wc_t 32 (by decide +kernel) (by decide +kernel)
theorem tw_33 : (Jvm.Cond.instanceMethod ({ cls := "HatbandYard", name := "<init>", desc := "()V" } : Jvm.MethodName)) ∈ Wc := Wc_t 33 (by decide +kernel) (by decide +kernel)
theorem tw_34 : (Jvm.Cond.code ({ cls := "HatbandYard", name := "<init>", desc := "()V" } : Jvm.MethodName) prog_1_method_1_code (1 : Nat) (Option.none : Option Jvm.ClassFile.FieldType)) ∈ Wc := Wc_t 34 (by decide +kernel) (by decide +kernel)
theorem tw_35 : (Jvm.Cond.methodLink "HatbandYard" (1 : Nat) ({ cls := "java/lang/Object", name := "<init>", desc := "()V" } : Jvm.MethodName)) ∈ Wc := Wc_t 35 (by decide +kernel) (by decide +kernel)
theorem tw_36 : (Jvm.Cond.instanceMethod ({ cls := "java/lang/Object", name := "<init>", desc := "()V" } : Jvm.MethodName)) ∈ Wc := Wc_t 36 (by decide +kernel) (by decide +kernel)
theorem tw_37 : (Jvm.Cond.code ({ cls := "java/lang/Object", name := "<init>", desc := "()V" } : Jvm.MethodName) object_method_1_code (1 : Nat) (Option.none : Option Jvm.ClassFile.FieldType)) ∈ Wc := Wc_t 37 (by decide +kernel) (by decide +kernel)
theorem tw_38 : (Jvm.Cond.classLink "HatbandYard" (7 : Nat) "java/lang/StringBuilder") ∈ Wc := Wc_t 38 (by decide +kernel) (by decide +kernel)
theorem tw_39 : (Jvm.Cond.instantiable "java/lang/StringBuilder" (4 : Nat)) ∈ Wc := Wc_t 39 (by decide +kernel) (by decide +kernel)
theorem tw_40 : (Jvm.Cond.methodLink "HatbandYard" (9 : Nat) ({ cls := "java/lang/StringBuilder", name := "<init>", desc := "()V" } : Jvm.MethodName)) ∈ Wc := Wc_t 40 (by decide +kernel) (by decide +kernel)
theorem tw_41 : (Jvm.Cond.instanceMethod ({ cls := "java/lang/StringBuilder", name := "<init>", desc := "()V" } : Jvm.MethodName)) ∈ Wc := Wc_t 41 (by decide +kernel) (by decide +kernel)
theorem tw_42 : (Jvm.Cond.code ({ cls := "java/lang/StringBuilder", name := "<init>", desc := "()V" } : Jvm.MethodName) prog_25_method_1_code (1 : Nat) (Option.none : Option Jvm.ClassFile.FieldType)) ∈ Wc := Wc_t 42 (by decide +kernel) (by decide +kernel)
theorem tw_43 : (Jvm.Cond.methodLink "java/lang/StringBuilder" (1 : Nat) ({ cls := "java/lang/AbstractStringBuilder", name := "<init>", desc := "(I)V" } : Jvm.MethodName)) ∈ Wc := Wc_t 43 (by decide +kernel) (by decide +kernel)
theorem tw_44 : (Jvm.Cond.instanceMethod ({ cls := "java/lang/AbstractStringBuilder", name := "<init>", desc := "(I)V" } : Jvm.MethodName)) ∈ Wc := Wc_t 44 (by decide +kernel) (by decide +kernel)
theorem tw_45 : (Jvm.Cond.code ({ cls := "java/lang/AbstractStringBuilder", name := "<init>", desc := "(I)V" } : Jvm.MethodName) prog_12_method_2_code (2 : Nat) (Option.none : Option Jvm.ClassFile.FieldType)) ∈ Wc := Wc_t 45 (by decide +kernel) (by decide +kernel)
theorem tw_46 : (Jvm.Cond.methodLink "java/lang/AbstractStringBuilder" (3 : Nat) ({ cls := "java/lang/Object", name := "<init>", desc := "()V" } : Jvm.MethodName)) ∈ Wc := Wc_t 46 (by decide +kernel) (by decide +kernel)
theorem tw_47 : (Jvm.Cond.fieldLink "java/lang/AbstractStringBuilder" (18 : Nat) "java/lang/String" "COMPACT_STRINGS" "Z") ∈ Wc := Wc_t 47 (by decide +kernel) (by decide +kernel)
theorem tw_49 : (Jvm.Cond.methodLink "java/lang/AbstractStringBuilder" (26 : Nat) ({ cls := "java/lang/StringUTF16", name := "newBytesFor", desc := "(I)[B" } : Jvm.MethodName)) ∈ Wc := Wc_t 49 (by decide +kernel) (by decide +kernel)
theorem tw_50 : (Jvm.Cond.static ({ cls := "java/lang/StringUTF16", name := "newBytesFor", desc := "(I)[B" } : Jvm.MethodName)) ∈ Wc := Wc_t 50 (by decide +kernel) (by decide +kernel)
theorem tw_51 : (Jvm.Cond.code ({ cls := "java/lang/StringUTF16", name := "newBytesFor", desc := "(I)[B" } : Jvm.MethodName) prog_28_method_2_code (1 : Nat) (Option.some (Jvm.ClassFile.FieldType.array Jvm.ClassFile.FieldType.byte))) ∈ Wc := Wc_t 51 (by decide +kernel) (by decide +kernel)
theorem tw_52 : (Jvm.Cond.methodLink "java/lang/StringUTF16" (11 : Nat) ({ cls := "java/lang/StringUTF16", name := "newBytesLength", desc := "(I)I" } : Jvm.MethodName)) ∈ Wc := Wc_t 52 (by decide +kernel) (by decide +kernel)
theorem tw_53 : (Jvm.Cond.static ({ cls := "java/lang/StringUTF16", name := "newBytesLength", desc := "(I)I" } : Jvm.MethodName)) ∈ Wc := Wc_t 53 (by decide +kernel) (by decide +kernel)
theorem tw_54 : (Jvm.Cond.code ({ cls := "java/lang/StringUTF16", name := "newBytesLength", desc := "(I)I" } : Jvm.MethodName) prog_28_method_3_code (1 : Nat) (Option.some Jvm.ClassFile.FieldType.int)) ∈ Wc := Wc_t 54 (by decide +kernel) (by decide +kernel)
theorem tw_55 : (Jvm.Cond.constant "java/lang/StringUTF16" (20 : Nat) (1073741823 : Int32)) ∈ Wc := Wc_t 55 (by decide +kernel) (by decide +kernel)
theorem tw_56 : (Jvm.Cond.fieldLink "java/lang/AbstractStringBuilder" (15 : Nat) "java/lang/AbstractStringBuilder" "value" "[B") ∈ Wc := Wc_t 56 (by decide +kernel) (by decide +kernel)
theorem tw_57 : (Jvm.Cond.fieldLink "java/lang/AbstractStringBuilder" (22 : Nat) "java/lang/AbstractStringBuilder" "coder" "B") ∈ Wc := Wc_t 57 (by decide +kernel) (by decide +kernel)
theorem tw_58 : (Jvm.Cond.fieldLink "java/lang/AbstractStringBuilder" (73 : Nat) "java/lang/AbstractStringBuilder" "maybeLatin1" "Z") ∈ Wc := Wc_t 58 (by decide +kernel) (by decide +kernel)
theorem tw_59 : (Jvm.Cond.fieldLink "java/lang/String" (1048 : Nat) "java/lang/AbstractStringBuilder" "maybeLatin1" "Z") ∈ Wc := Wc_t 59 (by decide +kernel) (by decide +kernel)
theorem tw_60 : (Jvm.Cond.fieldLink "java/lang/AbstractStringBuilder" (79 : Nat) "java/lang/AbstractStringBuilder" "count" "I") ∈ Wc := Wc_t 60 (by decide +kernel) (by decide +kernel)
theorem tw_61 : (Jvm.Cond.lays "java/lang/StringBuilder" "java/lang/AbstractStringBuilder" "value" "[B") ∈ Wc := Wc_t 61 (by decide +kernel) (by decide +kernel)
theorem tw_62 : (Jvm.Cond.soleField "java/lang/AbstractStringBuilder" "value") ∈ Wc := Wc_t 62 (by decide +kernel) (by decide +kernel)
theorem tw_63 : (Jvm.Cond.lays "java/lang/StringBuilder" "java/lang/AbstractStringBuilder" "coder" "B") ∈ Wc := Wc_t 63 (by decide +kernel) (by decide +kernel)
theorem tw_64 : (Jvm.Cond.soleField "java/lang/AbstractStringBuilder" "coder") ∈ Wc := Wc_t 64 (by decide +kernel) (by decide +kernel)
theorem tw_65 : (Jvm.Cond.lays "java/lang/StringBuilder" "java/lang/AbstractStringBuilder" "maybeLatin1" "Z") ∈ Wc := Wc_t 65 (by decide +kernel) (by decide +kernel)
theorem tw_66 : (Jvm.Cond.soleField "java/lang/AbstractStringBuilder" "maybeLatin1") ∈ Wc := Wc_t 66 (by decide +kernel) (by decide +kernel)
theorem tw_67 : (Jvm.Cond.lays "java/lang/StringBuilder" "java/lang/AbstractStringBuilder" "count" "I") ∈ Wc := Wc_t 67 (by decide +kernel) (by decide +kernel)
theorem tw_68 : (Jvm.Cond.soleField "java/lang/AbstractStringBuilder" "count") ∈ Wc := Wc_t 68 (by decide +kernel) (by decide +kernel)
theorem tw_69 : (Jvm.Cond.superclass "java/lang/StringBuilder" "java/lang/AbstractStringBuilder") ∈ Wc := Wc_t 69 (by decide +kernel) (by decide +kernel)
theorem tw_70 : (Jvm.Cond.arrayClass Jvm.ClassFile.FieldType.byte) ∈ Wc := Wc_t 70 (by decide +kernel) (by decide +kernel)
theorem tw_71 : (Jvm.Cond.classLink "HatbandYard" (16 : Nat) "HatbandYard$Lot") ∈ Wc := Wc_t 71 (by decide +kernel) (by decide +kernel)
theorem tw_73 : (Jvm.Cond.classLink "HatbandYard" (22 : Nat) "HatbandYard$Cone") ∈ Wc := Wc_t 73 (by decide +kernel) (by decide +kernel)
theorem tw_75 : (Jvm.Cond.classLink "HatbandYard" (28 : Nat) "HatbandYard$Hand") ∈ Wc := Wc_t 75 (by decide +kernel) (by decide +kernel)
theorem tw_77 : (Jvm.Cond.classLink "HatbandYard" (34 : Nat) "HatbandYard$Block") ∈ Wc := Wc_t 77 (by decide +kernel) (by decide +kernel)
theorem tw_79 : (Jvm.Cond.classLink "HatbandYard" (40 : Nat) "HatbandYard$Head") ∈ Wc := Wc_t 79 (by decide +kernel) (by decide +kernel)
theorem tw_80 : (Jvm.Cond.instantiable "HatbandYard$Head" (1 : Nat)) ∈ Wc := Wc_t 80 (by decide +kernel) (by decide +kernel)
theorem tw_82 : (Jvm.Cond.instanceMethod ({ cls := "HatbandYard$Head", name := "<init>", desc := "()V" } : Jvm.MethodName)) ∈ Wc := Wc_t 82 (by decide +kernel) (by decide +kernel)
theorem tw_83 : (Jvm.Cond.code ({ cls := "HatbandYard$Head", name := "<init>", desc := "()V" } : Jvm.MethodName) prog_7_method_1_code (1 : Nat) (Option.none : Option Jvm.ClassFile.FieldType)) ∈ Wc := Wc_t 83 (by decide +kernel) (by decide +kernel)
theorem tw_84 : (Jvm.Cond.methodLink "HatbandYard$Head" (3 : Nat) ({ cls := "java/lang/Object", name := "<init>", desc := "()V" } : Jvm.MethodName)) ∈ Wc := Wc_t 84 (by decide +kernel) (by decide +kernel)
theorem tw_85 : (Jvm.Cond.fieldLink "HatbandYard$Head" (9 : Nat) "HatbandYard$Head" "radii" "[I") ∈ Wc := Wc_t 85 (by decide +kernel) (by decide +kernel)
theorem tw_86 : (Jvm.Cond.laysFinal "HatbandYard$Head" "HatbandYard$Head" "radii" "[I") ∈ Wc := Wc_t 86 (by decide +kernel) (by decide +kernel)
theorem tw_87 : (Jvm.Cond.soleField "HatbandYard$Head" "radii") ∈ Wc := Wc_t 87 (by decide +kernel) (by decide +kernel)
theorem tw_88 : (Jvm.Cond.superclass "HatbandYard$Head" "java/lang/Object") ∈ Wc := Wc_t 88 (by decide +kernel) (by decide +kernel)
theorem tw_89 : (Jvm.Cond.arrayClass Jvm.ClassFile.FieldType.int) ∈ Wc := Wc_t 89 (by decide +kernel) (by decide +kernel)
theorem tw_90 : (Jvm.Cond.fieldLink "HatbandYard" (10 : Nat) "HatbandYard" "typed" "Ljava/lang/StringBuilder;") ∈ Wc := Wc_t 90 (by decide +kernel) (by decide +kernel)
theorem tw_91 : (Jvm.Cond.fieldLink "HatbandYard" (18 : Nat) "HatbandYard" "lots" "[LHatbandYard$Lot;") ∈ Wc := Wc_t 91 (by decide +kernel) (by decide +kernel)
theorem tw_92 : (Jvm.Cond.fieldLink "HatbandYard" (24 : Nat) "HatbandYard" "cones" "[LHatbandYard$Cone;") ∈ Wc := Wc_t 92 (by decide +kernel) (by decide +kernel)
theorem tw_93 : (Jvm.Cond.fieldLink "HatbandYard" (30 : Nat) "HatbandYard" "hands" "[LHatbandYard$Hand;") ∈ Wc := Wc_t 93 (by decide +kernel) (by decide +kernel)
theorem tw_94 : (Jvm.Cond.fieldLink "HatbandYard" (36 : Nat) "HatbandYard" "blocks" "[LHatbandYard$Block;") ∈ Wc := Wc_t 94 (by decide +kernel) (by decide +kernel)
theorem tw_95 : (Jvm.Cond.fieldLink "HatbandYard" (43 : Nat) "HatbandYard" "head" "LHatbandYard$Head;") ∈ Wc := Wc_t 95 (by decide +kernel) (by decide +kernel)
theorem tw_96 : (Jvm.Cond.fieldLink "HatbandYard" (47 : Nat) "HatbandYard" "lotCount" "I") ∈ Wc := Wc_t 96 (by decide +kernel) (by decide +kernel)
theorem tw_97 : (Jvm.Cond.fieldLink "HatbandYard" (51 : Nat) "HatbandYard" "coneCount" "I") ∈ Wc := Wc_t 97 (by decide +kernel) (by decide +kernel)
theorem tw_98 : (Jvm.Cond.fieldLink "HatbandYard" (54 : Nat) "HatbandYard" "handCount" "I") ∈ Wc := Wc_t 98 (by decide +kernel) (by decide +kernel)
theorem tw_99 : (Jvm.Cond.fieldLink "HatbandYard" (57 : Nat) "HatbandYard" "blockCount" "I") ∈ Wc := Wc_t 99 (by decide +kernel) (by decide +kernel)
theorem tw_100 : (Jvm.Cond.fieldLink "HatbandYard" (60 : Nat) "HatbandYard" "dayCount" "I") ∈ Wc := Wc_t 100 (by decide +kernel) (by decide +kernel)
theorem tw_101 : (Jvm.Cond.laysFinal "HatbandYard" "HatbandYard" "typed" "Ljava/lang/StringBuilder;") ∈ Wc := Wc_t 101 (by decide +kernel) (by decide +kernel)
theorem tw_102 : (Jvm.Cond.soleField "HatbandYard" "typed") ∈ Wc := Wc_t 102 (by decide +kernel) (by decide +kernel)
theorem tw_103 : (Jvm.Cond.laysFinal "HatbandYard" "HatbandYard" "lots" "[LHatbandYard$Lot;") ∈ Wc := Wc_t 103 (by decide +kernel) (by decide +kernel)
theorem tw_104 : (Jvm.Cond.soleField "HatbandYard" "lots") ∈ Wc := Wc_t 104 (by decide +kernel) (by decide +kernel)
theorem tw_105 : (Jvm.Cond.laysFinal "HatbandYard" "HatbandYard" "cones" "[LHatbandYard$Cone;") ∈ Wc := Wc_t 105 (by decide +kernel) (by decide +kernel)
theorem tw_106 : (Jvm.Cond.soleField "HatbandYard" "cones") ∈ Wc := Wc_t 106 (by decide +kernel) (by decide +kernel)
theorem tw_107 : (Jvm.Cond.laysFinal "HatbandYard" "HatbandYard" "hands" "[LHatbandYard$Hand;") ∈ Wc := Wc_t 107 (by decide +kernel) (by decide +kernel)
theorem tw_108 : (Jvm.Cond.soleField "HatbandYard" "hands") ∈ Wc := Wc_t 108 (by decide +kernel) (by decide +kernel)
theorem tw_109 : (Jvm.Cond.laysFinal "HatbandYard" "HatbandYard" "blocks" "[LHatbandYard$Block;") ∈ Wc := Wc_t 109 (by decide +kernel) (by decide +kernel)
theorem tw_110 : (Jvm.Cond.soleField "HatbandYard" "blocks") ∈ Wc := Wc_t 110 (by decide +kernel) (by decide +kernel)
theorem tw_111 : (Jvm.Cond.laysFinal "HatbandYard" "HatbandYard" "head" "LHatbandYard$Head;") ∈ Wc := Wc_t 111 (by decide +kernel) (by decide +kernel)
theorem tw_112 : (Jvm.Cond.soleField "HatbandYard" "head") ∈ Wc := Wc_t 112 (by decide +kernel) (by decide +kernel)
theorem tw_113 : (Jvm.Cond.lays "HatbandYard" "HatbandYard" "lotCount" "I") ∈ Wc := Wc_t 113 (by decide +kernel) (by decide +kernel)
theorem tw_114 : (Jvm.Cond.soleField "HatbandYard" "lotCount") ∈ Wc := Wc_t 114 (by decide +kernel) (by decide +kernel)
theorem tw_115 : (Jvm.Cond.lays "HatbandYard" "HatbandYard" "coneCount" "I") ∈ Wc := Wc_t 115 (by decide +kernel) (by decide +kernel)
theorem tw_116 : (Jvm.Cond.soleField "HatbandYard" "coneCount") ∈ Wc := Wc_t 116 (by decide +kernel) (by decide +kernel)
theorem tw_117 : (Jvm.Cond.lays "HatbandYard" "HatbandYard" "handCount" "I") ∈ Wc := Wc_t 117 (by decide +kernel) (by decide +kernel)
theorem tw_118 : (Jvm.Cond.soleField "HatbandYard" "handCount") ∈ Wc := Wc_t 118 (by decide +kernel) (by decide +kernel)
theorem tw_119 : (Jvm.Cond.lays "HatbandYard" "HatbandYard" "blockCount" "I") ∈ Wc := Wc_t 119 (by decide +kernel) (by decide +kernel)
theorem tw_120 : (Jvm.Cond.soleField "HatbandYard" "blockCount") ∈ Wc := Wc_t 120 (by decide +kernel) (by decide +kernel)
theorem tw_121 : (Jvm.Cond.lays "HatbandYard" "HatbandYard" "dayCount" "I") ∈ Wc := Wc_t 121 (by decide +kernel) (by decide +kernel)
theorem tw_122 : (Jvm.Cond.soleField "HatbandYard" "dayCount") ∈ Wc := Wc_t 122 (by decide +kernel) (by decide +kernel)
theorem tw_123 : (Jvm.Cond.superclass "HatbandYard" "java/lang/Object") ∈ Wc := Wc_t 123 (by decide +kernel) (by decide +kernel)
theorem tw_124 : (Jvm.Cond.methodLink "HatbandYardLaw" (86 : Nat) ({ cls := "HatbandYardLaw", name := "letter", desc := "(LHatbandYard;C[J)I" } : Jvm.MethodName)) ∈ Wc := Wc_t 124 (by decide +kernel) (by decide +kernel)
theorem tw_125 : (Jvm.Cond.static ({ cls := "HatbandYardLaw", name := "letter", desc := "(LHatbandYard;C[J)I" } : Jvm.MethodName)) ∈ Wc := Wc_t 125 (by decide +kernel) (by decide +kernel)
theorem tw_126 : (Jvm.Cond.codeWith ({ cls := "HatbandYardLaw", name := "letter", desc := "(LHatbandYard;C[J)I" } : Jvm.MethodName) method_3_code (4 : Nat) (Option.some Jvm.ClassFile.FieldType.int) [((0 : Nat), (9 : Nat), (12 : Nat), (13 : Nat)), ((0 : Nat), (9 : Nat), (15 : Nat), (15 : Nat))]) ∈ Wc := Wc_t 126 (by decide +kernel) (by decide +kernel)
theorem tw_127 : (Jvm.Cond.classLink "HatbandYardLaw" (13 : Nat) "java/lang/IllegalArgumentException") ∈ Wc := Wc_t 127 (by decide +kernel) (by decide +kernel)
theorem tw_128 : (Jvm.Cond.classLink "HatbandYardLaw" (15 : Nat) "java/lang/IllegalStateException") ∈ Wc := Wc_t 128 (by decide +kernel) (by decide +kernel)
theorem tw_129 : (Jvm.Cond.methodLink "HatbandYardLaw" (7 : Nat) ({ cls := "HatbandYard", name := "letter", desc := "(C)I" } : Jvm.MethodName)) ∈ Wc := Wc_t 129 (by decide +kernel) (by decide +kernel)
theorem tw_130 : (Jvm.Cond.instanceMethod ({ cls := "HatbandYard", name := "letter", desc := "(C)I" } : Jvm.MethodName)) ∈ Wc := Wc_t 130 (by decide +kernel) (by decide +kernel)
theorem tw_131 : (Jvm.Cond.selects "HatbandYard" ({ cls := "HatbandYard", name := "letter", desc := "(C)I" } : Jvm.MethodName) ({ cls := "HatbandYard", name := "letter", desc := "(C)I" } : Jvm.MethodName)) ∈ Wc := Wc_t 131 (by decide +kernel) (by decide +kernel)
theorem tw_132 : (Jvm.Cond.code ({ cls := "HatbandYard", name := "letter", desc := "(C)I" } : Jvm.MethodName) prog_1_method_2_code (2 : Nat) (Option.some Jvm.ClassFile.FieldType.int)) ∈ Wc := Wc_t 132 (by decide +kernel) (by decide +kernel)
theorem tw_133 : (Jvm.Cond.methodLink "HatbandYard" (63 : Nat) ({ cls := "HatbandYard", name := "refuseOutside", desc := "(III)V" } : Jvm.MethodName)) ∈ Wc := Wc_t 133 (by decide +kernel) (by decide +kernel)
theorem tw_134 : (Jvm.Cond.static ({ cls := "HatbandYard", name := "refuseOutside", desc := "(III)V" } : Jvm.MethodName)) ∈ Wc := Wc_t 134 (by decide +kernel) (by decide +kernel)
theorem tw_135 : (Jvm.Cond.code ({ cls := "HatbandYard", name := "refuseOutside", desc := "(III)V" } : Jvm.MethodName) prog_1_method_22_code (3 : Nat) (Option.none : Option Jvm.ClassFile.FieldType)) ∈ Wc := Wc_t 135 (by decide +kernel) (by decide +kernel)
theorem tw_136 : (Jvm.Cond.classLink "HatbandYard" (231 : Nat) "java/lang/IllegalArgumentException") ∈ Wc := Wc_t 136 (by decide +kernel) (by decide +kernel)
theorem tw_137 : (Jvm.Cond.instantiable "java/lang/IllegalArgumentException" (6 : Nat)) ∈ Wc := Wc_t 137 (by decide +kernel) (by decide +kernel)
theorem tw_145 : (Jvm.Cond.selects "java/lang/IllegalArgumentException" ({ cls := "java/lang/Throwable", name := "fillInStackTrace", desc := "(I)Ljava/lang/Throwable;" } : Jvm.MethodName) ({ cls := "java/lang/Throwable", name := "fillInStackTrace", desc := "(I)Ljava/lang/Throwable;" } : Jvm.MethodName)) ∈ Wc := Wc_t 145 (by decide +kernel) (by decide +kernel)
theorem tw_146 : (Jvm.Cond.selects "java/lang/IllegalArgumentException" ({ cls := "java/lang/Throwable", name := "fillInStackTrace", desc := "()Ljava/lang/Throwable;" } : Jvm.MethodName) ({ cls := "java/lang/Throwable", name := "fillInStackTrace", desc := "()Ljava/lang/Throwable;" } : Jvm.MethodName)) ∈ Wc := Wc_t 146 (by decide +kernel) (by decide +kernel)
theorem tw_147 : (Jvm.Cond.lays "java/lang/IllegalArgumentException" "java/lang/Throwable" "cause" "Ljava/lang/Throwable;") ∈ Wc := Wc_t 147 (by decide +kernel) (by decide +kernel)
theorem tw_148 : (Jvm.Cond.lays "java/lang/Throwable" "java/lang/Throwable" "cause" "Ljava/lang/Throwable;") ∈ Wc := Wc_t 148 (by decide +kernel) (by decide +kernel)
theorem tw_149 : (Jvm.Cond.lays "java/lang/IllegalArgumentException" "java/lang/Throwable" "stackTrace" "[Ljava/lang/StackTraceElement;") ∈ Wc := Wc_t 149 (by decide +kernel) (by decide +kernel)
theorem tw_150 : (Jvm.Cond.lays "java/lang/Throwable" "java/lang/Throwable" "stackTrace" "[Ljava/lang/StackTraceElement;") ∈ Wc := Wc_t 150 (by decide +kernel) (by decide +kernel)
theorem tw_151 : (Jvm.Cond.lays "java/lang/IllegalArgumentException" "java/lang/Throwable" "suppressedExceptions" "Ljava/util/List;") ∈ Wc := Wc_t 151 (by decide +kernel) (by decide +kernel)
theorem tw_152 : (Jvm.Cond.lays "java/lang/Throwable" "java/lang/Throwable" "suppressedExceptions" "Ljava/util/List;") ∈ Wc := Wc_t 152 (by decide +kernel) (by decide +kernel)
theorem tw_153 : (Jvm.Cond.lays "java/lang/IllegalArgumentException" "java/lang/Throwable" "detailMessage" "Ljava/lang/String;") ∈ Wc := Wc_t 153 (by decide +kernel) (by decide +kernel)
theorem tw_154 : (Jvm.Cond.lays "java/lang/Throwable" "java/lang/Throwable" "detailMessage" "Ljava/lang/String;") ∈ Wc := Wc_t 154 (by decide +kernel) (by decide +kernel)
theorem tw_155 : (Jvm.Cond.lays "java/lang/IllegalArgumentException" "java/lang/Throwable" "backtrace" "Ljava/lang/Object;") ∈ Wc := Wc_t 155 (by decide +kernel) (by decide +kernel)
theorem tw_156 : (Jvm.Cond.lays "java/lang/Throwable" "java/lang/Throwable" "backtrace" "Ljava/lang/Object;") ∈ Wc := Wc_t 156 (by decide +kernel) (by decide +kernel)
theorem tw_157 : (Jvm.Cond.fieldLink "java/lang/Throwable" (198 : Nat) "java/lang/Throwable" "backtrace" "Ljava/lang/Object;") ∈ Wc := Wc_t 157 (by decide +kernel) (by decide +kernel)
theorem tw_158 : (Jvm.Cond.superclass "java/lang/Throwable" "java/lang/Object") ∈ Wc := Wc_t 158 (by decide +kernel) (by decide +kernel)
theorem tw_159 : (Jvm.Cond.instanceMethod ({ cls := "java/lang/Throwable", name := "<init>", desc := "()V" } : Jvm.MethodName)) ∈ Wc := Wc_t 159 (by decide +kernel) (by decide +kernel)
theorem tw_160 : (Jvm.Cond.code ({ cls := "java/lang/Throwable", name := "<init>", desc := "()V" } : Jvm.MethodName) prog_30_method_1_code (1 : Nat) (Option.none : Option Jvm.ClassFile.FieldType)) ∈ Wc := Wc_t 160 (by decide +kernel) (by decide +kernel)
theorem tw_161 : (Jvm.Cond.methodLink "java/lang/Throwable" (1 : Nat) ({ cls := "java/lang/Object", name := "<init>", desc := "()V" } : Jvm.MethodName)) ∈ Wc := Wc_t 161 (by decide +kernel) (by decide +kernel)
theorem tw_162 : (Jvm.Cond.fieldLink "java/lang/Throwable" (13 : Nat) "java/lang/Throwable" "UNASSIGNED_STACK" "[Ljava/lang/StackTraceElement;") ∈ Wc := Wc_t 162 (by decide +kernel) (by decide +kernel)
theorem tw_164 : (Jvm.Cond.fieldLink "java/lang/Throwable" (20 : Nat) "java/lang/Throwable" "SUPPRESSED_SENTINEL" "Ljava/util/List;") ∈ Wc := Wc_t 164 (by decide +kernel) (by decide +kernel)
theorem tw_166 : (Jvm.Cond.methodLink "java/lang/Throwable" (27 : Nat) ({ cls := "java/lang/Throwable", name := "fillInStackTrace", desc := "()Ljava/lang/Throwable;" } : Jvm.MethodName)) ∈ Wc := Wc_t 166 (by decide +kernel) (by decide +kernel)
theorem tw_167 : (Jvm.Cond.instanceMethod ({ cls := "java/lang/Throwable", name := "fillInStackTrace", desc := "()Ljava/lang/Throwable;" } : Jvm.MethodName)) ∈ Wc := Wc_t 167 (by decide +kernel) (by decide +kernel)
theorem tw_168 : (Jvm.Cond.sameMethod "java/lang/Throwable" "java/lang/Throwable" "fillInStackTrace" "()Ljava/lang/Throwable;") ∈ Wc := Wc_t 168 (by decide +kernel) (by decide +kernel)
theorem tw_169 : (Jvm.Cond.selects "java/lang/ArrayIndexOutOfBoundsException" ({ cls := "java/lang/Throwable", name := "fillInStackTrace", desc := "()Ljava/lang/Throwable;" } : Jvm.MethodName) ({ cls := "java/lang/Throwable", name := "fillInStackTrace", desc := "()Ljava/lang/Throwable;" } : Jvm.MethodName)) ∈ Wc := Wc_t 169 (by decide +kernel) (by decide +kernel)
theorem tw_170 : (Jvm.Cond.selects "java/lang/IllegalStateException" ({ cls := "java/lang/Throwable", name := "fillInStackTrace", desc := "()Ljava/lang/Throwable;" } : Jvm.MethodName) ({ cls := "java/lang/Throwable", name := "fillInStackTrace", desc := "()Ljava/lang/Throwable;" } : Jvm.MethodName)) ∈ Wc := Wc_t 170 (by decide +kernel) (by decide +kernel)
theorem tw_171 : (Jvm.Cond.selects "java/lang/IndexOutOfBoundsException" ({ cls := "java/lang/Throwable", name := "fillInStackTrace", desc := "()Ljava/lang/Throwable;" } : Jvm.MethodName) ({ cls := "java/lang/Throwable", name := "fillInStackTrace", desc := "()Ljava/lang/Throwable;" } : Jvm.MethodName)) ∈ Wc := Wc_t 171 (by decide +kernel) (by decide +kernel)
theorem tw_172 : (Jvm.Cond.selects "java/lang/StringIndexOutOfBoundsException" ({ cls := "java/lang/Throwable", name := "fillInStackTrace", desc := "()Ljava/lang/Throwable;" } : Jvm.MethodName) ({ cls := "java/lang/Throwable", name := "fillInStackTrace", desc := "()Ljava/lang/Throwable;" } : Jvm.MethodName)) ∈ Wc := Wc_t 172 (by decide +kernel) (by decide +kernel)
theorem tw_173 : (Jvm.Cond.codeSync ({ cls := "java/lang/Throwable", name := "fillInStackTrace", desc := "()Ljava/lang/Throwable;" } : Jvm.MethodName) prog_30_method_18_code (1 : Nat) (Option.some (Jvm.ClassFile.FieldType.object "java/lang/Throwable"))) ∈ Wc := Wc_t 173 (by decide +kernel) (by decide +kernel)
theorem tw_174 : (Jvm.Cond.methodLink "java/lang/Throwable" (202 : Nat) ({ cls := "java/lang/Throwable", name := "fillInStackTrace", desc := "(I)Ljava/lang/Throwable;" } : Jvm.MethodName)) ∈ Wc := Wc_t 174 (by decide +kernel) (by decide +kernel)
theorem tw_176 : (Jvm.Cond.instanceMethod ({ cls := "java/lang/Throwable", name := "fillInStackTrace", desc := "(I)Ljava/lang/Throwable;" } : Jvm.MethodName)) ∈ Wc := Wc_t 176 (by decide +kernel) (by decide +kernel)
theorem tw_177 : (Jvm.Cond.instantiable "java/lang/Throwable" (6 : Nat)) ∈ Wc := Wc_t 177 (by decide +kernel) (by decide +kernel)
theorem tw_178 : (Jvm.Cond.native ({ cls := "java/lang/Throwable", name := "fillInStackTrace", desc := "(I)Ljava/lang/Throwable;" } : Jvm.MethodName)) ∈ Wc := Wc_t 178 (by decide +kernel) (by decide +kernel)
theorem tw_180 : (Jvm.Cond.methodLink "HatbandYard" (235 : Nat) ({ cls := "java/lang/IllegalArgumentException", name := "<init>", desc := "(Ljava/lang/String;)V" } : Jvm.MethodName)) ∈ Wc := Wc_t 180 (by decide +kernel) (by decide +kernel)
theorem tw_181 : (Jvm.Cond.instanceMethod ({ cls := "java/lang/IllegalArgumentException", name := "<init>", desc := "(Ljava/lang/String;)V" } : Jvm.MethodName)) ∈ Wc := Wc_t 181 (by decide +kernel) (by decide +kernel)
theorem tw_182 : (Jvm.Cond.code ({ cls := "java/lang/IllegalArgumentException", name := "<init>", desc := "(Ljava/lang/String;)V" } : Jvm.MethodName) prog_18_method_2_code (2 : Nat) (Option.none : Option Jvm.ClassFile.FieldType)) ∈ Wc := Wc_t 182 (by decide +kernel) (by decide +kernel)
theorem tw_183 : (Jvm.Cond.methodLink "java/lang/IllegalArgumentException" (7 : Nat) ({ cls := "java/lang/RuntimeException", name := "<init>", desc := "(Ljava/lang/String;)V" } : Jvm.MethodName)) ∈ Wc := Wc_t 183 (by decide +kernel) (by decide +kernel)
theorem tw_184 : (Jvm.Cond.instanceMethod ({ cls := "java/lang/RuntimeException", name := "<init>", desc := "(Ljava/lang/String;)V" } : Jvm.MethodName)) ∈ Wc := Wc_t 184 (by decide +kernel) (by decide +kernel)
theorem tw_185 : (Jvm.Cond.code ({ cls := "java/lang/RuntimeException", name := "<init>", desc := "(Ljava/lang/String;)V" } : Jvm.MethodName) prog_23_method_2_code (2 : Nat) (Option.none : Option Jvm.ClassFile.FieldType)) ∈ Wc := Wc_t 185 (by decide +kernel) (by decide +kernel)
theorem tw_186 : (Jvm.Cond.methodLink "java/lang/RuntimeException" (7 : Nat) ({ cls := "java/lang/Exception", name := "<init>", desc := "(Ljava/lang/String;)V" } : Jvm.MethodName)) ∈ Wc := Wc_t 186 (by decide +kernel) (by decide +kernel)
theorem tw_187 : (Jvm.Cond.instanceMethod ({ cls := "java/lang/Exception", name := "<init>", desc := "(Ljava/lang/String;)V" } : Jvm.MethodName)) ∈ Wc := Wc_t 187 (by decide +kernel) (by decide +kernel)
theorem tw_188 : (Jvm.Cond.code ({ cls := "java/lang/Exception", name := "<init>", desc := "(Ljava/lang/String;)V" } : Jvm.MethodName) prog_16_method_2_code (2 : Nat) (Option.none : Option Jvm.ClassFile.FieldType)) ∈ Wc := Wc_t 188 (by decide +kernel) (by decide +kernel)
theorem tw_189 : (Jvm.Cond.methodLink "java/lang/Exception" (7 : Nat) ({ cls := "java/lang/Throwable", name := "<init>", desc := "(Ljava/lang/String;)V" } : Jvm.MethodName)) ∈ Wc := Wc_t 189 (by decide +kernel) (by decide +kernel)
theorem tw_190 : (Jvm.Cond.instanceMethod ({ cls := "java/lang/Throwable", name := "<init>", desc := "(Ljava/lang/String;)V" } : Jvm.MethodName)) ∈ Wc := Wc_t 190 (by decide +kernel) (by decide +kernel)
theorem tw_191 : (Jvm.Cond.code ({ cls := "java/lang/Throwable", name := "<init>", desc := "(Ljava/lang/String;)V" } : Jvm.MethodName) prog_30_method_2_code (2 : Nat) (Option.none : Option Jvm.ClassFile.FieldType)) ∈ Wc := Wc_t 191 (by decide +kernel) (by decide +kernel)
theorem tw_192 : (Jvm.Cond.fieldLink "java/lang/Throwable" (198 : Nat) "java/lang/Throwable" "backtrace" "Ljava/lang/Object;") ∈ Wc := Wc_t 192 (by decide +kernel) (by decide +kernel)
theorem tw_193 : (Jvm.Cond.fieldLink "java/lang/Throwable" (31 : Nat) "java/lang/Throwable" "detailMessage" "Ljava/lang/String;") ∈ Wc := Wc_t 193 (by decide +kernel) (by decide +kernel)
theorem tw_194 : (Jvm.Cond.fieldLink "java/lang/Throwable" (7 : Nat) "java/lang/Throwable" "cause" "Ljava/lang/Throwable;") ∈ Wc := Wc_t 194 (by decide +kernel) (by decide +kernel)
theorem tw_195 : (Jvm.Cond.fieldLink "java/lang/Throwable" (17 : Nat) "java/lang/Throwable" "stackTrace" "[Ljava/lang/StackTraceElement;") ∈ Wc := Wc_t 195 (by decide +kernel) (by decide +kernel)
theorem tw_196 : (Jvm.Cond.fieldLink "java/lang/Throwable" (24 : Nat) "java/lang/Throwable" "suppressedExceptions" "Ljava/util/List;") ∈ Wc := Wc_t 196 (by decide +kernel) (by decide +kernel)
theorem tw_197 : (Jvm.Cond.soleField "java/lang/Throwable" "backtrace") ∈ Wc := Wc_t 197 (by decide +kernel) (by decide +kernel)
theorem tw_198 : (Jvm.Cond.soleField "java/lang/Throwable" "detailMessage") ∈ Wc := Wc_t 198 (by decide +kernel) (by decide +kernel)
theorem tw_199 : (Jvm.Cond.soleField "java/lang/Throwable" "cause") ∈ Wc := Wc_t 199 (by decide +kernel) (by decide +kernel)
theorem tw_200 : (Jvm.Cond.soleField "java/lang/Throwable" "stackTrace") ∈ Wc := Wc_t 200 (by decide +kernel) (by decide +kernel)
theorem tw_201 : (Jvm.Cond.lays "java/lang/IllegalArgumentException" "java/lang/Throwable" "depth" "I") ∈ Wc := Wc_t 201 (by decide +kernel) (by decide +kernel)
theorem tw_202 : (Jvm.Cond.soleField "java/lang/Throwable" "depth") ∈ Wc := Wc_t 202 (by decide +kernel) (by decide +kernel)
theorem tw_203 : (Jvm.Cond.soleField "java/lang/Throwable" "suppressedExceptions") ∈ Wc := Wc_t 203 (by decide +kernel) (by decide +kernel)
theorem tw_204 : (Jvm.Cond.superclass "java/lang/IllegalArgumentException" "java/lang/RuntimeException") ∈ Wc := Wc_t 204 (by decide +kernel) (by decide +kernel)
theorem tw_205 : (Jvm.Cond.methodLink "HatbandYard" (67 : Nat) ({ cls := "java/lang/StringBuilder", name := "length", desc := "()I" } : Jvm.MethodName)) ∈ Wc := Wc_t 205 (by decide +kernel) (by decide +kernel)
theorem tw_206 : (Jvm.Cond.instanceMethod ({ cls := "java/lang/StringBuilder", name := "length", desc := "()I" } : Jvm.MethodName)) ∈ Wc := Wc_t 206 (by decide +kernel) (by decide +kernel)
theorem tw_207 : (Jvm.Cond.selects "java/lang/StringBuilder" ({ cls := "java/lang/StringBuilder", name := "length", desc := "()I" } : Jvm.MethodName) ({ cls := "java/lang/StringBuilder", name := "length", desc := "()I" } : Jvm.MethodName)) ∈ Wc := Wc_t 207 (by decide +kernel) (by decide +kernel)
theorem tw_208 : (Jvm.Cond.code ({ cls := "java/lang/StringBuilder", name := "length", desc := "()I" } : Jvm.MethodName) prog_25_method_93_code (1 : Nat) (Option.some Jvm.ClassFile.FieldType.int)) ∈ Wc := Wc_t 208 (by decide +kernel) (by decide +kernel)
theorem tw_209 : (Jvm.Cond.methodLink "java/lang/StringBuilder" (343 : Nat) ({ cls := "java/lang/AbstractStringBuilder", name := "length", desc := "()I" } : Jvm.MethodName)) ∈ Wc := Wc_t 209 (by decide +kernel) (by decide +kernel)
theorem tw_210 : (Jvm.Cond.instanceMethod ({ cls := "java/lang/AbstractStringBuilder", name := "length", desc := "()I" } : Jvm.MethodName)) ∈ Wc := Wc_t 210 (by decide +kernel) (by decide +kernel)
theorem tw_211 : (Jvm.Cond.code ({ cls := "java/lang/AbstractStringBuilder", name := "length", desc := "()I" } : Jvm.MethodName) prog_12_method_6_code (1 : Nat) (Option.some Jvm.ClassFile.FieldType.int)) ∈ Wc := Wc_t 211 (by decide +kernel) (by decide +kernel)
theorem tw_212 : (Jvm.Cond.methodLink "HatbandYard" (71 : Nat) ({ cls := "HatbandYard", name := "refuseFull", desc := "(II)V" } : Jvm.MethodName)) ∈ Wc := Wc_t 212 (by decide +kernel) (by decide +kernel)
theorem tw_213 : (Jvm.Cond.static ({ cls := "HatbandYard", name := "refuseFull", desc := "(II)V" } : Jvm.MethodName)) ∈ Wc := Wc_t 213 (by decide +kernel) (by decide +kernel)
theorem tw_214 : (Jvm.Cond.code ({ cls := "HatbandYard", name := "refuseFull", desc := "(II)V" } : Jvm.MethodName) prog_1_method_23_code (2 : Nat) (Option.none : Option Jvm.ClassFile.FieldType)) ∈ Wc := Wc_t 214 (by decide +kernel) (by decide +kernel)
theorem tw_215 : (Jvm.Cond.classLink "HatbandYard" (96 : Nat) "java/lang/IllegalStateException") ∈ Wc := Wc_t 215 (by decide +kernel) (by decide +kernel)
theorem tw_216 : (Jvm.Cond.instantiable "java/lang/IllegalStateException" (6 : Nat)) ∈ Wc := Wc_t 216 (by decide +kernel) (by decide +kernel)
theorem tw_218 : (Jvm.Cond.selects "java/lang/IllegalStateException" ({ cls := "java/lang/Throwable", name := "fillInStackTrace", desc := "(I)Ljava/lang/Throwable;" } : Jvm.MethodName) ({ cls := "java/lang/Throwable", name := "fillInStackTrace", desc := "(I)Ljava/lang/Throwable;" } : Jvm.MethodName)) ∈ Wc := Wc_t 218 (by decide +kernel) (by decide +kernel)
theorem tw_219 : (Jvm.Cond.lays "java/lang/IllegalStateException" "java/lang/Throwable" "cause" "Ljava/lang/Throwable;") ∈ Wc := Wc_t 219 (by decide +kernel) (by decide +kernel)
theorem tw_220 : (Jvm.Cond.lays "java/lang/IllegalStateException" "java/lang/Throwable" "stackTrace" "[Ljava/lang/StackTraceElement;") ∈ Wc := Wc_t 220 (by decide +kernel) (by decide +kernel)
theorem tw_221 : (Jvm.Cond.lays "java/lang/IllegalStateException" "java/lang/Throwable" "suppressedExceptions" "Ljava/util/List;") ∈ Wc := Wc_t 221 (by decide +kernel) (by decide +kernel)
theorem tw_222 : (Jvm.Cond.lays "java/lang/IllegalStateException" "java/lang/Throwable" "detailMessage" "Ljava/lang/String;") ∈ Wc := Wc_t 222 (by decide +kernel) (by decide +kernel)
theorem tw_223 : (Jvm.Cond.lays "java/lang/IllegalStateException" "java/lang/Throwable" "backtrace" "Ljava/lang/Object;") ∈ Wc := Wc_t 223 (by decide +kernel) (by decide +kernel)
theorem tw_225 : (Jvm.Cond.methodLink "HatbandYard" (100 : Nat) ({ cls := "java/lang/IllegalStateException", name := "<init>", desc := "(Ljava/lang/String;)V" } : Jvm.MethodName)) ∈ Wc := Wc_t 225 (by decide +kernel) (by decide +kernel)
theorem tw_226 : (Jvm.Cond.instanceMethod ({ cls := "java/lang/IllegalStateException", name := "<init>", desc := "(Ljava/lang/String;)V" } : Jvm.MethodName)) ∈ Wc := Wc_t 226 (by decide +kernel) (by decide +kernel)
theorem tw_227 : (Jvm.Cond.code ({ cls := "java/lang/IllegalStateException", name := "<init>", desc := "(Ljava/lang/String;)V" } : Jvm.MethodName) prog_19_method_2_code (2 : Nat) (Option.none : Option Jvm.ClassFile.FieldType)) ∈ Wc := Wc_t 227 (by decide +kernel) (by decide +kernel)
theorem tw_228 : (Jvm.Cond.methodLink "java/lang/IllegalStateException" (7 : Nat) ({ cls := "java/lang/RuntimeException", name := "<init>", desc := "(Ljava/lang/String;)V" } : Jvm.MethodName)) ∈ Wc := Wc_t 228 (by decide +kernel) (by decide +kernel)
theorem tw_229 : (Jvm.Cond.lays "java/lang/IllegalStateException" "java/lang/Throwable" "depth" "I") ∈ Wc := Wc_t 229 (by decide +kernel) (by decide +kernel)
theorem tw_230 : (Jvm.Cond.superclass "java/lang/IllegalStateException" "java/lang/RuntimeException") ∈ Wc := Wc_t 230 (by decide +kernel) (by decide +kernel)
theorem tw_231 : (Jvm.Cond.methodLink "HatbandYard" (75 : Nat) ({ cls := "java/lang/StringBuilder", name := "append", desc := "(C)Ljava/lang/StringBuilder;" } : Jvm.MethodName)) ∈ Wc := Wc_t 231 (by decide +kernel) (by decide +kernel)
theorem tw_232 : (Jvm.Cond.instanceMethod ({ cls := "java/lang/StringBuilder", name := "append", desc := "(C)Ljava/lang/StringBuilder;" } : Jvm.MethodName)) ∈ Wc := Wc_t 232 (by decide +kernel) (by decide +kernel)
theorem tw_233 : (Jvm.Cond.selects "java/lang/StringBuilder" ({ cls := "java/lang/StringBuilder", name := "append", desc := "(C)Ljava/lang/StringBuilder;" } : Jvm.MethodName) ({ cls := "java/lang/StringBuilder", name := "append", desc := "(C)Ljava/lang/StringBuilder;" } : Jvm.MethodName)) ∈ Wc := Wc_t 233 (by decide +kernel) (by decide +kernel)
theorem tw_234 : (Jvm.Cond.code ({ cls := "java/lang/StringBuilder", name := "append", desc := "(C)Ljava/lang/StringBuilder;" } : Jvm.MethodName) prog_25_method_14_code (2 : Nat) (Option.some (Jvm.ClassFile.FieldType.object "java/lang/StringBuilder"))) ∈ Wc := Wc_t 234 (by decide +kernel) (by decide +kernel)
theorem tw_235 : (Jvm.Cond.methodLink "java/lang/StringBuilder" (50 : Nat) ({ cls := "java/lang/AbstractStringBuilder", name := "append", desc := "(C)Ljava/lang/AbstractStringBuilder;" } : Jvm.MethodName)) ∈ Wc := Wc_t 235 (by decide +kernel) (by decide +kernel)
theorem tw_236 : (Jvm.Cond.instanceMethod ({ cls := "java/lang/AbstractStringBuilder", name := "append", desc := "(C)Ljava/lang/AbstractStringBuilder;" } : Jvm.MethodName)) ∈ Wc := Wc_t 236 (by decide +kernel) (by decide +kernel)
theorem tw_237 : (Jvm.Cond.code ({ cls := "java/lang/AbstractStringBuilder", name := "append", desc := "(C)Ljava/lang/AbstractStringBuilder;" } : Jvm.MethodName) prog_12_method_31_code (2 : Nat) (Option.some (Jvm.ClassFile.FieldType.object "java/lang/AbstractStringBuilder"))) ∈ Wc := Wc_t 237 (by decide +kernel) (by decide +kernel)
theorem tw_238 : (Jvm.Cond.methodLink "java/lang/AbstractStringBuilder" (100 : Nat) ({ cls := "java/lang/AbstractStringBuilder", name := "ensureCapacityInternal", desc := "(I)V" } : Jvm.MethodName)) ∈ Wc := Wc_t 238 (by decide +kernel) (by decide +kernel)
theorem tw_240 : (Jvm.Cond.instanceMethod ({ cls := "java/lang/AbstractStringBuilder", name := "ensureCapacityInternal", desc := "(I)V" } : Jvm.MethodName)) ∈ Wc := Wc_t 240 (by decide +kernel) (by decide +kernel)
theorem tw_241 : (Jvm.Cond.code ({ cls := "java/lang/AbstractStringBuilder", name := "ensureCapacityInternal", desc := "(I)V" } : Jvm.MethodName) prog_12_method_9_code (3 : Nat) (Option.none : Option Jvm.ClassFile.FieldType)) ∈ Wc := Wc_t 241 (by decide +kernel) (by decide +kernel)
theorem tw_242 : (Jvm.Cond.methodLink "java/lang/AbstractStringBuilder" (104 : Nat) ({ cls := "java/lang/AbstractStringBuilder", name := "newCapacity", desc := "(I)I" } : Jvm.MethodName)) ∈ Wc := Wc_t 242 (by decide +kernel) (by decide +kernel)
theorem tw_244 : (Jvm.Cond.instanceMethod ({ cls := "java/lang/AbstractStringBuilder", name := "newCapacity", desc := "(I)I" } : Jvm.MethodName)) ∈ Wc := Wc_t 244 (by decide +kernel) (by decide +kernel)
theorem tw_245 : (Jvm.Cond.code ({ cls := "java/lang/AbstractStringBuilder", name := "newCapacity", desc := "(I)I" } : Jvm.MethodName) prog_12_method_10_code (6 : Nat) (Option.some Jvm.ClassFile.FieldType.int)) ∈ Wc := Wc_t 245 (by decide +kernel) (by decide +kernel)
theorem tw_246 : (Jvm.Cond.methodLink "java/lang/AbstractStringBuilder" (114 : Nat) ({ cls := "jdk/internal/util/ArraysSupport", name := "newLength", desc := "(III)I" } : Jvm.MethodName)) ∈ Wc := Wc_t 246 (by decide +kernel) (by decide +kernel)
theorem tw_247 : (Jvm.Cond.static ({ cls := "jdk/internal/util/ArraysSupport", name := "newLength", desc := "(III)I" } : Jvm.MethodName)) ∈ Wc := Wc_t 247 (by decide +kernel) (by decide +kernel)
theorem tw_248 : (Jvm.Cond.code ({ cls := "jdk/internal/util/ArraysSupport", name := "newLength", desc := "(III)I" } : Jvm.MethodName) prog_32_method_27_code (4 : Nat) (Option.some Jvm.ClassFile.FieldType.int)) ∈ Wc := Wc_t 248 (by decide +kernel) (by decide +kernel)
theorem tw_249 : (Jvm.Cond.methodLink "jdk/internal/util/ArraysSupport" (194 : Nat) ({ cls := "java/lang/Math", name := "max", desc := "(II)I" } : Jvm.MethodName)) ∈ Wc := Wc_t 249 (by decide +kernel) (by decide +kernel)
theorem tw_250 : (Jvm.Cond.static ({ cls := "java/lang/Math", name := "max", desc := "(II)I" } : Jvm.MethodName)) ∈ Wc := Wc_t 250 (by decide +kernel) (by decide +kernel)
theorem tw_251 : (Jvm.Cond.code ({ cls := "java/lang/Math", name := "max", desc := "(II)I" } : Jvm.MethodName) prog_22_method_65_code (2 : Nat) (Option.some Jvm.ClassFile.FieldType.int)) ∈ Wc := Wc_t 251 (by decide +kernel) (by decide +kernel)
theorem tw_252 : (Jvm.Cond.constant "jdk/internal/util/ArraysSupport" (200 : Nat) (2147483639 : Int32)) ∈ Wc := Wc_t 252 (by decide +kernel) (by decide +kernel)
theorem tw_253 : (Jvm.Cond.methodLink "jdk/internal/util/ArraysSupport" (201 : Nat) ({ cls := "jdk/internal/util/ArraysSupport", name := "hugeLength", desc := "(II)I" } : Jvm.MethodName)) ∈ Wc := Wc_t 253 (by decide +kernel) (by decide +kernel)
theorem tw_254 : (Jvm.Cond.static ({ cls := "jdk/internal/util/ArraysSupport", name := "hugeLength", desc := "(II)I" } : Jvm.MethodName)) ∈ Wc := Wc_t 254 (by decide +kernel) (by decide +kernel)
theorem tw_255 : (Jvm.Cond.code ({ cls := "jdk/internal/util/ArraysSupport", name := "hugeLength", desc := "(II)I" } : Jvm.MethodName) prog_32_method_28_code (3 : Nat) (Option.some Jvm.ClassFile.FieldType.int)) ∈ Wc := Wc_t 255 (by decide +kernel) (by decide +kernel)
theorem tw_256 : (Jvm.Cond.constant "java/lang/AbstractStringBuilder" (39 : Nat) (2147483647 : Int32)) ∈ Wc := Wc_t 256 (by decide +kernel) (by decide +kernel)
theorem tw_257 : (Jvm.Cond.methodLink "java/lang/AbstractStringBuilder" (108 : Nat) ({ cls := "java/util/Arrays", name := "copyOf", desc := "([BI)[B" } : Jvm.MethodName)) ∈ Wc := Wc_t 257 (by decide +kernel) (by decide +kernel)
theorem tw_258 : (Jvm.Cond.static ({ cls := "java/util/Arrays", name := "copyOf", desc := "([BI)[B" } : Jvm.MethodName)) ∈ Wc := Wc_t 258 (by decide +kernel) (by decide +kernel)
theorem tw_259 : (Jvm.Cond.code ({ cls := "java/util/Arrays", name := "copyOf", desc := "([BI)[B" } : Jvm.MethodName) prog_31_method_121_code (3 : Nat) (Option.some (Jvm.ClassFile.FieldType.array Jvm.ClassFile.FieldType.byte))) ∈ Wc := Wc_t 259 (by decide +kernel) (by decide +kernel)
theorem tw_260 : (Jvm.Cond.methodLink "java/util/Arrays" (310 : Nat) ({ cls := "[B", name := "clone", desc := "()Ljava/lang/Object;" } : Jvm.MethodName)) ∈ Wc := Wc_t 260 (by decide +kernel) (by decide +kernel)
theorem tw_261 : (Jvm.Cond.sameMethod "[B" "java/lang/Object" "clone" "()Ljava/lang/Object;") ∈ Wc := Wc_t 261 (by decide +kernel) (by decide +kernel)
theorem tw_262 : (Jvm.Cond.native ({ cls := "java/lang/Object", name := "clone", desc := "()Ljava/lang/Object;" } : Jvm.MethodName)) ∈ Wc := Wc_t 262 (by decide +kernel) (by decide +kernel)
theorem tw_263 : (Jvm.Cond.instanceMethod ({ cls := "java/lang/Object", name := "clone", desc := "()Ljava/lang/Object;" } : Jvm.MethodName)) ∈ Wc := Wc_t 263 (by decide +kernel) (by decide +kernel)
theorem tw_264 : (Jvm.Cond.selects "[B" ({ cls := "[B", name := "clone", desc := "()Ljava/lang/Object;" } : Jvm.MethodName) ({ cls := "java/lang/Object", name := "clone", desc := "()Ljava/lang/Object;" } : Jvm.MethodName)) ∈ Wc := Wc_t 264 (by decide +kernel) (by decide +kernel)
theorem tw_266 : (Jvm.Cond.classLink "java/util/Arrays" (311 : Nat) "[B") ∈ Wc := Wc_t 266 (by decide +kernel) (by decide +kernel)
theorem tw_267 : (Jvm.Cond.methodLink "java/util/Arrays" (304 : Nat) ({ cls := "java/lang/Math", name := "min", desc := "(II)I" } : Jvm.MethodName)) ∈ Wc := Wc_t 267 (by decide +kernel) (by decide +kernel)
theorem tw_268 : (Jvm.Cond.static ({ cls := "java/lang/Math", name := "min", desc := "(II)I" } : Jvm.MethodName)) ∈ Wc := Wc_t 268 (by decide +kernel) (by decide +kernel)
theorem tw_269 : (Jvm.Cond.code ({ cls := "java/lang/Math", name := "min", desc := "(II)I" } : Jvm.MethodName) prog_22_method_69_code (2 : Nat) (Option.some Jvm.ClassFile.FieldType.int)) ∈ Wc := Wc_t 269 (by decide +kernel) (by decide +kernel)
theorem tw_270 : (Jvm.Cond.methodLink "java/util/Arrays" (150 : Nat) ({ cls := "java/lang/System", name := "arraycopy", desc := "(Ljava/lang/Object;ILjava/lang/Object;II)V" } : Jvm.MethodName)) ∈ Wc := Wc_t 270 (by decide +kernel) (by decide +kernel)
theorem tw_271 : (Jvm.Cond.static ({ cls := "java/lang/System", name := "arraycopy", desc := "(Ljava/lang/Object;ILjava/lang/Object;II)V" } : Jvm.MethodName)) ∈ Wc := Wc_t 271 (by decide +kernel) (by decide +kernel)
theorem tw_272 : (Jvm.Cond.native ({ cls := "java/lang/System", name := "arraycopy", desc := "(Ljava/lang/Object;ILjava/lang/Object;II)V" } : Jvm.MethodName)) ∈ Wc := Wc_t 272 (by decide +kernel) (by decide +kernel)
theorem tw_273 : (Jvm.Cond.methodLink "java/lang/AbstractStringBuilder" (83 : Nat) ({ cls := "java/lang/AbstractStringBuilder", name := "isLatin1", desc := "()Z" } : Jvm.MethodName)) ∈ Wc := Wc_t 273 (by decide +kernel) (by decide +kernel)
theorem tw_274 : (Jvm.Cond.instanceMethod ({ cls := "java/lang/AbstractStringBuilder", name := "isLatin1", desc := "()Z" } : Jvm.MethodName)) ∈ Wc := Wc_t 274 (by decide +kernel) (by decide +kernel)
theorem tw_275 : (Jvm.Cond.sameMethod "java/lang/AbstractStringBuilder" "java/lang/AbstractStringBuilder" "isLatin1" "()Z") ∈ Wc := Wc_t 275 (by decide +kernel) (by decide +kernel)
theorem tw_276 : (Jvm.Cond.selects "java/lang/StringBuilder" ({ cls := "java/lang/AbstractStringBuilder", name := "isLatin1", desc := "()Z" } : Jvm.MethodName) ({ cls := "java/lang/AbstractStringBuilder", name := "isLatin1", desc := "()Z" } : Jvm.MethodName)) ∈ Wc := Wc_t 276 (by decide +kernel) (by decide +kernel)
theorem tw_277 : (Jvm.Cond.code ({ cls := "java/lang/AbstractStringBuilder", name := "isLatin1", desc := "()Z" } : Jvm.MethodName) prog_12_method_68_code (1 : Nat) (Option.some Jvm.ClassFile.FieldType.boolean)) ∈ Wc := Wc_t 277 (by decide +kernel) (by decide +kernel)
theorem tw_278 : (Jvm.Cond.methodLink "java/lang/AbstractStringBuilder" (191 : Nat) ({ cls := "java/lang/StringLatin1", name := "canEncode", desc := "(C)Z" } : Jvm.MethodName)) ∈ Wc := Wc_t 278 (by decide +kernel) (by decide +kernel)
theorem tw_279 : (Jvm.Cond.static ({ cls := "java/lang/StringLatin1", name := "canEncode", desc := "(C)Z" } : Jvm.MethodName)) ∈ Wc := Wc_t 279 (by decide +kernel) (by decide +kernel)
theorem tw_280 : (Jvm.Cond.code ({ cls := "java/lang/StringLatin1", name := "canEncode", desc := "(C)Z" } : Jvm.MethodName) prog_27_method_3_code (1 : Nat) (Option.some Jvm.ClassFile.FieldType.boolean)) ∈ Wc := Wc_t 280 (by decide +kernel) (by decide +kernel)
theorem tw_281 : (Jvm.Cond.methodLink "java/lang/AbstractStringBuilder" (195 : Nat) ({ cls := "java/lang/AbstractStringBuilder", name := "inflate", desc := "()V" } : Jvm.MethodName)) ∈ Wc := Wc_t 281 (by decide +kernel) (by decide +kernel)
theorem tw_283 : (Jvm.Cond.instanceMethod ({ cls := "java/lang/AbstractStringBuilder", name := "inflate", desc := "()V" } : Jvm.MethodName)) ∈ Wc := Wc_t 283 (by decide +kernel) (by decide +kernel)
theorem tw_284 : (Jvm.Cond.code ({ cls := "java/lang/AbstractStringBuilder", name := "inflate", desc := "()V" } : Jvm.MethodName) prog_12_method_11_code (2 : Nat) (Option.none : Option Jvm.ClassFile.FieldType)) ∈ Wc := Wc_t 284 (by decide +kernel) (by decide +kernel)
theorem tw_285 : (Jvm.Cond.methodLink "java/lang/AbstractStringBuilder" (125 : Nat) ({ cls := "java/lang/StringLatin1", name := "inflate", desc := "([BI[BII)V" } : Jvm.MethodName)) ∈ Wc := Wc_t 285 (by decide +kernel) (by decide +kernel)
theorem tw_286 : (Jvm.Cond.static ({ cls := "java/lang/StringLatin1", name := "inflate", desc := "([BI[BII)V" } : Jvm.MethodName)) ∈ Wc := Wc_t 286 (by decide +kernel) (by decide +kernel)
theorem tw_287 : (Jvm.Cond.code ({ cls := "java/lang/StringLatin1", name := "inflate", desc := "([BI[BII)V" } : Jvm.MethodName) prog_27_method_50_code (5 : Nat) (Option.none : Option Jvm.ClassFile.FieldType)) ∈ Wc := Wc_t 287 (by decide +kernel) (by decide +kernel)
theorem tw_288 : (Jvm.Cond.methodLink "java/lang/StringLatin1" (240 : Nat) ({ cls := "java/lang/StringUTF16", name := "inflate", desc := "([BI[BII)V" } : Jvm.MethodName)) ∈ Wc := Wc_t 288 (by decide +kernel) (by decide +kernel)
theorem tw_289 : (Jvm.Cond.static ({ cls := "java/lang/StringUTF16", name := "inflate", desc := "([BI[BII)V" } : Jvm.MethodName)) ∈ Wc := Wc_t 289 (by decide +kernel) (by decide +kernel)
theorem tw_290 : (Jvm.Cond.code ({ cls := "java/lang/StringUTF16", name := "inflate", desc := "([BI[BII)V" } : Jvm.MethodName) prog_28_method_86_code (6 : Nat) (Option.none : Option Jvm.ClassFile.FieldType)) ∈ Wc := Wc_t 290 (by decide +kernel) (by decide +kernel)
theorem tw_291 : (Jvm.Cond.methodLink "java/lang/StringUTF16" (173 : Nat) ({ cls := "java/lang/StringUTF16", name := "checkBoundsOffCount", desc := "(II[B)V" } : Jvm.MethodName)) ∈ Wc := Wc_t 291 (by decide +kernel) (by decide +kernel)
theorem tw_292 : (Jvm.Cond.static ({ cls := "java/lang/StringUTF16", name := "checkBoundsOffCount", desc := "(II[B)V" } : Jvm.MethodName)) ∈ Wc := Wc_t 292 (by decide +kernel) (by decide +kernel)
theorem tw_293 : (Jvm.Cond.code ({ cls := "java/lang/StringUTF16", name := "checkBoundsOffCount", desc := "(II[B)V" } : Jvm.MethodName) prog_28_method_94_code (3 : Nat) (Option.none : Option Jvm.ClassFile.FieldType)) ∈ Wc := Wc_t 293 (by decide +kernel) (by decide +kernel)
theorem tw_294 : (Jvm.Cond.methodLink "java/lang/StringUTF16" (48 : Nat) ({ cls := "java/lang/StringUTF16", name := "length", desc := "([B)I" } : Jvm.MethodName)) ∈ Wc := Wc_t 294 (by decide +kernel) (by decide +kernel)
theorem tw_295 : (Jvm.Cond.static ({ cls := "java/lang/StringUTF16", name := "length", desc := "([B)I" } : Jvm.MethodName)) ∈ Wc := Wc_t 295 (by decide +kernel) (by decide +kernel)
theorem tw_296 : (Jvm.Cond.code ({ cls := "java/lang/StringUTF16", name := "length", desc := "([B)I" } : Jvm.MethodName) prog_28_method_6_code (1 : Nat) (Option.some Jvm.ClassFile.FieldType.int)) ∈ Wc := Wc_t 296 (by decide +kernel) (by decide +kernel)
theorem tw_297 : (Jvm.Cond.methodLink "java/lang/StringUTF16" (419 : Nat) ({ cls := "java/lang/String", name := "checkBoundsOffCount", desc := "(III)I" } : Jvm.MethodName)) ∈ Wc := Wc_t 297 (by decide +kernel) (by decide +kernel)
theorem tw_298 : (Jvm.Cond.static ({ cls := "java/lang/String", name := "checkBoundsOffCount", desc := "(III)I" } : Jvm.MethodName)) ∈ Wc := Wc_t 298 (by decide +kernel) (by decide +kernel)
theorem tw_299 : (Jvm.Cond.code ({ cls := "java/lang/String", name := "checkBoundsOffCount", desc := "(III)I" } : Jvm.MethodName) prog_24_method_157_code (3 : Nat) (Option.some Jvm.ClassFile.FieldType.int)) ∈ Wc := Wc_t 299 (by decide +kernel) (by decide +kernel)
theorem tw_300 : (Jvm.Cond.fieldLink "java/lang/String" (1053 : Nat) "jdk/internal/util/Preconditions" "SIOOBE_FORMATTER" "Ljava/util/function/BiFunction;") ∈ Wc := Wc_t 300 (by decide +kernel) (by decide +kernel)
theorem tw_302 : (Jvm.Cond.methodLink "java/lang/String" (1065 : Nat) ({ cls := "jdk/internal/util/Preconditions", name := "checkFromIndexSize", desc := "(IIILjava/util/function/BiFunction;)I" } : Jvm.MethodName)) ∈ Wc := Wc_t 302 (by decide +kernel) (by decide +kernel)
theorem tw_303 : (Jvm.Cond.static ({ cls := "jdk/internal/util/Preconditions", name := "checkFromIndexSize", desc := "(IIILjava/util/function/BiFunction;)I" } : Jvm.MethodName)) ∈ Wc := Wc_t 303 (by decide +kernel) (by decide +kernel)
theorem tw_304 : (Jvm.Cond.code ({ cls := "jdk/internal/util/Preconditions", name := "checkFromIndexSize", desc := "(IIILjava/util/function/BiFunction;)I" } : Jvm.MethodName) prog_33_method_13_code (4 : Nat) (Option.some Jvm.ClassFile.FieldType.int)) ∈ Wc := Wc_t 304 (by decide +kernel) (by decide +kernel)
theorem tw_305 : (Jvm.Cond.methodLink "java/lang/StringUTF16" (111 : Nat) ({ cls := "java/lang/StringUTF16", name := "putChar", desc := "([BII)V" } : Jvm.MethodName)) ∈ Wc := Wc_t 305 (by decide +kernel) (by decide +kernel)
theorem tw_306 : (Jvm.Cond.static ({ cls := "java/lang/StringUTF16", name := "putChar", desc := "([BII)V" } : Jvm.MethodName)) ∈ Wc := Wc_t 306 (by decide +kernel) (by decide +kernel)
theorem tw_307 : (Jvm.Cond.code ({ cls := "java/lang/StringUTF16", name := "putChar", desc := "([BII)V" } : Jvm.MethodName) prog_28_method_4_code (3 : Nat) (Option.none : Option Jvm.ClassFile.FieldType)) ∈ Wc := Wc_t 307 (by decide +kernel) (by decide +kernel)
theorem tw_308 : (Jvm.Cond.fieldLink "java/lang/StringUTF16" (44 : Nat) "java/lang/StringUTF16" "$assertionsDisabled" "Z") ∈ Wc := Wc_t 308 (by decide +kernel) (by decide +kernel)
theorem tw_310 : (Jvm.Cond.fieldLink "java/lang/StringUTF16" (59 : Nat) "java/lang/StringUTF16" "HI_BYTE_SHIFT" "I") ∈ Wc := Wc_t 310 (by decide +kernel) (by decide +kernel)
theorem tw_312 : (Jvm.Cond.fieldLink "java/lang/StringUTF16" (63 : Nat) "java/lang/StringUTF16" "LO_BYTE_SHIFT" "I") ∈ Wc := Wc_t 312 (by decide +kernel) (by decide +kernel)
theorem tw_314 : (Jvm.Cond.methodLink "java/lang/AbstractStringBuilder" (197 : Nat) ({ cls := "java/lang/StringUTF16", name := "putCharSB", desc := "([BII)V" } : Jvm.MethodName)) ∈ Wc := Wc_t 314 (by decide +kernel) (by decide +kernel)
theorem tw_315 : (Jvm.Cond.static ({ cls := "java/lang/StringUTF16", name := "putCharSB", desc := "([BII)V" } : Jvm.MethodName)) ∈ Wc := Wc_t 315 (by decide +kernel) (by decide +kernel)
theorem tw_316 : (Jvm.Cond.code ({ cls := "java/lang/StringUTF16", name := "putCharSB", desc := "([BII)V" } : Jvm.MethodName) prog_28_method_71_code (3 : Nat) (Option.none : Option Jvm.ClassFile.FieldType)) ∈ Wc := Wc_t 316 (by decide +kernel) (by decide +kernel)
theorem tw_317 : (Jvm.Cond.methodLink "java/lang/StringUTF16" (67 : Nat) ({ cls := "java/lang/StringUTF16", name := "checkIndex", desc := "(I[B)V" } : Jvm.MethodName)) ∈ Wc := Wc_t 317 (by decide +kernel) (by decide +kernel)
theorem tw_318 : (Jvm.Cond.static ({ cls := "java/lang/StringUTF16", name := "checkIndex", desc := "(I[B)V" } : Jvm.MethodName)) ∈ Wc := Wc_t 318 (by decide +kernel) (by decide +kernel)
theorem tw_319 : (Jvm.Cond.code ({ cls := "java/lang/StringUTF16", name := "checkIndex", desc := "(I[B)V" } : Jvm.MethodName) prog_28_method_91_code (2 : Nat) (Option.none : Option Jvm.ClassFile.FieldType)) ∈ Wc := Wc_t 319 (by decide +kernel) (by decide +kernel)
theorem tw_320 : (Jvm.Cond.methodLink "java/lang/StringUTF16" (414 : Nat) ({ cls := "java/lang/String", name := "checkIndex", desc := "(II)V" } : Jvm.MethodName)) ∈ Wc := Wc_t 320 (by decide +kernel) (by decide +kernel)
theorem tw_321 : (Jvm.Cond.static ({ cls := "java/lang/String", name := "checkIndex", desc := "(II)V" } : Jvm.MethodName)) ∈ Wc := Wc_t 321 (by decide +kernel) (by decide +kernel)
theorem tw_322 : (Jvm.Cond.code ({ cls := "java/lang/String", name := "checkIndex", desc := "(II)V" } : Jvm.MethodName) prog_24_method_155_code (2 : Nat) (Option.none : Option Jvm.ClassFile.FieldType)) ∈ Wc := Wc_t 322 (by decide +kernel) (by decide +kernel)
theorem tw_323 : (Jvm.Cond.methodLink "java/lang/String" (1059 : Nat) ({ cls := "jdk/internal/util/Preconditions", name := "checkIndex", desc := "(IILjava/util/function/BiFunction;)I" } : Jvm.MethodName)) ∈ Wc := Wc_t 323 (by decide +kernel) (by decide +kernel)
theorem tw_324 : (Jvm.Cond.static ({ cls := "jdk/internal/util/Preconditions", name := "checkIndex", desc := "(IILjava/util/function/BiFunction;)I" } : Jvm.MethodName)) ∈ Wc := Wc_t 324 (by decide +kernel) (by decide +kernel)
theorem tw_325 : (Jvm.Cond.code ({ cls := "jdk/internal/util/Preconditions", name := "checkIndex", desc := "(IILjava/util/function/BiFunction;)I" } : Jvm.MethodName) prog_33_method_11_code (3 : Nat) (Option.some Jvm.ClassFile.FieldType.int)) ∈ Wc := Wc_t 325 (by decide +kernel) (by decide +kernel)
theorem tw_326 : (Jvm.Cond.methodLink "HatbandYardLaw" (95 : Nat) ({ cls := "HatbandYardLaw", name := "lot", desc := "(LHatbandYard;I[J)I" } : Jvm.MethodName)) ∈ Wc := Wc_t 326 (by decide +kernel) (by decide +kernel)
theorem tw_327 : (Jvm.Cond.static ({ cls := "HatbandYardLaw", name := "lot", desc := "(LHatbandYard;I[J)I" } : Jvm.MethodName)) ∈ Wc := Wc_t 327 (by decide +kernel) (by decide +kernel)
theorem tw_328 : (Jvm.Cond.codeWith ({ cls := "HatbandYardLaw", name := "lot", desc := "(LHatbandYard;I[J)I" } : Jvm.MethodName) method_4_code (4 : Nat) (Option.some Jvm.ClassFile.FieldType.int) [((0 : Nat), (9 : Nat), (12 : Nat), (13 : Nat)), ((0 : Nat), (9 : Nat), (15 : Nat), (15 : Nat))]) ∈ Wc := Wc_t 328 (by decide +kernel) (by decide +kernel)
theorem tw_329 : (Jvm.Cond.methodLink "HatbandYardLaw" (17 : Nat) ({ cls := "HatbandYard", name := "lot", desc := "(I)I" } : Jvm.MethodName)) ∈ Wc := Wc_t 329 (by decide +kernel) (by decide +kernel)
theorem tw_330 : (Jvm.Cond.instanceMethod ({ cls := "HatbandYard", name := "lot", desc := "(I)I" } : Jvm.MethodName)) ∈ Wc := Wc_t 330 (by decide +kernel) (by decide +kernel)
theorem tw_331 : (Jvm.Cond.selects "HatbandYard" ({ cls := "HatbandYard", name := "lot", desc := "(I)I" } : Jvm.MethodName) ({ cls := "HatbandYard", name := "lot", desc := "(I)I" } : Jvm.MethodName)) ∈ Wc := Wc_t 331 (by decide +kernel) (by decide +kernel)
theorem tw_332 : (Jvm.Cond.code ({ cls := "HatbandYard", name := "lot", desc := "(I)I" } : Jvm.MethodName) prog_1_method_3_code (3 : Nat) (Option.some Jvm.ClassFile.FieldType.int)) ∈ Wc := Wc_t 332 (by decide +kernel) (by decide +kernel)
theorem tw_333 : (Jvm.Cond.methodLink "HatbandYard" (79 : Nat) ({ cls := "HatbandYard", name := "typedFur", desc := "()LHatbandYard$Fur;" } : Jvm.MethodName)) ∈ Wc := Wc_t 333 (by decide +kernel) (by decide +kernel)
theorem tw_335 : (Jvm.Cond.instanceMethod ({ cls := "HatbandYard", name := "typedFur", desc := "()LHatbandYard$Fur;" } : Jvm.MethodName)) ∈ Wc := Wc_t 335 (by decide +kernel) (by decide +kernel)
theorem tw_336 : (Jvm.Cond.code ({ cls := "HatbandYard", name := "typedFur", desc := "()LHatbandYard$Fur;" } : Jvm.MethodName) prog_1_method_29_code (5 : Nat) (Option.some (Jvm.ClassFile.FieldType.object "HatbandYard$Fur"))) ∈ Wc := Wc_t 336 (by decide +kernel) (by decide +kernel)
theorem tw_337 : (Jvm.Cond.fieldLink "HatbandYard" (251 : Nat) "HatbandYard" "FURS" "[LHatbandYard$Fur;") ∈ Wc := Wc_t 337 (by decide +kernel) (by decide +kernel)
theorem tw_339 : (Jvm.Cond.methodLink "HatbandYard" (259 : Nat) ({ cls := "HatbandYard", name := "isTyped", desc := "(Ljava/lang/String;)Z" } : Jvm.MethodName)) ∈ Wc := Wc_t 339 (by decide +kernel) (by decide +kernel)
theorem tw_341 : (Jvm.Cond.instanceMethod ({ cls := "HatbandYard", name := "isTyped", desc := "(Ljava/lang/String;)Z" } : Jvm.MethodName)) ∈ Wc := Wc_t 341 (by decide +kernel) (by decide +kernel)
theorem tw_342 : (Jvm.Cond.code ({ cls := "HatbandYard", name := "isTyped", desc := "(Ljava/lang/String;)Z" } : Jvm.MethodName) prog_1_method_32_code (3 : Nat) (Option.some Jvm.ClassFile.FieldType.boolean)) ∈ Wc := Wc_t 342 (by decide +kernel) (by decide +kernel)
theorem tw_343 : (Jvm.Cond.methodLink "HatbandYard" (273 : Nat) ({ cls := "java/lang/String", name := "length", desc := "()I" } : Jvm.MethodName)) ∈ Wc := Wc_t 343 (by decide +kernel) (by decide +kernel)
theorem tw_344 : (Jvm.Cond.instanceMethod ({ cls := "java/lang/String", name := "length", desc := "()I" } : Jvm.MethodName)) ∈ Wc := Wc_t 344 (by decide +kernel) (by decide +kernel)
theorem tw_345 : (Jvm.Cond.selects "java/lang/String" ({ cls := "java/lang/String", name := "length", desc := "()I" } : Jvm.MethodName) ({ cls := "java/lang/String", name := "length", desc := "()I" } : Jvm.MethodName)) ∈ Wc := Wc_t 345 (by decide +kernel) (by decide +kernel)
theorem tw_346 : (Jvm.Cond.code ({ cls := "java/lang/String", name := "length", desc := "()I" } : Jvm.MethodName) prog_24_method_54_code (1 : Nat) (Option.some Jvm.ClassFile.FieldType.int)) ∈ Wc := Wc_t 346 (by decide +kernel) (by decide +kernel)
theorem tw_347 : (Jvm.Cond.methodLink "java/lang/String" (335 : Nat) ({ cls := "java/lang/String", name := "coder", desc := "()B" } : Jvm.MethodName)) ∈ Wc := Wc_t 347 (by decide +kernel) (by decide +kernel)
theorem tw_348 : (Jvm.Cond.instanceMethod ({ cls := "java/lang/String", name := "coder", desc := "()B" } : Jvm.MethodName)) ∈ Wc := Wc_t 348 (by decide +kernel) (by decide +kernel)
theorem tw_349 : (Jvm.Cond.selects "java/lang/String" ({ cls := "java/lang/String", name := "coder", desc := "()B" } : Jvm.MethodName) ({ cls := "java/lang/String", name := "coder", desc := "()B" } : Jvm.MethodName)) ∈ Wc := Wc_t 349 (by decide +kernel) (by decide +kernel)
theorem tw_350 : (Jvm.Cond.code ({ cls := "java/lang/String", name := "coder", desc := "()B" } : Jvm.MethodName) prog_24_method_152_code (1 : Nat) (Option.some Jvm.ClassFile.FieldType.byte)) ∈ Wc := Wc_t 350 (by decide +kernel) (by decide +kernel)
theorem tw_351 : (Jvm.Cond.fieldLink "java/lang/String" (38 : Nat) "java/lang/String" "COMPACT_STRINGS" "Z") ∈ Wc := Wc_t 351 (by decide +kernel) (by decide +kernel)
theorem tw_352 : (Jvm.Cond.methodLink "HatbandYard" (276 : Nat) ({ cls := "java/lang/StringBuilder", name := "charAt", desc := "(I)C" } : Jvm.MethodName)) ∈ Wc := Wc_t 352 (by decide +kernel) (by decide +kernel)
theorem tw_353 : (Jvm.Cond.instanceMethod ({ cls := "java/lang/StringBuilder", name := "charAt", desc := "(I)C" } : Jvm.MethodName)) ∈ Wc := Wc_t 353 (by decide +kernel) (by decide +kernel)
theorem tw_354 : (Jvm.Cond.selects "java/lang/StringBuilder" ({ cls := "java/lang/StringBuilder", name := "charAt", desc := "(I)C" } : Jvm.MethodName) ({ cls := "java/lang/StringBuilder", name := "charAt", desc := "(I)C" } : Jvm.MethodName)) ∈ Wc := Wc_t 354 (by decide +kernel) (by decide +kernel)
theorem tw_355 : (Jvm.Cond.code ({ cls := "java/lang/StringBuilder", name := "charAt", desc := "(I)C" } : Jvm.MethodName) prog_25_method_88_code (2 : Nat) (Option.some Jvm.ClassFile.FieldType.char)) ∈ Wc := Wc_t 355 (by decide +kernel) (by decide +kernel)
theorem tw_356 : (Jvm.Cond.methodLink "java/lang/StringBuilder" (329 : Nat) ({ cls := "java/lang/AbstractStringBuilder", name := "charAt", desc := "(I)C" } : Jvm.MethodName)) ∈ Wc := Wc_t 356 (by decide +kernel) (by decide +kernel)
theorem tw_357 : (Jvm.Cond.instanceMethod ({ cls := "java/lang/AbstractStringBuilder", name := "charAt", desc := "(I)C" } : Jvm.MethodName)) ∈ Wc := Wc_t 357 (by decide +kernel) (by decide +kernel)
theorem tw_358 : (Jvm.Cond.code ({ cls := "java/lang/AbstractStringBuilder", name := "charAt", desc := "(I)C" } : Jvm.MethodName) prog_12_method_14_code (5 : Nat) (Option.some Jvm.ClassFile.FieldType.char)) ∈ Wc := Wc_t 358 (by decide +kernel) (by decide +kernel)
theorem tw_359 : (Jvm.Cond.methodLink "java/lang/AbstractStringBuilder" (138 : Nat) ({ cls := "java/lang/Math", name := "min", desc := "(II)I" } : Jvm.MethodName)) ∈ Wc := Wc_t 359 (by decide +kernel) (by decide +kernel)
theorem tw_360 : (Jvm.Cond.methodLink "java/lang/AbstractStringBuilder" (144 : Nat) ({ cls := "java/lang/String", name := "checkIndex", desc := "(II)V" } : Jvm.MethodName)) ∈ Wc := Wc_t 360 (by decide +kernel) (by decide +kernel)
theorem tw_361 : (Jvm.Cond.methodLink "java/lang/AbstractStringBuilder" (148 : Nat) ({ cls := "java/lang/StringUTF16", name := "getChar", desc := "([BI)C" } : Jvm.MethodName)) ∈ Wc := Wc_t 361 (by decide +kernel) (by decide +kernel)
theorem tw_362 : (Jvm.Cond.static ({ cls := "java/lang/StringUTF16", name := "getChar", desc := "([BI)C" } : Jvm.MethodName)) ∈ Wc := Wc_t 362 (by decide +kernel) (by decide +kernel)
theorem tw_363 : (Jvm.Cond.code ({ cls := "java/lang/StringUTF16", name := "getChar", desc := "([BI)C" } : Jvm.MethodName) prog_28_method_5_code (2 : Nat) (Option.some Jvm.ClassFile.FieldType.char)) ∈ Wc := Wc_t 363 (by decide +kernel) (by decide +kernel)
theorem tw_364 : (Jvm.Cond.methodLink "HatbandYard" (280 : Nat) ({ cls := "java/lang/String", name := "charAt", desc := "(I)C" } : Jvm.MethodName)) ∈ Wc := Wc_t 364 (by decide +kernel) (by decide +kernel)
theorem tw_365 : (Jvm.Cond.instanceMethod ({ cls := "java/lang/String", name := "charAt", desc := "(I)C" } : Jvm.MethodName)) ∈ Wc := Wc_t 365 (by decide +kernel) (by decide +kernel)
theorem tw_366 : (Jvm.Cond.selects "java/lang/String" ({ cls := "java/lang/String", name := "charAt", desc := "(I)C" } : Jvm.MethodName) ({ cls := "java/lang/String", name := "charAt", desc := "(I)C" } : Jvm.MethodName)) ∈ Wc := Wc_t 366 (by decide +kernel) (by decide +kernel)
theorem tw_367 : (Jvm.Cond.code ({ cls := "java/lang/String", name := "charAt", desc := "(I)C" } : Jvm.MethodName) prog_24_method_56_code (2 : Nat) (Option.some Jvm.ClassFile.FieldType.char)) ∈ Wc := Wc_t 367 (by decide +kernel) (by decide +kernel)
theorem tw_368 : (Jvm.Cond.methodLink "java/lang/String" (492 : Nat) ({ cls := "java/lang/String", name := "isLatin1", desc := "()Z" } : Jvm.MethodName)) ∈ Wc := Wc_t 368 (by decide +kernel) (by decide +kernel)
theorem tw_369 : (Jvm.Cond.instanceMethod ({ cls := "java/lang/String", name := "isLatin1", desc := "()Z" } : Jvm.MethodName)) ∈ Wc := Wc_t 369 (by decide +kernel) (by decide +kernel)
theorem tw_370 : (Jvm.Cond.selects "java/lang/String" ({ cls := "java/lang/String", name := "isLatin1", desc := "()Z" } : Jvm.MethodName) ({ cls := "java/lang/String", name := "isLatin1", desc := "()Z" } : Jvm.MethodName)) ∈ Wc := Wc_t 370 (by decide +kernel) (by decide +kernel)
theorem tw_371 : (Jvm.Cond.code ({ cls := "java/lang/String", name := "isLatin1", desc := "()Z" } : Jvm.MethodName) prog_24_method_154_code (1 : Nat) (Option.some Jvm.ClassFile.FieldType.boolean)) ∈ Wc := Wc_t 371 (by decide +kernel) (by decide +kernel)
theorem tw_372 : (Jvm.Cond.methodLink "java/lang/String" (495 : Nat) ({ cls := "java/lang/StringLatin1", name := "charAt", desc := "([BI)C" } : Jvm.MethodName)) ∈ Wc := Wc_t 372 (by decide +kernel) (by decide +kernel)
theorem tw_373 : (Jvm.Cond.static ({ cls := "java/lang/StringLatin1", name := "charAt", desc := "([BI)C" } : Jvm.MethodName)) ∈ Wc := Wc_t 373 (by decide +kernel) (by decide +kernel)
theorem tw_374 : (Jvm.Cond.code ({ cls := "java/lang/StringLatin1", name := "charAt", desc := "([BI)C" } : Jvm.MethodName) prog_27_method_2_code (2 : Nat) (Option.some Jvm.ClassFile.FieldType.char)) ∈ Wc := Wc_t 374 (by decide +kernel) (by decide +kernel)
theorem tw_375 : (Jvm.Cond.methodLink "java/lang/StringLatin1" (9 : Nat) ({ cls := "java/lang/String", name := "checkIndex", desc := "(II)V" } : Jvm.MethodName)) ∈ Wc := Wc_t 375 (by decide +kernel) (by decide +kernel)
theorem tw_376 : (Jvm.Cond.methodLink "java/lang/String" (498 : Nat) ({ cls := "java/lang/StringUTF16", name := "charAt", desc := "([BI)C" } : Jvm.MethodName)) ∈ Wc := Wc_t 376 (by decide +kernel) (by decide +kernel)
theorem tw_377 : (Jvm.Cond.static ({ cls := "java/lang/StringUTF16", name := "charAt", desc := "([BI)C" } : Jvm.MethodName)) ∈ Wc := Wc_t 377 (by decide +kernel) (by decide +kernel)
theorem tw_378 : (Jvm.Cond.code ({ cls := "java/lang/StringUTF16", name := "charAt", desc := "([BI)C" } : Jvm.MethodName) prog_28_method_83_code (2 : Nat) (Option.some Jvm.ClassFile.FieldType.char)) ∈ Wc := Wc_t 378 (by decide +kernel) (by decide +kernel)
theorem tw_379 : (Jvm.Cond.methodLink "java/lang/StringUTF16" (71 : Nat) ({ cls := "java/lang/StringUTF16", name := "getChar", desc := "([BI)C" } : Jvm.MethodName)) ∈ Wc := Wc_t 379 (by decide +kernel) (by decide +kernel)
theorem tw_380 : (Jvm.Cond.methodLink "HatbandYard" (83 : Nat) ({ cls := "HatbandYard", name := "clearTyped", desc := "()V" } : Jvm.MethodName)) ∈ Wc := Wc_t 380 (by decide +kernel) (by decide +kernel)
theorem tw_382 : (Jvm.Cond.instanceMethod ({ cls := "HatbandYard", name := "clearTyped", desc := "()V" } : Jvm.MethodName)) ∈ Wc := Wc_t 382 (by decide +kernel) (by decide +kernel)
theorem tw_383 : (Jvm.Cond.code ({ cls := "HatbandYard", name := "clearTyped", desc := "()V" } : Jvm.MethodName) prog_1_method_33_code (1 : Nat) (Option.none : Option Jvm.ClassFile.FieldType)) ∈ Wc := Wc_t 383 (by decide +kernel) (by decide +kernel)
theorem tw_384 : (Jvm.Cond.methodLink "HatbandYard" (281 : Nat) ({ cls := "java/lang/StringBuilder", name := "setLength", desc := "(I)V" } : Jvm.MethodName)) ∈ Wc := Wc_t 384 (by decide +kernel) (by decide +kernel)
theorem tw_385 : (Jvm.Cond.instanceMethod ({ cls := "java/lang/StringBuilder", name := "setLength", desc := "(I)V" } : Jvm.MethodName)) ∈ Wc := Wc_t 385 (by decide +kernel) (by decide +kernel)
theorem tw_386 : (Jvm.Cond.selects "java/lang/StringBuilder" ({ cls := "java/lang/StringBuilder", name := "setLength", desc := "(I)V" } : Jvm.MethodName) ({ cls := "java/lang/StringBuilder", name := "setLength", desc := "(I)V" } : Jvm.MethodName)) ∈ Wc := Wc_t 386 (by decide +kernel) (by decide +kernel)
theorem tw_387 : (Jvm.Cond.code ({ cls := "java/lang/StringBuilder", name := "setLength", desc := "(I)V" } : Jvm.MethodName) prog_25_method_89_code (2 : Nat) (Option.none : Option Jvm.ClassFile.FieldType)) ∈ Wc := Wc_t 387 (by decide +kernel) (by decide +kernel)
theorem tw_388 : (Jvm.Cond.methodLink "java/lang/StringBuilder" (333 : Nat) ({ cls := "java/lang/AbstractStringBuilder", name := "setLength", desc := "(I)V" } : Jvm.MethodName)) ∈ Wc := Wc_t 388 (by decide +kernel) (by decide +kernel)
theorem tw_389 : (Jvm.Cond.instanceMethod ({ cls := "java/lang/AbstractStringBuilder", name := "setLength", desc := "(I)V" } : Jvm.MethodName)) ∈ Wc := Wc_t 389 (by decide +kernel) (by decide +kernel)
theorem tw_390 : (Jvm.Cond.code ({ cls := "java/lang/AbstractStringBuilder", name := "setLength", desc := "(I)V" } : Jvm.MethodName) prog_12_method_13_code (2 : Nat) (Option.none : Option Jvm.ClassFile.FieldType)) ∈ Wc := Wc_t 390 (by decide +kernel) (by decide +kernel)
theorem tw_391 : (Jvm.Cond.classLink "java/lang/AbstractStringBuilder" (129 : Nat) "java/lang/StringIndexOutOfBoundsException") ∈ Wc := Wc_t 391 (by decide +kernel) (by decide +kernel)
theorem tw_392 : (Jvm.Cond.instantiable "java/lang/StringIndexOutOfBoundsException" (6 : Nat)) ∈ Wc := Wc_t 392 (by decide +kernel) (by decide +kernel)
theorem tw_393 : (Jvm.Cond.methodLink "java/lang/AbstractStringBuilder" (131 : Nat) ({ cls := "java/lang/StringIndexOutOfBoundsException", name := "<init>", desc := "(I)V" } : Jvm.MethodName)) ∈ Wc := Wc_t 393 (by decide +kernel) (by decide +kernel)
theorem tw_394 : (Jvm.Cond.instanceMethod ({ cls := "java/lang/StringIndexOutOfBoundsException", name := "<init>", desc := "(I)V" } : Jvm.MethodName)) ∈ Wc := Wc_t 394 (by decide +kernel) (by decide +kernel)
theorem tw_395 : (Jvm.Cond.code ({ cls := "java/lang/StringIndexOutOfBoundsException", name := "<init>", desc := "(I)V" } : Jvm.MethodName) prog_26_method_3_code (2 : Nat) (Option.none : Option Jvm.ClassFile.FieldType)) ∈ Wc := Wc_t 395 (by decide +kernel) (by decide +kernel)
theorem tw_396 : (Jvm.Cond.classLink "java/lang/StringIndexOutOfBoundsException" (10 : Nat) "java/lang/StringBuilder") ∈ Wc := Wc_t 396 (by decide +kernel) (by decide +kernel)
theorem tw_397 : (Jvm.Cond.methodLink "java/lang/StringIndexOutOfBoundsException" (12 : Nat) ({ cls := "java/lang/StringBuilder", name := "<init>", desc := "()V" } : Jvm.MethodName)) ∈ Wc := Wc_t 397 (by decide +kernel) (by decide +kernel)
theorem tw_399 : (Jvm.Cond.methodLink "java/lang/StringIndexOutOfBoundsException" (15 : Nat) ({ cls := "java/lang/StringBuilder", name := "append", desc := "(Ljava/lang/String;)Ljava/lang/StringBuilder;" } : Jvm.MethodName)) ∈ Wc := Wc_t 399 (by decide +kernel) (by decide +kernel)
theorem tw_400 : (Jvm.Cond.instanceMethod ({ cls := "java/lang/StringBuilder", name := "append", desc := "(Ljava/lang/String;)Ljava/lang/StringBuilder;" } : Jvm.MethodName)) ∈ Wc := Wc_t 400 (by decide +kernel) (by decide +kernel)
theorem tw_401 : (Jvm.Cond.selects "java/lang/StringBuilder" ({ cls := "java/lang/StringBuilder", name := "append", desc := "(Ljava/lang/String;)Ljava/lang/StringBuilder;" } : Jvm.MethodName) ({ cls := "java/lang/StringBuilder", name := "append", desc := "(Ljava/lang/String;)Ljava/lang/StringBuilder;" } : Jvm.MethodName)) ∈ Wc := Wc_t 401 (by decide +kernel) (by decide +kernel)
theorem tw_402 : (Jvm.Cond.code ({ cls := "java/lang/StringBuilder", name := "append", desc := "(Ljava/lang/String;)Ljava/lang/StringBuilder;" } : Jvm.MethodName) prog_25_method_7_code (2 : Nat) (Option.some (Jvm.ClassFile.FieldType.object "java/lang/StringBuilder"))) ∈ Wc := Wc_t 402 (by decide +kernel) (by decide +kernel)
theorem tw_403 : (Jvm.Cond.methodLink "java/lang/StringBuilder" (29 : Nat) ({ cls := "java/lang/AbstractStringBuilder", name := "append", desc := "(Ljava/lang/String;)Ljava/lang/AbstractStringBuilder;" } : Jvm.MethodName)) ∈ Wc := Wc_t 403 (by decide +kernel) (by decide +kernel)
theorem tw_404 : (Jvm.Cond.instanceMethod ({ cls := "java/lang/AbstractStringBuilder", name := "append", desc := "(Ljava/lang/String;)Ljava/lang/AbstractStringBuilder;" } : Jvm.MethodName)) ∈ Wc := Wc_t 404 (by decide +kernel) (by decide +kernel)
theorem tw_405 : (Jvm.Cond.code ({ cls := "java/lang/AbstractStringBuilder", name := "append", desc := "(Ljava/lang/String;)Ljava/lang/AbstractStringBuilder;" } : Jvm.MethodName) prog_12_method_22_code (3 : Nat) (Option.some (Jvm.ClassFile.FieldType.object "java/lang/AbstractStringBuilder"))) ∈ Wc := Wc_t 405 (by decide +kernel) (by decide +kernel)
theorem tw_406 : (Jvm.Cond.methodLink "java/lang/AbstractStringBuilder" (204 : Nat) ({ cls := "java/lang/AbstractStringBuilder", name := "appendNull", desc := "()Ljava/lang/AbstractStringBuilder;" } : Jvm.MethodName)) ∈ Wc := Wc_t 406 (by decide +kernel) (by decide +kernel)
theorem tw_408 : (Jvm.Cond.instanceMethod ({ cls := "java/lang/AbstractStringBuilder", name := "appendNull", desc := "()Ljava/lang/AbstractStringBuilder;" } : Jvm.MethodName)) ∈ Wc := Wc_t 408 (by decide +kernel) (by decide +kernel)
theorem tw_409 : (Jvm.Cond.code ({ cls := "java/lang/AbstractStringBuilder", name := "appendNull", desc := "()Ljava/lang/AbstractStringBuilder;" } : Jvm.MethodName) prog_12_method_26_code (3 : Nat) (Option.some (Jvm.ClassFile.FieldType.object "java/lang/AbstractStringBuilder"))) ∈ Wc := Wc_t 409 (by decide +kernel) (by decide +kernel)
theorem tw_410 : (Jvm.Cond.methodLink "java/lang/AbstractStringBuilder" (226 : Nat) ({ cls := "java/lang/StringUTF16", name := "putCharsAt", desc := "([BICCCC)I" } : Jvm.MethodName)) ∈ Wc := Wc_t 410 (by decide +kernel) (by decide +kernel)
theorem tw_411 : (Jvm.Cond.static ({ cls := "java/lang/StringUTF16", name := "putCharsAt", desc := "([BICCCC)I" } : Jvm.MethodName)) ∈ Wc := Wc_t 411 (by decide +kernel) (by decide +kernel)
theorem tw_412 : (Jvm.Cond.code ({ cls := "java/lang/StringUTF16", name := "putCharsAt", desc := "([BICCCC)I" } : Jvm.MethodName) prog_28_method_81_code (7 : Nat) (Option.some Jvm.ClassFile.FieldType.int)) ∈ Wc := Wc_t 412 (by decide +kernel) (by decide +kernel)
theorem tw_413 : (Jvm.Cond.methodLink "java/lang/StringUTF16" (96 : Nat) ({ cls := "java/lang/StringUTF16", name := "checkBoundsBeginEnd", desc := "(II[B)V" } : Jvm.MethodName)) ∈ Wc := Wc_t 413 (by decide +kernel) (by decide +kernel)
theorem tw_414 : (Jvm.Cond.static ({ cls := "java/lang/StringUTF16", name := "checkBoundsBeginEnd", desc := "(II[B)V" } : Jvm.MethodName)) ∈ Wc := Wc_t 414 (by decide +kernel) (by decide +kernel)
theorem tw_415 : (Jvm.Cond.code ({ cls := "java/lang/StringUTF16", name := "checkBoundsBeginEnd", desc := "(II[B)V" } : Jvm.MethodName) prog_28_method_93_code (3 : Nat) (Option.none : Option Jvm.ClassFile.FieldType)) ∈ Wc := Wc_t 415 (by decide +kernel) (by decide +kernel)
theorem tw_416 : (Jvm.Cond.methodLink "java/lang/StringUTF16" (241 : Nat) ({ cls := "java/lang/String", name := "checkBoundsBeginEnd", desc := "(III)V" } : Jvm.MethodName)) ∈ Wc := Wc_t 416 (by decide +kernel) (by decide +kernel)
theorem tw_417 : (Jvm.Cond.static ({ cls := "java/lang/String", name := "checkBoundsBeginEnd", desc := "(III)V" } : Jvm.MethodName)) ∈ Wc := Wc_t 417 (by decide +kernel) (by decide +kernel)
theorem tw_418 : (Jvm.Cond.code ({ cls := "java/lang/String", name := "checkBoundsBeginEnd", desc := "(III)V" } : Jvm.MethodName) prog_24_method_158_code (3 : Nat) (Option.none : Option Jvm.ClassFile.FieldType)) ∈ Wc := Wc_t 418 (by decide +kernel) (by decide +kernel)
theorem tw_419 : (Jvm.Cond.methodLink "java/lang/String" (1062 : Nat) ({ cls := "jdk/internal/util/Preconditions", name := "checkFromToIndex", desc := "(IIILjava/util/function/BiFunction;)I" } : Jvm.MethodName)) ∈ Wc := Wc_t 419 (by decide +kernel) (by decide +kernel)
theorem tw_420 : (Jvm.Cond.static ({ cls := "jdk/internal/util/Preconditions", name := "checkFromToIndex", desc := "(IIILjava/util/function/BiFunction;)I" } : Jvm.MethodName)) ∈ Wc := Wc_t 420 (by decide +kernel) (by decide +kernel)
theorem tw_421 : (Jvm.Cond.code ({ cls := "jdk/internal/util/Preconditions", name := "checkFromToIndex", desc := "(IIILjava/util/function/BiFunction;)I" } : Jvm.MethodName) prog_33_method_12_code (4 : Nat) (Option.some Jvm.ClassFile.FieldType.int)) ∈ Wc := Wc_t 421 (by decide +kernel) (by decide +kernel)
theorem tw_422 : (Jvm.Cond.methodLink "java/lang/AbstractStringBuilder" (32 : Nat) ({ cls := "java/lang/String", name := "length", desc := "()I" } : Jvm.MethodName)) ∈ Wc := Wc_t 422 (by decide +kernel) (by decide +kernel)
theorem tw_423 : (Jvm.Cond.methodLink "java/lang/AbstractStringBuilder" (208 : Nat) ({ cls := "java/lang/AbstractStringBuilder", name := "putStringAt", desc := "(ILjava/lang/String;)V" } : Jvm.MethodName)) ∈ Wc := Wc_t 423 (by decide +kernel) (by decide +kernel)
theorem tw_425 : (Jvm.Cond.instanceMethod ({ cls := "java/lang/AbstractStringBuilder", name := "putStringAt", desc := "(ILjava/lang/String;)V" } : Jvm.MethodName)) ∈ Wc := Wc_t 425 (by decide +kernel) (by decide +kernel)
theorem tw_426 : (Jvm.Cond.code ({ cls := "java/lang/AbstractStringBuilder", name := "putStringAt", desc := "(ILjava/lang/String;)V" } : Jvm.MethodName) prog_12_method_73_code (3 : Nat) (Option.none : Option Jvm.ClassFile.FieldType)) ∈ Wc := Wc_t 426 (by decide +kernel) (by decide +kernel)
theorem tw_427 : (Jvm.Cond.methodLink "java/lang/AbstractStringBuilder" (397 : Nat) ({ cls := "java/lang/AbstractStringBuilder", name := "inflateIfNeededFor", desc := "(Ljava/lang/String;)V" } : Jvm.MethodName)) ∈ Wc := Wc_t 427 (by decide +kernel) (by decide +kernel)
theorem tw_429 : (Jvm.Cond.instanceMethod ({ cls := "java/lang/AbstractStringBuilder", name := "inflateIfNeededFor", desc := "(Ljava/lang/String;)V" } : Jvm.MethodName)) ∈ Wc := Wc_t 429 (by decide +kernel) (by decide +kernel)
theorem tw_430 : (Jvm.Cond.code ({ cls := "java/lang/AbstractStringBuilder", name := "inflateIfNeededFor", desc := "(Ljava/lang/String;)V" } : Jvm.MethodName) prog_12_method_71_code (2 : Nat) (Option.none : Option Jvm.ClassFile.FieldType)) ∈ Wc := Wc_t 430 (by decide +kernel) (by decide +kernel)
theorem tw_431 : (Jvm.Cond.methodLink "java/lang/AbstractStringBuilder" (40 : Nat) ({ cls := "java/lang/String", name := "coder", desc := "()B" } : Jvm.MethodName)) ∈ Wc := Wc_t 431 (by decide +kernel) (by decide +kernel)
theorem tw_432 : (Jvm.Cond.methodLink "java/lang/AbstractStringBuilder" (399 : Nat) ({ cls := "java/lang/String", name := "getBytes", desc := "([BIB)V" } : Jvm.MethodName)) ∈ Wc := Wc_t 432 (by decide +kernel) (by decide +kernel)
theorem tw_433 : (Jvm.Cond.instanceMethod ({ cls := "java/lang/String", name := "getBytes", desc := "([BIB)V" } : Jvm.MethodName)) ∈ Wc := Wc_t 433 (by decide +kernel) (by decide +kernel)
theorem tw_434 : (Jvm.Cond.selects "java/lang/String" ({ cls := "java/lang/String", name := "getBytes", desc := "([BIB)V" } : Jvm.MethodName) ({ cls := "java/lang/String", name := "getBytes", desc := "([BIB)V" } : Jvm.MethodName)) ∈ Wc := Wc_t 434 (by decide +kernel) (by decide +kernel)
theorem tw_435 : (Jvm.Cond.code ({ cls := "java/lang/String", name := "getBytes", desc := "([BIB)V" } : Jvm.MethodName) prog_24_method_147_code (4 : Nat) (Option.none : Option Jvm.ClassFile.FieldType)) ∈ Wc := Wc_t 435 (by decide +kernel) (by decide +kernel)
theorem tw_436 : (Jvm.Cond.methodLink "java/lang/String" (212 : Nat) ({ cls := "java/lang/System", name := "arraycopy", desc := "(Ljava/lang/Object;ILjava/lang/Object;II)V" } : Jvm.MethodName)) ∈ Wc := Wc_t 436 (by decide +kernel) (by decide +kernel)
theorem tw_437 : (Jvm.Cond.methodLink "java/lang/String" (106 : Nat) ({ cls := "java/lang/StringLatin1", name := "inflate", desc := "([BI[BII)V" } : Jvm.MethodName)) ∈ Wc := Wc_t 437 (by decide +kernel) (by decide +kernel)
theorem tw_438 : (Jvm.Cond.methodLink "java/lang/StringIndexOutOfBoundsException" (19 : Nat) ({ cls := "java/lang/StringBuilder", name := "append", desc := "(I)Ljava/lang/StringBuilder;" } : Jvm.MethodName)) ∈ Wc := Wc_t 438 (by decide +kernel) (by decide +kernel)
theorem tw_439 : (Jvm.Cond.instanceMethod ({ cls := "java/lang/StringBuilder", name := "append", desc := "(I)Ljava/lang/StringBuilder;" } : Jvm.MethodName)) ∈ Wc := Wc_t 439 (by decide +kernel) (by decide +kernel)
theorem tw_440 : (Jvm.Cond.selects "java/lang/StringBuilder" ({ cls := "java/lang/StringBuilder", name := "append", desc := "(I)Ljava/lang/StringBuilder;" } : Jvm.MethodName) ({ cls := "java/lang/StringBuilder", name := "append", desc := "(I)Ljava/lang/StringBuilder;" } : Jvm.MethodName)) ∈ Wc := Wc_t 440 (by decide +kernel) (by decide +kernel)
theorem tw_441 : (Jvm.Cond.code ({ cls := "java/lang/StringBuilder", name := "append", desc := "(I)Ljava/lang/StringBuilder;" } : Jvm.MethodName) prog_25_method_15_code (2 : Nat) (Option.some (Jvm.ClassFile.FieldType.object "java/lang/StringBuilder"))) ∈ Wc := Wc_t 441 (by decide +kernel) (by decide +kernel)
theorem tw_442 : (Jvm.Cond.methodLink "java/lang/StringBuilder" (53 : Nat) ({ cls := "java/lang/AbstractStringBuilder", name := "append", desc := "(I)Ljava/lang/AbstractStringBuilder;" } : Jvm.MethodName)) ∈ Wc := Wc_t 442 (by decide +kernel) (by decide +kernel)
theorem tw_443 : (Jvm.Cond.instanceMethod ({ cls := "java/lang/AbstractStringBuilder", name := "append", desc := "(I)Ljava/lang/AbstractStringBuilder;" } : Jvm.MethodName)) ∈ Wc := Wc_t 443 (by decide +kernel) (by decide +kernel)
theorem tw_444 : (Jvm.Cond.code ({ cls := "java/lang/AbstractStringBuilder", name := "append", desc := "(I)Ljava/lang/AbstractStringBuilder;" } : Jvm.MethodName) prog_12_method_32_code (4 : Nat) (Option.some (Jvm.ClassFile.FieldType.object "java/lang/AbstractStringBuilder"))) ∈ Wc := Wc_t 444 (by decide +kernel) (by decide +kernel)
theorem tw_445 : (Jvm.Cond.methodLink "java/lang/AbstractStringBuilder" (245 : Nat) ({ cls := "java/lang/Integer", name := "stringSize", desc := "(I)I" } : Jvm.MethodName)) ∈ Wc := Wc_t 445 (by decide +kernel) (by decide +kernel)
theorem tw_446 : (Jvm.Cond.static ({ cls := "java/lang/Integer", name := "stringSize", desc := "(I)I" } : Jvm.MethodName)) ∈ Wc := Wc_t 446 (by decide +kernel) (by decide +kernel)
theorem tw_447 : (Jvm.Cond.code ({ cls := "java/lang/Integer", name := "stringSize", desc := "(I)I" } : Jvm.MethodName) prog_21_method_13_code (4 : Nat) (Option.some Jvm.ClassFile.FieldType.int)) ∈ Wc := Wc_t 447 (by decide +kernel) (by decide +kernel)
theorem tw_448 : (Jvm.Cond.methodLink "java/lang/AbstractStringBuilder" (248 : Nat) ({ cls := "java/lang/Integer", name := "getChars", desc := "(II[B)I" } : Jvm.MethodName)) ∈ Wc := Wc_t 448 (by decide +kernel) (by decide +kernel)
theorem tw_449 : (Jvm.Cond.static ({ cls := "java/lang/Integer", name := "getChars", desc := "(II[B)I" } : Jvm.MethodName)) ∈ Wc := Wc_t 449 (by decide +kernel) (by decide +kernel)
theorem tw_450 : (Jvm.Cond.code ({ cls := "java/lang/Integer", name := "getChars", desc := "(II[B)I" } : Jvm.MethodName) prog_21_method_12_code (7 : Nat) (Option.some Jvm.ClassFile.FieldType.int)) ∈ Wc := Wc_t 450 (by decide +kernel) (by decide +kernel)
theorem tw_451 : (Jvm.Cond.fieldLink "java/lang/Integer" (83 : Nat) "java/lang/Integer" "DigitOnes" "[B") ∈ Wc := Wc_t 451 (by decide +kernel) (by decide +kernel)
theorem tw_453 : (Jvm.Cond.fieldLink "java/lang/Integer" (87 : Nat) "java/lang/Integer" "DigitTens" "[B") ∈ Wc := Wc_t 453 (by decide +kernel) (by decide +kernel)
theorem tw_455 : (Jvm.Cond.methodLink "java/lang/AbstractStringBuilder" (251 : Nat) ({ cls := "java/lang/StringUTF16", name := "getChars", desc := "(III[B)I" } : Jvm.MethodName)) ∈ Wc := Wc_t 455 (by decide +kernel) (by decide +kernel)
theorem tw_456 : (Jvm.Cond.static ({ cls := "java/lang/StringUTF16", name := "getChars", desc := "(III[B)I" } : Jvm.MethodName)) ∈ Wc := Wc_t 456 (by decide +kernel) (by decide +kernel)
theorem tw_457 : (Jvm.Cond.code ({ cls := "java/lang/StringUTF16", name := "getChars", desc := "(III[B)I" } : Jvm.MethodName) prog_28_method_77_code (5 : Nat) (Option.some Jvm.ClassFile.FieldType.int)) ∈ Wc := Wc_t 457 (by decide +kernel) (by decide +kernel)
theorem tw_458 : (Jvm.Cond.methodLink "java/lang/StringUTF16" (393 : Nat) ({ cls := "java/lang/StringUTF16", name := "getChars", desc := "(II[B)I" } : Jvm.MethodName)) ∈ Wc := Wc_t 458 (by decide +kernel) (by decide +kernel)
theorem tw_459 : (Jvm.Cond.static ({ cls := "java/lang/StringUTF16", name := "getChars", desc := "(II[B)I" } : Jvm.MethodName)) ∈ Wc := Wc_t 459 (by decide +kernel) (by decide +kernel)
theorem tw_460 : (Jvm.Cond.code ({ cls := "java/lang/StringUTF16", name := "getChars", desc := "(II[B)I" } : Jvm.MethodName) prog_28_method_89_code (7 : Nat) (Option.some Jvm.ClassFile.FieldType.int)) ∈ Wc := Wc_t 460 (by decide +kernel) (by decide +kernel)
theorem tw_461 : (Jvm.Cond.fieldLink "java/lang/StringUTF16" (403 : Nat) "java/lang/Integer" "DigitOnes" "[B") ∈ Wc := Wc_t 461 (by decide +kernel) (by decide +kernel)
theorem tw_462 : (Jvm.Cond.fieldLink "java/lang/StringUTF16" (407 : Nat) "java/lang/Integer" "DigitTens" "[B") ∈ Wc := Wc_t 462 (by decide +kernel) (by decide +kernel)
theorem tw_463 : (Jvm.Cond.methodLink "java/lang/StringIndexOutOfBoundsException" (22 : Nat) ({ cls := "java/lang/StringBuilder", name := "toString", desc := "()Ljava/lang/String;" } : Jvm.MethodName)) ∈ Wc := Wc_t 463 (by decide +kernel) (by decide +kernel)
theorem tw_464 : (Jvm.Cond.instanceMethod ({ cls := "java/lang/StringBuilder", name := "toString", desc := "()Ljava/lang/String;" } : Jvm.MethodName)) ∈ Wc := Wc_t 464 (by decide +kernel) (by decide +kernel)
theorem tw_465 : (Jvm.Cond.selects "java/lang/StringBuilder" ({ cls := "java/lang/StringBuilder", name := "toString", desc := "()Ljava/lang/String;" } : Jvm.MethodName) ({ cls := "java/lang/StringBuilder", name := "toString", desc := "()Ljava/lang/String;" } : Jvm.MethodName)) ∈ Wc := Wc_t 465 (by decide +kernel) (by decide +kernel)
theorem tw_466 : (Jvm.Cond.code ({ cls := "java/lang/StringBuilder", name := "toString", desc := "()Ljava/lang/String;" } : Jvm.MethodName) prog_25_method_42_code (1 : Nat) (Option.some (Jvm.ClassFile.FieldType.object "java/lang/String"))) ∈ Wc := Wc_t 466 (by decide +kernel) (by decide +kernel)
theorem tw_467 : (Jvm.Cond.classLink "java/lang/StringBuilder" (18 : Nat) "java/lang/String") ∈ Wc := Wc_t 467 (by decide +kernel) (by decide +kernel)
theorem tw_468 : (Jvm.Cond.instantiable "java/lang/String" (4 : Nat)) ∈ Wc := Wc_t 468 (by decide +kernel) (by decide +kernel)
theorem tw_469 : (Jvm.Cond.methodLink "java/lang/StringBuilder" (137 : Nat) ({ cls := "java/lang/String", name := "<init>", desc := "(Ljava/lang/StringBuilder;)V" } : Jvm.MethodName)) ∈ Wc := Wc_t 469 (by decide +kernel) (by decide +kernel)
theorem tw_470 : (Jvm.Cond.instanceMethod ({ cls := "java/lang/String", name := "<init>", desc := "(Ljava/lang/StringBuilder;)V" } : Jvm.MethodName)) ∈ Wc := Wc_t 470 (by decide +kernel) (by decide +kernel)
theorem tw_471 : (Jvm.Cond.code ({ cls := "java/lang/String", name := "<init>", desc := "(Ljava/lang/StringBuilder;)V" } : Jvm.MethodName) prog_24_method_53_code (2 : Nat) (Option.none : Option Jvm.ClassFile.FieldType)) ∈ Wc := Wc_t 471 (by decide +kernel) (by decide +kernel)
theorem tw_472 : (Jvm.Cond.methodLink "java/lang/String" (489 : Nat) ({ cls := "java/lang/String", name := "<init>", desc := "(Ljava/lang/AbstractStringBuilder;Ljava/lang/Void;)V" } : Jvm.MethodName)) ∈ Wc := Wc_t 472 (by decide +kernel) (by decide +kernel)
theorem tw_473 : (Jvm.Cond.instanceMethod ({ cls := "java/lang/String", name := "<init>", desc := "(Ljava/lang/AbstractStringBuilder;Ljava/lang/Void;)V" } : Jvm.MethodName)) ∈ Wc := Wc_t 473 (by decide +kernel) (by decide +kernel)
theorem tw_474 : (Jvm.Cond.code ({ cls := "java/lang/String", name := "<init>", desc := "(Ljava/lang/AbstractStringBuilder;Ljava/lang/Void;)V" } : Jvm.MethodName) prog_24_method_150_code (5 : Nat) (Option.none : Option Jvm.ClassFile.FieldType)) ∈ Wc := Wc_t 474 (by decide +kernel) (by decide +kernel)
theorem tw_475 : (Jvm.Cond.methodLink "java/lang/String" (1 : Nat) ({ cls := "java/lang/Object", name := "<init>", desc := "()V" } : Jvm.MethodName)) ∈ Wc := Wc_t 475 (by decide +kernel) (by decide +kernel)
theorem tw_476 : (Jvm.Cond.methodLink "java/lang/String" (552 : Nat) ({ cls := "java/lang/AbstractStringBuilder", name := "getValue", desc := "()[B" } : Jvm.MethodName)) ∈ Wc := Wc_t 476 (by decide +kernel) (by decide +kernel)
theorem tw_477 : (Jvm.Cond.instanceMethod ({ cls := "java/lang/AbstractStringBuilder", name := "getValue", desc := "()[B" } : Jvm.MethodName)) ∈ Wc := Wc_t 477 (by decide +kernel) (by decide +kernel)
theorem tw_478 : (Jvm.Cond.sameMethod "java/lang/AbstractStringBuilder" "java/lang/AbstractStringBuilder" "getValue" "()[B") ∈ Wc := Wc_t 478 (by decide +kernel) (by decide +kernel)
theorem tw_479 : (Jvm.Cond.selects "java/lang/StringBuilder" ({ cls := "java/lang/AbstractStringBuilder", name := "getValue", desc := "()[B" } : Jvm.MethodName) ({ cls := "java/lang/AbstractStringBuilder", name := "getValue", desc := "()[B" } : Jvm.MethodName)) ∈ Wc := Wc_t 479 (by decide +kernel) (by decide +kernel)
theorem tw_480 : (Jvm.Cond.code ({ cls := "java/lang/AbstractStringBuilder", name := "getValue", desc := "()[B" } : Jvm.MethodName) prog_12_method_64_code (1 : Nat) (Option.some (Jvm.ClassFile.FieldType.array Jvm.ClassFile.FieldType.byte))) ∈ Wc := Wc_t 480 (by decide +kernel) (by decide +kernel)
theorem tw_481 : (Jvm.Cond.methodLink "java/lang/String" (549 : Nat) ({ cls := "java/lang/AbstractStringBuilder", name := "length", desc := "()I" } : Jvm.MethodName)) ∈ Wc := Wc_t 481 (by decide +kernel) (by decide +kernel)
theorem tw_482 : (Jvm.Cond.methodLink "java/lang/String" (1047 : Nat) ({ cls := "java/lang/AbstractStringBuilder", name := "isLatin1", desc := "()Z" } : Jvm.MethodName)) ∈ Wc := Wc_t 482 (by decide +kernel) (by decide +kernel)
theorem tw_483 : (Jvm.Cond.methodLink "java/lang/String" (54 : Nat) ({ cls := "java/util/Arrays", name := "copyOfRange", desc := "([BII)[B" } : Jvm.MethodName)) ∈ Wc := Wc_t 483 (by decide +kernel) (by decide +kernel)
theorem tw_484 : (Jvm.Cond.static ({ cls := "java/util/Arrays", name := "copyOfRange", desc := "([BII)[B" } : Jvm.MethodName)) ∈ Wc := Wc_t 484 (by decide +kernel) (by decide +kernel)
theorem tw_485 : (Jvm.Cond.code ({ cls := "java/util/Arrays", name := "copyOfRange", desc := "([BII)[B" } : Jvm.MethodName) prog_31_method_132_code (3 : Nat) (Option.some (Jvm.ClassFile.FieldType.array Jvm.ClassFile.FieldType.byte))) ∈ Wc := Wc_t 485 (by decide +kernel) (by decide +kernel)
theorem tw_486 : (Jvm.Cond.methodLink "java/util/Arrays" (339 : Nat) ({ cls := "java/util/Arrays", name := "copyOfRangeByte", desc := "([BII)[B" } : Jvm.MethodName)) ∈ Wc := Wc_t 486 (by decide +kernel) (by decide +kernel)
theorem tw_487 : (Jvm.Cond.static ({ cls := "java/util/Arrays", name := "copyOfRangeByte", desc := "([BII)[B" } : Jvm.MethodName)) ∈ Wc := Wc_t 487 (by decide +kernel) (by decide +kernel)
theorem tw_488 : (Jvm.Cond.code ({ cls := "java/util/Arrays", name := "copyOfRangeByte", desc := "([BII)[B" } : Jvm.MethodName) prog_31_method_133_code (5 : Nat) (Option.some (Jvm.ClassFile.FieldType.array Jvm.ClassFile.FieldType.byte))) ∈ Wc := Wc_t 488 (by decide +kernel) (by decide +kernel)
theorem tw_489 : (Jvm.Cond.methodLink "java/util/Arrays" (343 : Nat) ({ cls := "java/util/Arrays", name := "checkLength", desc := "(II)V" } : Jvm.MethodName)) ∈ Wc := Wc_t 489 (by decide +kernel) (by decide +kernel)
theorem tw_490 : (Jvm.Cond.static ({ cls := "java/util/Arrays", name := "checkLength", desc := "(II)V" } : Jvm.MethodName)) ∈ Wc := Wc_t 490 (by decide +kernel) (by decide +kernel)
theorem tw_491 : (Jvm.Cond.code ({ cls := "java/util/Arrays", name := "checkLength", desc := "(II)V" } : Jvm.MethodName) prog_31_method_131_code (2 : Nat) (Option.none : Option Jvm.ClassFile.FieldType)) ∈ Wc := Wc_t 491 (by decide +kernel) (by decide +kernel)
theorem tw_492 : (Jvm.Cond.classLink "java/util/Arrays" (43 : Nat) "java/lang/IllegalArgumentException") ∈ Wc := Wc_t 492 (by decide +kernel) (by decide +kernel)
theorem tw_493 : (Jvm.Cond.classLink "java/util/Arrays" (45 : Nat) "java/lang/StringBuilder") ∈ Wc := Wc_t 493 (by decide +kernel) (by decide +kernel)
theorem tw_494 : (Jvm.Cond.methodLink "java/util/Arrays" (47 : Nat) ({ cls := "java/lang/StringBuilder", name := "<init>", desc := "()V" } : Jvm.MethodName)) ∈ Wc := Wc_t 494 (by decide +kernel) (by decide +kernel)
theorem tw_495 : (Jvm.Cond.methodLink "java/util/Arrays" (54 : Nat) ({ cls := "java/lang/StringBuilder", name := "append", desc := "(I)Ljava/lang/StringBuilder;" } : Jvm.MethodName)) ∈ Wc := Wc_t 495 (by decide +kernel) (by decide +kernel)
theorem tw_497 : (Jvm.Cond.methodLink "java/util/Arrays" (50 : Nat) ({ cls := "java/lang/StringBuilder", name := "append", desc := "(Ljava/lang/String;)Ljava/lang/StringBuilder;" } : Jvm.MethodName)) ∈ Wc := Wc_t 497 (by decide +kernel) (by decide +kernel)
theorem tw_498 : (Jvm.Cond.methodLink "java/util/Arrays" (61 : Nat) ({ cls := "java/lang/StringBuilder", name := "toString", desc := "()Ljava/lang/String;" } : Jvm.MethodName)) ∈ Wc := Wc_t 498 (by decide +kernel) (by decide +kernel)
theorem tw_499 : (Jvm.Cond.methodLink "java/util/Arrays" (65 : Nat) ({ cls := "java/lang/IllegalArgumentException", name := "<init>", desc := "(Ljava/lang/String;)V" } : Jvm.MethodName)) ∈ Wc := Wc_t 499 (by decide +kernel) (by decide +kernel)
theorem tw_500 : (Jvm.Cond.methodLink "java/lang/String" (1051 : Nat) ({ cls := "java/lang/StringUTF16", name := "compress", desc := "([BII)[B" } : Jvm.MethodName)) ∈ Wc := Wc_t 500 (by decide +kernel) (by decide +kernel)
theorem tw_501 : (Jvm.Cond.static ({ cls := "java/lang/StringUTF16", name := "compress", desc := "([BII)[B" } : Jvm.MethodName)) ∈ Wc := Wc_t 501 (by decide +kernel) (by decide +kernel)
theorem tw_502 : (Jvm.Cond.code ({ cls := "java/lang/StringUTF16", name := "compress", desc := "([BII)[B" } : Jvm.MethodName) prog_28_method_17_code (6 : Nat) (Option.some (Jvm.ClassFile.FieldType.array Jvm.ClassFile.FieldType.byte))) ∈ Wc := Wc_t 502 (by decide +kernel) (by decide +kernel)
theorem tw_503 : (Jvm.Cond.methodLink "java/lang/StringUTF16" (123 : Nat) ({ cls := "java/lang/StringUTF16", name := "compress", desc := "([BI[BII)I" } : Jvm.MethodName)) ∈ Wc := Wc_t 503 (by decide +kernel) (by decide +kernel)
theorem tw_504 : (Jvm.Cond.static ({ cls := "java/lang/StringUTF16", name := "compress", desc := "([BI[BII)I" } : Jvm.MethodName)) ∈ Wc := Wc_t 504 (by decide +kernel) (by decide +kernel)
theorem tw_505 : (Jvm.Cond.code ({ cls := "java/lang/StringUTF16", name := "compress", desc := "([BI[BII)I" } : Jvm.MethodName) prog_28_method_22_code (7 : Nat) (Option.some Jvm.ClassFile.FieldType.int)) ∈ Wc := Wc_t 505 (by decide +kernel) (by decide +kernel)
theorem tw_506 : (Jvm.Cond.methodLink "java/lang/StringUTF16" (126 : Nat) ({ cls := "java/util/Arrays", name := "copyOfRange", desc := "([BII)[B" } : Jvm.MethodName)) ∈ Wc := Wc_t 506 (by decide +kernel) (by decide +kernel)
theorem tw_507 : (Jvm.Cond.methodLink "java/lang/String" (47 : Nat) ({ cls := "java/lang/StringUTF16", name := "coderFromArrayLen", desc := "([BI)B" } : Jvm.MethodName)) ∈ Wc := Wc_t 507 (by decide +kernel) (by decide +kernel)
theorem tw_508 : (Jvm.Cond.static ({ cls := "java/lang/StringUTF16", name := "coderFromArrayLen", desc := "([BI)B" } : Jvm.MethodName)) ∈ Wc := Wc_t 508 (by decide +kernel) (by decide +kernel)
theorem tw_509 : (Jvm.Cond.code ({ cls := "java/lang/StringUTF16", name := "coderFromArrayLen", desc := "([BI)B" } : Jvm.MethodName) prog_28_method_15_code (2 : Nat) (Option.some Jvm.ClassFile.FieldType.byte)) ∈ Wc := Wc_t 509 (by decide +kernel) (by decide +kernel)
theorem tw_510 : (Jvm.Cond.fieldLink "java/lang/String" (9 : Nat) "java/lang/String" "value" "[B") ∈ Wc := Wc_t 510 (by decide +kernel) (by decide +kernel)
theorem tw_511 : (Jvm.Cond.fieldLink "java/lang/String" (15 : Nat) "java/lang/String" "coder" "B") ∈ Wc := Wc_t 511 (by decide +kernel) (by decide +kernel)
theorem tw_512 : (Jvm.Cond.laysFinal "java/lang/String" "java/lang/String" "value" "[B") ∈ Wc := Wc_t 512 (by decide +kernel) (by decide +kernel)
theorem tw_513 : (Jvm.Cond.soleField "java/lang/String" "value") ∈ Wc := Wc_t 513 (by decide +kernel) (by decide +kernel)
theorem tw_514 : (Jvm.Cond.laysFinal "java/lang/String" "java/lang/String" "coder" "B") ∈ Wc := Wc_t 514 (by decide +kernel) (by decide +kernel)
theorem tw_515 : (Jvm.Cond.soleField "java/lang/String" "coder") ∈ Wc := Wc_t 515 (by decide +kernel) (by decide +kernel)
theorem tw_516 : (Jvm.Cond.lays "java/lang/String" "java/lang/String" "hash" "I") ∈ Wc := Wc_t 516 (by decide +kernel) (by decide +kernel)
theorem tw_517 : (Jvm.Cond.soleField "java/lang/String" "hash") ∈ Wc := Wc_t 517 (by decide +kernel) (by decide +kernel)
theorem tw_518 : (Jvm.Cond.lays "java/lang/String" "java/lang/String" "hashIsZero" "Z") ∈ Wc := Wc_t 518 (by decide +kernel) (by decide +kernel)
theorem tw_519 : (Jvm.Cond.soleField "java/lang/String" "hashIsZero") ∈ Wc := Wc_t 519 (by decide +kernel) (by decide +kernel)
theorem tw_520 : (Jvm.Cond.superclass "java/lang/String" "java/lang/Object") ∈ Wc := Wc_t 520 (by decide +kernel) (by decide +kernel)
theorem tw_521 : (Jvm.Cond.methodLink "java/lang/StringIndexOutOfBoundsException" (7 : Nat) ({ cls := "java/lang/IndexOutOfBoundsException", name := "<init>", desc := "(Ljava/lang/String;)V" } : Jvm.MethodName)) ∈ Wc := Wc_t 521 (by decide +kernel) (by decide +kernel)
theorem tw_522 : (Jvm.Cond.instanceMethod ({ cls := "java/lang/IndexOutOfBoundsException", name := "<init>", desc := "(Ljava/lang/String;)V" } : Jvm.MethodName)) ∈ Wc := Wc_t 522 (by decide +kernel) (by decide +kernel)
theorem tw_523 : (Jvm.Cond.code ({ cls := "java/lang/IndexOutOfBoundsException", name := "<init>", desc := "(Ljava/lang/String;)V" } : Jvm.MethodName) prog_20_method_2_code (2 : Nat) (Option.none : Option Jvm.ClassFile.FieldType)) ∈ Wc := Wc_t 523 (by decide +kernel) (by decide +kernel)
theorem tw_524 : (Jvm.Cond.methodLink "java/lang/IndexOutOfBoundsException" (7 : Nat) ({ cls := "java/lang/RuntimeException", name := "<init>", desc := "(Ljava/lang/String;)V" } : Jvm.MethodName)) ∈ Wc := Wc_t 524 (by decide +kernel) (by decide +kernel)
theorem tw_525 : (Jvm.Cond.lays "java/lang/StringIndexOutOfBoundsException" "java/lang/Throwable" "backtrace" "Ljava/lang/Object;") ∈ Wc := Wc_t 525 (by decide +kernel) (by decide +kernel)
theorem tw_526 : (Jvm.Cond.lays "java/lang/StringIndexOutOfBoundsException" "java/lang/Throwable" "detailMessage" "Ljava/lang/String;") ∈ Wc := Wc_t 526 (by decide +kernel) (by decide +kernel)
theorem tw_527 : (Jvm.Cond.lays "java/lang/StringIndexOutOfBoundsException" "java/lang/Throwable" "cause" "Ljava/lang/Throwable;") ∈ Wc := Wc_t 527 (by decide +kernel) (by decide +kernel)
theorem tw_528 : (Jvm.Cond.lays "java/lang/StringIndexOutOfBoundsException" "java/lang/Throwable" "stackTrace" "[Ljava/lang/StackTraceElement;") ∈ Wc := Wc_t 528 (by decide +kernel) (by decide +kernel)
theorem tw_529 : (Jvm.Cond.lays "java/lang/StringIndexOutOfBoundsException" "java/lang/Throwable" "depth" "I") ∈ Wc := Wc_t 529 (by decide +kernel) (by decide +kernel)
theorem tw_530 : (Jvm.Cond.lays "java/lang/StringIndexOutOfBoundsException" "java/lang/Throwable" "suppressedExceptions" "Ljava/util/List;") ∈ Wc := Wc_t 530 (by decide +kernel) (by decide +kernel)
theorem tw_531 : (Jvm.Cond.superclass "java/lang/StringIndexOutOfBoundsException" "java/lang/IndexOutOfBoundsException") ∈ Wc := Wc_t 531 (by decide +kernel) (by decide +kernel)
theorem tw_532 : (Jvm.Cond.methodLink "java/lang/AbstractStringBuilder" (133 : Nat) ({ cls := "java/lang/StringLatin1", name := "fillNull", desc := "([BII)V" } : Jvm.MethodName)) ∈ Wc := Wc_t 532 (by decide +kernel) (by decide +kernel)
theorem tw_533 : (Jvm.Cond.static ({ cls := "java/lang/StringLatin1", name := "fillNull", desc := "([BII)V" } : Jvm.MethodName)) ∈ Wc := Wc_t 533 (by decide +kernel) (by decide +kernel)
theorem tw_534 : (Jvm.Cond.code ({ cls := "java/lang/StringLatin1", name := "fillNull", desc := "([BII)V" } : Jvm.MethodName) prog_27_method_48_code (3 : Nat) (Option.none : Option Jvm.ClassFile.FieldType)) ∈ Wc := Wc_t 534 (by decide +kernel) (by decide +kernel)
theorem tw_535 : (Jvm.Cond.methodLink "java/lang/StringLatin1" (236 : Nat) ({ cls := "java/util/Arrays", name := "fill", desc := "([BIIB)V" } : Jvm.MethodName)) ∈ Wc := Wc_t 535 (by decide +kernel) (by decide +kernel)
theorem tw_536 : (Jvm.Cond.static ({ cls := "java/util/Arrays", name := "fill", desc := "([BIIB)V" } : Jvm.MethodName)) ∈ Wc := Wc_t 536 (by decide +kernel) (by decide +kernel)
theorem tw_537 : (Jvm.Cond.code ({ cls := "java/util/Arrays", name := "fill", desc := "([BIIB)V" } : Jvm.MethodName) prog_31_method_110_code (5 : Nat) (Option.none : Option Jvm.ClassFile.FieldType)) ∈ Wc := Wc_t 537 (by decide +kernel) (by decide +kernel)
theorem tw_538 : (Jvm.Cond.methodLink "java/util/Arrays" (13 : Nat) ({ cls := "java/util/Arrays", name := "rangeCheck", desc := "(III)V" } : Jvm.MethodName)) ∈ Wc := Wc_t 538 (by decide +kernel) (by decide +kernel)
theorem tw_539 : (Jvm.Cond.static ({ cls := "java/util/Arrays", name := "rangeCheck", desc := "(III)V" } : Jvm.MethodName)) ∈ Wc := Wc_t 539 (by decide +kernel) (by decide +kernel)
theorem tw_540 : (Jvm.Cond.code ({ cls := "java/util/Arrays", name := "rangeCheck", desc := "(III)V" } : Jvm.MethodName) prog_31_method_30_code (3 : Nat) (Option.none : Option Jvm.ClassFile.FieldType)) ∈ Wc := Wc_t 540 (by decide +kernel) (by decide +kernel)
theorem tw_544 : (Jvm.Cond.classLink "java/util/Arrays" (68 : Nat) "java/lang/ArrayIndexOutOfBoundsException") ∈ Wc := Wc_t 544 (by decide +kernel) (by decide +kernel)
theorem tw_545 : (Jvm.Cond.instantiable "java/lang/ArrayIndexOutOfBoundsException" (6 : Nat)) ∈ Wc := Wc_t 545 (by decide +kernel) (by decide +kernel)
theorem tw_549 : (Jvm.Cond.selects "java/lang/ArrayIndexOutOfBoundsException" ({ cls := "java/lang/Throwable", name := "fillInStackTrace", desc := "(I)Ljava/lang/Throwable;" } : Jvm.MethodName) ({ cls := "java/lang/Throwable", name := "fillInStackTrace", desc := "(I)Ljava/lang/Throwable;" } : Jvm.MethodName)) ∈ Wc := Wc_t 549 (by decide +kernel) (by decide +kernel)
theorem tw_550 : (Jvm.Cond.lays "java/lang/ArrayIndexOutOfBoundsException" "java/lang/Throwable" "cause" "Ljava/lang/Throwable;") ∈ Wc := Wc_t 550 (by decide +kernel) (by decide +kernel)
theorem tw_551 : (Jvm.Cond.lays "java/lang/ArrayIndexOutOfBoundsException" "java/lang/Throwable" "stackTrace" "[Ljava/lang/StackTraceElement;") ∈ Wc := Wc_t 551 (by decide +kernel) (by decide +kernel)
theorem tw_552 : (Jvm.Cond.lays "java/lang/ArrayIndexOutOfBoundsException" "java/lang/Throwable" "suppressedExceptions" "Ljava/util/List;") ∈ Wc := Wc_t 552 (by decide +kernel) (by decide +kernel)
theorem tw_553 : (Jvm.Cond.lays "java/lang/ArrayIndexOutOfBoundsException" "java/lang/Throwable" "detailMessage" "Ljava/lang/String;") ∈ Wc := Wc_t 553 (by decide +kernel) (by decide +kernel)
theorem tw_554 : (Jvm.Cond.lays "java/lang/ArrayIndexOutOfBoundsException" "java/lang/Throwable" "backtrace" "Ljava/lang/Object;") ∈ Wc := Wc_t 554 (by decide +kernel) (by decide +kernel)
theorem tw_555 : (Jvm.Cond.methodLink "java/util/Arrays" (70 : Nat) ({ cls := "java/lang/ArrayIndexOutOfBoundsException", name := "<init>", desc := "(I)V" } : Jvm.MethodName)) ∈ Wc := Wc_t 555 (by decide +kernel) (by decide +kernel)
theorem tw_556 : (Jvm.Cond.instanceMethod ({ cls := "java/lang/ArrayIndexOutOfBoundsException", name := "<init>", desc := "(I)V" } : Jvm.MethodName)) ∈ Wc := Wc_t 556 (by decide +kernel) (by decide +kernel)
theorem tw_557 : (Jvm.Cond.code ({ cls := "java/lang/ArrayIndexOutOfBoundsException", name := "<init>", desc := "(I)V" } : Jvm.MethodName) prog_13_method_3_code (2 : Nat) (Option.none : Option Jvm.ClassFile.FieldType)) ∈ Wc := Wc_t 557 (by decide +kernel) (by decide +kernel)
theorem tw_558 : (Jvm.Cond.classLink "java/lang/ArrayIndexOutOfBoundsException" (10 : Nat) "java/lang/StringBuilder") ∈ Wc := Wc_t 558 (by decide +kernel) (by decide +kernel)
theorem tw_559 : (Jvm.Cond.methodLink "java/lang/ArrayIndexOutOfBoundsException" (12 : Nat) ({ cls := "java/lang/StringBuilder", name := "<init>", desc := "()V" } : Jvm.MethodName)) ∈ Wc := Wc_t 559 (by decide +kernel) (by decide +kernel)
theorem tw_561 : (Jvm.Cond.methodLink "java/lang/ArrayIndexOutOfBoundsException" (15 : Nat) ({ cls := "java/lang/StringBuilder", name := "append", desc := "(Ljava/lang/String;)Ljava/lang/StringBuilder;" } : Jvm.MethodName)) ∈ Wc := Wc_t 561 (by decide +kernel) (by decide +kernel)
theorem tw_562 : (Jvm.Cond.methodLink "java/lang/ArrayIndexOutOfBoundsException" (19 : Nat) ({ cls := "java/lang/StringBuilder", name := "append", desc := "(I)Ljava/lang/StringBuilder;" } : Jvm.MethodName)) ∈ Wc := Wc_t 562 (by decide +kernel) (by decide +kernel)
theorem tw_563 : (Jvm.Cond.methodLink "java/lang/ArrayIndexOutOfBoundsException" (22 : Nat) ({ cls := "java/lang/StringBuilder", name := "toString", desc := "()Ljava/lang/String;" } : Jvm.MethodName)) ∈ Wc := Wc_t 563 (by decide +kernel) (by decide +kernel)
theorem tw_564 : (Jvm.Cond.methodLink "java/lang/ArrayIndexOutOfBoundsException" (7 : Nat) ({ cls := "java/lang/IndexOutOfBoundsException", name := "<init>", desc := "(Ljava/lang/String;)V" } : Jvm.MethodName)) ∈ Wc := Wc_t 564 (by decide +kernel) (by decide +kernel)
theorem tw_565 : (Jvm.Cond.lays "java/lang/ArrayIndexOutOfBoundsException" "java/lang/Throwable" "depth" "I") ∈ Wc := Wc_t 565 (by decide +kernel) (by decide +kernel)
theorem tw_566 : (Jvm.Cond.superclass "java/lang/ArrayIndexOutOfBoundsException" "java/lang/IndexOutOfBoundsException") ∈ Wc := Wc_t 566 (by decide +kernel) (by decide +kernel)
theorem tw_567 : (Jvm.Cond.methodLink "java/lang/AbstractStringBuilder" (137 : Nat) ({ cls := "java/lang/StringUTF16", name := "fillNull", desc := "([BII)V" } : Jvm.MethodName)) ∈ Wc := Wc_t 567 (by decide +kernel) (by decide +kernel)
theorem tw_568 : (Jvm.Cond.static ({ cls := "java/lang/StringUTF16", name := "fillNull", desc := "([BII)V" } : Jvm.MethodName)) ∈ Wc := Wc_t 568 (by decide +kernel) (by decide +kernel)
theorem tw_569 : (Jvm.Cond.code ({ cls := "java/lang/StringUTF16", name := "fillNull", desc := "([BII)V" } : Jvm.MethodName) prog_28_method_70_code (3 : Nat) (Option.none : Option Jvm.ClassFile.FieldType)) ∈ Wc := Wc_t 569 (by decide +kernel) (by decide +kernel)
theorem tw_570 : (Jvm.Cond.methodLink "java/lang/StringUTF16" (380 : Nat) ({ cls := "java/util/Arrays", name := "fill", desc := "([BIIB)V" } : Jvm.MethodName)) ∈ Wc := Wc_t 570 (by decide +kernel) (by decide +kernel)
theorem tw_571 : (Jvm.Cond.instantiable "HatbandYard$Lot" (2 : Nat)) ∈ Wc := Wc_t 571 (by decide +kernel) (by decide +kernel)
theorem tw_573 : (Jvm.Cond.instanceMethod ({ cls := "HatbandYard$Lot", name := "<init>", desc := "(LHatbandYard$Fur;I)V" } : Jvm.MethodName)) ∈ Wc := Wc_t 573 (by decide +kernel) (by decide +kernel)
theorem tw_574 : (Jvm.Cond.code ({ cls := "HatbandYard$Lot", name := "<init>", desc := "(LHatbandYard$Fur;I)V" } : Jvm.MethodName) prog_8_method_1_code (3 : Nat) (Option.none : Option Jvm.ClassFile.FieldType)) ∈ Wc := Wc_t 574 (by decide +kernel) (by decide +kernel)
theorem tw_575 : (Jvm.Cond.methodLink "HatbandYard$Lot" (1 : Nat) ({ cls := "java/lang/Object", name := "<init>", desc := "()V" } : Jvm.MethodName)) ∈ Wc := Wc_t 575 (by decide +kernel) (by decide +kernel)
theorem tw_576 : (Jvm.Cond.fieldLink "HatbandYard$Lot" (7 : Nat) "HatbandYard$Lot" "fur" "LHatbandYard$Fur;") ∈ Wc := Wc_t 576 (by decide +kernel) (by decide +kernel)
theorem tw_578 : (Jvm.Cond.fieldLink "HatbandYard$Lot" (13 : Nat) "HatbandYard$Lot" "gramsLeft" "I") ∈ Wc := Wc_t 578 (by decide +kernel) (by decide +kernel)
theorem tw_580 : (Jvm.Cond.laysFinal "HatbandYard$Lot" "HatbandYard$Lot" "fur" "LHatbandYard$Fur;") ∈ Wc := Wc_t 580 (by decide +kernel) (by decide +kernel)
theorem tw_581 : (Jvm.Cond.soleField "HatbandYard$Lot" "fur") ∈ Wc := Wc_t 581 (by decide +kernel) (by decide +kernel)
theorem tw_582 : (Jvm.Cond.lays "HatbandYard$Lot" "HatbandYard$Lot" "gramsLeft" "I") ∈ Wc := Wc_t 582 (by decide +kernel) (by decide +kernel)
theorem tw_583 : (Jvm.Cond.soleField "HatbandYard$Lot" "gramsLeft") ∈ Wc := Wc_t 583 (by decide +kernel) (by decide +kernel)
theorem tw_584 : (Jvm.Cond.superclass "HatbandYard$Lot" "java/lang/Object") ∈ Wc := Wc_t 584 (by decide +kernel) (by decide +kernel)
theorem tw_585 : (Jvm.Cond.methodLink "HatbandYardLaw" (99 : Nat) ({ cls := "HatbandYardLaw", name := "cone", desc := "(LHatbandYard;III[J)I" } : Jvm.MethodName)) ∈ Wc := Wc_t 585 (by decide +kernel) (by decide +kernel)
theorem tw_586 : (Jvm.Cond.static ({ cls := "HatbandYardLaw", name := "cone", desc := "(LHatbandYard;III[J)I" } : Jvm.MethodName)) ∈ Wc := Wc_t 586 (by decide +kernel) (by decide +kernel)
theorem tw_587 : (Jvm.Cond.codeWith ({ cls := "HatbandYardLaw", name := "cone", desc := "(LHatbandYard;III[J)I" } : Jvm.MethodName) method_5_code (6 : Nat) (Option.some Jvm.ClassFile.FieldType.int) [((0 : Nat), (12 : Nat), (15 : Nat), (25 : Nat)), ((0 : Nat), (12 : Nat), (19 : Nat), (13 : Nat)), ((0 : Nat), (12 : Nat), (23 : Nat), (15 : Nat))]) ∈ Wc := Wc_t 587 (by decide +kernel) (by decide +kernel)
theorem tw_588 : (Jvm.Cond.classLink "HatbandYardLaw" (25 : Nat) "java/lang/IndexOutOfBoundsException") ∈ Wc := Wc_t 588 (by decide +kernel) (by decide +kernel)
theorem tw_589 : (Jvm.Cond.methodLink "HatbandYardLaw" (21 : Nat) ({ cls := "HatbandYard", name := "cone", desc := "(III)I" } : Jvm.MethodName)) ∈ Wc := Wc_t 589 (by decide +kernel) (by decide +kernel)
theorem tw_590 : (Jvm.Cond.instanceMethod ({ cls := "HatbandYard", name := "cone", desc := "(III)I" } : Jvm.MethodName)) ∈ Wc := Wc_t 590 (by decide +kernel) (by decide +kernel)
theorem tw_591 : (Jvm.Cond.selects "HatbandYard" ({ cls := "HatbandYard", name := "cone", desc := "(III)I" } : Jvm.MethodName) ({ cls := "HatbandYard", name := "cone", desc := "(III)I" } : Jvm.MethodName)) ∈ Wc := Wc_t 591 (by decide +kernel) (by decide +kernel)
theorem tw_592 : (Jvm.Cond.code ({ cls := "HatbandYard", name := "cone", desc := "(III)I" } : Jvm.MethodName) prog_1_method_4_code (5 : Nat) (Option.some Jvm.ClassFile.FieldType.int)) ∈ Wc := Wc_t 592 (by decide +kernel) (by decide +kernel)
theorem tw_593 : (Jvm.Cond.methodLink "HatbandYard" (89 : Nat) ({ cls := "HatbandYard", name := "lotAt", desc := "(I)LHatbandYard$Lot;" } : Jvm.MethodName)) ∈ Wc := Wc_t 593 (by decide +kernel) (by decide +kernel)
theorem tw_595 : (Jvm.Cond.instanceMethod ({ cls := "HatbandYard", name := "lotAt", desc := "(I)LHatbandYard$Lot;" } : Jvm.MethodName)) ∈ Wc := Wc_t 595 (by decide +kernel) (by decide +kernel)
theorem tw_596 : (Jvm.Cond.code ({ cls := "HatbandYard", name := "lotAt", desc := "(I)LHatbandYard$Lot;" } : Jvm.MethodName) prog_1_method_25_code (3 : Nat) (Option.some (Jvm.ClassFile.FieldType.object "HatbandYard$Lot"))) ∈ Wc := Wc_t 596 (by decide +kernel) (by decide +kernel)
theorem tw_597 : (Jvm.Cond.methodLink "HatbandYard" (183 : Nat) ({ cls := "HatbandYard", name := "refuseNoSuch", desc := "(II)V" } : Jvm.MethodName)) ∈ Wc := Wc_t 597 (by decide +kernel) (by decide +kernel)
theorem tw_598 : (Jvm.Cond.static ({ cls := "HatbandYard", name := "refuseNoSuch", desc := "(II)V" } : Jvm.MethodName)) ∈ Wc := Wc_t 598 (by decide +kernel) (by decide +kernel)
theorem tw_599 : (Jvm.Cond.code ({ cls := "HatbandYard", name := "refuseNoSuch", desc := "(II)V" } : Jvm.MethodName) prog_1_method_24_code (2 : Nat) (Option.none : Option Jvm.ClassFile.FieldType)) ∈ Wc := Wc_t 599 (by decide +kernel) (by decide +kernel)
theorem tw_600 : (Jvm.Cond.classLink "HatbandYard" (238 : Nat) "java/lang/IndexOutOfBoundsException") ∈ Wc := Wc_t 600 (by decide +kernel) (by decide +kernel)
theorem tw_601 : (Jvm.Cond.instantiable "java/lang/IndexOutOfBoundsException" (6 : Nat)) ∈ Wc := Wc_t 601 (by decide +kernel) (by decide +kernel)
theorem tw_603 : (Jvm.Cond.selects "java/lang/IndexOutOfBoundsException" ({ cls := "java/lang/Throwable", name := "fillInStackTrace", desc := "(I)Ljava/lang/Throwable;" } : Jvm.MethodName) ({ cls := "java/lang/Throwable", name := "fillInStackTrace", desc := "(I)Ljava/lang/Throwable;" } : Jvm.MethodName)) ∈ Wc := Wc_t 603 (by decide +kernel) (by decide +kernel)
theorem tw_604 : (Jvm.Cond.lays "java/lang/IndexOutOfBoundsException" "java/lang/Throwable" "cause" "Ljava/lang/Throwable;") ∈ Wc := Wc_t 604 (by decide +kernel) (by decide +kernel)
theorem tw_605 : (Jvm.Cond.lays "java/lang/IndexOutOfBoundsException" "java/lang/Throwable" "stackTrace" "[Ljava/lang/StackTraceElement;") ∈ Wc := Wc_t 605 (by decide +kernel) (by decide +kernel)
theorem tw_606 : (Jvm.Cond.lays "java/lang/IndexOutOfBoundsException" "java/lang/Throwable" "suppressedExceptions" "Ljava/util/List;") ∈ Wc := Wc_t 606 (by decide +kernel) (by decide +kernel)
theorem tw_607 : (Jvm.Cond.lays "java/lang/IndexOutOfBoundsException" "java/lang/Throwable" "detailMessage" "Ljava/lang/String;") ∈ Wc := Wc_t 607 (by decide +kernel) (by decide +kernel)
theorem tw_608 : (Jvm.Cond.lays "java/lang/IndexOutOfBoundsException" "java/lang/Throwable" "backtrace" "Ljava/lang/Object;") ∈ Wc := Wc_t 608 (by decide +kernel) (by decide +kernel)
theorem tw_610 : (Jvm.Cond.methodLink "HatbandYard" (242 : Nat) ({ cls := "java/lang/IndexOutOfBoundsException", name := "<init>", desc := "(Ljava/lang/String;)V" } : Jvm.MethodName)) ∈ Wc := Wc_t 610 (by decide +kernel) (by decide +kernel)
theorem tw_611 : (Jvm.Cond.lays "java/lang/IndexOutOfBoundsException" "java/lang/Throwable" "depth" "I") ∈ Wc := Wc_t 611 (by decide +kernel) (by decide +kernel)
theorem tw_612 : (Jvm.Cond.superclass "java/lang/IndexOutOfBoundsException" "java/lang/RuntimeException") ∈ Wc := Wc_t 612 (by decide +kernel) (by decide +kernel)
theorem tw_615 : (Jvm.Cond.instantiable "HatbandYard$Cone" (7 : Nat)) ∈ Wc := Wc_t 615 (by decide +kernel) (by decide +kernel)
theorem tw_617 : (Jvm.Cond.instanceMethod ({ cls := "HatbandYard$Cone", name := "<init>", desc := "(LHatbandYard$Fur;II)V" } : Jvm.MethodName)) ∈ Wc := Wc_t 617 (by decide +kernel) (by decide +kernel)
theorem tw_618 : (Jvm.Cond.code ({ cls := "HatbandYard$Cone", name := "<init>", desc := "(LHatbandYard$Fur;II)V" } : Jvm.MethodName) prog_3_method_1_code (7 : Nat) (Option.none : Option Jvm.ClassFile.FieldType)) ∈ Wc := Wc_t 618 (by decide +kernel) (by decide +kernel)
theorem tw_619 : (Jvm.Cond.methodLink "HatbandYard$Cone" (3 : Nat) ({ cls := "java/lang/Object", name := "<init>", desc := "()V" } : Jvm.MethodName)) ∈ Wc := Wc_t 619 (by decide +kernel) (by decide +kernel)
theorem tw_620 : (Jvm.Cond.methodLink "HatbandYard$Cone" (37 : Nat) ({ cls := "HatbandYard$Cone", name := "partOf", desc := "(II)I" } : Jvm.MethodName)) ∈ Wc := Wc_t 620 (by decide +kernel) (by decide +kernel)
theorem tw_621 : (Jvm.Cond.static ({ cls := "HatbandYard$Cone", name := "partOf", desc := "(II)I" } : Jvm.MethodName)) ∈ Wc := Wc_t 621 (by decide +kernel) (by decide +kernel)
theorem tw_622 : (Jvm.Cond.code ({ cls := "HatbandYard$Cone", name := "partOf", desc := "(II)I" } : Jvm.MethodName) prog_3_method_2_code (2 : Nat) (Option.some Jvm.ClassFile.FieldType.int)) ∈ Wc := Wc_t 622 (by decide +kernel) (by decide +kernel)
theorem tw_623 : (Jvm.Cond.methodLink "HatbandYard$Cone" (41 : Nat) ({ cls := "HatbandYard$Cone", name := "widthFormed", desc := "(I)I" } : Jvm.MethodName)) ∈ Wc := Wc_t 623 (by decide +kernel) (by decide +kernel)
theorem tw_624 : (Jvm.Cond.static ({ cls := "HatbandYard$Cone", name := "widthFormed", desc := "(I)I" } : Jvm.MethodName)) ∈ Wc := Wc_t 624 (by decide +kernel) (by decide +kernel)
theorem tw_625 : (Jvm.Cond.code ({ cls := "HatbandYard$Cone", name := "widthFormed", desc := "(I)I" } : Jvm.MethodName) prog_3_method_3_code (1 : Nat) (Option.some Jvm.ClassFile.FieldType.int)) ∈ Wc := Wc_t 625 (by decide +kernel) (by decide +kernel)
theorem tw_626 : (Jvm.Cond.fieldLink "HatbandYard$Cone" (33 : Nat) "HatbandYard$Cone" "fur" "LHatbandYard$Fur;") ∈ Wc := Wc_t 626 (by decide +kernel) (by decide +kernel)
theorem tw_628 : (Jvm.Cond.fieldLink "HatbandYard$Cone" (9 : Nat) "HatbandYard$Cone" "widths" "[I") ∈ Wc := Wc_t 628 (by decide +kernel) (by decide +kernel)
theorem tw_629 : (Jvm.Cond.fieldLink "HatbandYard$Cone" (15 : Nat) "HatbandYard$Cone" "gramsOfBands" "[I") ∈ Wc := Wc_t 629 (by decide +kernel) (by decide +kernel)
theorem tw_630 : (Jvm.Cond.fieldLink "HatbandYard$Cone" (18 : Nat) "HatbandYard$Cone" "height" "I") ∈ Wc := Wc_t 630 (by decide +kernel) (by decide +kernel)
theorem tw_632 : (Jvm.Cond.fieldLink "HatbandYard$Cone" (22 : Nat) "HatbandYard$Cone" "cycleCount" "I") ∈ Wc := Wc_t 632 (by decide +kernel) (by decide +kernel)
theorem tw_634 : (Jvm.Cond.fieldLink "HatbandYard$Cone" (25 : Nat) "HatbandYard$Cone" "lastBlock" "LHatbandYard$Block;") ∈ Wc := Wc_t 634 (by decide +kernel) (by decide +kernel)
theorem tw_636 : (Jvm.Cond.fieldLink "HatbandYard$Cone" (29 : Nat) "HatbandYard$Cone" "isTrimmed" "Z") ∈ Wc := Wc_t 636 (by decide +kernel) (by decide +kernel)
theorem tw_638 : (Jvm.Cond.laysFinal "HatbandYard$Cone" "HatbandYard$Cone" "fur" "LHatbandYard$Fur;") ∈ Wc := Wc_t 638 (by decide +kernel) (by decide +kernel)
theorem tw_639 : (Jvm.Cond.soleField "HatbandYard$Cone" "fur") ∈ Wc := Wc_t 639 (by decide +kernel) (by decide +kernel)
theorem tw_640 : (Jvm.Cond.laysFinal "HatbandYard$Cone" "HatbandYard$Cone" "widths" "[I") ∈ Wc := Wc_t 640 (by decide +kernel) (by decide +kernel)
theorem tw_641 : (Jvm.Cond.soleField "HatbandYard$Cone" "widths") ∈ Wc := Wc_t 641 (by decide +kernel) (by decide +kernel)
theorem tw_642 : (Jvm.Cond.laysFinal "HatbandYard$Cone" "HatbandYard$Cone" "gramsOfBands" "[I") ∈ Wc := Wc_t 642 (by decide +kernel) (by decide +kernel)
theorem tw_643 : (Jvm.Cond.soleField "HatbandYard$Cone" "gramsOfBands") ∈ Wc := Wc_t 643 (by decide +kernel) (by decide +kernel)
theorem tw_644 : (Jvm.Cond.lays "HatbandYard$Cone" "HatbandYard$Cone" "height" "I") ∈ Wc := Wc_t 644 (by decide +kernel) (by decide +kernel)
theorem tw_645 : (Jvm.Cond.soleField "HatbandYard$Cone" "height") ∈ Wc := Wc_t 645 (by decide +kernel) (by decide +kernel)
theorem tw_646 : (Jvm.Cond.lays "HatbandYard$Cone" "HatbandYard$Cone" "cycleCount" "I") ∈ Wc := Wc_t 646 (by decide +kernel) (by decide +kernel)
theorem tw_647 : (Jvm.Cond.soleField "HatbandYard$Cone" "cycleCount") ∈ Wc := Wc_t 647 (by decide +kernel) (by decide +kernel)
theorem tw_648 : (Jvm.Cond.lays "HatbandYard$Cone" "HatbandYard$Cone" "lastBlock" "LHatbandYard$Block;") ∈ Wc := Wc_t 648 (by decide +kernel) (by decide +kernel)
theorem tw_649 : (Jvm.Cond.soleField "HatbandYard$Cone" "lastBlock") ∈ Wc := Wc_t 649 (by decide +kernel) (by decide +kernel)
theorem tw_650 : (Jvm.Cond.lays "HatbandYard$Cone" "HatbandYard$Cone" "isTrimmed" "Z") ∈ Wc := Wc_t 650 (by decide +kernel) (by decide +kernel)
theorem tw_651 : (Jvm.Cond.soleField "HatbandYard$Cone" "isTrimmed") ∈ Wc := Wc_t 651 (by decide +kernel) (by decide +kernel)
theorem tw_652 : (Jvm.Cond.superclass "HatbandYard$Cone" "java/lang/Object") ∈ Wc := Wc_t 652 (by decide +kernel) (by decide +kernel)
theorem tw_653 : (Jvm.Cond.methodLink "HatbandYardLaw" (103 : Nat) ({ cls := "HatbandYardLaw", name := "hand", desc := "(LHatbandYard;[J)I" } : Jvm.MethodName)) ∈ Wc := Wc_t 653 (by decide +kernel) (by decide +kernel)
theorem tw_654 : (Jvm.Cond.static ({ cls := "HatbandYardLaw", name := "hand", desc := "(LHatbandYard;[J)I" } : Jvm.MethodName)) ∈ Wc := Wc_t 654 (by decide +kernel) (by decide +kernel)
theorem tw_655 : (Jvm.Cond.codeWith ({ cls := "HatbandYardLaw", name := "hand", desc := "(LHatbandYard;[J)I" } : Jvm.MethodName) method_6_code (3 : Nat) (Option.some Jvm.ClassFile.FieldType.int) [((0 : Nat), (8 : Nat), (11 : Nat), (15 : Nat))]) ∈ Wc := Wc_t 655 (by decide +kernel) (by decide +kernel)
theorem tw_656 : (Jvm.Cond.methodLink "HatbandYardLaw" (27 : Nat) ({ cls := "HatbandYard", name := "hand", desc := "()I" } : Jvm.MethodName)) ∈ Wc := Wc_t 656 (by decide +kernel) (by decide +kernel)
theorem tw_657 : (Jvm.Cond.instanceMethod ({ cls := "HatbandYard", name := "hand", desc := "()I" } : Jvm.MethodName)) ∈ Wc := Wc_t 657 (by decide +kernel) (by decide +kernel)
theorem tw_658 : (Jvm.Cond.selects "HatbandYard" ({ cls := "HatbandYard", name := "hand", desc := "()I" } : Jvm.MethodName) ({ cls := "HatbandYard", name := "hand", desc := "()I" } : Jvm.MethodName)) ∈ Wc := Wc_t 658 (by decide +kernel) (by decide +kernel)
theorem tw_659 : (Jvm.Cond.code ({ cls := "HatbandYard", name := "hand", desc := "()I" } : Jvm.MethodName) prog_1_method_5_code (1 : Nat) (Option.some Jvm.ClassFile.FieldType.int)) ∈ Wc := Wc_t 659 (by decide +kernel) (by decide +kernel)
theorem tw_660 : (Jvm.Cond.instantiable "HatbandYard$Hand" (2 : Nat)) ∈ Wc := Wc_t 660 (by decide +kernel) (by decide +kernel)
theorem tw_662 : (Jvm.Cond.instanceMethod ({ cls := "HatbandYard$Hand", name := "<init>", desc := "()V" } : Jvm.MethodName)) ∈ Wc := Wc_t 662 (by decide +kernel) (by decide +kernel)
theorem tw_663 : (Jvm.Cond.code ({ cls := "HatbandYard$Hand", name := "<init>", desc := "()V" } : Jvm.MethodName) prog_6_method_1_code (1 : Nat) (Option.none : Option Jvm.ClassFile.FieldType)) ∈ Wc := Wc_t 663 (by decide +kernel) (by decide +kernel)
theorem tw_664 : (Jvm.Cond.methodLink "HatbandYard$Hand" (1 : Nat) ({ cls := "java/lang/Object", name := "<init>", desc := "()V" } : Jvm.MethodName)) ∈ Wc := Wc_t 664 (by decide +kernel) (by decide +kernel)
theorem tw_665 : (Jvm.Cond.fieldLink "HatbandYard$Hand" (7 : Nat) "HatbandYard$Hand" "airToday" "I") ∈ Wc := Wc_t 665 (by decide +kernel) (by decide +kernel)
theorem tw_667 : (Jvm.Cond.fieldLink "HatbandYard$Hand" (13 : Nat) "HatbandYard$Hand" "airEver" "I") ∈ Wc := Wc_t 667 (by decide +kernel) (by decide +kernel)
theorem tw_669 : (Jvm.Cond.lays "HatbandYard$Hand" "HatbandYard$Hand" "airToday" "I") ∈ Wc := Wc_t 669 (by decide +kernel) (by decide +kernel)
theorem tw_670 : (Jvm.Cond.soleField "HatbandYard$Hand" "airToday") ∈ Wc := Wc_t 670 (by decide +kernel) (by decide +kernel)
theorem tw_671 : (Jvm.Cond.lays "HatbandYard$Hand" "HatbandYard$Hand" "airEver" "I") ∈ Wc := Wc_t 671 (by decide +kernel) (by decide +kernel)
theorem tw_672 : (Jvm.Cond.soleField "HatbandYard$Hand" "airEver") ∈ Wc := Wc_t 672 (by decide +kernel) (by decide +kernel)
theorem tw_673 : (Jvm.Cond.superclass "HatbandYard$Hand" "java/lang/Object") ∈ Wc := Wc_t 673 (by decide +kernel) (by decide +kernel)
theorem tw_674 : (Jvm.Cond.methodLink "HatbandYardLaw" (107 : Nat) ({ cls := "HatbandYardLaw", name := "cycle", desc := "(LHatbandYard;II[J)I" } : Jvm.MethodName)) ∈ Wc := Wc_t 674 (by decide +kernel) (by decide +kernel)
theorem tw_675 : (Jvm.Cond.static ({ cls := "HatbandYardLaw", name := "cycle", desc := "(LHatbandYard;II[J)I" } : Jvm.MethodName)) ∈ Wc := Wc_t 675 (by decide +kernel) (by decide +kernel)
theorem tw_676 : (Jvm.Cond.codeWith ({ cls := "HatbandYardLaw", name := "cycle", desc := "(LHatbandYard;II[J)I" } : Jvm.MethodName) method_7_code (5 : Nat) (Option.some Jvm.ClassFile.FieldType.int) [((0 : Nat), (10 : Nat), (13 : Nat), (25 : Nat)), ((0 : Nat), (10 : Nat), (17 : Nat), (15 : Nat))]) ∈ Wc := Wc_t 676 (by decide +kernel) (by decide +kernel)
theorem tw_677 : (Jvm.Cond.methodLink "HatbandYardLaw" (31 : Nat) ({ cls := "HatbandYard", name := "cycle", desc := "(II)I" } : Jvm.MethodName)) ∈ Wc := Wc_t 677 (by decide +kernel) (by decide +kernel)
theorem tw_678 : (Jvm.Cond.instanceMethod ({ cls := "HatbandYard", name := "cycle", desc := "(II)I" } : Jvm.MethodName)) ∈ Wc := Wc_t 678 (by decide +kernel) (by decide +kernel)
theorem tw_679 : (Jvm.Cond.selects "HatbandYard" ({ cls := "HatbandYard", name := "cycle", desc := "(II)I" } : Jvm.MethodName) ({ cls := "HatbandYard", name := "cycle", desc := "(II)I" } : Jvm.MethodName)) ∈ Wc := Wc_t 679 (by decide +kernel) (by decide +kernel)
theorem tw_680 : (Jvm.Cond.code ({ cls := "HatbandYard", name := "cycle", desc := "(II)I" } : Jvm.MethodName) prog_1_method_6_code (5 : Nat) (Option.some Jvm.ClassFile.FieldType.int)) ∈ Wc := Wc_t 680 (by decide +kernel) (by decide +kernel)
theorem tw_681 : (Jvm.Cond.methodLink "HatbandYard" (111 : Nat) ({ cls := "HatbandYard", name := "coneAt", desc := "(I)LHatbandYard$Cone;" } : Jvm.MethodName)) ∈ Wc := Wc_t 681 (by decide +kernel) (by decide +kernel)
theorem tw_683 : (Jvm.Cond.instanceMethod ({ cls := "HatbandYard", name := "coneAt", desc := "(I)LHatbandYard$Cone;" } : Jvm.MethodName)) ∈ Wc := Wc_t 683 (by decide +kernel) (by decide +kernel)
theorem tw_684 : (Jvm.Cond.code ({ cls := "HatbandYard", name := "coneAt", desc := "(I)LHatbandYard$Cone;" } : Jvm.MethodName) prog_1_method_26_code (3 : Nat) (Option.some (Jvm.ClassFile.FieldType.object "HatbandYard$Cone"))) ∈ Wc := Wc_t 684 (by decide +kernel) (by decide +kernel)
theorem tw_686 : (Jvm.Cond.methodLink "HatbandYard" (115 : Nat) ({ cls := "HatbandYard", name := "handAt", desc := "(I)LHatbandYard$Hand;" } : Jvm.MethodName)) ∈ Wc := Wc_t 686 (by decide +kernel) (by decide +kernel)
theorem tw_688 : (Jvm.Cond.instanceMethod ({ cls := "HatbandYard", name := "handAt", desc := "(I)LHatbandYard$Hand;" } : Jvm.MethodName)) ∈ Wc := Wc_t 688 (by decide +kernel) (by decide +kernel)
theorem tw_689 : (Jvm.Cond.code ({ cls := "HatbandYard", name := "handAt", desc := "(I)LHatbandYard$Hand;" } : Jvm.MethodName) prog_1_method_27_code (3 : Nat) (Option.some (Jvm.ClassFile.FieldType.object "HatbandYard$Hand"))) ∈ Wc := Wc_t 689 (by decide +kernel) (by decide +kernel)
theorem tw_695 : (Jvm.Cond.instanceMethod ({ cls := "HatbandYard$Hand", name := "breathe", desc := "(I)V" } : Jvm.MethodName)) ∈ Wc := Wc_t 695 (by decide +kernel) (by decide +kernel)
theorem tw_696 : (Jvm.Cond.code ({ cls := "HatbandYard$Hand", name := "breathe", desc := "(I)V" } : Jvm.MethodName) prog_6_method_2_code (2 : Nat) (Option.none : Option Jvm.ClassFile.FieldType)) ∈ Wc := Wc_t 696 (by decide +kernel) (by decide +kernel)
theorem tw_699 : (Jvm.Cond.instanceMethod ({ cls := "HatbandYard$Cone", name := "shrink", desc := "()V" } : Jvm.MethodName)) ∈ Wc := Wc_t 699 (by decide +kernel) (by decide +kernel)
theorem tw_700 : (Jvm.Cond.code ({ cls := "HatbandYard$Cone", name := "shrink", desc := "()V" } : Jvm.MethodName) prog_3_method_7_code (2 : Nat) (Option.none : Option Jvm.ClassFile.FieldType)) ∈ Wc := Wc_t 700 (by decide +kernel) (by decide +kernel)
theorem tw_703 : (Jvm.Cond.instanceMethod ({ cls := "HatbandYard$Fur", name := "shrunkAcross", desc := "(I)I" } : Jvm.MethodName)) ∈ Wc := Wc_t 703 (by decide +kernel) (by decide +kernel)
theorem tw_704 : (Jvm.Cond.instantiable "HatbandYard$Fur" (8 : Nat)) ∈ Wc := Wc_t 704 (by decide +kernel) (by decide +kernel)
theorem tw_705 : (Jvm.Cond.code ({ cls := "HatbandYard$Fur", name := "shrunkAcross", desc := "(I)I" } : Jvm.MethodName) prog_5_method_4_code (2 : Nat) (Option.some Jvm.ClassFile.FieldType.int)) ∈ Wc := Wc_t 705 (by decide +kernel) (by decide +kernel)
theorem tw_708 : (Jvm.Cond.instanceMethod ({ cls := "HatbandYard$Fur", name := "shrunkAlong", desc := "(I)I" } : Jvm.MethodName)) ∈ Wc := Wc_t 708 (by decide +kernel) (by decide +kernel)
theorem tw_709 : (Jvm.Cond.code ({ cls := "HatbandYard$Fur", name := "shrunkAlong", desc := "(I)I" } : Jvm.MethodName) prog_5_method_5_code (2 : Nat) (Option.some Jvm.ClassFile.FieldType.int)) ∈ Wc := Wc_t 709 (by decide +kernel) (by decide +kernel)
theorem tw_712 : (Jvm.Cond.instanceMethod ({ cls := "HatbandYard$Cone", name := "widthOf", desc := "(I)I" } : Jvm.MethodName)) ∈ Wc := Wc_t 712 (by decide +kernel) (by decide +kernel)
theorem tw_713 : (Jvm.Cond.code ({ cls := "HatbandYard$Cone", name := "widthOf", desc := "(I)I" } : Jvm.MethodName) prog_3_method_4_code (2 : Nat) (Option.some Jvm.ClassFile.FieldType.int)) ∈ Wc := Wc_t 713 (by decide +kernel) (by decide +kernel)
theorem tw_714 : (Jvm.Cond.methodLink "HatbandYardLaw" (111 : Nat) ({ cls := "HatbandYardLaw", name := "block", desc := "(LHatbandYard;II[J)I" } : Jvm.MethodName)) ∈ Wc := Wc_t 714 (by decide +kernel) (by decide +kernel)
theorem tw_715 : (Jvm.Cond.static ({ cls := "HatbandYardLaw", name := "block", desc := "(LHatbandYard;II[J)I" } : Jvm.MethodName)) ∈ Wc := Wc_t 715 (by decide +kernel) (by decide +kernel)
theorem tw_716 : (Jvm.Cond.codeWith ({ cls := "HatbandYardLaw", name := "block", desc := "(LHatbandYard;II[J)I" } : Jvm.MethodName) method_8_code (5 : Nat) (Option.some Jvm.ClassFile.FieldType.int) [((0 : Nat), (10 : Nat), (13 : Nat), (13 : Nat)), ((0 : Nat), (10 : Nat), (17 : Nat), (15 : Nat))]) ∈ Wc := Wc_t 716 (by decide +kernel) (by decide +kernel)
theorem tw_717 : (Jvm.Cond.methodLink "HatbandYardLaw" (35 : Nat) ({ cls := "HatbandYard", name := "block", desc := "(II)I" } : Jvm.MethodName)) ∈ Wc := Wc_t 717 (by decide +kernel) (by decide +kernel)
theorem tw_718 : (Jvm.Cond.instanceMethod ({ cls := "HatbandYard", name := "block", desc := "(II)I" } : Jvm.MethodName)) ∈ Wc := Wc_t 718 (by decide +kernel) (by decide +kernel)
theorem tw_719 : (Jvm.Cond.selects "HatbandYard" ({ cls := "HatbandYard", name := "block", desc := "(II)I" } : Jvm.MethodName) ({ cls := "HatbandYard", name := "block", desc := "(II)I" } : Jvm.MethodName)) ∈ Wc := Wc_t 719 (by decide +kernel) (by decide +kernel)
theorem tw_720 : (Jvm.Cond.code ({ cls := "HatbandYard", name := "block", desc := "(II)I" } : Jvm.MethodName) prog_1_method_7_code (3 : Nat) (Option.some Jvm.ClassFile.FieldType.int)) ∈ Wc := Wc_t 720 (by decide +kernel) (by decide +kernel)
theorem tw_721 : (Jvm.Cond.instantiable "HatbandYard$Block" (2 : Nat)) ∈ Wc := Wc_t 721 (by decide +kernel) (by decide +kernel)
theorem tw_723 : (Jvm.Cond.instanceMethod ({ cls := "HatbandYard$Block", name := "<init>", desc := "(II)V" } : Jvm.MethodName)) ∈ Wc := Wc_t 723 (by decide +kernel) (by decide +kernel)
theorem tw_724 : (Jvm.Cond.code ({ cls := "HatbandYard$Block", name := "<init>", desc := "(II)V" } : Jvm.MethodName) prog_2_method_1_code (3 : Nat) (Option.none : Option Jvm.ClassFile.FieldType)) ∈ Wc := Wc_t 724 (by decide +kernel) (by decide +kernel)
theorem tw_725 : (Jvm.Cond.methodLink "HatbandYard$Block" (1 : Nat) ({ cls := "java/lang/Object", name := "<init>", desc := "()V" } : Jvm.MethodName)) ∈ Wc := Wc_t 725 (by decide +kernel) (by decide +kernel)
theorem tw_726 : (Jvm.Cond.fieldLink "HatbandYard$Block" (7 : Nat) "HatbandYard$Block" "size" "I") ∈ Wc := Wc_t 726 (by decide +kernel) (by decide +kernel)
theorem tw_727 : (Jvm.Cond.fieldLink "HatbandYard$Block" (13 : Nat) "HatbandYard$Block" "depth" "I") ∈ Wc := Wc_t 727 (by decide +kernel) (by decide +kernel)
theorem tw_728 : (Jvm.Cond.laysFinal "HatbandYard$Block" "HatbandYard$Block" "size" "I") ∈ Wc := Wc_t 728 (by decide +kernel) (by decide +kernel)
theorem tw_729 : (Jvm.Cond.soleField "HatbandYard$Block" "size") ∈ Wc := Wc_t 729 (by decide +kernel) (by decide +kernel)
theorem tw_730 : (Jvm.Cond.laysFinal "HatbandYard$Block" "HatbandYard$Block" "depth" "I") ∈ Wc := Wc_t 730 (by decide +kernel) (by decide +kernel)
theorem tw_731 : (Jvm.Cond.soleField "HatbandYard$Block" "depth") ∈ Wc := Wc_t 731 (by decide +kernel) (by decide +kernel)
theorem tw_732 : (Jvm.Cond.superclass "HatbandYard$Block" "java/lang/Object") ∈ Wc := Wc_t 732 (by decide +kernel) (by decide +kernel)
theorem tw_733 : (Jvm.Cond.methodLink "HatbandYardLaw" (114 : Nat) ({ cls := "HatbandYardLaw", name := "draw", desc := "(LHatbandYard;II[J)I" } : Jvm.MethodName)) ∈ Wc := Wc_t 733 (by decide +kernel) (by decide +kernel)
theorem tw_734 : (Jvm.Cond.static ({ cls := "HatbandYardLaw", name := "draw", desc := "(LHatbandYard;II[J)I" } : Jvm.MethodName)) ∈ Wc := Wc_t 734 (by decide +kernel) (by decide +kernel)
theorem tw_735 : (Jvm.Cond.codeWith ({ cls := "HatbandYardLaw", name := "draw", desc := "(LHatbandYard;II[J)I" } : Jvm.MethodName) method_9_code (5 : Nat) (Option.some Jvm.ClassFile.FieldType.int) [((0 : Nat), (10 : Nat), (13 : Nat), (25 : Nat))]) ∈ Wc := Wc_t 735 (by decide +kernel) (by decide +kernel)
theorem tw_736 : (Jvm.Cond.methodLink "HatbandYardLaw" (38 : Nat) ({ cls := "HatbandYard", name := "draw", desc := "(II)I" } : Jvm.MethodName)) ∈ Wc := Wc_t 736 (by decide +kernel) (by decide +kernel)
theorem tw_737 : (Jvm.Cond.instanceMethod ({ cls := "HatbandYard", name := "draw", desc := "(II)I" } : Jvm.MethodName)) ∈ Wc := Wc_t 737 (by decide +kernel) (by decide +kernel)
theorem tw_738 : (Jvm.Cond.selects "HatbandYard" ({ cls := "HatbandYard", name := "draw", desc := "(II)I" } : Jvm.MethodName) ({ cls := "HatbandYard", name := "draw", desc := "(II)I" } : Jvm.MethodName)) ∈ Wc := Wc_t 738 (by decide +kernel) (by decide +kernel)
theorem tw_739 : (Jvm.Cond.code ({ cls := "HatbandYard", name := "draw", desc := "(II)I" } : Jvm.MethodName) prog_1_method_8_code (6 : Nat) (Option.some Jvm.ClassFile.FieldType.int)) ∈ Wc := Wc_t 739 (by decide +kernel) (by decide +kernel)
theorem tw_740 : (Jvm.Cond.methodLink "HatbandYard" (152 : Nat) ({ cls := "HatbandYard", name := "blockAt", desc := "(I)LHatbandYard$Block;" } : Jvm.MethodName)) ∈ Wc := Wc_t 740 (by decide +kernel) (by decide +kernel)
theorem tw_742 : (Jvm.Cond.instanceMethod ({ cls := "HatbandYard", name := "blockAt", desc := "(I)LHatbandYard$Block;" } : Jvm.MethodName)) ∈ Wc := Wc_t 742 (by decide +kernel) (by decide +kernel)
theorem tw_743 : (Jvm.Cond.code ({ cls := "HatbandYard", name := "blockAt", desc := "(I)LHatbandYard$Block;" } : Jvm.MethodName) prog_1_method_28_code (3 : Nat) (Option.some (Jvm.ClassFile.FieldType.object "HatbandYard$Block"))) ∈ Wc := Wc_t 743 (by decide +kernel) (by decide +kernel)
theorem tw_747 : (Jvm.Cond.instanceMethod ({ cls := "HatbandYard$Cone", name := "refusalOf", desc := "(LHatbandYard$Block;)I" } : Jvm.MethodName)) ∈ Wc := Wc_t 747 (by decide +kernel) (by decide +kernel)
theorem tw_748 : (Jvm.Cond.code ({ cls := "HatbandYard$Cone", name := "refusalOf", desc := "(LHatbandYard$Block;)I" } : Jvm.MethodName) prog_3_method_8_code (6 : Nat) (Option.some Jvm.ClassFile.FieldType.int)) ∈ Wc := Wc_t 748 (by decide +kernel) (by decide +kernel)
theorem tw_749 : (Jvm.Cond.methodLink "HatbandYard$Cone" (60 : Nat) ({ cls := "HatbandYard$Cone", name := "hasHole", desc := "()Z" } : Jvm.MethodName)) ∈ Wc := Wc_t 749 (by decide +kernel) (by decide +kernel)
theorem tw_751 : (Jvm.Cond.instanceMethod ({ cls := "HatbandYard$Cone", name := "hasHole", desc := "()Z" } : Jvm.MethodName)) ∈ Wc := Wc_t 751 (by decide +kernel) (by decide +kernel)
theorem tw_752 : (Jvm.Cond.code ({ cls := "HatbandYard$Cone", name := "hasHole", desc := "()Z" } : Jvm.MethodName) prog_3_method_9_code (2 : Nat) (Option.some Jvm.ClassFile.FieldType.boolean)) ∈ Wc := Wc_t 752 (by decide +kernel) (by decide +kernel)
theorem tw_753 : (Jvm.Cond.methodLink "HatbandYard$Cone" (73 : Nat) ({ cls := "HatbandYard$Cone", name := "thicknessOf", desc := "(I)I" } : Jvm.MethodName)) ∈ Wc := Wc_t 753 (by decide +kernel) (by decide +kernel)
theorem tw_755 : (Jvm.Cond.instanceMethod ({ cls := "HatbandYard$Cone", name := "thicknessOf", desc := "(I)I" } : Jvm.MethodName)) ∈ Wc := Wc_t 755 (by decide +kernel) (by decide +kernel)
theorem tw_756 : (Jvm.Cond.code ({ cls := "HatbandYard$Cone", name := "thicknessOf", desc := "(I)I" } : Jvm.MethodName) prog_3_method_6_code (3 : Nat) (Option.some Jvm.ClassFile.FieldType.int)) ∈ Wc := Wc_t 756 (by decide +kernel) (by decide +kernel)
theorem tw_757 : (Jvm.Cond.methodLink "HatbandYard$Cone" (45 : Nat) ({ cls := "HatbandYard$Cone", name := "widthOf", desc := "(I)I" } : Jvm.MethodName)) ∈ Wc := Wc_t 757 (by decide +kernel) (by decide +kernel)
theorem tw_758 : (Jvm.Cond.methodLink "HatbandYard$Cone" (48 : Nat) ({ cls := "HatbandYard$Cone", name := "gramsOf", desc := "(I)I" } : Jvm.MethodName)) ∈ Wc := Wc_t 758 (by decide +kernel) (by decide +kernel)
theorem tw_760 : (Jvm.Cond.instanceMethod ({ cls := "HatbandYard$Cone", name := "gramsOf", desc := "(I)I" } : Jvm.MethodName)) ∈ Wc := Wc_t 760 (by decide +kernel) (by decide +kernel)
theorem tw_761 : (Jvm.Cond.code ({ cls := "HatbandYard$Cone", name := "gramsOf", desc := "(I)I" } : Jvm.MethodName) prog_3_method_5_code (2 : Nat) (Option.some Jvm.ClassFile.FieldType.int)) ∈ Wc := Wc_t 761 (by decide +kernel) (by decide +kernel)
theorem tw_762 : (Jvm.Cond.constant "HatbandYard$Cone" (51 : Nat) (100000 : Int32)) ∈ Wc := Wc_t 762 (by decide +kernel) (by decide +kernel)
theorem tw_765 : (Jvm.Cond.instanceMethod ({ cls := "HatbandYard$Block", name := "widthFor", desc := "(I)I" } : Jvm.MethodName)) ∈ Wc := Wc_t 765 (by decide +kernel) (by decide +kernel)
theorem tw_766 : (Jvm.Cond.code ({ cls := "HatbandYard$Block", name := "widthFor", desc := "(I)I" } : Jvm.MethodName) prog_2_method_2_code (3 : Nat) (Option.some Jvm.ClassFile.FieldType.int)) ∈ Wc := Wc_t 766 (by decide +kernel) (by decide +kernel)
theorem tw_767 : (Jvm.Cond.methodLink "HatbandYard$Block" (16 : Nat) ({ cls := "java/lang/Math", name := "max", desc := "(II)I" } : Jvm.MethodName)) ∈ Wc := Wc_t 767 (by decide +kernel) (by decide +kernel)
theorem tw_768 : (Jvm.Cond.methodLink "HatbandYard$Cone" (69 : Nat) ({ cls := "HatbandYard$Cone", name := "isTornBy", desc := "(II)Z" } : Jvm.MethodName)) ∈ Wc := Wc_t 768 (by decide +kernel) (by decide +kernel)
theorem tw_770 : (Jvm.Cond.instanceMethod ({ cls := "HatbandYard$Cone", name := "isTornBy", desc := "(II)Z" } : Jvm.MethodName)) ∈ Wc := Wc_t 770 (by decide +kernel) (by decide +kernel)
theorem tw_771 : (Jvm.Cond.code ({ cls := "HatbandYard$Cone", name := "isTornBy", desc := "(II)Z" } : Jvm.MethodName) prog_3_method_10_code (3 : Nat) (Option.some Jvm.ClassFile.FieldType.boolean)) ∈ Wc := Wc_t 771 (by decide +kernel) (by decide +kernel)
theorem tw_774 : (Jvm.Cond.instanceMethod ({ cls := "HatbandYard$Cone", name := "stretchOver", desc := "(LHatbandYard$Block;)V" } : Jvm.MethodName)) ∈ Wc := Wc_t 774 (by decide +kernel) (by decide +kernel)
theorem tw_775 : (Jvm.Cond.code ({ cls := "HatbandYard$Cone", name := "stretchOver", desc := "(LHatbandYard$Block;)V" } : Jvm.MethodName) prog_3_method_11_code (3 : Nat) (Option.none : Option Jvm.ClassFile.FieldType)) ∈ Wc := Wc_t 775 (by decide +kernel) (by decide +kernel)
theorem tw_776 : (Jvm.Cond.methodLink "HatbandYardLaw" (117 : Nat) ({ cls := "HatbandYardLaw", name := "trim", desc := "(LHatbandYard;I[J)I" } : Jvm.MethodName)) ∈ Wc := Wc_t 776 (by decide +kernel) (by decide +kernel)
theorem tw_777 : (Jvm.Cond.static ({ cls := "HatbandYardLaw", name := "trim", desc := "(LHatbandYard;I[J)I" } : Jvm.MethodName)) ∈ Wc := Wc_t 777 (by decide +kernel) (by decide +kernel)
theorem tw_778 : (Jvm.Cond.codeWith ({ cls := "HatbandYardLaw", name := "trim", desc := "(LHatbandYard;I[J)I" } : Jvm.MethodName) method_10_code (4 : Nat) (Option.some Jvm.ClassFile.FieldType.int) [((0 : Nat), (16 : Nat), (19 : Nat), (25 : Nat)), ((0 : Nat), (16 : Nat), (22 : Nat), (15 : Nat))]) ∈ Wc := Wc_t 778 (by decide +kernel) (by decide +kernel)
theorem tw_779 : (Jvm.Cond.methodLink "HatbandYardLaw" (41 : Nat) ({ cls := "HatbandYard", name := "trim", desc := "(I)Z" } : Jvm.MethodName)) ∈ Wc := Wc_t 779 (by decide +kernel) (by decide +kernel)
theorem tw_780 : (Jvm.Cond.instanceMethod ({ cls := "HatbandYard", name := "trim", desc := "(I)Z" } : Jvm.MethodName)) ∈ Wc := Wc_t 780 (by decide +kernel) (by decide +kernel)
theorem tw_781 : (Jvm.Cond.selects "HatbandYard" ({ cls := "HatbandYard", name := "trim", desc := "(I)Z" } : Jvm.MethodName) ({ cls := "HatbandYard", name := "trim", desc := "(I)Z" } : Jvm.MethodName)) ∈ Wc := Wc_t 781 (by decide +kernel) (by decide +kernel)
theorem tw_782 : (Jvm.Cond.code ({ cls := "HatbandYard", name := "trim", desc := "(I)Z" } : Jvm.MethodName) prog_1_method_9_code (4 : Nat) (Option.some Jvm.ClassFile.FieldType.boolean)) ∈ Wc := Wc_t 782 (by decide +kernel) (by decide +kernel)
theorem tw_784 : (Jvm.Cond.methodLink "HatbandYard" (170 : Nat) ({ cls := "HatbandYard", name := "typedFeather", desc := "()LHatbandYard$Feather;" } : Jvm.MethodName)) ∈ Wc := Wc_t 784 (by decide +kernel) (by decide +kernel)
theorem tw_786 : (Jvm.Cond.instanceMethod ({ cls := "HatbandYard", name := "typedFeather", desc := "()LHatbandYard$Feather;" } : Jvm.MethodName)) ∈ Wc := Wc_t 786 (by decide +kernel) (by decide +kernel)
theorem tw_787 : (Jvm.Cond.code ({ cls := "HatbandYard", name := "typedFeather", desc := "()LHatbandYard$Feather;" } : Jvm.MethodName) prog_1_method_30_code (5 : Nat) (Option.some (Jvm.ClassFile.FieldType.object "HatbandYard$Feather"))) ∈ Wc := Wc_t 787 (by decide +kernel) (by decide +kernel)
theorem tw_788 : (Jvm.Cond.fieldLink "HatbandYard" (263 : Nat) "HatbandYard" "FEATHERS" "[LHatbandYard$Feather;") ∈ Wc := Wc_t 788 (by decide +kernel) (by decide +kernel)
theorem tw_790 : (Jvm.Cond.methodLink "HatbandYard" (174 : Nat) ({ cls := "HatbandYard", name := "year", desc := "()I" } : Jvm.MethodName)) ∈ Wc := Wc_t 790 (by decide +kernel) (by decide +kernel)
theorem tw_792 : (Jvm.Cond.instanceMethod ({ cls := "HatbandYard", name := "year", desc := "()I" } : Jvm.MethodName)) ∈ Wc := Wc_t 792 (by decide +kernel) (by decide +kernel)
theorem tw_793 : (Jvm.Cond.code ({ cls := "HatbandYard", name := "year", desc := "()I" } : Jvm.MethodName) prog_1_method_34_code (1 : Nat) (Option.some Jvm.ClassFile.FieldType.int)) ∈ Wc := Wc_t 793 (by decide +kernel) (by decide +kernel)
theorem tw_796 : (Jvm.Cond.instanceMethod ({ cls := "HatbandYard$Feather", name := "isAllowedIn", desc := "(I)Z" } : Jvm.MethodName)) ∈ Wc := Wc_t 796 (by decide +kernel) (by decide +kernel)
theorem tw_797 : (Jvm.Cond.instantiable "HatbandYard$Feather" (5 : Nat)) ∈ Wc := Wc_t 797 (by decide +kernel) (by decide +kernel)
theorem tw_798 : (Jvm.Cond.code ({ cls := "HatbandYard$Feather", name := "isAllowedIn", desc := "(I)Z" } : Jvm.MethodName) prog_4_method_4_code (2 : Nat) (Option.some Jvm.ClassFile.FieldType.boolean)) ∈ Wc := Wc_t 798 (by decide +kernel) (by decide +kernel)
theorem tw_799 : (Jvm.Cond.methodLink "HatbandYardLaw" (120 : Nat) ({ cls := "HatbandYardLaw", name := "pass", desc := "(LHatbandYard;I[J)I" } : Jvm.MethodName)) ∈ Wc := Wc_t 799 (by decide +kernel) (by decide +kernel)
theorem tw_800 : (Jvm.Cond.static ({ cls := "HatbandYardLaw", name := "pass", desc := "(LHatbandYard;I[J)I" } : Jvm.MethodName)) ∈ Wc := Wc_t 800 (by decide +kernel) (by decide +kernel)
theorem tw_801 : (Jvm.Cond.codeWith ({ cls := "HatbandYardLaw", name := "pass", desc := "(LHatbandYard;I[J)I" } : Jvm.MethodName) method_11_code (4 : Nat) (Option.some Jvm.ClassFile.FieldType.int) [((0 : Nat), (9 : Nat), (12 : Nat), (13 : Nat))]) ∈ Wc := Wc_t 801 (by decide +kernel) (by decide +kernel)
theorem tw_802 : (Jvm.Cond.methodLink "HatbandYardLaw" (45 : Nat) ({ cls := "HatbandYard", name := "pass", desc := "(I)I" } : Jvm.MethodName)) ∈ Wc := Wc_t 802 (by decide +kernel) (by decide +kernel)
theorem tw_803 : (Jvm.Cond.instanceMethod ({ cls := "HatbandYard", name := "pass", desc := "(I)I" } : Jvm.MethodName)) ∈ Wc := Wc_t 803 (by decide +kernel) (by decide +kernel)
theorem tw_804 : (Jvm.Cond.selects "HatbandYard" ({ cls := "HatbandYard", name := "pass", desc := "(I)I" } : Jvm.MethodName) ({ cls := "HatbandYard", name := "pass", desc := "(I)I" } : Jvm.MethodName)) ∈ Wc := Wc_t 804 (by decide +kernel) (by decide +kernel)
theorem tw_805 : (Jvm.Cond.code ({ cls := "HatbandYard", name := "pass", desc := "(I)I" } : Jvm.MethodName) prog_1_method_10_code (6 : Nat) (Option.some Jvm.ClassFile.FieldType.int)) ∈ Wc := Wc_t 805 (by decide +kernel) (by decide +kernel)
theorem tw_806 : (Jvm.Cond.methodLink "HatbandYardLaw" (123 : Nat) ({ cls := "HatbandYardLaw", name := "about", desc := "(LHatbandYard;III[J)I" } : Jvm.MethodName)) ∈ Wc := Wc_t 806 (by decide +kernel) (by decide +kernel)
theorem tw_807 : (Jvm.Cond.static ({ cls := "HatbandYardLaw", name := "about", desc := "(LHatbandYard;III[J)I" } : Jvm.MethodName)) ∈ Wc := Wc_t 807 (by decide +kernel) (by decide +kernel)
theorem tw_808 : (Jvm.Cond.codeWith ({ cls := "HatbandYardLaw", name := "about", desc := "(LHatbandYard;III[J)I" } : Jvm.MethodName) method_12_code (6 : Nat) (Option.some Jvm.ClassFile.FieldType.int) [((0 : Nat), (12 : Nat), (15 : Nat), (25 : Nat)), ((0 : Nat), (12 : Nat), (19 : Nat), (13 : Nat))]) ∈ Wc := Wc_t 808 (by decide +kernel) (by decide +kernel)
theorem tw_809 : (Jvm.Cond.methodLink "HatbandYardLaw" (48 : Nat) ({ cls := "HatbandYard", name := "about", desc := "(III)I" } : Jvm.MethodName)) ∈ Wc := Wc_t 809 (by decide +kernel) (by decide +kernel)
theorem tw_810 : (Jvm.Cond.instanceMethod ({ cls := "HatbandYard", name := "about", desc := "(III)I" } : Jvm.MethodName)) ∈ Wc := Wc_t 810 (by decide +kernel) (by decide +kernel)
theorem tw_811 : (Jvm.Cond.selects "HatbandYard" ({ cls := "HatbandYard", name := "about", desc := "(III)I" } : Jvm.MethodName) ({ cls := "HatbandYard", name := "about", desc := "(III)I" } : Jvm.MethodName)) ∈ Wc := Wc_t 811 (by decide +kernel) (by decide +kernel)
theorem tw_812 : (Jvm.Cond.code ({ cls := "HatbandYard", name := "about", desc := "(III)I" } : Jvm.MethodName) prog_1_method_11_code (5 : Nat) (Option.some Jvm.ClassFile.FieldType.int)) ∈ Wc := Wc_t 812 (by decide +kernel) (by decide +kernel)
theorem tw_815 : (Jvm.Cond.methodLink "HatbandYardLaw" (126 : Nat) ({ cls := "HatbandYardLaw", name := "widthAnew", desc := "(LHatbandYard;II[J)I" } : Jvm.MethodName)) ∈ Wc := Wc_t 815 (by decide +kernel) (by decide +kernel)
theorem tw_816 : (Jvm.Cond.static ({ cls := "HatbandYardLaw", name := "widthAnew", desc := "(LHatbandYard;II[J)I" } : Jvm.MethodName)) ∈ Wc := Wc_t 816 (by decide +kernel) (by decide +kernel)
theorem tw_817 : (Jvm.Cond.codeWith ({ cls := "HatbandYardLaw", name := "widthAnew", desc := "(LHatbandYard;II[J)I" } : Jvm.MethodName) method_13_code (5 : Nat) (Option.some Jvm.ClassFile.FieldType.int) [((0 : Nat), (10 : Nat), (13 : Nat), (25 : Nat))]) ∈ Wc := Wc_t 817 (by decide +kernel) (by decide +kernel)
theorem tw_818 : (Jvm.Cond.methodLink "HatbandYardLaw" (51 : Nat) ({ cls := "HatbandYard", name := "widthAnew", desc := "(II)I" } : Jvm.MethodName)) ∈ Wc := Wc_t 818 (by decide +kernel) (by decide +kernel)
theorem tw_819 : (Jvm.Cond.instanceMethod ({ cls := "HatbandYard", name := "widthAnew", desc := "(II)I" } : Jvm.MethodName)) ∈ Wc := Wc_t 819 (by decide +kernel) (by decide +kernel)
theorem tw_820 : (Jvm.Cond.selects "HatbandYard" ({ cls := "HatbandYard", name := "widthAnew", desc := "(II)I" } : Jvm.MethodName) ({ cls := "HatbandYard", name := "widthAnew", desc := "(II)I" } : Jvm.MethodName)) ∈ Wc := Wc_t 820 (by decide +kernel) (by decide +kernel)
theorem tw_821 : (Jvm.Cond.code ({ cls := "HatbandYard", name := "widthAnew", desc := "(II)I" } : Jvm.MethodName) prog_1_method_12_code (4 : Nat) (Option.some Jvm.ClassFile.FieldType.int)) ∈ Wc := Wc_t 821 (by decide +kernel) (by decide +kernel)
theorem tw_824 : (Jvm.Cond.instanceMethod ({ cls := "HatbandYard$Cone", name := "widthFollowed", desc := "(I)I" } : Jvm.MethodName)) ∈ Wc := Wc_t 824 (by decide +kernel) (by decide +kernel)
theorem tw_825 : (Jvm.Cond.code ({ cls := "HatbandYard$Cone", name := "widthFollowed", desc := "(I)I" } : Jvm.MethodName) prog_3_method_12_code (4 : Nat) (Option.some Jvm.ClassFile.FieldType.int)) ∈ Wc := Wc_t 825 (by decide +kernel) (by decide +kernel)
theorem tw_826 : (Jvm.Cond.methodLink "HatbandYardLaw" (129 : Nat) ({ cls := "HatbandYardLaw", name := "brim", desc := "(LHatbandYard;II[J)I" } : Jvm.MethodName)) ∈ Wc := Wc_t 826 (by decide +kernel) (by decide +kernel)
theorem tw_827 : (Jvm.Cond.static ({ cls := "HatbandYardLaw", name := "brim", desc := "(LHatbandYard;II[J)I" } : Jvm.MethodName)) ∈ Wc := Wc_t 827 (by decide +kernel) (by decide +kernel)
theorem tw_828 : (Jvm.Cond.codeWith ({ cls := "HatbandYardLaw", name := "brim", desc := "(LHatbandYard;II[J)I" } : Jvm.MethodName) method_14_code (5 : Nat) (Option.some Jvm.ClassFile.FieldType.int) [((0 : Nat), (10 : Nat), (13 : Nat), (25 : Nat)), ((0 : Nat), (10 : Nat), (17 : Nat), (13 : Nat))]) ∈ Wc := Wc_t 828 (by decide +kernel) (by decide +kernel)
theorem tw_829 : (Jvm.Cond.methodLink "HatbandYardLaw" (54 : Nat) ({ cls := "HatbandYard", name := "brim", desc := "(II)I" } : Jvm.MethodName)) ∈ Wc := Wc_t 829 (by decide +kernel) (by decide +kernel)
theorem tw_830 : (Jvm.Cond.instanceMethod ({ cls := "HatbandYard", name := "brim", desc := "(II)I" } : Jvm.MethodName)) ∈ Wc := Wc_t 830 (by decide +kernel) (by decide +kernel)
theorem tw_831 : (Jvm.Cond.selects "HatbandYard" ({ cls := "HatbandYard", name := "brim", desc := "(II)I" } : Jvm.MethodName) ({ cls := "HatbandYard", name := "brim", desc := "(II)I" } : Jvm.MethodName)) ∈ Wc := Wc_t 831 (by decide +kernel) (by decide +kernel)
theorem tw_832 : (Jvm.Cond.code ({ cls := "HatbandYard", name := "brim", desc := "(II)I" } : Jvm.MethodName) prog_1_method_13_code (5 : Nat) (Option.some Jvm.ClassFile.FieldType.int)) ∈ Wc := Wc_t 832 (by decide +kernel) (by decide +kernel)
theorem tw_833 : (Jvm.Cond.constantFloat "HatbandYard" (198 : Nat) (1078530000 : UInt32)) ∈ Wc := Wc_t 833 (by decide +kernel) (by decide +kernel)
theorem tw_834 : (Jvm.Cond.methodLink "HatbandYard" (199 : Nat) ({ cls := "HatbandYard", name := "bitsOf", desc := "(F)I" } : Jvm.MethodName)) ∈ Wc := Wc_t 834 (by decide +kernel) (by decide +kernel)
theorem tw_835 : (Jvm.Cond.static ({ cls := "HatbandYard", name := "bitsOf", desc := "(F)I" } : Jvm.MethodName)) ∈ Wc := Wc_t 835 (by decide +kernel) (by decide +kernel)
theorem tw_836 : (Jvm.Cond.code ({ cls := "HatbandYard", name := "bitsOf", desc := "(F)I" } : Jvm.MethodName) prog_1_method_35_code (4 : Nat) (Option.some Jvm.ClassFile.FieldType.int)) ∈ Wc := Wc_t 836 (by decide +kernel) (by decide +kernel)
theorem tw_837 : (Jvm.Cond.constantFloat "HatbandYard" (284 : Nat) (1258291200 : UInt32)) ∈ Wc := Wc_t 837 (by decide +kernel) (by decide +kernel)
theorem tw_838 : (Jvm.Cond.methodLink "HatbandYardLaw" (132 : Nat) ({ cls := "HatbandYardLaw", name := "count", desc := "(LHatbandYard;I[J)I" } : Jvm.MethodName)) ∈ Wc := Wc_t 838 (by decide +kernel) (by decide +kernel)
theorem tw_839 : (Jvm.Cond.static ({ cls := "HatbandYardLaw", name := "count", desc := "(LHatbandYard;I[J)I" } : Jvm.MethodName)) ∈ Wc := Wc_t 839 (by decide +kernel) (by decide +kernel)
theorem tw_840 : (Jvm.Cond.codeWith ({ cls := "HatbandYardLaw", name := "count", desc := "(LHatbandYard;I[J)I" } : Jvm.MethodName) method_15_code (4 : Nat) (Option.some Jvm.ClassFile.FieldType.int) [((0 : Nat), (9 : Nat), (12 : Nat), (13 : Nat))]) ∈ Wc := Wc_t 840 (by decide +kernel) (by decide +kernel)
theorem tw_841 : (Jvm.Cond.methodLink "HatbandYardLaw" (57 : Nat) ({ cls := "HatbandYard", name := "count", desc := "(I)I" } : Jvm.MethodName)) ∈ Wc := Wc_t 841 (by decide +kernel) (by decide +kernel)
theorem tw_842 : (Jvm.Cond.instanceMethod ({ cls := "HatbandYard", name := "count", desc := "(I)I" } : Jvm.MethodName)) ∈ Wc := Wc_t 842 (by decide +kernel) (by decide +kernel)
theorem tw_843 : (Jvm.Cond.selects "HatbandYard" ({ cls := "HatbandYard", name := "count", desc := "(I)I" } : Jvm.MethodName) ({ cls := "HatbandYard", name := "count", desc := "(I)I" } : Jvm.MethodName)) ∈ Wc := Wc_t 843 (by decide +kernel) (by decide +kernel)
theorem tw_844 : (Jvm.Cond.code ({ cls := "HatbandYard", name := "count", desc := "(I)I" } : Jvm.MethodName) prog_1_method_14_code (3 : Nat) (Option.some Jvm.ClassFile.FieldType.int)) ∈ Wc := Wc_t 844 (by decide +kernel) (by decide +kernel)
theorem tw_845 : (Jvm.Cond.methodLink "HatbandYard" (203 : Nat) ({ cls := "HatbandYard", name := "typedSpiral", desc := "()LHatbandYard$Spiral;" } : Jvm.MethodName)) ∈ Wc := Wc_t 845 (by decide +kernel) (by decide +kernel)
theorem tw_847 : (Jvm.Cond.instanceMethod ({ cls := "HatbandYard", name := "typedSpiral", desc := "()LHatbandYard$Spiral;" } : Jvm.MethodName)) ∈ Wc := Wc_t 847 (by decide +kernel) (by decide +kernel)
theorem tw_848 : (Jvm.Cond.code ({ cls := "HatbandYard", name := "typedSpiral", desc := "()LHatbandYard$Spiral;" } : Jvm.MethodName) prog_1_method_31_code (5 : Nat) (Option.some (Jvm.ClassFile.FieldType.object "HatbandYard$Spiral"))) ∈ Wc := Wc_t 848 (by decide +kernel) (by decide +kernel)
theorem tw_849 : (Jvm.Cond.fieldLink "HatbandYard" (268 : Nat) "HatbandYard" "SPIRALS" "[LHatbandYard$Spiral;") ∈ Wc := Wc_t 849 (by decide +kernel) (by decide +kernel)
theorem tw_853 : (Jvm.Cond.instanceMethod ({ cls := "HatbandYard$Spiral", name := "stitchesRowByRow", desc := "(I)I" } : Jvm.MethodName)) ∈ Wc := Wc_t 853 (by decide +kernel) (by decide +kernel)
theorem tw_854 : (Jvm.Cond.instantiable "HatbandYard$Spiral" (6 : Nat)) ∈ Wc := Wc_t 854 (by decide +kernel) (by decide +kernel)
theorem tw_855 : (Jvm.Cond.code ({ cls := "HatbandYard$Spiral", name := "stitchesRowByRow", desc := "(I)I" } : Jvm.MethodName) prog_9_method_5_code (5 : Nat) (Option.some Jvm.ClassFile.FieldType.int)) ∈ Wc := Wc_t 855 (by decide +kernel) (by decide +kernel)
theorem tw_856 : (Jvm.Cond.methodLink "HatbandYard$Spiral" (55 : Nat) ({ cls := "HatbandYard$Spiral", name := "gainOf", desc := "(I)I" } : Jvm.MethodName)) ∈ Wc := Wc_t 856 (by decide +kernel) (by decide +kernel)
theorem tw_858 : (Jvm.Cond.instanceMethod ({ cls := "HatbandYard$Spiral", name := "gainOf", desc := "(I)I" } : Jvm.MethodName)) ∈ Wc := Wc_t 858 (by decide +kernel) (by decide +kernel)
theorem tw_859 : (Jvm.Cond.code ({ cls := "HatbandYard$Spiral", name := "gainOf", desc := "(I)I" } : Jvm.MethodName) prog_9_method_4_code (2 : Nat) (Option.some Jvm.ClassFile.FieldType.int)) ∈ Wc := Wc_t 859 (by decide +kernel) (by decide +kernel)
theorem tw_860 : (Jvm.Cond.methodLink "HatbandYard$Spiral" (49 : Nat) ({ cls := "java/lang/Math", name := "max", desc := "(II)I" } : Jvm.MethodName)) ∈ Wc := Wc_t 860 (by decide +kernel) (by decide +kernel)
theorem tw_861 : (Jvm.Cond.methodLink "HatbandYardLaw" (135 : Nat) ({ cls := "HatbandYardLaw", name := "countAnew", desc := "(LHatbandYard;I[J)I" } : Jvm.MethodName)) ∈ Wc := Wc_t 861 (by decide +kernel) (by decide +kernel)
theorem tw_862 : (Jvm.Cond.static ({ cls := "HatbandYardLaw", name := "countAnew", desc := "(LHatbandYard;I[J)I" } : Jvm.MethodName)) ∈ Wc := Wc_t 862 (by decide +kernel) (by decide +kernel)
theorem tw_863 : (Jvm.Cond.codeWith ({ cls := "HatbandYardLaw", name := "countAnew", desc := "(LHatbandYard;I[J)I" } : Jvm.MethodName) method_16_code (4 : Nat) (Option.some Jvm.ClassFile.FieldType.int) [((0 : Nat), (9 : Nat), (12 : Nat), (13 : Nat))]) ∈ Wc := Wc_t 863 (by decide +kernel) (by decide +kernel)
theorem tw_864 : (Jvm.Cond.methodLink "HatbandYardLaw" (60 : Nat) ({ cls := "HatbandYard", name := "countAnew", desc := "(I)I" } : Jvm.MethodName)) ∈ Wc := Wc_t 864 (by decide +kernel) (by decide +kernel)
theorem tw_865 : (Jvm.Cond.instanceMethod ({ cls := "HatbandYard", name := "countAnew", desc := "(I)I" } : Jvm.MethodName)) ∈ Wc := Wc_t 865 (by decide +kernel) (by decide +kernel)
theorem tw_866 : (Jvm.Cond.selects "HatbandYard" ({ cls := "HatbandYard", name := "countAnew", desc := "(I)I" } : Jvm.MethodName) ({ cls := "HatbandYard", name := "countAnew", desc := "(I)I" } : Jvm.MethodName)) ∈ Wc := Wc_t 866 (by decide +kernel) (by decide +kernel)
theorem tw_867 : (Jvm.Cond.code ({ cls := "HatbandYard", name := "countAnew", desc := "(I)I" } : Jvm.MethodName) prog_1_method_15_code (3 : Nat) (Option.some Jvm.ClassFile.FieldType.int)) ∈ Wc := Wc_t 867 (by decide +kernel) (by decide +kernel)
theorem tw_870 : (Jvm.Cond.instanceMethod ({ cls := "HatbandYard$Spiral", name := "stitchesAtOnce", desc := "(I)I" } : Jvm.MethodName)) ∈ Wc := Wc_t 870 (by decide +kernel) (by decide +kernel)
theorem tw_871 : (Jvm.Cond.code ({ cls := "HatbandYard$Spiral", name := "stitchesAtOnce", desc := "(I)I" } : Jvm.MethodName) prog_9_method_6_code (4 : Nat) (Option.some Jvm.ClassFile.FieldType.int)) ∈ Wc := Wc_t 871 (by decide +kernel) (by decide +kernel)
theorem tw_872 : (Jvm.Cond.methodLink "HatbandYard$Spiral" (59 : Nat) ({ cls := "HatbandYard$Spiral", name := "addedByOneEach", desc := "(II)I" } : Jvm.MethodName)) ∈ Wc := Wc_t 872 (by decide +kernel) (by decide +kernel)
theorem tw_873 : (Jvm.Cond.static ({ cls := "HatbandYard$Spiral", name := "addedByOneEach", desc := "(II)I" } : Jvm.MethodName)) ∈ Wc := Wc_t 873 (by decide +kernel) (by decide +kernel)
theorem tw_874 : (Jvm.Cond.code ({ cls := "HatbandYard$Spiral", name := "addedByOneEach", desc := "(II)I" } : Jvm.MethodName) prog_9_method_7_code (2 : Nat) (Option.some Jvm.ClassFile.FieldType.int)) ∈ Wc := Wc_t 874 (by decide +kernel) (by decide +kernel)
theorem tw_875 : (Jvm.Cond.methodLink "HatbandYard$Spiral" (62 : Nat) ({ cls := "java/lang/Math", name := "min", desc := "(II)I" } : Jvm.MethodName)) ∈ Wc := Wc_t 875 (by decide +kernel) (by decide +kernel)
theorem tw_876 : (Jvm.Cond.methodLink "HatbandYardLaw" (138 : Nat) ({ cls := "HatbandYardLaw", name := "rows", desc := "(LHatbandYard;I[J)I" } : Jvm.MethodName)) ∈ Wc := Wc_t 876 (by decide +kernel) (by decide +kernel)
theorem tw_877 : (Jvm.Cond.static ({ cls := "HatbandYardLaw", name := "rows", desc := "(LHatbandYard;I[J)I" } : Jvm.MethodName)) ∈ Wc := Wc_t 877 (by decide +kernel) (by decide +kernel)
theorem tw_878 : (Jvm.Cond.codeWith ({ cls := "HatbandYardLaw", name := "rows", desc := "(LHatbandYard;I[J)I" } : Jvm.MethodName) method_17_code (4 : Nat) (Option.some Jvm.ClassFile.FieldType.int) [((0 : Nat), (9 : Nat), (12 : Nat), (13 : Nat))]) ∈ Wc := Wc_t 878 (by decide +kernel) (by decide +kernel)
theorem tw_879 : (Jvm.Cond.methodLink "HatbandYardLaw" (63 : Nat) ({ cls := "HatbandYard", name := "rows", desc := "(I)I" } : Jvm.MethodName)) ∈ Wc := Wc_t 879 (by decide +kernel) (by decide +kernel)
theorem tw_880 : (Jvm.Cond.instanceMethod ({ cls := "HatbandYard", name := "rows", desc := "(I)I" } : Jvm.MethodName)) ∈ Wc := Wc_t 880 (by decide +kernel) (by decide +kernel)
theorem tw_881 : (Jvm.Cond.selects "HatbandYard" ({ cls := "HatbandYard", name := "rows", desc := "(I)I" } : Jvm.MethodName) ({ cls := "HatbandYard", name := "rows", desc := "(I)I" } : Jvm.MethodName)) ∈ Wc := Wc_t 881 (by decide +kernel) (by decide +kernel)
theorem tw_882 : (Jvm.Cond.code ({ cls := "HatbandYard", name := "rows", desc := "(I)I" } : Jvm.MethodName) prog_1_method_16_code (3 : Nat) (Option.some Jvm.ClassFile.FieldType.int)) ∈ Wc := Wc_t 882 (by decide +kernel) (by decide +kernel)
theorem tw_885 : (Jvm.Cond.instanceMethod ({ cls := "HatbandYard$Spiral", name := "rowsToClose", desc := "(I)I" } : Jvm.MethodName)) ∈ Wc := Wc_t 885 (by decide +kernel) (by decide +kernel)
theorem tw_886 : (Jvm.Cond.code ({ cls := "HatbandYard$Spiral", name := "rowsToClose", desc := "(I)I" } : Jvm.MethodName) prog_9_method_8_code (4 : Nat) (Option.some Jvm.ClassFile.FieldType.int)) ∈ Wc := Wc_t 886 (by decide +kernel) (by decide +kernel)
theorem tw_887 : (Jvm.Cond.methodLink "HatbandYardLaw" (141 : Nat) ({ cls := "HatbandYardLaw", name := "measure", desc := "(LHatbandYard;II[J)I" } : Jvm.MethodName)) ∈ Wc := Wc_t 887 (by decide +kernel) (by decide +kernel)
theorem tw_888 : (Jvm.Cond.static ({ cls := "HatbandYardLaw", name := "measure", desc := "(LHatbandYard;II[J)I" } : Jvm.MethodName)) ∈ Wc := Wc_t 888 (by decide +kernel) (by decide +kernel)
theorem tw_889 : (Jvm.Cond.codeWith ({ cls := "HatbandYardLaw", name := "measure", desc := "(LHatbandYard;II[J)I" } : Jvm.MethodName) method_18_code (5 : Nat) (Option.some Jvm.ClassFile.FieldType.int) [((0 : Nat), (10 : Nat), (13 : Nat), (25 : Nat)), ((0 : Nat), (10 : Nat), (17 : Nat), (13 : Nat))]) ∈ Wc := Wc_t 889 (by decide +kernel) (by decide +kernel)
theorem tw_890 : (Jvm.Cond.methodLink "HatbandYardLaw" (66 : Nat) ({ cls := "HatbandYard", name := "measure", desc := "(II)I" } : Jvm.MethodName)) ∈ Wc := Wc_t 890 (by decide +kernel) (by decide +kernel)
theorem tw_891 : (Jvm.Cond.instanceMethod ({ cls := "HatbandYard", name := "measure", desc := "(II)I" } : Jvm.MethodName)) ∈ Wc := Wc_t 891 (by decide +kernel) (by decide +kernel)
theorem tw_892 : (Jvm.Cond.selects "HatbandYard" ({ cls := "HatbandYard", name := "measure", desc := "(II)I" } : Jvm.MethodName) ({ cls := "HatbandYard", name := "measure", desc := "(II)I" } : Jvm.MethodName)) ∈ Wc := Wc_t 892 (by decide +kernel) (by decide +kernel)
theorem tw_893 : (Jvm.Cond.code ({ cls := "HatbandYard", name := "measure", desc := "(II)I" } : Jvm.MethodName) prog_1_method_17_code (3 : Nat) (Option.some Jvm.ClassFile.FieldType.int)) ∈ Wc := Wc_t 893 (by decide +kernel) (by decide +kernel)
theorem tw_896 : (Jvm.Cond.instanceMethod ({ cls := "HatbandYard$Head", name := "setRadius", desc := "(II)V" } : Jvm.MethodName)) ∈ Wc := Wc_t 896 (by decide +kernel) (by decide +kernel)
theorem tw_897 : (Jvm.Cond.code ({ cls := "HatbandYard$Head", name := "setRadius", desc := "(II)V" } : Jvm.MethodName) prog_7_method_2_code (3 : Nat) (Option.none : Option Jvm.ClassFile.FieldType)) ∈ Wc := Wc_t 897 (by decide +kernel) (by decide +kernel)
theorem tw_900 : (Jvm.Cond.instanceMethod ({ cls := "HatbandYard$Head", name := "around", desc := "()I" } : Jvm.MethodName)) ∈ Wc := Wc_t 900 (by decide +kernel) (by decide +kernel)
theorem tw_901 : (Jvm.Cond.code ({ cls := "HatbandYard$Head", name := "around", desc := "()I" } : Jvm.MethodName) prog_7_method_3_code (6 : Nat) (Option.some Jvm.ClassFile.FieldType.int)) ∈ Wc := Wc_t 901 (by decide +kernel) (by decide +kernel)
theorem tw_902 : (Jvm.Cond.methodLink "HatbandYardLaw" (144 : Nat) ({ cls := "HatbandYardLaw", name := "fits", desc := "(LHatbandYard;I[J)I" } : Jvm.MethodName)) ∈ Wc := Wc_t 902 (by decide +kernel) (by decide +kernel)
theorem tw_903 : (Jvm.Cond.static ({ cls := "HatbandYardLaw", name := "fits", desc := "(LHatbandYard;I[J)I" } : Jvm.MethodName)) ∈ Wc := Wc_t 903 (by decide +kernel) (by decide +kernel)
theorem tw_904 : (Jvm.Cond.codeWith ({ cls := "HatbandYardLaw", name := "fits", desc := "(LHatbandYard;I[J)I" } : Jvm.MethodName) method_19_code (4 : Nat) (Option.some Jvm.ClassFile.FieldType.int) [((0 : Nat), (16 : Nat), (19 : Nat), (25 : Nat))]) ∈ Wc := Wc_t 904 (by decide +kernel) (by decide +kernel)
theorem tw_905 : (Jvm.Cond.methodLink "HatbandYardLaw" (69 : Nat) ({ cls := "HatbandYard", name := "fits", desc := "(I)Z" } : Jvm.MethodName)) ∈ Wc := Wc_t 905 (by decide +kernel) (by decide +kernel)
theorem tw_906 : (Jvm.Cond.instanceMethod ({ cls := "HatbandYard", name := "fits", desc := "(I)Z" } : Jvm.MethodName)) ∈ Wc := Wc_t 906 (by decide +kernel) (by decide +kernel)
theorem tw_907 : (Jvm.Cond.selects "HatbandYard" ({ cls := "HatbandYard", name := "fits", desc := "(I)Z" } : Jvm.MethodName) ({ cls := "HatbandYard", name := "fits", desc := "(I)Z" } : Jvm.MethodName)) ∈ Wc := Wc_t 907 (by decide +kernel) (by decide +kernel)
theorem tw_908 : (Jvm.Cond.code ({ cls := "HatbandYard", name := "fits", desc := "(I)Z" } : Jvm.MethodName) prog_1_method_18_code (3 : Nat) (Option.some Jvm.ClassFile.FieldType.boolean)) ∈ Wc := Wc_t 908 (by decide +kernel) (by decide +kernel)
theorem tw_909 : (Jvm.Cond.methodLink "HatbandYardLaw" (147 : Nat) ({ cls := "HatbandYardLaw", name := "size", desc := "(LHatbandYard;I[J)I" } : Jvm.MethodName)) ∈ Wc := Wc_t 909 (by decide +kernel) (by decide +kernel)
theorem tw_910 : (Jvm.Cond.static ({ cls := "HatbandYardLaw", name := "size", desc := "(LHatbandYard;I[J)I" } : Jvm.MethodName)) ∈ Wc := Wc_t 910 (by decide +kernel) (by decide +kernel)
theorem tw_911 : (Jvm.Cond.codeWith ({ cls := "HatbandYardLaw", name := "size", desc := "(LHatbandYard;I[J)I" } : Jvm.MethodName) method_20_code (4 : Nat) (Option.some Jvm.ClassFile.FieldType.int) [((0 : Nat), (9 : Nat), (12 : Nat), (25 : Nat))]) ∈ Wc := Wc_t 911 (by decide +kernel) (by decide +kernel)
theorem tw_912 : (Jvm.Cond.methodLink "HatbandYardLaw" (72 : Nat) ({ cls := "HatbandYard", name := "size", desc := "(I)I" } : Jvm.MethodName)) ∈ Wc := Wc_t 912 (by decide +kernel) (by decide +kernel)
theorem tw_913 : (Jvm.Cond.instanceMethod ({ cls := "HatbandYard", name := "size", desc := "(I)I" } : Jvm.MethodName)) ∈ Wc := Wc_t 913 (by decide +kernel) (by decide +kernel)
theorem tw_914 : (Jvm.Cond.selects "HatbandYard" ({ cls := "HatbandYard", name := "size", desc := "(I)I" } : Jvm.MethodName) ({ cls := "HatbandYard", name := "size", desc := "(I)I" } : Jvm.MethodName)) ∈ Wc := Wc_t 914 (by decide +kernel) (by decide +kernel)
theorem tw_915 : (Jvm.Cond.code ({ cls := "HatbandYard", name := "size", desc := "(I)I" } : Jvm.MethodName) prog_1_method_19_code (2 : Nat) (Option.some Jvm.ClassFile.FieldType.int)) ∈ Wc := Wc_t 915 (by decide +kernel) (by decide +kernel)
theorem tw_918 : (Jvm.Cond.instanceMethod ({ cls := "HatbandYard$Head", name := "sizeIn", desc := "(I)F" } : Jvm.MethodName)) ∈ Wc := Wc_t 918 (by decide +kernel) (by decide +kernel)
theorem tw_919 : (Jvm.Cond.code ({ cls := "HatbandYard$Head", name := "sizeIn", desc := "(I)F" } : Jvm.MethodName) prog_7_method_4_code (3 : Nat) (Option.some Jvm.ClassFile.FieldType.float)) ∈ Wc := Wc_t 919 (by decide +kernel) (by decide +kernel)
theorem tw_920 : (Jvm.Cond.methodLink "HatbandYard$Head" (15 : Nat) ({ cls := "HatbandYard$Head", name := "around", desc := "()I" } : Jvm.MethodName)) ∈ Wc := Wc_t 920 (by decide +kernel) (by decide +kernel)
theorem tw_921 : (Jvm.Cond.constantFloat "HatbandYard$Head" (19 : Nat) (1092616192 : UInt32)) ∈ Wc := Wc_t 921 (by decide +kernel) (by decide +kernel)
theorem tw_922 : (Jvm.Cond.constantFloat "HatbandYard$Head" (20 : Nat) (1117755277 : UInt32)) ∈ Wc := Wc_t 922 (by decide +kernel) (by decide +kernel)
theorem tw_923 : (Jvm.Cond.constantFloat "HatbandYard$Head" (21 : Nat) (1040187392 : UInt32)) ∈ Wc := Wc_t 923 (by decide +kernel) (by decide +kernel)
theorem tw_924 : (Jvm.Cond.constantFloat "HatbandYard$Head" (22 : Nat) (1087939543 : UInt32)) ∈ Wc := Wc_t 924 (by decide +kernel) (by decide +kernel)
theorem tw_925 : (Jvm.Cond.methodLink "HatbandYardLaw" (150 : Nat) ({ cls := "HatbandYardLaw", name := "air", desc := "(LHatbandYard;IZ[J)I" } : Jvm.MethodName)) ∈ Wc := Wc_t 925 (by decide +kernel) (by decide +kernel)
theorem tw_926 : (Jvm.Cond.static ({ cls := "HatbandYardLaw", name := "air", desc := "(LHatbandYard;IZ[J)I" } : Jvm.MethodName)) ∈ Wc := Wc_t 926 (by decide +kernel) (by decide +kernel)
theorem tw_927 : (Jvm.Cond.codeWith ({ cls := "HatbandYardLaw", name := "air", desc := "(LHatbandYard;IZ[J)I" } : Jvm.MethodName) method_21_code (5 : Nat) (Option.some Jvm.ClassFile.FieldType.int) [((0 : Nat), (10 : Nat), (13 : Nat), (25 : Nat))]) ∈ Wc := Wc_t 927 (by decide +kernel) (by decide +kernel)
theorem tw_928 : (Jvm.Cond.methodLink "HatbandYardLaw" (75 : Nat) ({ cls := "HatbandYard", name := "air", desc := "(IZ)I" } : Jvm.MethodName)) ∈ Wc := Wc_t 928 (by decide +kernel) (by decide +kernel)
theorem tw_929 : (Jvm.Cond.instanceMethod ({ cls := "HatbandYard", name := "air", desc := "(IZ)I" } : Jvm.MethodName)) ∈ Wc := Wc_t 929 (by decide +kernel) (by decide +kernel)
theorem tw_930 : (Jvm.Cond.selects "HatbandYard" ({ cls := "HatbandYard", name := "air", desc := "(IZ)I" } : Jvm.MethodName) ({ cls := "HatbandYard", name := "air", desc := "(IZ)I" } : Jvm.MethodName)) ∈ Wc := Wc_t 930 (by decide +kernel) (by decide +kernel)
theorem tw_931 : (Jvm.Cond.code ({ cls := "HatbandYard", name := "air", desc := "(IZ)I" } : Jvm.MethodName) prog_1_method_20_code (4 : Nat) (Option.some Jvm.ClassFile.FieldType.int)) ∈ Wc := Wc_t 931 (by decide +kernel) (by decide +kernel)
theorem tw_932 : (Jvm.Cond.methodLink "HatbandYardLaw" (154 : Nat) ({ cls := "HatbandYardLaw", name := "grams", desc := "(LHatbandYard;I[J)I" } : Jvm.MethodName)) ∈ Wc := Wc_t 932 (by decide +kernel) (by decide +kernel)
theorem tw_933 : (Jvm.Cond.static ({ cls := "HatbandYardLaw", name := "grams", desc := "(LHatbandYard;I[J)I" } : Jvm.MethodName)) ∈ Wc := Wc_t 933 (by decide +kernel) (by decide +kernel)
theorem tw_934 : (Jvm.Cond.codeWith ({ cls := "HatbandYardLaw", name := "grams", desc := "(LHatbandYard;I[J)I" } : Jvm.MethodName) method_22_code (4 : Nat) (Option.some Jvm.ClassFile.FieldType.int) [((0 : Nat), (9 : Nat), (12 : Nat), (25 : Nat))]) ∈ Wc := Wc_t 934 (by decide +kernel) (by decide +kernel)
theorem tw_935 : (Jvm.Cond.methodLink "HatbandYardLaw" (79 : Nat) ({ cls := "HatbandYard", name := "grams", desc := "(I)I" } : Jvm.MethodName)) ∈ Wc := Wc_t 935 (by decide +kernel) (by decide +kernel)
theorem tw_936 : (Jvm.Cond.instanceMethod ({ cls := "HatbandYard", name := "grams", desc := "(I)I" } : Jvm.MethodName)) ∈ Wc := Wc_t 936 (by decide +kernel) (by decide +kernel)
theorem tw_937 : (Jvm.Cond.selects "HatbandYard" ({ cls := "HatbandYard", name := "grams", desc := "(I)I" } : Jvm.MethodName) ({ cls := "HatbandYard", name := "grams", desc := "(I)I" } : Jvm.MethodName)) ∈ Wc := Wc_t 937 (by decide +kernel) (by decide +kernel)
theorem tw_938 : (Jvm.Cond.code ({ cls := "HatbandYard", name := "grams", desc := "(I)I" } : Jvm.MethodName) prog_1_method_21_code (2 : Nat) (Option.some Jvm.ClassFile.FieldType.int)) ∈ Wc := Wc_t 938 (by decide +kernel) (by decide +kernel)
theorem tw_939 : (Jvm.Cond.classLink "HatbandYardLaw" (83 : Nat) "HatbandYardModel") ∈ Wc := Wc_t 939 (by decide +kernel) (by decide +kernel)
theorem tw_940 : (Jvm.Cond.instantiable "HatbandYardModel" (22 : Nat)) ∈ Wc := Wc_t 940 (by decide +kernel) (by decide +kernel)
theorem tw_941 : (Jvm.Cond.methodLink "HatbandYardLaw" (85 : Nat) ({ cls := "HatbandYardModel", name := "<init>", desc := "()V" } : Jvm.MethodName)) ∈ Wc := Wc_t 941 (by decide +kernel) (by decide +kernel)
theorem tw_942 : (Jvm.Cond.instanceMethod ({ cls := "HatbandYardModel", name := "<init>", desc := "()V" } : Jvm.MethodName)) ∈ Wc := Wc_t 942 (by decide +kernel) (by decide +kernel)
theorem tw_943 : (Jvm.Cond.code ({ cls := "HatbandYardModel", name := "<init>", desc := "()V" } : Jvm.MethodName) prog_11_method_1_code (1 : Nat) (Option.none : Option Jvm.ClassFile.FieldType)) ∈ Wc := Wc_t 943 (by decide +kernel) (by decide +kernel)
theorem tw_944 : (Jvm.Cond.methodLink "HatbandYardModel" (1 : Nat) ({ cls := "java/lang/Object", name := "<init>", desc := "()V" } : Jvm.MethodName)) ∈ Wc := Wc_t 944 (by decide +kernel) (by decide +kernel)
theorem tw_945 : (Jvm.Cond.fieldLink "HatbandYardModel" (71 : Nat) "HatbandYardModel" "letters" "I") ∈ Wc := Wc_t 945 (by decide +kernel) (by decide +kernel)
theorem tw_946 : (Jvm.Cond.fieldLink "HatbandYardModel" (79 : Nat) "HatbandYardModel" "typed" "J") ∈ Wc := Wc_t 946 (by decide +kernel) (by decide +kernel)
theorem tw_947 : (Jvm.Cond.fieldLink "HatbandYardModel" (90 : Nat) "HatbandYardModel" "lots" "I") ∈ Wc := Wc_t 947 (by decide +kernel) (by decide +kernel)
theorem tw_948 : (Jvm.Cond.fieldLink "HatbandYardModel" (7 : Nat) "HatbandYardModel" "furs" "[I") ∈ Wc := Wc_t 948 (by decide +kernel) (by decide +kernel)
theorem tw_949 : (Jvm.Cond.fieldLink "HatbandYardModel" (13 : Nat) "HatbandYardModel" "grams" "[I") ∈ Wc := Wc_t 949 (by decide +kernel) (by decide +kernel)
theorem tw_950 : (Jvm.Cond.fieldLink "HatbandYardModel" (60 : Nat) "HatbandYardModel" "cones" "I") ∈ Wc := Wc_t 950 (by decide +kernel) (by decide +kernel)
theorem tw_951 : (Jvm.Cond.fieldLink "HatbandYardModel" (16 : Nat) "HatbandYardModel" "coneFur" "[I") ∈ Wc := Wc_t 951 (by decide +kernel) (by decide +kernel)
theorem tw_952 : (Jvm.Cond.fieldLink "HatbandYardModel" (19 : Nat) "HatbandYardModel" "widths" "[I") ∈ Wc := Wc_t 952 (by decide +kernel) (by decide +kernel)
theorem tw_953 : (Jvm.Cond.fieldLink "HatbandYardModel" (22 : Nat) "HatbandYardModel" "heights" "[I") ∈ Wc := Wc_t 953 (by decide +kernel) (by decide +kernel)
theorem tw_954 : (Jvm.Cond.fieldLink "HatbandYardModel" (25 : Nat) "HatbandYardModel" "felt" "[I") ∈ Wc := Wc_t 954 (by decide +kernel) (by decide +kernel)
theorem tw_955 : (Jvm.Cond.fieldLink "HatbandYardModel" (28 : Nat) "HatbandYardModel" "cycles" "[I") ∈ Wc := Wc_t 955 (by decide +kernel) (by decide +kernel)
theorem tw_956 : (Jvm.Cond.fieldLink "HatbandYardModel" (31 : Nat) "HatbandYardModel" "isDrawn" "[Z") ∈ Wc := Wc_t 956 (by decide +kernel) (by decide +kernel)
theorem tw_957 : (Jvm.Cond.fieldLink "HatbandYardModel" (35 : Nat) "HatbandYardModel" "isTrimmed" "[Z") ∈ Wc := Wc_t 957 (by decide +kernel) (by decide +kernel)
theorem tw_958 : (Jvm.Cond.fieldLink "HatbandYardModel" (118 : Nat) "HatbandYardModel" "blocks" "I") ∈ Wc := Wc_t 958 (by decide +kernel) (by decide +kernel)
theorem tw_959 : (Jvm.Cond.fieldLink "HatbandYardModel" (38 : Nat) "HatbandYardModel" "sizes" "[I") ∈ Wc := Wc_t 959 (by decide +kernel) (by decide +kernel)
theorem tw_960 : (Jvm.Cond.fieldLink "HatbandYardModel" (41 : Nat) "HatbandYardModel" "depths" "[I") ∈ Wc := Wc_t 960 (by decide +kernel) (by decide +kernel)
theorem tw_961 : (Jvm.Cond.fieldLink "HatbandYardModel" (100 : Nat) "HatbandYardModel" "hands" "I") ∈ Wc := Wc_t 961 (by decide +kernel) (by decide +kernel)
theorem tw_962 : (Jvm.Cond.fieldLink "HatbandYardModel" (44 : Nat) "HatbandYardModel" "airToday" "[I") ∈ Wc := Wc_t 962 (by decide +kernel) (by decide +kernel)
theorem tw_963 : (Jvm.Cond.fieldLink "HatbandYardModel" (47 : Nat) "HatbandYardModel" "airEver" "[I") ∈ Wc := Wc_t 963 (by decide +kernel) (by decide +kernel)
theorem tw_964 : (Jvm.Cond.fieldLink "HatbandYardModel" (50 : Nat) "HatbandYardModel" "radii" "[I") ∈ Wc := Wc_t 964 (by decide +kernel) (by decide +kernel)
theorem tw_965 : (Jvm.Cond.fieldLink "HatbandYardModel" (53 : Nat) "HatbandYardModel" "days" "I") ∈ Wc := Wc_t 965 (by decide +kernel) (by decide +kernel)
theorem tw_966 : (Jvm.Cond.fieldLink "HatbandYardModel" (57 : Nat) "HatbandYardModel" "thrown" "I") ∈ Wc := Wc_t 966 (by decide +kernel) (by decide +kernel)
theorem tw_967 : (Jvm.Cond.lays "HatbandYardModel" "HatbandYardModel" "letters" "I") ∈ Wc := Wc_t 967 (by decide +kernel) (by decide +kernel)
theorem tw_968 : (Jvm.Cond.soleField "HatbandYardModel" "letters") ∈ Wc := Wc_t 968 (by decide +kernel) (by decide +kernel)
theorem tw_969 : (Jvm.Cond.lays "HatbandYardModel" "HatbandYardModel" "typed" "J") ∈ Wc := Wc_t 969 (by decide +kernel) (by decide +kernel)
theorem tw_970 : (Jvm.Cond.soleField "HatbandYardModel" "typed") ∈ Wc := Wc_t 970 (by decide +kernel) (by decide +kernel)
theorem tw_971 : (Jvm.Cond.lays "HatbandYardModel" "HatbandYardModel" "lots" "I") ∈ Wc := Wc_t 971 (by decide +kernel) (by decide +kernel)
theorem tw_972 : (Jvm.Cond.soleField "HatbandYardModel" "lots") ∈ Wc := Wc_t 972 (by decide +kernel) (by decide +kernel)
theorem tw_973 : (Jvm.Cond.laysFinal "HatbandYardModel" "HatbandYardModel" "furs" "[I") ∈ Wc := Wc_t 973 (by decide +kernel) (by decide +kernel)
theorem tw_974 : (Jvm.Cond.soleField "HatbandYardModel" "furs") ∈ Wc := Wc_t 974 (by decide +kernel) (by decide +kernel)
theorem tw_975 : (Jvm.Cond.laysFinal "HatbandYardModel" "HatbandYardModel" "grams" "[I") ∈ Wc := Wc_t 975 (by decide +kernel) (by decide +kernel)
theorem tw_976 : (Jvm.Cond.soleField "HatbandYardModel" "grams") ∈ Wc := Wc_t 976 (by decide +kernel) (by decide +kernel)
theorem tw_977 : (Jvm.Cond.lays "HatbandYardModel" "HatbandYardModel" "cones" "I") ∈ Wc := Wc_t 977 (by decide +kernel) (by decide +kernel)
theorem tw_978 : (Jvm.Cond.soleField "HatbandYardModel" "cones") ∈ Wc := Wc_t 978 (by decide +kernel) (by decide +kernel)
theorem tw_979 : (Jvm.Cond.laysFinal "HatbandYardModel" "HatbandYardModel" "coneFur" "[I") ∈ Wc := Wc_t 979 (by decide +kernel) (by decide +kernel)
theorem tw_980 : (Jvm.Cond.soleField "HatbandYardModel" "coneFur") ∈ Wc := Wc_t 980 (by decide +kernel) (by decide +kernel)
theorem tw_981 : (Jvm.Cond.laysFinal "HatbandYardModel" "HatbandYardModel" "widths" "[I") ∈ Wc := Wc_t 981 (by decide +kernel) (by decide +kernel)
theorem tw_982 : (Jvm.Cond.soleField "HatbandYardModel" "widths") ∈ Wc := Wc_t 982 (by decide +kernel) (by decide +kernel)
theorem tw_983 : (Jvm.Cond.laysFinal "HatbandYardModel" "HatbandYardModel" "heights" "[I") ∈ Wc := Wc_t 983 (by decide +kernel) (by decide +kernel)
theorem tw_984 : (Jvm.Cond.soleField "HatbandYardModel" "heights") ∈ Wc := Wc_t 984 (by decide +kernel) (by decide +kernel)
theorem tw_985 : (Jvm.Cond.laysFinal "HatbandYardModel" "HatbandYardModel" "felt" "[I") ∈ Wc := Wc_t 985 (by decide +kernel) (by decide +kernel)
theorem tw_986 : (Jvm.Cond.soleField "HatbandYardModel" "felt") ∈ Wc := Wc_t 986 (by decide +kernel) (by decide +kernel)
theorem tw_987 : (Jvm.Cond.laysFinal "HatbandYardModel" "HatbandYardModel" "cycles" "[I") ∈ Wc := Wc_t 987 (by decide +kernel) (by decide +kernel)
theorem tw_988 : (Jvm.Cond.soleField "HatbandYardModel" "cycles") ∈ Wc := Wc_t 988 (by decide +kernel) (by decide +kernel)
theorem tw_989 : (Jvm.Cond.laysFinal "HatbandYardModel" "HatbandYardModel" "isDrawn" "[Z") ∈ Wc := Wc_t 989 (by decide +kernel) (by decide +kernel)
theorem tw_990 : (Jvm.Cond.soleField "HatbandYardModel" "isDrawn") ∈ Wc := Wc_t 990 (by decide +kernel) (by decide +kernel)
theorem tw_991 : (Jvm.Cond.laysFinal "HatbandYardModel" "HatbandYardModel" "isTrimmed" "[Z") ∈ Wc := Wc_t 991 (by decide +kernel) (by decide +kernel)
theorem tw_992 : (Jvm.Cond.soleField "HatbandYardModel" "isTrimmed") ∈ Wc := Wc_t 992 (by decide +kernel) (by decide +kernel)
theorem tw_993 : (Jvm.Cond.lays "HatbandYardModel" "HatbandYardModel" "blocks" "I") ∈ Wc := Wc_t 993 (by decide +kernel) (by decide +kernel)
theorem tw_994 : (Jvm.Cond.soleField "HatbandYardModel" "blocks") ∈ Wc := Wc_t 994 (by decide +kernel) (by decide +kernel)
theorem tw_995 : (Jvm.Cond.laysFinal "HatbandYardModel" "HatbandYardModel" "sizes" "[I") ∈ Wc := Wc_t 995 (by decide +kernel) (by decide +kernel)
theorem tw_996 : (Jvm.Cond.soleField "HatbandYardModel" "sizes") ∈ Wc := Wc_t 996 (by decide +kernel) (by decide +kernel)
theorem tw_997 : (Jvm.Cond.laysFinal "HatbandYardModel" "HatbandYardModel" "depths" "[I") ∈ Wc := Wc_t 997 (by decide +kernel) (by decide +kernel)
theorem tw_998 : (Jvm.Cond.soleField "HatbandYardModel" "depths") ∈ Wc := Wc_t 998 (by decide +kernel) (by decide +kernel)
theorem tw_999 : (Jvm.Cond.lays "HatbandYardModel" "HatbandYardModel" "hands" "I") ∈ Wc := Wc_t 999 (by decide +kernel) (by decide +kernel)
theorem tw_1000 : (Jvm.Cond.soleField "HatbandYardModel" "hands") ∈ Wc := Wc_t 1000 (by decide +kernel) (by decide +kernel)
theorem tw_1001 : (Jvm.Cond.laysFinal "HatbandYardModel" "HatbandYardModel" "airToday" "[I") ∈ Wc := Wc_t 1001 (by decide +kernel) (by decide +kernel)
theorem tw_1002 : (Jvm.Cond.soleField "HatbandYardModel" "airToday") ∈ Wc := Wc_t 1002 (by decide +kernel) (by decide +kernel)
theorem tw_1003 : (Jvm.Cond.laysFinal "HatbandYardModel" "HatbandYardModel" "airEver" "[I") ∈ Wc := Wc_t 1003 (by decide +kernel) (by decide +kernel)
theorem tw_1004 : (Jvm.Cond.soleField "HatbandYardModel" "airEver") ∈ Wc := Wc_t 1004 (by decide +kernel) (by decide +kernel)
theorem tw_1005 : (Jvm.Cond.laysFinal "HatbandYardModel" "HatbandYardModel" "radii" "[I") ∈ Wc := Wc_t 1005 (by decide +kernel) (by decide +kernel)
theorem tw_1006 : (Jvm.Cond.soleField "HatbandYardModel" "radii") ∈ Wc := Wc_t 1006 (by decide +kernel) (by decide +kernel)
theorem tw_1007 : (Jvm.Cond.lays "HatbandYardModel" "HatbandYardModel" "days" "I") ∈ Wc := Wc_t 1007 (by decide +kernel) (by decide +kernel)
theorem tw_1008 : (Jvm.Cond.soleField "HatbandYardModel" "days") ∈ Wc := Wc_t 1008 (by decide +kernel) (by decide +kernel)
theorem tw_1009 : (Jvm.Cond.lays "HatbandYardModel" "HatbandYardModel" "thrown" "I") ∈ Wc := Wc_t 1009 (by decide +kernel) (by decide +kernel)
theorem tw_1010 : (Jvm.Cond.soleField "HatbandYardModel" "thrown") ∈ Wc := Wc_t 1010 (by decide +kernel) (by decide +kernel)
theorem tw_1011 : (Jvm.Cond.superclass "HatbandYardModel" "java/lang/Object") ∈ Wc := Wc_t 1011 (by decide +kernel) (by decide +kernel)
theorem tw_1012 : (Jvm.Cond.arrayClass Jvm.ClassFile.FieldType.boolean) ∈ Wc := Wc_t 1012 (by decide +kernel) (by decide +kernel)
theorem tw_1013 : (Jvm.Cond.methodLink "HatbandYardLaw" (92 : Nat) ({ cls := "HatbandYardModel", name := "thrown", desc := "()I" } : Jvm.MethodName)) ∈ Wc := Wc_t 1013 (by decide +kernel) (by decide +kernel)
theorem tw_1014 : (Jvm.Cond.instanceMethod ({ cls := "HatbandYardModel", name := "thrown", desc := "()I" } : Jvm.MethodName)) ∈ Wc := Wc_t 1014 (by decide +kernel) (by decide +kernel)
theorem tw_1015 : (Jvm.Cond.selects "HatbandYardModel" ({ cls := "HatbandYardModel", name := "thrown", desc := "()I" } : Jvm.MethodName) ({ cls := "HatbandYardModel", name := "thrown", desc := "()I" } : Jvm.MethodName)) ∈ Wc := Wc_t 1015 (by decide +kernel) (by decide +kernel)
theorem tw_1016 : (Jvm.Cond.code ({ cls := "HatbandYardModel", name := "thrown", desc := "()I" } : Jvm.MethodName) prog_11_method_2_code (1 : Nat) (Option.some Jvm.ClassFile.FieldType.int)) ∈ Wc := Wc_t 1016 (by decide +kernel) (by decide +kernel)
theorem tw_1017 : (Jvm.Cond.methodLink "HatbandYardLaw" (91 : Nat) ({ cls := "HatbandYardModel", name := "letter", desc := "(C)I" } : Jvm.MethodName)) ∈ Wc := Wc_t 1017 (by decide +kernel) (by decide +kernel)
theorem tw_1018 : (Jvm.Cond.instanceMethod ({ cls := "HatbandYardModel", name := "letter", desc := "(C)I" } : Jvm.MethodName)) ∈ Wc := Wc_t 1018 (by decide +kernel) (by decide +kernel)
theorem tw_1019 : (Jvm.Cond.selects "HatbandYardModel" ({ cls := "HatbandYardModel", name := "letter", desc := "(C)I" } : Jvm.MethodName) ({ cls := "HatbandYardModel", name := "letter", desc := "(C)I" } : Jvm.MethodName)) ∈ Wc := Wc_t 1019 (by decide +kernel) (by decide +kernel)
theorem tw_1020 : (Jvm.Cond.code ({ cls := "HatbandYardModel", name := "letter", desc := "(C)I" } : Jvm.MethodName) prog_11_method_7_code (2 : Nat) (Option.some Jvm.ClassFile.FieldType.int)) ∈ Wc := Wc_t 1020 (by decide +kernel) (by decide +kernel)
theorem tw_1021 : (Jvm.Cond.methodLink "HatbandYardModel" (74 : Nat) ({ cls := "HatbandYardModel", name := "goes", desc := "(I)Z" } : Jvm.MethodName)) ∈ Wc := Wc_t 1021 (by decide +kernel) (by decide +kernel)
theorem tw_1023 : (Jvm.Cond.instanceMethod ({ cls := "HatbandYardModel", name := "goes", desc := "(I)Z" } : Jvm.MethodName)) ∈ Wc := Wc_t 1023 (by decide +kernel) (by decide +kernel)
theorem tw_1024 : (Jvm.Cond.code ({ cls := "HatbandYardModel", name := "goes", desc := "(I)Z" } : Jvm.MethodName) prog_11_method_3_code (2 : Nat) (Option.some Jvm.ClassFile.FieldType.boolean)) ∈ Wc := Wc_t 1024 (by decide +kernel) (by decide +kernel)
theorem tw_1025 : (Jvm.Cond.constantLong "HatbandYardModel" (77 : Nat) (27 : Int64)) ∈ Wc := Wc_t 1025 (by decide +kernel) (by decide +kernel)
theorem tw_1026 : (Jvm.Cond.constantLong "HatbandYardModel" (83 : Nat) (97 : Int64)) ∈ Wc := Wc_t 1026 (by decide +kernel) (by decide +kernel)
theorem tw_1027 : (Jvm.Cond.methodLink "HatbandYardLaw" (98 : Nat) ({ cls := "HatbandYardModel", name := "lot", desc := "(I)I" } : Jvm.MethodName)) ∈ Wc := Wc_t 1027 (by decide +kernel) (by decide +kernel)
theorem tw_1028 : (Jvm.Cond.instanceMethod ({ cls := "HatbandYardModel", name := "lot", desc := "(I)I" } : Jvm.MethodName)) ∈ Wc := Wc_t 1028 (by decide +kernel) (by decide +kernel)
theorem tw_1029 : (Jvm.Cond.selects "HatbandYardModel" ({ cls := "HatbandYardModel", name := "lot", desc := "(I)I" } : Jvm.MethodName) ({ cls := "HatbandYardModel", name := "lot", desc := "(I)I" } : Jvm.MethodName)) ∈ Wc := Wc_t 1029 (by decide +kernel) (by decide +kernel)
theorem tw_1030 : (Jvm.Cond.code ({ cls := "HatbandYardModel", name := "lot", desc := "(I)I" } : Jvm.MethodName) prog_11_method_17_code (3 : Nat) (Option.some Jvm.ClassFile.FieldType.int)) ∈ Wc := Wc_t 1030 (by decide +kernel) (by decide +kernel)
theorem tw_1031 : (Jvm.Cond.methodLink "HatbandYardModel" (63 : Nat) ({ cls := "HatbandYardModel", name := "isIn", desc := "(III)Z" } : Jvm.MethodName)) ∈ Wc := Wc_t 1031 (by decide +kernel) (by decide +kernel)
theorem tw_1032 : (Jvm.Cond.static ({ cls := "HatbandYardModel", name := "isIn", desc := "(III)Z" } : Jvm.MethodName)) ∈ Wc := Wc_t 1032 (by decide +kernel) (by decide +kernel)
theorem tw_1033 : (Jvm.Cond.code ({ cls := "HatbandYardModel", name := "isIn", desc := "(III)Z" } : Jvm.MethodName) prog_11_method_4_code (3 : Nat) (Option.some Jvm.ClassFile.FieldType.boolean)) ∈ Wc := Wc_t 1033 (by decide +kernel) (by decide +kernel)
theorem tw_1034 : (Jvm.Cond.methodLink "HatbandYardModel" (93 : Nat) ({ cls := "HatbandYardModel", name := "fur", desc := "()I" } : Jvm.MethodName)) ∈ Wc := Wc_t 1034 (by decide +kernel) (by decide +kernel)
theorem tw_1036 : (Jvm.Cond.instanceMethod ({ cls := "HatbandYardModel", name := "fur", desc := "()I" } : Jvm.MethodName)) ∈ Wc := Wc_t 1036 (by decide +kernel) (by decide +kernel)
theorem tw_1037 : (Jvm.Cond.code ({ cls := "HatbandYardModel", name := "fur", desc := "()I" } : Jvm.MethodName) prog_11_method_10_code (1 : Nat) (Option.some Jvm.ClassFile.FieldType.int)) ∈ Wc := Wc_t 1037 (by decide +kernel) (by decide +kernel)
theorem tw_1038 : (Jvm.Cond.methodLink "HatbandYardModel" (85 : Nat) ({ cls := "HatbandYardModel", name := "word", desc := "(CCCCCCC)J" } : Jvm.MethodName)) ∈ Wc := Wc_t 1038 (by decide +kernel) (by decide +kernel)
theorem tw_1039 : (Jvm.Cond.static ({ cls := "HatbandYardModel", name := "word", desc := "(CCCCCCC)J" } : Jvm.MethodName)) ∈ Wc := Wc_t 1039 (by decide +kernel) (by decide +kernel)
theorem tw_1040 : (Jvm.Cond.code ({ cls := "HatbandYardModel", name := "word", desc := "(CCCCCCC)J" } : Jvm.MethodName) prog_11_method_8_code (11 : Nat) (Option.some Jvm.ClassFile.FieldType.long)) ∈ Wc := Wc_t 1040 (by decide +kernel) (by decide +kernel)
theorem tw_1041 : (Jvm.Cond.methodLink "HatbandYardModel" (97 : Nat) ({ cls := "HatbandYardModel", name := "empties", desc := "()V" } : Jvm.MethodName)) ∈ Wc := Wc_t 1041 (by decide +kernel) (by decide +kernel)
theorem tw_1043 : (Jvm.Cond.instanceMethod ({ cls := "HatbandYardModel", name := "empties", desc := "()V" } : Jvm.MethodName)) ∈ Wc := Wc_t 1043 (by decide +kernel) (by decide +kernel)
theorem tw_1044 : (Jvm.Cond.code ({ cls := "HatbandYardModel", name := "empties", desc := "()V" } : Jvm.MethodName) prog_11_method_9_code (1 : Nat) (Option.none : Option Jvm.ClassFile.FieldType)) ∈ Wc := Wc_t 1044 (by decide +kernel) (by decide +kernel)
theorem tw_1045 : (Jvm.Cond.methodLink "HatbandYardLaw" (102 : Nat) ({ cls := "HatbandYardModel", name := "cone", desc := "(III)I" } : Jvm.MethodName)) ∈ Wc := Wc_t 1045 (by decide +kernel) (by decide +kernel)
theorem tw_1046 : (Jvm.Cond.instanceMethod ({ cls := "HatbandYardModel", name := "cone", desc := "(III)I" } : Jvm.MethodName)) ∈ Wc := Wc_t 1046 (by decide +kernel) (by decide +kernel)
theorem tw_1047 : (Jvm.Cond.selects "HatbandYardModel" ({ cls := "HatbandYardModel", name := "cone", desc := "(III)I" } : Jvm.MethodName) ({ cls := "HatbandYardModel", name := "cone", desc := "(III)I" } : Jvm.MethodName)) ∈ Wc := Wc_t 1047 (by decide +kernel) (by decide +kernel)
theorem tw_1048 : (Jvm.Cond.code ({ cls := "HatbandYardModel", name := "cone", desc := "(III)I" } : Jvm.MethodName) prog_11_method_18_code (9 : Nat) (Option.some Jvm.ClassFile.FieldType.int)) ∈ Wc := Wc_t 1048 (by decide +kernel) (by decide +kernel)
theorem tw_1049 : (Jvm.Cond.methodLink "HatbandYardLaw" (106 : Nat) ({ cls := "HatbandYardModel", name := "hand", desc := "()I" } : Jvm.MethodName)) ∈ Wc := Wc_t 1049 (by decide +kernel) (by decide +kernel)
theorem tw_1050 : (Jvm.Cond.instanceMethod ({ cls := "HatbandYardModel", name := "hand", desc := "()I" } : Jvm.MethodName)) ∈ Wc := Wc_t 1050 (by decide +kernel) (by decide +kernel)
theorem tw_1051 : (Jvm.Cond.selects "HatbandYardModel" ({ cls := "HatbandYardModel", name := "hand", desc := "()I" } : Jvm.MethodName) ({ cls := "HatbandYardModel", name := "hand", desc := "()I" } : Jvm.MethodName)) ∈ Wc := Wc_t 1051 (by decide +kernel) (by decide +kernel)
theorem tw_1052 : (Jvm.Cond.code ({ cls := "HatbandYardModel", name := "hand", desc := "()I" } : Jvm.MethodName) prog_11_method_19_code (1 : Nat) (Option.some Jvm.ClassFile.FieldType.int)) ∈ Wc := Wc_t 1052 (by decide +kernel) (by decide +kernel)
theorem tw_1053 : (Jvm.Cond.methodLink "HatbandYardLaw" (110 : Nat) ({ cls := "HatbandYardModel", name := "cycle", desc := "(II)I" } : Jvm.MethodName)) ∈ Wc := Wc_t 1053 (by decide +kernel) (by decide +kernel)
theorem tw_1054 : (Jvm.Cond.instanceMethod ({ cls := "HatbandYardModel", name := "cycle", desc := "(II)I" } : Jvm.MethodName)) ∈ Wc := Wc_t 1054 (by decide +kernel) (by decide +kernel)
theorem tw_1055 : (Jvm.Cond.selects "HatbandYardModel" ({ cls := "HatbandYardModel", name := "cycle", desc := "(II)I" } : Jvm.MethodName) ({ cls := "HatbandYardModel", name := "cycle", desc := "(II)I" } : Jvm.MethodName)) ∈ Wc := Wc_t 1055 (by decide +kernel) (by decide +kernel)
theorem tw_1056 : (Jvm.Cond.code ({ cls := "HatbandYardModel", name := "cycle", desc := "(II)I" } : Jvm.MethodName) prog_11_method_21_code (8 : Nat) (Option.some Jvm.ClassFile.FieldType.int)) ∈ Wc := Wc_t 1056 (by decide +kernel) (by decide +kernel)
theorem tw_1057 : (Jvm.Cond.methodLink "HatbandYardModel" (67 : Nat) ({ cls := "HatbandYardModel", name := "isCone", desc := "(I)Z" } : Jvm.MethodName)) ∈ Wc := Wc_t 1057 (by decide +kernel) (by decide +kernel)
theorem tw_1059 : (Jvm.Cond.instanceMethod ({ cls := "HatbandYardModel", name := "isCone", desc := "(I)Z" } : Jvm.MethodName)) ∈ Wc := Wc_t 1059 (by decide +kernel) (by decide +kernel)
theorem tw_1060 : (Jvm.Cond.code ({ cls := "HatbandYardModel", name := "isCone", desc := "(I)Z" } : Jvm.MethodName) prog_11_method_5_code (2 : Nat) (Option.some Jvm.ClassFile.FieldType.boolean)) ∈ Wc := Wc_t 1060 (by decide +kernel) (by decide +kernel)
theorem tw_1061 : (Jvm.Cond.methodLink "HatbandYardModel" (103 : Nat) ({ cls := "HatbandYardModel", name := "airOf", desc := "(I)I" } : Jvm.MethodName)) ∈ Wc := Wc_t 1061 (by decide +kernel) (by decide +kernel)
theorem tw_1062 : (Jvm.Cond.static ({ cls := "HatbandYardModel", name := "airOf", desc := "(I)I" } : Jvm.MethodName)) ∈ Wc := Wc_t 1062 (by decide +kernel) (by decide +kernel)
theorem tw_1063 : (Jvm.Cond.code ({ cls := "HatbandYardModel", name := "airOf", desc := "(I)I" } : Jvm.MethodName) prog_11_method_16_code (1 : Nat) (Option.some Jvm.ClassFile.FieldType.int)) ∈ Wc := Wc_t 1063 (by decide +kernel) (by decide +kernel)
theorem tw_1064 : (Jvm.Cond.methodLink "HatbandYardModel" (107 : Nat) ({ cls := "HatbandYardModel", name := "across", desc := "(I)I" } : Jvm.MethodName)) ∈ Wc := Wc_t 1064 (by decide +kernel) (by decide +kernel)
theorem tw_1065 : (Jvm.Cond.static ({ cls := "HatbandYardModel", name := "across", desc := "(I)I" } : Jvm.MethodName)) ∈ Wc := Wc_t 1065 (by decide +kernel) (by decide +kernel)
theorem tw_1066 : (Jvm.Cond.code ({ cls := "HatbandYardModel", name := "across", desc := "(I)I" } : Jvm.MethodName) prog_11_method_13_code (1 : Nat) (Option.some Jvm.ClassFile.FieldType.int)) ∈ Wc := Wc_t 1066 (by decide +kernel) (by decide +kernel)
theorem tw_1067 : (Jvm.Cond.methodLink "HatbandYardModel" (110 : Nat) ({ cls := "HatbandYardModel", name := "shrunk", desc := "(II)I" } : Jvm.MethodName)) ∈ Wc := Wc_t 1067 (by decide +kernel) (by decide +kernel)
theorem tw_1068 : (Jvm.Cond.static ({ cls := "HatbandYardModel", name := "shrunk", desc := "(II)I" } : Jvm.MethodName)) ∈ Wc := Wc_t 1068 (by decide +kernel) (by decide +kernel)
theorem tw_1069 : (Jvm.Cond.code ({ cls := "HatbandYardModel", name := "shrunk", desc := "(II)I" } : Jvm.MethodName) prog_11_method_20_code (2 : Nat) (Option.some Jvm.ClassFile.FieldType.int)) ∈ Wc := Wc_t 1069 (by decide +kernel) (by decide +kernel)
theorem tw_1070 : (Jvm.Cond.methodLink "HatbandYardModel" (114 : Nat) ({ cls := "HatbandYardModel", name := "along", desc := "(I)I" } : Jvm.MethodName)) ∈ Wc := Wc_t 1070 (by decide +kernel) (by decide +kernel)
theorem tw_1071 : (Jvm.Cond.static ({ cls := "HatbandYardModel", name := "along", desc := "(I)I" } : Jvm.MethodName)) ∈ Wc := Wc_t 1071 (by decide +kernel) (by decide +kernel)
theorem tw_1072 : (Jvm.Cond.code ({ cls := "HatbandYardModel", name := "along", desc := "(I)I" } : Jvm.MethodName) prog_11_method_14_code (1 : Nat) (Option.some Jvm.ClassFile.FieldType.int)) ∈ Wc := Wc_t 1072 (by decide +kernel) (by decide +kernel)
theorem tw_1073 : (Jvm.Cond.methodLink "HatbandYardLaw" (113 : Nat) ({ cls := "HatbandYardModel", name := "block", desc := "(II)I" } : Jvm.MethodName)) ∈ Wc := Wc_t 1073 (by decide +kernel) (by decide +kernel)
theorem tw_1074 : (Jvm.Cond.instanceMethod ({ cls := "HatbandYardModel", name := "block", desc := "(II)I" } : Jvm.MethodName)) ∈ Wc := Wc_t 1074 (by decide +kernel) (by decide +kernel)
theorem tw_1075 : (Jvm.Cond.selects "HatbandYardModel" ({ cls := "HatbandYardModel", name := "block", desc := "(II)I" } : Jvm.MethodName) ({ cls := "HatbandYardModel", name := "block", desc := "(II)I" } : Jvm.MethodName)) ∈ Wc := Wc_t 1075 (by decide +kernel) (by decide +kernel)
theorem tw_1076 : (Jvm.Cond.code ({ cls := "HatbandYardModel", name := "block", desc := "(II)I" } : Jvm.MethodName) prog_11_method_23_code (3 : Nat) (Option.some Jvm.ClassFile.FieldType.int)) ∈ Wc := Wc_t 1076 (by decide +kernel) (by decide +kernel)
theorem tw_1077 : (Jvm.Cond.methodLink "HatbandYardLaw" (116 : Nat) ({ cls := "HatbandYardModel", name := "draw", desc := "(II)I" } : Jvm.MethodName)) ∈ Wc := Wc_t 1077 (by decide +kernel) (by decide +kernel)
theorem tw_1078 : (Jvm.Cond.instanceMethod ({ cls := "HatbandYardModel", name := "draw", desc := "(II)I" } : Jvm.MethodName)) ∈ Wc := Wc_t 1078 (by decide +kernel) (by decide +kernel)
theorem tw_1079 : (Jvm.Cond.selects "HatbandYardModel" ({ cls := "HatbandYardModel", name := "draw", desc := "(II)I" } : Jvm.MethodName) ({ cls := "HatbandYardModel", name := "draw", desc := "(II)I" } : Jvm.MethodName)) ∈ Wc := Wc_t 1079 (by decide +kernel) (by decide +kernel)
theorem tw_1080 : (Jvm.Cond.code ({ cls := "HatbandYardModel", name := "draw", desc := "(II)I" } : Jvm.MethodName) prog_11_method_26_code (6 : Nat) (Option.some Jvm.ClassFile.FieldType.int)) ∈ Wc := Wc_t 1080 (by decide +kernel) (by decide +kernel)
theorem tw_1081 : (Jvm.Cond.methodLink "HatbandYardModel" (130 : Nat) ({ cls := "HatbandYardModel", name := "hinders", desc := "(II)I" } : Jvm.MethodName)) ∈ Wc := Wc_t 1081 (by decide +kernel) (by decide +kernel)
theorem tw_1083 : (Jvm.Cond.instanceMethod ({ cls := "HatbandYardModel", name := "hinders", desc := "(II)I" } : Jvm.MethodName)) ∈ Wc := Wc_t 1083 (by decide +kernel) (by decide +kernel)
theorem tw_1084 : (Jvm.Cond.code ({ cls := "HatbandYardModel", name := "hinders", desc := "(II)I" } : Jvm.MethodName) prog_11_method_25_code (11 : Nat) (Option.some Jvm.ClassFile.FieldType.int)) ∈ Wc := Wc_t 1084 (by decide +kernel) (by decide +kernel)
theorem tw_1085 : (Jvm.Cond.methodLink "HatbandYardModel" (121 : Nat) ({ cls := "HatbandYardModel", name := "blockAt", desc := "(II)I" } : Jvm.MethodName)) ∈ Wc := Wc_t 1085 (by decide +kernel) (by decide +kernel)
theorem tw_1087 : (Jvm.Cond.instanceMethod ({ cls := "HatbandYardModel", name := "blockAt", desc := "(II)I" } : Jvm.MethodName)) ∈ Wc := Wc_t 1087 (by decide +kernel) (by decide +kernel)
theorem tw_1088 : (Jvm.Cond.code ({ cls := "HatbandYardModel", name := "blockAt", desc := "(II)I" } : Jvm.MethodName) prog_11_method_24_code (5 : Nat) (Option.some Jvm.ClassFile.FieldType.int)) ∈ Wc := Wc_t 1088 (by decide +kernel) (by decide +kernel)
theorem tw_1089 : (Jvm.Cond.methodLink "HatbandYardModel" (124 : Nat) ({ cls := "HatbandYardModel", name := "thick", desc := "(I)I" } : Jvm.MethodName)) ∈ Wc := Wc_t 1089 (by decide +kernel) (by decide +kernel)
theorem tw_1091 : (Jvm.Cond.instanceMethod ({ cls := "HatbandYardModel", name := "thick", desc := "(I)I" } : Jvm.MethodName)) ∈ Wc := Wc_t 1091 (by decide +kernel) (by decide +kernel)
theorem tw_1092 : (Jvm.Cond.code ({ cls := "HatbandYardModel", name := "thick", desc := "(I)I" } : Jvm.MethodName) prog_11_method_22_code (2 : Nat) (Option.some Jvm.ClassFile.FieldType.int)) ∈ Wc := Wc_t 1092 (by decide +kernel) (by decide +kernel)
theorem tw_1093 : (Jvm.Cond.constant "HatbandYardModel" (117 : Nat) (100000 : Int32)) ∈ Wc := Wc_t 1093 (by decide +kernel) (by decide +kernel)
theorem tw_1094 : (Jvm.Cond.methodLink "HatbandYardModel" (127 : Nat) ({ cls := "HatbandYardModel", name := "strain", desc := "(I)I" } : Jvm.MethodName)) ∈ Wc := Wc_t 1094 (by decide +kernel) (by decide +kernel)
theorem tw_1095 : (Jvm.Cond.static ({ cls := "HatbandYardModel", name := "strain", desc := "(I)I" } : Jvm.MethodName)) ∈ Wc := Wc_t 1095 (by decide +kernel) (by decide +kernel)
theorem tw_1096 : (Jvm.Cond.code ({ cls := "HatbandYardModel", name := "strain", desc := "(I)I" } : Jvm.MethodName) prog_11_method_15_code (1 : Nat) (Option.some Jvm.ClassFile.FieldType.int)) ∈ Wc := Wc_t 1096 (by decide +kernel) (by decide +kernel)
theorem tw_1097 : (Jvm.Cond.methodLink "HatbandYardLaw" (119 : Nat) ({ cls := "HatbandYardModel", name := "trim", desc := "(I)Z" } : Jvm.MethodName)) ∈ Wc := Wc_t 1097 (by decide +kernel) (by decide +kernel)
theorem tw_1098 : (Jvm.Cond.instanceMethod ({ cls := "HatbandYardModel", name := "trim", desc := "(I)Z" } : Jvm.MethodName)) ∈ Wc := Wc_t 1098 (by decide +kernel) (by decide +kernel)
theorem tw_1099 : (Jvm.Cond.selects "HatbandYardModel" ({ cls := "HatbandYardModel", name := "trim", desc := "(I)Z" } : Jvm.MethodName) ({ cls := "HatbandYardModel", name := "trim", desc := "(I)Z" } : Jvm.MethodName)) ∈ Wc := Wc_t 1099 (by decide +kernel) (by decide +kernel)
theorem tw_1100 : (Jvm.Cond.code ({ cls := "HatbandYardModel", name := "trim", desc := "(I)Z" } : Jvm.MethodName) prog_11_method_27_code (3 : Nat) (Option.some Jvm.ClassFile.FieldType.boolean)) ∈ Wc := Wc_t 1100 (by decide +kernel) (by decide +kernel)
theorem tw_1101 : (Jvm.Cond.methodLink "HatbandYardModel" (133 : Nat) ({ cls := "HatbandYardModel", name := "feather", desc := "()I" } : Jvm.MethodName)) ∈ Wc := Wc_t 1101 (by decide +kernel) (by decide +kernel)
theorem tw_1103 : (Jvm.Cond.instanceMethod ({ cls := "HatbandYardModel", name := "feather", desc := "()I" } : Jvm.MethodName)) ∈ Wc := Wc_t 1103 (by decide +kernel) (by decide +kernel)
theorem tw_1104 : (Jvm.Cond.code ({ cls := "HatbandYardModel", name := "feather", desc := "()I" } : Jvm.MethodName) prog_11_method_11_code (1 : Nat) (Option.some Jvm.ClassFile.FieldType.int)) ∈ Wc := Wc_t 1104 (by decide +kernel) (by decide +kernel)
theorem tw_1105 : (Jvm.Cond.constant "HatbandYardModel" (89 : Nat) (1000000000 : Int32)) ∈ Wc := Wc_t 1105 (by decide +kernel) (by decide +kernel)
theorem tw_1106 : (Jvm.Cond.methodLink "HatbandYardLaw" (122 : Nat) ({ cls := "HatbandYardModel", name := "pass", desc := "(I)I" } : Jvm.MethodName)) ∈ Wc := Wc_t 1106 (by decide +kernel) (by decide +kernel)
theorem tw_1107 : (Jvm.Cond.instanceMethod ({ cls := "HatbandYardModel", name := "pass", desc := "(I)I" } : Jvm.MethodName)) ∈ Wc := Wc_t 1107 (by decide +kernel) (by decide +kernel)
theorem tw_1108 : (Jvm.Cond.selects "HatbandYardModel" ({ cls := "HatbandYardModel", name := "pass", desc := "(I)I" } : Jvm.MethodName) ({ cls := "HatbandYardModel", name := "pass", desc := "(I)I" } : Jvm.MethodName)) ∈ Wc := Wc_t 1108 (by decide +kernel) (by decide +kernel)
theorem tw_1109 : (Jvm.Cond.code ({ cls := "HatbandYardModel", name := "pass", desc := "(I)I" } : Jvm.MethodName) prog_11_method_28_code (3 : Nat) (Option.some Jvm.ClassFile.FieldType.int)) ∈ Wc := Wc_t 1109 (by decide +kernel) (by decide +kernel)
theorem tw_1110 : (Jvm.Cond.methodLink "HatbandYardLaw" (125 : Nat) ({ cls := "HatbandYardModel", name := "about", desc := "(III)I" } : Jvm.MethodName)) ∈ Wc := Wc_t 1110 (by decide +kernel) (by decide +kernel)
theorem tw_1111 : (Jvm.Cond.instanceMethod ({ cls := "HatbandYardModel", name := "about", desc := "(III)I" } : Jvm.MethodName)) ∈ Wc := Wc_t 1111 (by decide +kernel) (by decide +kernel)
theorem tw_1112 : (Jvm.Cond.selects "HatbandYardModel" ({ cls := "HatbandYardModel", name := "about", desc := "(III)I" } : Jvm.MethodName) ({ cls := "HatbandYardModel", name := "about", desc := "(III)I" } : Jvm.MethodName)) ∈ Wc := Wc_t 1112 (by decide +kernel) (by decide +kernel)
theorem tw_1113 : (Jvm.Cond.code ({ cls := "HatbandYardModel", name := "about", desc := "(III)I" } : Jvm.MethodName) prog_11_method_29_code (5 : Nat) (Option.some Jvm.ClassFile.FieldType.int)) ∈ Wc := Wc_t 1113 (by decide +kernel) (by decide +kernel)
theorem tw_1114 : (Jvm.Cond.methodLink "HatbandYardModel" (136 : Nat) ({ cls := "HatbandYardModel", name := "isBand", desc := "(II)Z" } : Jvm.MethodName)) ∈ Wc := Wc_t 1114 (by decide +kernel) (by decide +kernel)
theorem tw_1116 : (Jvm.Cond.instanceMethod ({ cls := "HatbandYardModel", name := "isBand", desc := "(II)Z" } : Jvm.MethodName)) ∈ Wc := Wc_t 1116 (by decide +kernel) (by decide +kernel)
theorem tw_1117 : (Jvm.Cond.code ({ cls := "HatbandYardModel", name := "isBand", desc := "(II)Z" } : Jvm.MethodName) prog_11_method_6_code (3 : Nat) (Option.some Jvm.ClassFile.FieldType.boolean)) ∈ Wc := Wc_t 1117 (by decide +kernel) (by decide +kernel)
theorem tw_1118 : (Jvm.Cond.methodLink "HatbandYardLaw" (128 : Nat) ({ cls := "HatbandYardModel", name := "widthAnew", desc := "(II)I" } : Jvm.MethodName)) ∈ Wc := Wc_t 1118 (by decide +kernel) (by decide +kernel)
theorem tw_1119 : (Jvm.Cond.instanceMethod ({ cls := "HatbandYardModel", name := "widthAnew", desc := "(II)I" } : Jvm.MethodName)) ∈ Wc := Wc_t 1119 (by decide +kernel) (by decide +kernel)
theorem tw_1120 : (Jvm.Cond.selects "HatbandYardModel" ({ cls := "HatbandYardModel", name := "widthAnew", desc := "(II)I" } : Jvm.MethodName) ({ cls := "HatbandYardModel", name := "widthAnew", desc := "(II)I" } : Jvm.MethodName)) ∈ Wc := Wc_t 1120 (by decide +kernel) (by decide +kernel)
theorem tw_1121 : (Jvm.Cond.code ({ cls := "HatbandYardModel", name := "widthAnew", desc := "(II)I" } : Jvm.MethodName) prog_11_method_30_code (3 : Nat) (Option.some Jvm.ClassFile.FieldType.int)) ∈ Wc := Wc_t 1121 (by decide +kernel) (by decide +kernel)
theorem tw_1122 : (Jvm.Cond.methodLink "HatbandYardLaw" (131 : Nat) ({ cls := "HatbandYardModel", name := "brim", desc := "(II)I" } : Jvm.MethodName)) ∈ Wc := Wc_t 1122 (by decide +kernel) (by decide +kernel)
theorem tw_1123 : (Jvm.Cond.instanceMethod ({ cls := "HatbandYardModel", name := "brim", desc := "(II)I" } : Jvm.MethodName)) ∈ Wc := Wc_t 1123 (by decide +kernel) (by decide +kernel)
theorem tw_1124 : (Jvm.Cond.selects "HatbandYardModel" ({ cls := "HatbandYardModel", name := "brim", desc := "(II)I" } : Jvm.MethodName) ({ cls := "HatbandYardModel", name := "brim", desc := "(II)I" } : Jvm.MethodName)) ∈ Wc := Wc_t 1124 (by decide +kernel) (by decide +kernel)
theorem tw_1125 : (Jvm.Cond.code ({ cls := "HatbandYardModel", name := "brim", desc := "(II)I" } : Jvm.MethodName) prog_11_method_31_code (5 : Nat) (Option.some Jvm.ClassFile.FieldType.int)) ∈ Wc := Wc_t 1125 (by decide +kernel) (by decide +kernel)
theorem tw_1126 : (Jvm.Cond.constantFloat "HatbandYardModel" (140 : Nat) (1078530000 : UInt32)) ∈ Wc := Wc_t 1126 (by decide +kernel) (by decide +kernel)
theorem tw_1127 : (Jvm.Cond.methodLink "HatbandYardModel" (141 : Nat) ({ cls := "java/lang/Float", name := "floatToIntBits", desc := "(F)I" } : Jvm.MethodName)) ∈ Wc := Wc_t 1127 (by decide +kernel) (by decide +kernel)
theorem tw_1128 : (Jvm.Cond.static ({ cls := "java/lang/Float", name := "floatToIntBits", desc := "(F)I" } : Jvm.MethodName)) ∈ Wc := Wc_t 1128 (by decide +kernel) (by decide +kernel)
theorem tw_1129 : (Jvm.Cond.code ({ cls := "java/lang/Float", name := "floatToIntBits", desc := "(F)I" } : Jvm.MethodName) prog_17_method_24_code (1 : Nat) (Option.some Jvm.ClassFile.FieldType.int)) ∈ Wc := Wc_t 1129 (by decide +kernel) (by decide +kernel)
theorem tw_1130 : (Jvm.Cond.methodLink "java/lang/Float" (59 : Nat) ({ cls := "java/lang/Float", name := "isNaN", desc := "(F)Z" } : Jvm.MethodName)) ∈ Wc := Wc_t 1130 (by decide +kernel) (by decide +kernel)
theorem tw_1131 : (Jvm.Cond.static ({ cls := "java/lang/Float", name := "isNaN", desc := "(F)Z" } : Jvm.MethodName)) ∈ Wc := Wc_t 1131 (by decide +kernel) (by decide +kernel)
theorem tw_1132 : (Jvm.Cond.code ({ cls := "java/lang/Float", name := "isNaN", desc := "(F)Z" } : Jvm.MethodName) prog_17_method_6_code (1 : Nat) (Option.some Jvm.ClassFile.FieldType.boolean)) ∈ Wc := Wc_t 1132 (by decide +kernel) (by decide +kernel)
theorem tw_1133 : (Jvm.Cond.methodLink "java/lang/Float" (74 : Nat) ({ cls := "java/lang/Float", name := "floatToRawIntBits", desc := "(F)I" } : Jvm.MethodName)) ∈ Wc := Wc_t 1133 (by decide +kernel) (by decide +kernel)
theorem tw_1134 : (Jvm.Cond.static ({ cls := "java/lang/Float", name := "floatToRawIntBits", desc := "(F)I" } : Jvm.MethodName)) ∈ Wc := Wc_t 1134 (by decide +kernel) (by decide +kernel)
theorem tw_1135 : (Jvm.Cond.native ({ cls := "java/lang/Float", name := "floatToRawIntBits", desc := "(F)I" } : Jvm.MethodName)) ∈ Wc := Wc_t 1135 (by decide +kernel) (by decide +kernel)
theorem tw_1136 : (Jvm.Cond.constant "java/lang/Float" (77 : Nat) (2143289344 : Int32)) ∈ Wc := Wc_t 1136 (by decide +kernel) (by decide +kernel)
theorem tw_1137 : (Jvm.Cond.methodLink "HatbandYardLaw" (134 : Nat) ({ cls := "HatbandYardModel", name := "count", desc := "(I)I" } : Jvm.MethodName)) ∈ Wc := Wc_t 1137 (by decide +kernel) (by decide +kernel)
theorem tw_1138 : (Jvm.Cond.instanceMethod ({ cls := "HatbandYardModel", name := "count", desc := "(I)I" } : Jvm.MethodName)) ∈ Wc := Wc_t 1138 (by decide +kernel) (by decide +kernel)
theorem tw_1139 : (Jvm.Cond.selects "HatbandYardModel" ({ cls := "HatbandYardModel", name := "count", desc := "(I)I" } : Jvm.MethodName) ({ cls := "HatbandYardModel", name := "count", desc := "(I)I" } : Jvm.MethodName)) ∈ Wc := Wc_t 1139 (by decide +kernel) (by decide +kernel)
theorem tw_1140 : (Jvm.Cond.code ({ cls := "HatbandYardModel", name := "count", desc := "(I)I" } : Jvm.MethodName) prog_11_method_34_code (2 : Nat) (Option.some Jvm.ClassFile.FieldType.int)) ∈ Wc := Wc_t 1140 (by decide +kernel) (by decide +kernel)
theorem tw_1141 : (Jvm.Cond.methodLink "HatbandYardModel" (153 : Nat) ({ cls := "HatbandYardModel", name := "countOf", desc := "(I)I" } : Jvm.MethodName)) ∈ Wc := Wc_t 1141 (by decide +kernel) (by decide +kernel)
theorem tw_1143 : (Jvm.Cond.instanceMethod ({ cls := "HatbandYardModel", name := "countOf", desc := "(I)I" } : Jvm.MethodName)) ∈ Wc := Wc_t 1143 (by decide +kernel) (by decide +kernel)
theorem tw_1144 : (Jvm.Cond.code ({ cls := "HatbandYardModel", name := "countOf", desc := "(I)I" } : Jvm.MethodName) prog_11_method_33_code (6 : Nat) (Option.some Jvm.ClassFile.FieldType.int)) ∈ Wc := Wc_t 1144 (by decide +kernel) (by decide +kernel)
theorem tw_1145 : (Jvm.Cond.methodLink "HatbandYardModel" (147 : Nat) ({ cls := "HatbandYardModel", name := "kind", desc := "()I" } : Jvm.MethodName)) ∈ Wc := Wc_t 1145 (by decide +kernel) (by decide +kernel)
theorem tw_1147 : (Jvm.Cond.instanceMethod ({ cls := "HatbandYardModel", name := "kind", desc := "()I" } : Jvm.MethodName)) ∈ Wc := Wc_t 1147 (by decide +kernel) (by decide +kernel)
theorem tw_1148 : (Jvm.Cond.code ({ cls := "HatbandYardModel", name := "kind", desc := "()I" } : Jvm.MethodName) prog_11_method_12_code (1 : Nat) (Option.some Jvm.ClassFile.FieldType.int)) ∈ Wc := Wc_t 1148 (by decide +kernel) (by decide +kernel)
theorem tw_1149 : (Jvm.Cond.methodLink "HatbandYardModel" (150 : Nat) ({ cls := "HatbandYardModel", name := "gain", desc := "(II)I" } : Jvm.MethodName)) ∈ Wc := Wc_t 1149 (by decide +kernel) (by decide +kernel)
theorem tw_1150 : (Jvm.Cond.static ({ cls := "HatbandYardModel", name := "gain", desc := "(II)I" } : Jvm.MethodName)) ∈ Wc := Wc_t 1150 (by decide +kernel) (by decide +kernel)
theorem tw_1151 : (Jvm.Cond.code ({ cls := "HatbandYardModel", name := "gain", desc := "(II)I" } : Jvm.MethodName) prog_11_method_32_code (3 : Nat) (Option.some Jvm.ClassFile.FieldType.int)) ∈ Wc := Wc_t 1151 (by decide +kernel) (by decide +kernel)
theorem tw_1152 : (Jvm.Cond.methodLink "HatbandYardLaw" (137 : Nat) ({ cls := "HatbandYardModel", name := "countAnew", desc := "(I)I" } : Jvm.MethodName)) ∈ Wc := Wc_t 1152 (by decide +kernel) (by decide +kernel)
theorem tw_1153 : (Jvm.Cond.instanceMethod ({ cls := "HatbandYardModel", name := "countAnew", desc := "(I)I" } : Jvm.MethodName)) ∈ Wc := Wc_t 1153 (by decide +kernel) (by decide +kernel)
theorem tw_1154 : (Jvm.Cond.selects "HatbandYardModel" ({ cls := "HatbandYardModel", name := "countAnew", desc := "(I)I" } : Jvm.MethodName) ({ cls := "HatbandYardModel", name := "countAnew", desc := "(I)I" } : Jvm.MethodName)) ∈ Wc := Wc_t 1154 (by decide +kernel) (by decide +kernel)
theorem tw_1155 : (Jvm.Cond.code ({ cls := "HatbandYardModel", name := "countAnew", desc := "(I)I" } : Jvm.MethodName) prog_11_method_35_code (2 : Nat) (Option.some Jvm.ClassFile.FieldType.int)) ∈ Wc := Wc_t 1155 (by decide +kernel) (by decide +kernel)
theorem tw_1156 : (Jvm.Cond.methodLink "HatbandYardLaw" (140 : Nat) ({ cls := "HatbandYardModel", name := "rows", desc := "(I)I" } : Jvm.MethodName)) ∈ Wc := Wc_t 1156 (by decide +kernel) (by decide +kernel)
theorem tw_1157 : (Jvm.Cond.instanceMethod ({ cls := "HatbandYardModel", name := "rows", desc := "(I)I" } : Jvm.MethodName)) ∈ Wc := Wc_t 1157 (by decide +kernel) (by decide +kernel)
theorem tw_1158 : (Jvm.Cond.selects "HatbandYardModel" ({ cls := "HatbandYardModel", name := "rows", desc := "(I)I" } : Jvm.MethodName) ({ cls := "HatbandYardModel", name := "rows", desc := "(I)I" } : Jvm.MethodName)) ∈ Wc := Wc_t 1158 (by decide +kernel) (by decide +kernel)
theorem tw_1159 : (Jvm.Cond.code ({ cls := "HatbandYardModel", name := "rows", desc := "(I)I" } : Jvm.MethodName) prog_11_method_36_code (5 : Nat) (Option.some Jvm.ClassFile.FieldType.int)) ∈ Wc := Wc_t 1159 (by decide +kernel) (by decide +kernel)
theorem tw_1160 : (Jvm.Cond.methodLink "HatbandYardLaw" (143 : Nat) ({ cls := "HatbandYardModel", name := "measure", desc := "(II)I" } : Jvm.MethodName)) ∈ Wc := Wc_t 1160 (by decide +kernel) (by decide +kernel)
theorem tw_1161 : (Jvm.Cond.instanceMethod ({ cls := "HatbandYardModel", name := "measure", desc := "(II)I" } : Jvm.MethodName)) ∈ Wc := Wc_t 1161 (by decide +kernel) (by decide +kernel)
theorem tw_1162 : (Jvm.Cond.selects "HatbandYardModel" ({ cls := "HatbandYardModel", name := "measure", desc := "(II)I" } : Jvm.MethodName) ({ cls := "HatbandYardModel", name := "measure", desc := "(II)I" } : Jvm.MethodName)) ∈ Wc := Wc_t 1162 (by decide +kernel) (by decide +kernel)
theorem tw_1163 : (Jvm.Cond.code ({ cls := "HatbandYardModel", name := "measure", desc := "(II)I" } : Jvm.MethodName) prog_11_method_38_code (3 : Nat) (Option.some Jvm.ClassFile.FieldType.int)) ∈ Wc := Wc_t 1163 (by decide +kernel) (by decide +kernel)
theorem tw_1164 : (Jvm.Cond.methodLink "HatbandYardModel" (156 : Nat) ({ cls := "HatbandYardModel", name := "around", desc := "()I" } : Jvm.MethodName)) ∈ Wc := Wc_t 1164 (by decide +kernel) (by decide +kernel)
theorem tw_1166 : (Jvm.Cond.instanceMethod ({ cls := "HatbandYardModel", name := "around", desc := "()I" } : Jvm.MethodName)) ∈ Wc := Wc_t 1166 (by decide +kernel) (by decide +kernel)
theorem tw_1167 : (Jvm.Cond.code ({ cls := "HatbandYardModel", name := "around", desc := "()I" } : Jvm.MethodName) prog_11_method_37_code (3 : Nat) (Option.some Jvm.ClassFile.FieldType.int)) ∈ Wc := Wc_t 1167 (by decide +kernel) (by decide +kernel)
theorem tw_1168 : (Jvm.Cond.methodLink "HatbandYardLaw" (146 : Nat) ({ cls := "HatbandYardModel", name := "fits", desc := "(I)Z" } : Jvm.MethodName)) ∈ Wc := Wc_t 1168 (by decide +kernel) (by decide +kernel)
theorem tw_1169 : (Jvm.Cond.instanceMethod ({ cls := "HatbandYardModel", name := "fits", desc := "(I)Z" } : Jvm.MethodName)) ∈ Wc := Wc_t 1169 (by decide +kernel) (by decide +kernel)
theorem tw_1170 : (Jvm.Cond.selects "HatbandYardModel" ({ cls := "HatbandYardModel", name := "fits", desc := "(I)Z" } : Jvm.MethodName) ({ cls := "HatbandYardModel", name := "fits", desc := "(I)Z" } : Jvm.MethodName)) ∈ Wc := Wc_t 1170 (by decide +kernel) (by decide +kernel)
theorem tw_1171 : (Jvm.Cond.code ({ cls := "HatbandYardModel", name := "fits", desc := "(I)Z" } : Jvm.MethodName) prog_11_method_39_code (2 : Nat) (Option.some Jvm.ClassFile.FieldType.boolean)) ∈ Wc := Wc_t 1171 (by decide +kernel) (by decide +kernel)
theorem tw_1172 : (Jvm.Cond.methodLink "HatbandYardLaw" (149 : Nat) ({ cls := "HatbandYardModel", name := "size", desc := "(I)I" } : Jvm.MethodName)) ∈ Wc := Wc_t 1172 (by decide +kernel) (by decide +kernel)
theorem tw_1173 : (Jvm.Cond.instanceMethod ({ cls := "HatbandYardModel", name := "size", desc := "(I)I" } : Jvm.MethodName)) ∈ Wc := Wc_t 1173 (by decide +kernel) (by decide +kernel)
theorem tw_1174 : (Jvm.Cond.selects "HatbandYardModel" ({ cls := "HatbandYardModel", name := "size", desc := "(I)I" } : Jvm.MethodName) ({ cls := "HatbandYardModel", name := "size", desc := "(I)I" } : Jvm.MethodName)) ∈ Wc := Wc_t 1174 (by decide +kernel) (by decide +kernel)
theorem tw_1175 : (Jvm.Cond.code ({ cls := "HatbandYardModel", name := "size", desc := "(I)I" } : Jvm.MethodName) prog_11_method_40_code (4 : Nat) (Option.some Jvm.ClassFile.FieldType.int)) ∈ Wc := Wc_t 1175 (by decide +kernel) (by decide +kernel)
theorem tw_1176 : (Jvm.Cond.constantFloat "HatbandYardModel" (159 : Nat) (1117755277 : UInt32)) ∈ Wc := Wc_t 1176 (by decide +kernel) (by decide +kernel)
theorem tw_1177 : (Jvm.Cond.constantFloat "HatbandYardModel" (160 : Nat) (1092616192 : UInt32)) ∈ Wc := Wc_t 1177 (by decide +kernel) (by decide +kernel)
theorem tw_1178 : (Jvm.Cond.constantFloat "HatbandYardModel" (161 : Nat) (1040187392 : UInt32)) ∈ Wc := Wc_t 1178 (by decide +kernel) (by decide +kernel)
theorem tw_1179 : (Jvm.Cond.constantFloat "HatbandYardModel" (162 : Nat) (1087939543 : UInt32)) ∈ Wc := Wc_t 1179 (by decide +kernel) (by decide +kernel)
theorem tw_1180 : (Jvm.Cond.methodLink "HatbandYardLaw" (153 : Nat) ({ cls := "HatbandYardModel", name := "air", desc := "(IZ)I" } : Jvm.MethodName)) ∈ Wc := Wc_t 1180 (by decide +kernel) (by decide +kernel)
theorem tw_1181 : (Jvm.Cond.instanceMethod ({ cls := "HatbandYardModel", name := "air", desc := "(IZ)I" } : Jvm.MethodName)) ∈ Wc := Wc_t 1181 (by decide +kernel) (by decide +kernel)
theorem tw_1182 : (Jvm.Cond.selects "HatbandYardModel" ({ cls := "HatbandYardModel", name := "air", desc := "(IZ)I" } : Jvm.MethodName) ({ cls := "HatbandYardModel", name := "air", desc := "(IZ)I" } : Jvm.MethodName)) ∈ Wc := Wc_t 1182 (by decide +kernel) (by decide +kernel)
theorem tw_1183 : (Jvm.Cond.code ({ cls := "HatbandYardModel", name := "air", desc := "(IZ)I" } : Jvm.MethodName) prog_11_method_41_code (3 : Nat) (Option.some Jvm.ClassFile.FieldType.int)) ∈ Wc := Wc_t 1183 (by decide +kernel) (by decide +kernel)
theorem tw_1184 : (Jvm.Cond.methodLink "HatbandYardLaw" (156 : Nat) ({ cls := "HatbandYardModel", name := "grams", desc := "(I)I" } : Jvm.MethodName)) ∈ Wc := Wc_t 1184 (by decide +kernel) (by decide +kernel)
theorem tw_1185 : (Jvm.Cond.instanceMethod ({ cls := "HatbandYardModel", name := "grams", desc := "(I)I" } : Jvm.MethodName)) ∈ Wc := Wc_t 1185 (by decide +kernel) (by decide +kernel)
theorem tw_1186 : (Jvm.Cond.selects "HatbandYardModel" ({ cls := "HatbandYardModel", name := "grams", desc := "(I)I" } : Jvm.MethodName) ({ cls := "HatbandYardModel", name := "grams", desc := "(I)I" } : Jvm.MethodName)) ∈ Wc := Wc_t 1186 (by decide +kernel) (by decide +kernel)
theorem tw_1187 : (Jvm.Cond.code ({ cls := "HatbandYardModel", name := "grams", desc := "(I)I" } : Jvm.MethodName) prog_11_method_42_code (2 : Nat) (Option.some Jvm.ClassFile.FieldType.int)) ∈ Wc := Wc_t 1187 (by decide +kernel) (by decide +kernel)
theorem tw_1188 : (Jvm.Cond.arrayClass Jvm.ClassFile.FieldType.long) ∈ Wc := Wc_t 1188 (by decide +kernel) (by decide +kernel)
theorem tw_1189 : (Jvm.Cond.sameMethod "java/lang/Throwable" "java/lang/Throwable" "fillInStackTrace" "(I)Ljava/lang/Throwable;") ∈ Wc := Wc_t 1189 (by decide +kernel) (by decide +kernel)
theorem tw_1190 : (Jvm.Cond.sameMethod "java/lang/AbstractStringBuilder" "java/lang/AbstractStringBuilder" "length" "()I") ∈ Wc := Wc_t 1190 (by decide +kernel) (by decide +kernel)
theorem tw_1191 : (Jvm.Cond.sameMethod "java/lang/AbstractStringBuilder" "java/lang/AbstractStringBuilder" "append" "(C)Ljava/lang/AbstractStringBuilder;") ∈ Wc := Wc_t 1191 (by decide +kernel) (by decide +kernel)
theorem tw_1192 : (Jvm.Cond.sameMethod "java/lang/AbstractStringBuilder" "java/lang/AbstractStringBuilder" "ensureCapacityInternal" "(I)V") ∈ Wc := Wc_t 1192 (by decide +kernel) (by decide +kernel)
theorem tw_1193 : (Jvm.Cond.sameMethod "java/lang/AbstractStringBuilder" "java/lang/AbstractStringBuilder" "newCapacity" "(I)I") ∈ Wc := Wc_t 1193 (by decide +kernel) (by decide +kernel)
theorem tw_1194 : (Jvm.Cond.sameMethod "java/lang/AbstractStringBuilder" "java/lang/AbstractStringBuilder" "inflate" "()V") ∈ Wc := Wc_t 1194 (by decide +kernel) (by decide +kernel)
theorem tw_1195 : (Jvm.Cond.sameMethod "java/lang/AbstractStringBuilder" "java/lang/AbstractStringBuilder" "charAt" "(I)C") ∈ Wc := Wc_t 1195 (by decide +kernel) (by decide +kernel)
theorem tw_1196 : (Jvm.Cond.sameMethod "java/lang/AbstractStringBuilder" "java/lang/AbstractStringBuilder" "setLength" "(I)V") ∈ Wc := Wc_t 1196 (by decide +kernel) (by decide +kernel)
theorem tw_1197 : (Jvm.Cond.sameMethod "java/lang/AbstractStringBuilder" "java/lang/AbstractStringBuilder" "append" "(Ljava/lang/String;)Ljava/lang/AbstractStringBuilder;") ∈ Wc := Wc_t 1197 (by decide +kernel) (by decide +kernel)
theorem tw_1198 : (Jvm.Cond.sameMethod "java/lang/AbstractStringBuilder" "java/lang/AbstractStringBuilder" "appendNull" "()Ljava/lang/AbstractStringBuilder;") ∈ Wc := Wc_t 1198 (by decide +kernel) (by decide +kernel)
theorem tw_1199 : (Jvm.Cond.sameMethod "java/lang/AbstractStringBuilder" "java/lang/AbstractStringBuilder" "putStringAt" "(ILjava/lang/String;)V") ∈ Wc := Wc_t 1199 (by decide +kernel) (by decide +kernel)
theorem tw_1200 : (Jvm.Cond.sameMethod "java/lang/AbstractStringBuilder" "java/lang/AbstractStringBuilder" "inflateIfNeededFor" "(Ljava/lang/String;)V") ∈ Wc := Wc_t 1200 (by decide +kernel) (by decide +kernel)
theorem tw_1201 : (Jvm.Cond.sameMethod "java/lang/AbstractStringBuilder" "java/lang/AbstractStringBuilder" "append" "(I)Ljava/lang/AbstractStringBuilder;") ∈ Wc := Wc_t 1201 (by decide +kernel) (by decide +kernel)
theorem tw_1202 : (Jvm.Cond.selects "java/lang/StringBuilder" ({ cls := "java/lang/AbstractStringBuilder", name := "length", desc := "()I" } : Jvm.MethodName) ({ cls := "java/lang/StringBuilder", name := "length", desc := "()I" } : Jvm.MethodName)) ∈ Wc := Wc_t 1202 (by decide +kernel) (by decide +kernel)
theorem tw_1207 : (Jvm.Cond.fieldLink "HatbandYard$Fur" (39 : Nat) "HatbandYard$Fur" "lessAcross" "I") ∈ Wc := Wc_t 1207 (by decide +kernel) (by decide +kernel)
theorem tw_1208 : (Jvm.Cond.fieldLink "HatbandYard$Fur" (43 : Nat) "HatbandYard$Fur" "lessAlong" "I") ∈ Wc := Wc_t 1208 (by decide +kernel) (by decide +kernel)
theorem tw_1211 : (Jvm.Cond.fieldLink "HatbandYard$Feather" (36 : Nat) "HatbandYard$Feather" "protectedFrom" "I") ∈ Wc := Wc_t 1211 (by decide +kernel) (by decide +kernel)
theorem tw_1213 : (Jvm.Cond.fieldLink "HatbandYard$Spiral" (45 : Nat) "HatbandYard$Spiral" "gainsLess" "Z") ∈ Wc := Wc_t 1213 (by decide +kernel) (by decide +kernel)
theorem tw_1214 : (Jvm.Cond.fieldLink "HatbandYard$Spiral" (41 : Nat) "HatbandYard$Spiral" "firstGain" "I") ∈ Wc := Wc_t 1214 (by decide +kernel) (by decide +kernel)
theorem sw_0 : Cond.selects "java/lang/Throwable" ⟨"java/lang/Throwable", "fillInStackTrace", "(I)Ljava/lang/Throwable;"⟩ ⟨"java/lang/Throwable", "fillInStackTrace", "(I)Ljava/lang/Throwable;"⟩ ∈ Wc := Wc_s 0 (q := (⟨"java/lang/Throwable", "fillInStackTrace", "(I)Ljava/lang/Throwable;"⟩, 6)) (by decide +kernel) (by decide +kernel)
theorem sw_1 : Cond.selects "HatbandYard" ⟨"HatbandYard", "typedFur", "()LHatbandYard$Fur;"⟩ ⟨"HatbandYard", "typedFur", "()LHatbandYard$Fur;"⟩ ∈ Wc := Wc_s 1 (q := (⟨"HatbandYard", "typedFur", "()LHatbandYard$Fur;"⟩, 11)) (by decide +kernel) (by decide +kernel)
theorem sw_2 : Cond.selects "HatbandYard" ⟨"HatbandYard", "isTyped", "(Ljava/lang/String;)Z"⟩ ⟨"HatbandYard", "isTyped", "(Ljava/lang/String;)Z"⟩ ∈ Wc := Wc_s 2 (q := (⟨"HatbandYard", "isTyped", "(Ljava/lang/String;)Z"⟩, 11)) (by decide +kernel) (by decide +kernel)
theorem sw_3 : Cond.selects "HatbandYard" ⟨"HatbandYard", "clearTyped", "()V"⟩ ⟨"HatbandYard", "clearTyped", "()V"⟩ ∈ Wc := Wc_s 3 (q := (⟨"HatbandYard", "clearTyped", "()V"⟩, 11)) (by decide +kernel) (by decide +kernel)
theorem sw_4 : Cond.selects "HatbandYard" ⟨"HatbandYard", "lotAt", "(I)LHatbandYard$Lot;"⟩ ⟨"HatbandYard", "lotAt", "(I)LHatbandYard$Lot;"⟩ ∈ Wc := Wc_s 4 (q := (⟨"HatbandYard", "lotAt", "(I)LHatbandYard$Lot;"⟩, 11)) (by decide +kernel) (by decide +kernel)
theorem sw_5 : Cond.selects "HatbandYard" ⟨"HatbandYard", "coneAt", "(I)LHatbandYard$Cone;"⟩ ⟨"HatbandYard", "coneAt", "(I)LHatbandYard$Cone;"⟩ ∈ Wc := Wc_s 5 (q := (⟨"HatbandYard", "coneAt", "(I)LHatbandYard$Cone;"⟩, 11)) (by decide +kernel) (by decide +kernel)
theorem sw_6 : Cond.selects "HatbandYard" ⟨"HatbandYard", "handAt", "(I)LHatbandYard$Hand;"⟩ ⟨"HatbandYard", "handAt", "(I)LHatbandYard$Hand;"⟩ ∈ Wc := Wc_s 6 (q := (⟨"HatbandYard", "handAt", "(I)LHatbandYard$Hand;"⟩, 11)) (by decide +kernel) (by decide +kernel)
theorem sw_7 : Cond.selects "HatbandYard$Hand" ⟨"HatbandYard$Hand", "breathe", "(I)V"⟩ ⟨"HatbandYard$Hand", "breathe", "(I)V"⟩ ∈ Wc := Wc_s 7 (q := (⟨"HatbandYard$Hand", "breathe", "(I)V"⟩, 2)) (by decide +kernel) (by decide +kernel)
theorem sw_8 : Cond.selects "HatbandYard$Cone" ⟨"HatbandYard$Cone", "shrink", "()V"⟩ ⟨"HatbandYard$Cone", "shrink", "()V"⟩ ∈ Wc := Wc_s 8 (q := (⟨"HatbandYard$Cone", "shrink", "()V"⟩, 7)) (by decide +kernel) (by decide +kernel)
theorem sw_9 : Cond.selects "HatbandYard$Fur" ⟨"HatbandYard$Fur", "shrunkAcross", "(I)I"⟩ ⟨"HatbandYard$Fur", "shrunkAcross", "(I)I"⟩ ∈ Wc := Wc_s 9 (q := (⟨"HatbandYard$Fur", "shrunkAcross", "(I)I"⟩, 8)) (by decide +kernel) (by decide +kernel)
theorem sw_10 : Cond.selects "HatbandYard$Fur" ⟨"HatbandYard$Fur", "shrunkAlong", "(I)I"⟩ ⟨"HatbandYard$Fur", "shrunkAlong", "(I)I"⟩ ∈ Wc := Wc_s 10 (q := (⟨"HatbandYard$Fur", "shrunkAlong", "(I)I"⟩, 8)) (by decide +kernel) (by decide +kernel)
theorem sw_11 : Cond.selects "HatbandYard$Cone" ⟨"HatbandYard$Cone", "widthOf", "(I)I"⟩ ⟨"HatbandYard$Cone", "widthOf", "(I)I"⟩ ∈ Wc := Wc_s 11 (q := (⟨"HatbandYard$Cone", "widthOf", "(I)I"⟩, 7)) (by decide +kernel) (by decide +kernel)
theorem sw_12 : Cond.selects "HatbandYard" ⟨"HatbandYard", "blockAt", "(I)LHatbandYard$Block;"⟩ ⟨"HatbandYard", "blockAt", "(I)LHatbandYard$Block;"⟩ ∈ Wc := Wc_s 12 (q := (⟨"HatbandYard", "blockAt", "(I)LHatbandYard$Block;"⟩, 11)) (by decide +kernel) (by decide +kernel)
theorem sw_13 : Cond.selects "HatbandYard$Cone" ⟨"HatbandYard$Cone", "refusalOf", "(LHatbandYard$Block;)I"⟩ ⟨"HatbandYard$Cone", "refusalOf", "(LHatbandYard$Block;)I"⟩ ∈ Wc := Wc_s 13 (q := (⟨"HatbandYard$Cone", "refusalOf", "(LHatbandYard$Block;)I"⟩, 7)) (by decide +kernel) (by decide +kernel)
theorem sw_14 : Cond.selects "HatbandYard$Cone" ⟨"HatbandYard$Cone", "hasHole", "()Z"⟩ ⟨"HatbandYard$Cone", "hasHole", "()Z"⟩ ∈ Wc := Wc_s 14 (q := (⟨"HatbandYard$Cone", "hasHole", "()Z"⟩, 7)) (by decide +kernel) (by decide +kernel)
theorem sw_15 : Cond.selects "HatbandYard$Cone" ⟨"HatbandYard$Cone", "thicknessOf", "(I)I"⟩ ⟨"HatbandYard$Cone", "thicknessOf", "(I)I"⟩ ∈ Wc := Wc_s 15 (q := (⟨"HatbandYard$Cone", "thicknessOf", "(I)I"⟩, 7)) (by decide +kernel) (by decide +kernel)
theorem sw_16 : Cond.selects "HatbandYard$Cone" ⟨"HatbandYard$Cone", "gramsOf", "(I)I"⟩ ⟨"HatbandYard$Cone", "gramsOf", "(I)I"⟩ ∈ Wc := Wc_s 16 (q := (⟨"HatbandYard$Cone", "gramsOf", "(I)I"⟩, 7)) (by decide +kernel) (by decide +kernel)
theorem sw_17 : Cond.selects "HatbandYard$Block" ⟨"HatbandYard$Block", "widthFor", "(I)I"⟩ ⟨"HatbandYard$Block", "widthFor", "(I)I"⟩ ∈ Wc := Wc_s 17 (q := (⟨"HatbandYard$Block", "widthFor", "(I)I"⟩, 2)) (by decide +kernel) (by decide +kernel)
theorem sw_18 : Cond.selects "HatbandYard$Cone" ⟨"HatbandYard$Cone", "isTornBy", "(II)Z"⟩ ⟨"HatbandYard$Cone", "isTornBy", "(II)Z"⟩ ∈ Wc := Wc_s 18 (q := (⟨"HatbandYard$Cone", "isTornBy", "(II)Z"⟩, 7)) (by decide +kernel) (by decide +kernel)
theorem sw_19 : Cond.selects "HatbandYard$Cone" ⟨"HatbandYard$Cone", "stretchOver", "(LHatbandYard$Block;)V"⟩ ⟨"HatbandYard$Cone", "stretchOver", "(LHatbandYard$Block;)V"⟩ ∈ Wc := Wc_s 19 (q := (⟨"HatbandYard$Cone", "stretchOver", "(LHatbandYard$Block;)V"⟩, 7)) (by decide +kernel) (by decide +kernel)
theorem sw_20 : Cond.selects "HatbandYard" ⟨"HatbandYard", "typedFeather", "()LHatbandYard$Feather;"⟩ ⟨"HatbandYard", "typedFeather", "()LHatbandYard$Feather;"⟩ ∈ Wc := Wc_s 20 (q := (⟨"HatbandYard", "typedFeather", "()LHatbandYard$Feather;"⟩, 11)) (by decide +kernel) (by decide +kernel)
theorem sw_21 : Cond.selects "HatbandYard" ⟨"HatbandYard", "year", "()I"⟩ ⟨"HatbandYard", "year", "()I"⟩ ∈ Wc := Wc_s 21 (q := (⟨"HatbandYard", "year", "()I"⟩, 11)) (by decide +kernel) (by decide +kernel)
theorem sw_22 : Cond.selects "HatbandYard$Feather" ⟨"HatbandYard$Feather", "isAllowedIn", "(I)Z"⟩ ⟨"HatbandYard$Feather", "isAllowedIn", "(I)Z"⟩ ∈ Wc := Wc_s 22 (q := (⟨"HatbandYard$Feather", "isAllowedIn", "(I)Z"⟩, 5)) (by decide +kernel) (by decide +kernel)
theorem sw_23 : Cond.selects "HatbandYard$Cone" ⟨"HatbandYard$Cone", "widthFollowed", "(I)I"⟩ ⟨"HatbandYard$Cone", "widthFollowed", "(I)I"⟩ ∈ Wc := Wc_s 23 (q := (⟨"HatbandYard$Cone", "widthFollowed", "(I)I"⟩, 7)) (by decide +kernel) (by decide +kernel)
theorem sw_24 : Cond.selects "HatbandYard" ⟨"HatbandYard", "typedSpiral", "()LHatbandYard$Spiral;"⟩ ⟨"HatbandYard", "typedSpiral", "()LHatbandYard$Spiral;"⟩ ∈ Wc := Wc_s 24 (q := (⟨"HatbandYard", "typedSpiral", "()LHatbandYard$Spiral;"⟩, 11)) (by decide +kernel) (by decide +kernel)
theorem sw_25 : Cond.selects "HatbandYard$Spiral" ⟨"HatbandYard$Spiral", "stitchesRowByRow", "(I)I"⟩ ⟨"HatbandYard$Spiral", "stitchesRowByRow", "(I)I"⟩ ∈ Wc := Wc_s 25 (q := (⟨"HatbandYard$Spiral", "stitchesRowByRow", "(I)I"⟩, 6)) (by decide +kernel) (by decide +kernel)
theorem sw_26 : Cond.selects "HatbandYard$Spiral" ⟨"HatbandYard$Spiral", "gainOf", "(I)I"⟩ ⟨"HatbandYard$Spiral", "gainOf", "(I)I"⟩ ∈ Wc := Wc_s 26 (q := (⟨"HatbandYard$Spiral", "gainOf", "(I)I"⟩, 6)) (by decide +kernel) (by decide +kernel)
theorem sw_27 : Cond.selects "HatbandYard$Spiral" ⟨"HatbandYard$Spiral", "stitchesAtOnce", "(I)I"⟩ ⟨"HatbandYard$Spiral", "stitchesAtOnce", "(I)I"⟩ ∈ Wc := Wc_s 27 (q := (⟨"HatbandYard$Spiral", "stitchesAtOnce", "(I)I"⟩, 6)) (by decide +kernel) (by decide +kernel)
theorem sw_28 : Cond.selects "HatbandYard$Spiral" ⟨"HatbandYard$Spiral", "rowsToClose", "(I)I"⟩ ⟨"HatbandYard$Spiral", "rowsToClose", "(I)I"⟩ ∈ Wc := Wc_s 28 (q := (⟨"HatbandYard$Spiral", "rowsToClose", "(I)I"⟩, 6)) (by decide +kernel) (by decide +kernel)
theorem sw_29 : Cond.selects "HatbandYard$Head" ⟨"HatbandYard$Head", "setRadius", "(II)V"⟩ ⟨"HatbandYard$Head", "setRadius", "(II)V"⟩ ∈ Wc := Wc_s 29 (q := (⟨"HatbandYard$Head", "setRadius", "(II)V"⟩, 1)) (by decide +kernel) (by decide +kernel)
theorem sw_30 : Cond.selects "HatbandYard$Head" ⟨"HatbandYard$Head", "around", "()I"⟩ ⟨"HatbandYard$Head", "around", "()I"⟩ ∈ Wc := Wc_s 30 (q := (⟨"HatbandYard$Head", "around", "()I"⟩, 1)) (by decide +kernel) (by decide +kernel)
theorem sw_31 : Cond.selects "HatbandYard$Head" ⟨"HatbandYard$Head", "sizeIn", "(I)F"⟩ ⟨"HatbandYard$Head", "sizeIn", "(I)F"⟩ ∈ Wc := Wc_s 31 (q := (⟨"HatbandYard$Head", "sizeIn", "(I)F"⟩, 1)) (by decide +kernel) (by decide +kernel)
theorem sw_32 : Cond.selects "HatbandYardModel" ⟨"HatbandYardModel", "goes", "(I)Z"⟩ ⟨"HatbandYardModel", "goes", "(I)Z"⟩ ∈ Wc := Wc_s 32 (q := (⟨"HatbandYardModel", "goes", "(I)Z"⟩, 22)) (by decide +kernel) (by decide +kernel)
theorem sw_33 : Cond.selects "HatbandYardModel" ⟨"HatbandYardModel", "fur", "()I"⟩ ⟨"HatbandYardModel", "fur", "()I"⟩ ∈ Wc := Wc_s 33 (q := (⟨"HatbandYardModel", "fur", "()I"⟩, 22)) (by decide +kernel) (by decide +kernel)
theorem sw_34 : Cond.selects "HatbandYardModel" ⟨"HatbandYardModel", "empties", "()V"⟩ ⟨"HatbandYardModel", "empties", "()V"⟩ ∈ Wc := Wc_s 34 (q := (⟨"HatbandYardModel", "empties", "()V"⟩, 22)) (by decide +kernel) (by decide +kernel)
theorem sw_35 : Cond.selects "HatbandYardModel" ⟨"HatbandYardModel", "isCone", "(I)Z"⟩ ⟨"HatbandYardModel", "isCone", "(I)Z"⟩ ∈ Wc := Wc_s 35 (q := (⟨"HatbandYardModel", "isCone", "(I)Z"⟩, 22)) (by decide +kernel) (by decide +kernel)
theorem sw_36 : Cond.selects "HatbandYardModel" ⟨"HatbandYardModel", "hinders", "(II)I"⟩ ⟨"HatbandYardModel", "hinders", "(II)I"⟩ ∈ Wc := Wc_s 36 (q := (⟨"HatbandYardModel", "hinders", "(II)I"⟩, 22)) (by decide +kernel) (by decide +kernel)
theorem sw_37 : Cond.selects "HatbandYardModel" ⟨"HatbandYardModel", "blockAt", "(II)I"⟩ ⟨"HatbandYardModel", "blockAt", "(II)I"⟩ ∈ Wc := Wc_s 37 (q := (⟨"HatbandYardModel", "blockAt", "(II)I"⟩, 22)) (by decide +kernel) (by decide +kernel)
theorem sw_38 : Cond.selects "HatbandYardModel" ⟨"HatbandYardModel", "thick", "(I)I"⟩ ⟨"HatbandYardModel", "thick", "(I)I"⟩ ∈ Wc := Wc_s 38 (q := (⟨"HatbandYardModel", "thick", "(I)I"⟩, 22)) (by decide +kernel) (by decide +kernel)
theorem sw_39 : Cond.selects "HatbandYardModel" ⟨"HatbandYardModel", "feather", "()I"⟩ ⟨"HatbandYardModel", "feather", "()I"⟩ ∈ Wc := Wc_s 39 (q := (⟨"HatbandYardModel", "feather", "()I"⟩, 22)) (by decide +kernel) (by decide +kernel)
theorem sw_40 : Cond.selects "HatbandYardModel" ⟨"HatbandYardModel", "isBand", "(II)Z"⟩ ⟨"HatbandYardModel", "isBand", "(II)Z"⟩ ∈ Wc := Wc_s 40 (q := (⟨"HatbandYardModel", "isBand", "(II)Z"⟩, 22)) (by decide +kernel) (by decide +kernel)
theorem sw_41 : Cond.selects "HatbandYardModel" ⟨"HatbandYardModel", "countOf", "(I)I"⟩ ⟨"HatbandYardModel", "countOf", "(I)I"⟩ ∈ Wc := Wc_s 41 (q := (⟨"HatbandYardModel", "countOf", "(I)I"⟩, 22)) (by decide +kernel) (by decide +kernel)
theorem sw_42 : Cond.selects "HatbandYardModel" ⟨"HatbandYardModel", "kind", "()I"⟩ ⟨"HatbandYardModel", "kind", "()I"⟩ ∈ Wc := Wc_s 42 (q := (⟨"HatbandYardModel", "kind", "()I"⟩, 22)) (by decide +kernel) (by decide +kernel)
theorem sw_43 : Cond.selects "HatbandYardModel" ⟨"HatbandYardModel", "around", "()I"⟩ ⟨"HatbandYardModel", "around", "()I"⟩ ∈ Wc := Wc_s 43 (q := (⟨"HatbandYardModel", "around", "()I"⟩, 22)) (by decide +kernel) (by decide +kernel)
end
section
theorem dX0_init_0 : decode cX0_init 0 = .ok (.aload_n 0, 1) := by decide +kernel
theorem dX0_init_1 : decode cX0_init 1 = .ok (.invokespecial 1, 3) := by decide +kernel
theorem dX0_init_4 : decode cX0_init 4 = .ok (.aload_n 0, 1) := by decide +kernel
theorem dX0_init_5 : decode cX0_init 5 = .ok (.iload_n 1, 1) := by decide +kernel
theorem dX0_init_6 : decode cX0_init 6 = .ok (.putfield 7, 3) := by decide +kernel
theorem dX0_init_9 : decode cX0_init 9 = .ok (.aload_n 0, 1) := by decide +kernel
theorem dX0_init_10 : decode cX0_init 10 = .ok (.iload_n 2, 1) := by decide +kernel
theorem dX0_init_11 : decode cX0_init 11 = .ok (.putfield 13, 3) := by decide +kernel
theorem dX0_init_14 : decode cX0_init 14 = .ok (.return_, 1) := by decide +kernel
theorem dX0_widthFor_0 : decode cX0_widthFor 0 = .ok (.iconst 0, 1) := by decide +kernel
theorem dX0_widthFor_1 : decode cX0_widthFor 1 = .ok (.iload_n 1, 1) := by decide +kernel
theorem dX0_widthFor_2 : decode cX0_widthFor 2 = .ok (.aload_n 0, 1) := by decide +kernel
theorem dX0_widthFor_3 : decode cX0_widthFor 3 = .ok (.getfield 13, 3) := by decide +kernel
theorem dX0_widthFor_6 : decode cX0_widthFor 6 = .ok (.isub, 1) := by decide +kernel
theorem dX0_widthFor_7 : decode cX0_widthFor 7 = .ok (.iconst 1, 1) := by decide +kernel
theorem dX0_widthFor_8 : decode cX0_widthFor 8 = .ok (.iadd, 1) := by decide +kernel
theorem dX0_widthFor_9 : decode cX0_widthFor 9 = .ok (.invokestatic 16, 3) := by decide +kernel
theorem dX0_widthFor_12 : decode cX0_widthFor 12 = .ok (.istore_n 2, 1) := by decide +kernel
theorem dX0_widthFor_13 : decode cX0_widthFor 13 = .ok (.bipush 50, 2) := by decide +kernel
theorem dX0_widthFor_15 : decode cX0_widthFor 15 = .ok (.aload_n 0, 1) := by decide +kernel
theorem dX0_widthFor_16 : decode cX0_widthFor 16 = .ok (.getfield 7, 3) := by decide +kernel
theorem dX0_widthFor_19 : decode cX0_widthFor 19 = .ok (.aload_n 0, 1) := by decide +kernel
theorem dX0_widthFor_20 : decode cX0_widthFor 20 = .ok (.getfield 7, 3) := by decide +kernel
theorem dX0_widthFor_23 : decode cX0_widthFor 23 = .ok (.bipush 10, 2) := by decide +kernel
theorem dX0_widthFor_25 : decode cX0_widthFor 25 = .ok (.idiv, 1) := by decide +kernel
theorem dX0_widthFor_26 : decode cX0_widthFor 26 = .ok (.iload_n 2, 1) := by decide +kernel
theorem dX0_widthFor_27 : decode cX0_widthFor 27 = .ok (.imul, 1) := by decide +kernel
theorem dX0_widthFor_28 : decode cX0_widthFor 28 = .ok (.isub, 1) := by decide +kernel
theorem dX0_widthFor_29 : decode cX0_widthFor 29 = .ok (.invokestatic 16, 3) := by decide +kernel
theorem dX0_widthFor_32 : decode cX0_widthFor 32 = .ok (.ireturn, 1) := by decide +kernel
theorem dX1_init_0 : decode cX1_init 0 = .ok (.aload_n 0, 1) := by decide +kernel
theorem dX1_init_1 : decode cX1_init 1 = .ok (.invokespecial 3, 3) := by decide +kernel
theorem dX1_init_4 : decode cX1_init 4 = .ok (.aload_n 0, 1) := by decide +kernel
theorem dX1_init_5 : decode cX1_init 5 = .ok (.bipush 6, 2) := by decide +kernel
theorem dX1_init_7 : decode cX1_init 7 = .ok (.newarray .int, 2) := by decide +kernel
theorem dX1_init_9 : decode cX1_init 9 = .ok (.putfield 9, 3) := by decide +kernel
theorem dX1_init_12 : decode cX1_init 12 = .ok (.aload_n 0, 1) := by decide +kernel
theorem dX1_init_13 : decode cX1_init 13 = .ok (.bipush 6, 2) := by decide +kernel
theorem dX1_init_15 : decode cX1_init 15 = .ok (.newarray .int, 2) := by decide +kernel
theorem dX1_init_17 : decode cX1_init 17 = .ok (.putfield 15, 3) := by decide +kernel
theorem dX1_init_20 : decode cX1_init 20 = .ok (.aload_n 0, 1) := by decide +kernel
theorem dX1_init_21 : decode cX1_init 21 = .ok (.bipush 60, 2) := by decide +kernel
theorem dX1_init_23 : decode cX1_init 23 = .ok (.putfield 18, 3) := by decide +kernel
theorem dX1_init_26 : decode cX1_init 26 = .ok (.aload_n 0, 1) := by decide +kernel
theorem dX1_init_27 : decode cX1_init 27 = .ok (.iconst 0, 1) := by decide +kernel
theorem dX1_init_28 : decode cX1_init 28 = .ok (.putfield 22, 3) := by decide +kernel
theorem dX1_init_31 : decode cX1_init 31 = .ok (.aload_n 0, 1) := by decide +kernel
theorem dX1_init_32 : decode cX1_init 32 = .ok (.aconst_null, 1) := by decide +kernel
theorem dX1_init_33 : decode cX1_init 33 = .ok (.putfield 25, 3) := by decide +kernel
theorem dX1_init_36 : decode cX1_init 36 = .ok (.aload_n 0, 1) := by decide +kernel
theorem dX1_init_37 : decode cX1_init 37 = .ok (.iconst 0, 1) := by decide +kernel
theorem dX1_init_38 : decode cX1_init 38 = .ok (.putfield 29, 3) := by decide +kernel
theorem dX1_init_41 : decode cX1_init 41 = .ok (.aload_n 0, 1) := by decide +kernel
theorem dX1_init_42 : decode cX1_init 42 = .ok (.aload_n 1, 1) := by decide +kernel
theorem dX1_init_43 : decode cX1_init 43 = .ok (.putfield 33, 3) := by decide +kernel
theorem dX1_init_46 : decode cX1_init 46 = .ok (.iconst 0, 1) := by decide +kernel
theorem dX1_init_47 : decode cX1_init 47 = .ok (.istore 4, 2) := by decide +kernel
theorem dX1_init_49 : decode cX1_init 49 = .ok (.iconst 0, 1) := by decide +kernel
theorem dX1_init_50 : decode cX1_init 50 = .ok (.istore 5, 2) := by decide +kernel
theorem dX1_init_52 : decode cX1_init 52 = .ok (.iload 5, 2) := by decide +kernel
theorem dX1_init_54 : decode cX1_init 54 = .ok (.bipush 6, 2) := by decide +kernel
theorem dX1_init_56 : decode cX1_init 56 = .ok (.if_icmp .ge 20, 3) := by decide +kernel
theorem dX1_init_59 : decode cX1_init 59 = .ok (.iload 4, 2) := by decide +kernel
theorem dX1_init_61 : decode cX1_init 61 = .ok (.iload 5, 2) := by decide +kernel
theorem dX1_init_63 : decode cX1_init 63 = .ok (.iload_n 3, 1) := by decide +kernel
theorem dX1_init_64 : decode cX1_init 64 = .ok (.invokestatic 37, 3) := by decide +kernel
theorem dX1_init_67 : decode cX1_init 67 = .ok (.iadd, 1) := by decide +kernel
theorem dX1_init_68 : decode cX1_init 68 = .ok (.istore 4, 2) := by decide +kernel
theorem dX1_init_70 : decode cX1_init 70 = .ok (.iinc 5 1, 3) := by decide +kernel
theorem dX1_init_73 : decode cX1_init 73 = .ok (.goto (-21), 3) := by decide +kernel
theorem dX1_init_76 : decode cX1_init 76 = .ok (.iload_n 2, 1) := by decide +kernel
theorem dX1_init_77 : decode cX1_init 77 = .ok (.istore 5, 2) := by decide +kernel
theorem dX1_init_79 : decode cX1_init 79 = .ok (.iconst 0, 1) := by decide +kernel
theorem dX1_init_80 : decode cX1_init 80 = .ok (.istore 6, 2) := by decide +kernel
theorem dX1_init_82 : decode cX1_init 82 = .ok (.iload 6, 2) := by decide +kernel
theorem dX1_init_84 : decode cX1_init 84 = .ok (.bipush 6, 2) := by decide +kernel
theorem dX1_init_86 : decode cX1_init 86 = .ok (.if_icmp .ge 60, 3) := by decide +kernel
theorem dX1_init_89 : decode cX1_init 89 = .ok (.aload_n 0, 1) := by decide +kernel
theorem dX1_init_90 : decode cX1_init 90 = .ok (.getfield 9, 3) := by decide +kernel
theorem dX1_init_93 : decode cX1_init 93 = .ok (.iload 6, 2) := by decide +kernel
theorem dX1_init_95 : decode cX1_init 95 = .ok (.iload 6, 2) := by decide +kernel
theorem dX1_init_97 : decode cX1_init 97 = .ok (.invokestatic 41, 3) := by decide +kernel
theorem dX1_init_100 : decode cX1_init 100 = .ok (.iastore, 1) := by decide +kernel
theorem dX1_init_101 : decode cX1_init 101 = .ok (.aload_n 0, 1) := by decide +kernel
theorem dX1_init_102 : decode cX1_init 102 = .ok (.getfield 15, 3) := by decide +kernel
theorem dX1_init_105 : decode cX1_init 105 = .ok (.iload 6, 2) := by decide +kernel
theorem dX1_init_107 : decode cX1_init 107 = .ok (.iload 4, 2) := by decide +kernel
theorem dX1_init_109 : decode cX1_init 109 = .ok (.ifCond .gt 7, 3) := by decide +kernel
theorem dX1_init_112 : decode cX1_init 112 = .ok (.iconst 0, 1) := by decide +kernel
theorem dX1_init_113 : decode cX1_init 113 = .ok (.goto 14, 3) := by decide +kernel
theorem dX1_init_116 : decode cX1_init 116 = .ok (.iload_n 2, 1) := by decide +kernel
theorem dX1_init_117 : decode cX1_init 117 = .ok (.iload 6, 2) := by decide +kernel
theorem dX1_init_119 : decode cX1_init 119 = .ok (.iload_n 3, 1) := by decide +kernel
theorem dX1_init_120 : decode cX1_init 120 = .ok (.invokestatic 37, 3) := by decide +kernel
theorem dX1_init_123 : decode cX1_init 123 = .ok (.imul, 1) := by decide +kernel
theorem dX1_init_124 : decode cX1_init 124 = .ok (.iload 4, 2) := by decide +kernel
theorem dX1_init_126 : decode cX1_init 126 = .ok (.idiv, 1) := by decide +kernel
theorem dX1_init_127 : decode cX1_init 127 = .ok (.iastore, 1) := by decide +kernel
theorem dX1_init_128 : decode cX1_init 128 = .ok (.iload 5, 2) := by decide +kernel
theorem dX1_init_130 : decode cX1_init 130 = .ok (.aload_n 0, 1) := by decide +kernel
theorem dX1_init_131 : decode cX1_init 131 = .ok (.getfield 15, 3) := by decide +kernel
theorem dX1_init_134 : decode cX1_init 134 = .ok (.iload 6, 2) := by decide +kernel
theorem dX1_init_136 : decode cX1_init 136 = .ok (.iaload, 1) := by decide +kernel
theorem dX1_init_137 : decode cX1_init 137 = .ok (.isub, 1) := by decide +kernel
theorem dX1_init_138 : decode cX1_init 138 = .ok (.istore 5, 2) := by decide +kernel
theorem dX1_init_140 : decode cX1_init 140 = .ok (.iinc 6 1, 3) := by decide +kernel
theorem dX1_init_143 : decode cX1_init 143 = .ok (.goto (-61), 3) := by decide +kernel
theorem dX1_init_146 : decode cX1_init 146 = .ok (.aload_n 0, 1) := by decide +kernel
theorem dX1_init_147 : decode cX1_init 147 = .ok (.getfield 15, 3) := by decide +kernel
theorem dX1_init_150 : decode cX1_init 150 = .ok (.iconst 0, 1) := by decide +kernel
theorem dX1_init_151 : decode cX1_init 151 = .ok (.dup2, 1) := by decide +kernel
theorem dX1_init_152 : decode cX1_init 152 = .ok (.iaload, 1) := by decide +kernel
theorem dX1_init_153 : decode cX1_init 153 = .ok (.iload 5, 2) := by decide +kernel
theorem dX1_init_155 : decode cX1_init 155 = .ok (.iadd, 1) := by decide +kernel
theorem dX1_init_156 : decode cX1_init 156 = .ok (.iastore, 1) := by decide +kernel
theorem dX1_init_157 : decode cX1_init 157 = .ok (.return_, 1) := by decide +kernel
theorem dX1_partOf_0 : decode cX1_partOf 0 = .ok (.bipush 10, 2) := by decide +kernel
theorem dX1_partOf_2 : decode cX1_partOf 2 = .ok (.iload_n 1, 1) := by decide +kernel
theorem dX1_partOf_3 : decode cX1_partOf 3 = .ok (.iload_n 0, 1) := by decide +kernel
theorem dX1_partOf_4 : decode cX1_partOf 4 = .ok (.imul, 1) := by decide +kernel
theorem dX1_partOf_5 : decode cX1_partOf 5 = .ok (.iadd, 1) := by decide +kernel
theorem dX1_partOf_6 : decode cX1_partOf 6 = .ok (.ireturn, 1) := by decide +kernel
theorem dX1_widthFormed_0 : decode cX1_widthFormed 0 = .ok (.sipush 1200, 3) := by decide +kernel
theorem dX1_widthFormed_3 : decode cX1_widthFormed 3 = .ok (.sipush 150, 3) := by decide +kernel
theorem dX1_widthFormed_6 : decode cX1_widthFormed 6 = .ok (.iload_n 0, 1) := by decide +kernel
theorem dX1_widthFormed_7 : decode cX1_widthFormed 7 = .ok (.imul, 1) := by decide +kernel
theorem dX1_widthFormed_8 : decode cX1_widthFormed 8 = .ok (.isub, 1) := by decide +kernel
theorem dX1_widthFormed_9 : decode cX1_widthFormed 9 = .ok (.ireturn, 1) := by decide +kernel
theorem dX1_widthOf_0 : decode cX1_widthOf 0 = .ok (.iload_n 1, 1) := by decide +kernel
theorem dX1_widthOf_1 : decode cX1_widthOf 1 = .ok (.ifCond .lt 12, 3) := by decide +kernel
theorem dX1_widthOf_4 : decode cX1_widthOf 4 = .ok (.iload_n 1, 1) := by decide +kernel
theorem dX1_widthOf_5 : decode cX1_widthOf 5 = .ok (.aload_n 0, 1) := by decide +kernel
theorem dX1_widthOf_6 : decode cX1_widthOf 6 = .ok (.getfield 9, 3) := by decide +kernel
theorem dX1_widthOf_9 : decode cX1_widthOf 9 = .ok (.arraylength, 1) := by decide +kernel
theorem dX1_widthOf_10 : decode cX1_widthOf 10 = .ok (.if_icmp .lt 7, 3) := by decide +kernel
theorem dX1_widthOf_13 : decode cX1_widthOf 13 = .ok (.iconst 0, 1) := by decide +kernel
theorem dX1_widthOf_14 : decode cX1_widthOf 14 = .ok (.goto 9, 3) := by decide +kernel
theorem dX1_widthOf_17 : decode cX1_widthOf 17 = .ok (.aload_n 0, 1) := by decide +kernel
theorem dX1_widthOf_18 : decode cX1_widthOf 18 = .ok (.getfield 9, 3) := by decide +kernel
theorem dX1_widthOf_21 : decode cX1_widthOf 21 = .ok (.iload_n 1, 1) := by decide +kernel
theorem dX1_widthOf_22 : decode cX1_widthOf 22 = .ok (.iaload, 1) := by decide +kernel
theorem dX1_widthOf_23 : decode cX1_widthOf 23 = .ok (.ireturn, 1) := by decide +kernel
theorem dX1_gramsOf_0 : decode cX1_gramsOf 0 = .ok (.iload_n 1, 1) := by decide +kernel
theorem dX1_gramsOf_1 : decode cX1_gramsOf 1 = .ok (.ifCond .lt 12, 3) := by decide +kernel
theorem dX1_gramsOf_4 : decode cX1_gramsOf 4 = .ok (.iload_n 1, 1) := by decide +kernel
theorem dX1_gramsOf_5 : decode cX1_gramsOf 5 = .ok (.aload_n 0, 1) := by decide +kernel
theorem dX1_gramsOf_6 : decode cX1_gramsOf 6 = .ok (.getfield 15, 3) := by decide +kernel
theorem dX1_gramsOf_9 : decode cX1_gramsOf 9 = .ok (.arraylength, 1) := by decide +kernel
theorem dX1_gramsOf_10 : decode cX1_gramsOf 10 = .ok (.if_icmp .lt 7, 3) := by decide +kernel
theorem dX1_gramsOf_13 : decode cX1_gramsOf 13 = .ok (.iconst 0, 1) := by decide +kernel
theorem dX1_gramsOf_14 : decode cX1_gramsOf 14 = .ok (.goto 9, 3) := by decide +kernel
theorem dX1_gramsOf_17 : decode cX1_gramsOf 17 = .ok (.aload_n 0, 1) := by decide +kernel
theorem dX1_gramsOf_18 : decode cX1_gramsOf 18 = .ok (.getfield 15, 3) := by decide +kernel
theorem dX1_gramsOf_21 : decode cX1_gramsOf 21 = .ok (.iload_n 1, 1) := by decide +kernel
theorem dX1_gramsOf_22 : decode cX1_gramsOf 22 = .ok (.iaload, 1) := by decide +kernel
theorem dX1_gramsOf_23 : decode cX1_gramsOf 23 = .ok (.ireturn, 1) := by decide +kernel
theorem dX1_thicknessOf_0 : decode cX1_thicknessOf 0 = .ok (.aload_n 0, 1) := by decide +kernel
theorem dX1_thicknessOf_1 : decode cX1_thicknessOf 1 = .ok (.iload_n 1, 1) := by decide +kernel
theorem dX1_thicknessOf_2 : decode cX1_thicknessOf 2 = .ok (.invokevirtual 45, 3) := by decide +kernel
theorem dX1_thicknessOf_5 : decode cX1_thicknessOf 5 = .ok (.aload_n 0, 1) := by decide +kernel
theorem dX1_thicknessOf_6 : decode cX1_thicknessOf 6 = .ok (.getfield 18, 3) := by decide +kernel
theorem dX1_thicknessOf_9 : decode cX1_thicknessOf 9 = .ok (.imul, 1) := by decide +kernel
theorem dX1_thicknessOf_10 : decode cX1_thicknessOf 10 = .ok (.istore_n 2, 1) := by decide +kernel
theorem dX1_thicknessOf_11 : decode cX1_thicknessOf 11 = .ok (.iload_n 2, 1) := by decide +kernel
theorem dX1_thicknessOf_12 : decode cX1_thicknessOf 12 = .ok (.ifCond .gt 7, 3) := by decide +kernel
theorem dX1_thicknessOf_15 : decode cX1_thicknessOf 15 = .ok (.iconst 0, 1) := by decide +kernel
theorem dX1_thicknessOf_16 : decode cX1_thicknessOf 16 = .ok (.goto 13, 3) := by decide +kernel
theorem dX1_thicknessOf_19 : decode cX1_thicknessOf 19 = .ok (.aload_n 0, 1) := by decide +kernel
theorem dX1_thicknessOf_20 : decode cX1_thicknessOf 20 = .ok (.iload_n 1, 1) := by decide +kernel
theorem dX1_thicknessOf_21 : decode cX1_thicknessOf 21 = .ok (.invokevirtual 48, 3) := by decide +kernel
theorem dX1_thicknessOf_24 : decode cX1_thicknessOf 24 = .ok (.ldc 51, 2) := by decide +kernel
theorem dX1_thicknessOf_26 : decode cX1_thicknessOf 26 = .ok (.imul, 1) := by decide +kernel
theorem dX1_thicknessOf_27 : decode cX1_thicknessOf 27 = .ok (.iload_n 2, 1) := by decide +kernel
theorem dX1_thicknessOf_28 : decode cX1_thicknessOf 28 = .ok (.idiv, 1) := by decide +kernel
theorem dX1_thicknessOf_29 : decode cX1_thicknessOf 29 = .ok (.ireturn, 1) := by decide +kernel
theorem dX1_shrink_0 : decode cX1_shrink 0 = .ok (.iconst 0, 1) := by decide +kernel
theorem dX1_shrink_1 : decode cX1_shrink 1 = .ok (.istore_n 1, 1) := by decide +kernel
theorem dX1_shrink_2 : decode cX1_shrink 2 = .ok (.iload_n 1, 1) := by decide +kernel
theorem dX1_shrink_3 : decode cX1_shrink 3 = .ok (.aload_n 0, 1) := by decide +kernel
theorem dX1_shrink_4 : decode cX1_shrink 4 = .ok (.getfield 9, 3) := by decide +kernel
theorem dX1_shrink_7 : decode cX1_shrink 7 = .ok (.arraylength, 1) := by decide +kernel
theorem dX1_shrink_8 : decode cX1_shrink 8 = .ok (.if_icmp .ge 28, 3) := by decide +kernel
theorem dX1_shrink_11 : decode cX1_shrink 11 = .ok (.aload_n 0, 1) := by decide +kernel
theorem dX1_shrink_12 : decode cX1_shrink 12 = .ok (.getfield 9, 3) := by decide +kernel
theorem dX1_shrink_15 : decode cX1_shrink 15 = .ok (.iload_n 1, 1) := by decide +kernel
theorem dX1_shrink_16 : decode cX1_shrink 16 = .ok (.aload_n 0, 1) := by decide +kernel
theorem dX1_shrink_17 : decode cX1_shrink 17 = .ok (.getfield 33, 3) := by decide +kernel
theorem dX1_shrink_20 : decode cX1_shrink 20 = .ok (.aload_n 0, 1) := by decide +kernel
theorem dX1_shrink_21 : decode cX1_shrink 21 = .ok (.getfield 9, 3) := by decide +kernel
theorem dX1_shrink_24 : decode cX1_shrink 24 = .ok (.iload_n 1, 1) := by decide +kernel
theorem dX1_shrink_25 : decode cX1_shrink 25 = .ok (.iaload, 1) := by decide +kernel
theorem dX1_shrink_26 : decode cX1_shrink 26 = .ok (.invokevirtual 52, 3) := by decide +kernel
theorem dX1_shrink_29 : decode cX1_shrink 29 = .ok (.iastore, 1) := by decide +kernel
theorem dX1_shrink_30 : decode cX1_shrink 30 = .ok (.iinc 1 1, 3) := by decide +kernel
theorem dX1_shrink_33 : decode cX1_shrink 33 = .ok (.goto (-31), 3) := by decide +kernel
theorem dX1_shrink_36 : decode cX1_shrink 36 = .ok (.aload_n 0, 1) := by decide +kernel
theorem dX1_shrink_37 : decode cX1_shrink 37 = .ok (.aload_n 0, 1) := by decide +kernel
theorem dX1_shrink_38 : decode cX1_shrink 38 = .ok (.getfield 33, 3) := by decide +kernel
theorem dX1_shrink_41 : decode cX1_shrink 41 = .ok (.aload_n 0, 1) := by decide +kernel
theorem dX1_shrink_42 : decode cX1_shrink 42 = .ok (.getfield 18, 3) := by decide +kernel
theorem dX1_shrink_45 : decode cX1_shrink 45 = .ok (.invokevirtual 57, 3) := by decide +kernel
theorem dX1_shrink_48 : decode cX1_shrink 48 = .ok (.putfield 18, 3) := by decide +kernel
theorem dX1_shrink_51 : decode cX1_shrink 51 = .ok (.aload_n 0, 1) := by decide +kernel
theorem dX1_shrink_52 : decode cX1_shrink 52 = .ok (.dup, 1) := by decide +kernel
theorem dX1_shrink_53 : decode cX1_shrink 53 = .ok (.getfield 22, 3) := by decide +kernel
theorem dX1_shrink_56 : decode cX1_shrink 56 = .ok (.iconst 1, 1) := by decide +kernel
theorem dX1_shrink_57 : decode cX1_shrink 57 = .ok (.iadd, 1) := by decide +kernel
theorem dX1_shrink_58 : decode cX1_shrink 58 = .ok (.putfield 22, 3) := by decide +kernel
theorem dX1_shrink_61 : decode cX1_shrink 61 = .ok (.return_, 1) := by decide +kernel
theorem dX1_refusalOf_0 : decode cX1_refusalOf 0 = .ok (.aload_n 0, 1) := by decide +kernel
theorem dX1_refusalOf_1 : decode cX1_refusalOf 1 = .ok (.invokevirtual 60, 3) := by decide +kernel
theorem dX1_refusalOf_4 : decode cX1_refusalOf 4 = .ok (.ifCond .eq 5, 3) := by decide +kernel
theorem dX1_refusalOf_7 : decode cX1_refusalOf 7 = .ok (.iconst 1, 1) := by decide +kernel
theorem dX1_refusalOf_8 : decode cX1_refusalOf 8 = .ok (.ireturn, 1) := by decide +kernel
theorem dX1_refusalOf_9 : decode cX1_refusalOf 9 = .ok (.iconst 0, 1) := by decide +kernel
theorem dX1_refusalOf_10 : decode cX1_refusalOf 10 = .ok (.istore_n 2, 1) := by decide +kernel
theorem dX1_refusalOf_11 : decode cX1_refusalOf 11 = .ok (.iconst 0, 1) := by decide +kernel
theorem dX1_refusalOf_12 : decode cX1_refusalOf 12 = .ok (.istore_n 3, 1) := by decide +kernel
theorem dX1_refusalOf_13 : decode cX1_refusalOf 13 = .ok (.iload_n 3, 1) := by decide +kernel
theorem dX1_refusalOf_14 : decode cX1_refusalOf 14 = .ok (.bipush 6, 2) := by decide +kernel
theorem dX1_refusalOf_16 : decode cX1_refusalOf 16 = .ok (.if_icmp .ge 77, 3) := by decide +kernel
theorem dX1_refusalOf_19 : decode cX1_refusalOf 19 = .ok (.aload_n 0, 1) := by decide +kernel
theorem dX1_refusalOf_20 : decode cX1_refusalOf 20 = .ok (.iload_n 3, 1) := by decide +kernel
theorem dX1_refusalOf_21 : decode cX1_refusalOf 21 = .ok (.invokevirtual 45, 3) := by decide +kernel
theorem dX1_refusalOf_24 : decode cX1_refusalOf 24 = .ok (.istore 4, 2) := by decide +kernel
theorem dX1_refusalOf_26 : decode cX1_refusalOf 26 = .ok (.aload_n 1, 1) := by decide +kernel
theorem dX1_refusalOf_27 : decode cX1_refusalOf 27 = .ok (.iload_n 3, 1) := by decide +kernel
theorem dX1_refusalOf_28 : decode cX1_refusalOf 28 = .ok (.invokevirtual 64, 3) := by decide +kernel
theorem dX1_refusalOf_31 : decode cX1_refusalOf 31 = .ok (.istore 5, 2) := by decide +kernel
theorem dX1_refusalOf_33 : decode cX1_refusalOf 33 = .ok (.iload 5, 2) := by decide +kernel
theorem dX1_refusalOf_35 : decode cX1_refusalOf 35 = .ok (.iload 4, 2) := by decide +kernel
theorem dX1_refusalOf_37 : decode cX1_refusalOf 37 = .ok (.if_icmp .le 19, 3) := by decide +kernel
theorem dX1_refusalOf_40 : decode cX1_refusalOf 40 = .ok (.aload_n 0, 1) := by decide +kernel
theorem dX1_refusalOf_41 : decode cX1_refusalOf 41 = .ok (.iload 5, 2) := by decide +kernel
theorem dX1_refusalOf_43 : decode cX1_refusalOf 43 = .ok (.iload 4, 2) := by decide +kernel
theorem dX1_refusalOf_45 : decode cX1_refusalOf 45 = .ok (.isub, 1) := by decide +kernel
theorem dX1_refusalOf_46 : decode cX1_refusalOf 46 = .ok (.iload 4, 2) := by decide +kernel
theorem dX1_refusalOf_48 : decode cX1_refusalOf 48 = .ok (.invokevirtual 69, 3) := by decide +kernel
theorem dX1_refusalOf_51 : decode cX1_refusalOf 51 = .ok (.ifCond .eq 5, 3) := by decide +kernel
theorem dX1_refusalOf_54 : decode cX1_refusalOf 54 = .ok (.iconst 2, 1) := by decide +kernel
theorem dX1_refusalOf_55 : decode cX1_refusalOf 55 = .ok (.ireturn, 1) := by decide +kernel
theorem dX1_refusalOf_56 : decode cX1_refusalOf 56 = .ok (.iload_n 2, 1) := by decide +kernel
theorem dX1_refusalOf_57 : decode cX1_refusalOf 57 = .ok (.ifCond .ne 24, 3) := by decide +kernel
theorem dX1_refusalOf_60 : decode cX1_refusalOf 60 = .ok (.iload 5, 2) := by decide +kernel
theorem dX1_refusalOf_62 : decode cX1_refusalOf 62 = .ok (.iload 4, 2) := by decide +kernel
theorem dX1_refusalOf_64 : decode cX1_refusalOf 64 = .ok (.if_icmp .ge 21, 3) := by decide +kernel
theorem dX1_refusalOf_67 : decode cX1_refusalOf 67 = .ok (.aload_n 0, 1) := by decide +kernel
theorem dX1_refusalOf_68 : decode cX1_refusalOf 68 = .ok (.getfield 33, 3) := by decide +kernel
theorem dX1_refusalOf_71 : decode cX1_refusalOf 71 = .ok (.iload 4, 2) := by decide +kernel
theorem dX1_refusalOf_73 : decode cX1_refusalOf 73 = .ok (.invokevirtual 52, 3) := by decide +kernel
theorem dX1_refusalOf_76 : decode cX1_refusalOf 76 = .ok (.iload 5, 2) := by decide +kernel
theorem dX1_refusalOf_78 : decode cX1_refusalOf 78 = .ok (.if_icmp .le 7, 3) := by decide +kernel
theorem dX1_refusalOf_81 : decode cX1_refusalOf 81 = .ok (.iconst 1, 1) := by decide +kernel
theorem dX1_refusalOf_82 : decode cX1_refusalOf 82 = .ok (.goto 4, 3) := by decide +kernel
theorem dX1_refusalOf_85 : decode cX1_refusalOf 85 = .ok (.iconst 0, 1) := by decide +kernel
theorem dX1_refusalOf_86 : decode cX1_refusalOf 86 = .ok (.istore_n 2, 1) := by decide +kernel
theorem dX1_refusalOf_87 : decode cX1_refusalOf 87 = .ok (.iinc 3 1, 3) := by decide +kernel
theorem dX1_refusalOf_90 : decode cX1_refusalOf 90 = .ok (.goto (-77), 3) := by decide +kernel
theorem dX1_refusalOf_93 : decode cX1_refusalOf 93 = .ok (.iload_n 2, 1) := by decide +kernel
theorem dX1_refusalOf_94 : decode cX1_refusalOf 94 = .ok (.ifCond .eq 7, 3) := by decide +kernel
theorem dX1_refusalOf_97 : decode cX1_refusalOf 97 = .ok (.iconst 3, 1) := by decide +kernel
theorem dX1_refusalOf_98 : decode cX1_refusalOf 98 = .ok (.goto 4, 3) := by decide +kernel
theorem dX1_refusalOf_101 : decode cX1_refusalOf 101 = .ok (.iconst 0, 1) := by decide +kernel
theorem dX1_refusalOf_102 : decode cX1_refusalOf 102 = .ok (.ireturn, 1) := by decide +kernel
theorem dX1_hasHole_0 : decode cX1_hasHole 0 = .ok (.iconst 0, 1) := by decide +kernel
theorem dX1_hasHole_1 : decode cX1_hasHole 1 = .ok (.istore_n 1, 1) := by decide +kernel
theorem dX1_hasHole_2 : decode cX1_hasHole 2 = .ok (.iload_n 1, 1) := by decide +kernel
theorem dX1_hasHole_3 : decode cX1_hasHole 3 = .ok (.bipush 6, 2) := by decide +kernel
theorem dX1_hasHole_5 : decode cX1_hasHole 5 = .ok (.if_icmp .ge 21, 3) := by decide +kernel
theorem dX1_hasHole_8 : decode cX1_hasHole 8 = .ok (.aload_n 0, 1) := by decide +kernel
theorem dX1_hasHole_9 : decode cX1_hasHole 9 = .ok (.iload_n 1, 1) := by decide +kernel
theorem dX1_hasHole_10 : decode cX1_hasHole 10 = .ok (.invokevirtual 73, 3) := by decide +kernel
theorem dX1_hasHole_13 : decode cX1_hasHole 13 = .ok (.bipush 40, 2) := by decide +kernel
theorem dX1_hasHole_15 : decode cX1_hasHole 15 = .ok (.if_icmp .ge 5, 3) := by decide +kernel
theorem dX1_hasHole_18 : decode cX1_hasHole 18 = .ok (.iconst 1, 1) := by decide +kernel
theorem dX1_hasHole_19 : decode cX1_hasHole 19 = .ok (.ireturn, 1) := by decide +kernel
theorem dX1_hasHole_20 : decode cX1_hasHole 20 = .ok (.iinc 1 1, 3) := by decide +kernel
theorem dX1_hasHole_23 : decode cX1_hasHole 23 = .ok (.goto (-21), 3) := by decide +kernel
theorem dX1_hasHole_26 : decode cX1_hasHole 26 = .ok (.iconst 0, 1) := by decide +kernel
theorem dX1_hasHole_27 : decode cX1_hasHole 27 = .ok (.ireturn, 1) := by decide +kernel
theorem dX1_isTornBy_0 : decode cX1_isTornBy 0 = .ok (.iload_n 2, 1) := by decide +kernel
theorem dX1_isTornBy_1 : decode cX1_isTornBy 1 = .ok (.ifCond .le 19, 3) := by decide +kernel
theorem dX1_isTornBy_4 : decode cX1_isTornBy 4 = .ok (.bipush 100, 2) := by decide +kernel
theorem dX1_isTornBy_6 : decode cX1_isTornBy 6 = .ok (.iload_n 1, 1) := by decide +kernel
theorem dX1_isTornBy_7 : decode cX1_isTornBy 7 = .ok (.imul, 1) := by decide +kernel
theorem dX1_isTornBy_8 : decode cX1_isTornBy 8 = .ok (.iload_n 2, 1) := by decide +kernel
theorem dX1_isTornBy_9 : decode cX1_isTornBy 9 = .ok (.idiv, 1) := by decide +kernel
theorem dX1_isTornBy_10 : decode cX1_isTornBy 10 = .ok (.aload_n 0, 1) := by decide +kernel
theorem dX1_isTornBy_11 : decode cX1_isTornBy 11 = .ok (.getfield 33, 3) := by decide +kernel
theorem dX1_isTornBy_14 : decode cX1_isTornBy 14 = .ok (.getfield 76, 3) := by decide +kernel
theorem dX1_isTornBy_17 : decode cX1_isTornBy 17 = .ok (.if_icmp .le 7, 3) := by decide +kernel
theorem dX1_isTornBy_20 : decode cX1_isTornBy 20 = .ok (.iconst 1, 1) := by decide +kernel
theorem dX1_isTornBy_21 : decode cX1_isTornBy 21 = .ok (.goto 4, 3) := by decide +kernel
theorem dX1_isTornBy_24 : decode cX1_isTornBy 24 = .ok (.iconst 0, 1) := by decide +kernel
theorem dX1_isTornBy_25 : decode cX1_isTornBy 25 = .ok (.ireturn, 1) := by decide +kernel
theorem dX1_stretchOver_0 : decode cX1_stretchOver 0 = .ok (.iconst 0, 1) := by decide +kernel
theorem dX1_stretchOver_1 : decode cX1_stretchOver 1 = .ok (.istore_n 2, 1) := by decide +kernel
theorem dX1_stretchOver_2 : decode cX1_stretchOver 2 = .ok (.iload_n 2, 1) := by decide +kernel
theorem dX1_stretchOver_3 : decode cX1_stretchOver 3 = .ok (.aload_n 0, 1) := by decide +kernel
theorem dX1_stretchOver_4 : decode cX1_stretchOver 4 = .ok (.getfield 9, 3) := by decide +kernel
theorem dX1_stretchOver_7 : decode cX1_stretchOver 7 = .ok (.arraylength, 1) := by decide +kernel
theorem dX1_stretchOver_8 : decode cX1_stretchOver 8 = .ok (.if_icmp .ge 20, 3) := by decide +kernel
theorem dX1_stretchOver_11 : decode cX1_stretchOver 11 = .ok (.aload_n 0, 1) := by decide +kernel
theorem dX1_stretchOver_12 : decode cX1_stretchOver 12 = .ok (.getfield 9, 3) := by decide +kernel
theorem dX1_stretchOver_15 : decode cX1_stretchOver 15 = .ok (.iload_n 2, 1) := by decide +kernel
theorem dX1_stretchOver_16 : decode cX1_stretchOver 16 = .ok (.aload_n 1, 1) := by decide +kernel
theorem dX1_stretchOver_17 : decode cX1_stretchOver 17 = .ok (.iload_n 2, 1) := by decide +kernel
theorem dX1_stretchOver_18 : decode cX1_stretchOver 18 = .ok (.invokevirtual 64, 3) := by decide +kernel
theorem dX1_stretchOver_21 : decode cX1_stretchOver 21 = .ok (.iastore, 1) := by decide +kernel
theorem dX1_stretchOver_22 : decode cX1_stretchOver 22 = .ok (.iinc 2 1, 3) := by decide +kernel
theorem dX1_stretchOver_25 : decode cX1_stretchOver 25 = .ok (.goto (-23), 3) := by decide +kernel
theorem dX1_stretchOver_28 : decode cX1_stretchOver 28 = .ok (.aload_n 0, 1) := by decide +kernel
theorem dX1_stretchOver_29 : decode cX1_stretchOver 29 = .ok (.aload_n 1, 1) := by decide +kernel
theorem dX1_stretchOver_30 : decode cX1_stretchOver 30 = .ok (.putfield 25, 3) := by decide +kernel
theorem dX1_stretchOver_33 : decode cX1_stretchOver 33 = .ok (.return_, 1) := by decide +kernel
theorem dX1_widthFollowed_0 : decode cX1_widthFollowed 0 = .ok (.aload_n 0, 1) := by decide +kernel
theorem dX1_widthFollowed_1 : decode cX1_widthFollowed 1 = .ok (.getfield 25, 3) := by decide +kernel
theorem dX1_widthFollowed_4 : decode cX1_widthFollowed 4 = .ok (.ifnull 12, 3) := by decide +kernel
theorem dX1_widthFollowed_7 : decode cX1_widthFollowed 7 = .ok (.aload_n 0, 1) := by decide +kernel
theorem dX1_widthFollowed_8 : decode cX1_widthFollowed 8 = .ok (.getfield 25, 3) := by decide +kernel
theorem dX1_widthFollowed_11 : decode cX1_widthFollowed 11 = .ok (.iload_n 1, 1) := by decide +kernel
theorem dX1_widthFollowed_12 : decode cX1_widthFollowed 12 = .ok (.invokevirtual 64, 3) := by decide +kernel
theorem dX1_widthFollowed_15 : decode cX1_widthFollowed 15 = .ok (.ireturn, 1) := by decide +kernel
theorem dX1_widthFollowed_16 : decode cX1_widthFollowed 16 = .ok (.iload_n 1, 1) := by decide +kernel
theorem dX1_widthFollowed_17 : decode cX1_widthFollowed 17 = .ok (.invokestatic 41, 3) := by decide +kernel
theorem dX1_widthFollowed_20 : decode cX1_widthFollowed 20 = .ok (.istore_n 2, 1) := by decide +kernel
theorem dX1_widthFollowed_21 : decode cX1_widthFollowed 21 = .ok (.iconst 0, 1) := by decide +kernel
theorem dX1_widthFollowed_22 : decode cX1_widthFollowed 22 = .ok (.istore_n 3, 1) := by decide +kernel
theorem dX1_widthFollowed_23 : decode cX1_widthFollowed 23 = .ok (.iload_n 3, 1) := by decide +kernel
theorem dX1_widthFollowed_24 : decode cX1_widthFollowed 24 = .ok (.aload_n 0, 1) := by decide +kernel
theorem dX1_widthFollowed_25 : decode cX1_widthFollowed 25 = .ok (.getfield 22, 3) := by decide +kernel
theorem dX1_widthFollowed_28 : decode cX1_widthFollowed 28 = .ok (.if_icmp .ge 24, 3) := by decide +kernel
theorem dX1_widthFollowed_31 : decode cX1_widthFollowed 31 = .ok (.iload_n 3, 1) := by decide +kernel
theorem dX1_widthFollowed_32 : decode cX1_widthFollowed 32 = .ok (.bipush 12, 2) := by decide +kernel
theorem dX1_widthFollowed_34 : decode cX1_widthFollowed 34 = .ok (.if_icmp .ge 18, 3) := by decide +kernel
theorem dX1_widthFollowed_37 : decode cX1_widthFollowed 37 = .ok (.aload_n 0, 1) := by decide +kernel
theorem dX1_widthFollowed_38 : decode cX1_widthFollowed 38 = .ok (.getfield 33, 3) := by decide +kernel
theorem dX1_widthFollowed_41 : decode cX1_widthFollowed 41 = .ok (.iload_n 2, 1) := by decide +kernel
theorem dX1_widthFollowed_42 : decode cX1_widthFollowed 42 = .ok (.invokevirtual 52, 3) := by decide +kernel
theorem dX1_widthFollowed_45 : decode cX1_widthFollowed 45 = .ok (.istore_n 2, 1) := by decide +kernel
theorem dX1_widthFollowed_46 : decode cX1_widthFollowed 46 = .ok (.iinc 3 1, 3) := by decide +kernel
theorem dX1_widthFollowed_49 : decode cX1_widthFollowed 49 = .ok (.goto (-26), 3) := by decide +kernel
theorem dX1_widthFollowed_52 : decode cX1_widthFollowed 52 = .ok (.iload_n 2, 1) := by decide +kernel
theorem dX1_widthFollowed_53 : decode cX1_widthFollowed 53 = .ok (.ireturn, 1) := by decide +kernel
theorem dX2_isAllowedIn_0 : decode cX2_isAllowedIn 0 = .ok (.iload_n 1, 1) := by decide +kernel
theorem dX2_isAllowedIn_1 : decode cX2_isAllowedIn 1 = .ok (.aload_n 0, 1) := by decide +kernel
theorem dX2_isAllowedIn_2 : decode cX2_isAllowedIn 2 = .ok (.getfield 36, 3) := by decide +kernel
theorem dX2_isAllowedIn_5 : decode cX2_isAllowedIn 5 = .ok (.if_icmp .ge 7, 3) := by decide +kernel
theorem dX2_isAllowedIn_8 : decode cX2_isAllowedIn 8 = .ok (.iconst 1, 1) := by decide +kernel
theorem dX2_isAllowedIn_9 : decode cX2_isAllowedIn 9 = .ok (.goto 4, 3) := by decide +kernel
theorem dX2_isAllowedIn_12 : decode cX2_isAllowedIn 12 = .ok (.iconst 0, 1) := by decide +kernel
theorem dX2_isAllowedIn_13 : decode cX2_isAllowedIn 13 = .ok (.ireturn, 1) := by decide +kernel
theorem dX3_shrunkAcross_0 : decode cX3_shrunkAcross 0 = .ok (.iload_n 1, 1) := by decide +kernel
theorem dX3_shrunkAcross_1 : decode cX3_shrunkAcross 1 = .ok (.bipush 100, 2) := by decide +kernel
theorem dX3_shrunkAcross_3 : decode cX3_shrunkAcross 3 = .ok (.aload_n 0, 1) := by decide +kernel
theorem dX3_shrunkAcross_4 : decode cX3_shrunkAcross 4 = .ok (.getfield 39, 3) := by decide +kernel
theorem dX3_shrunkAcross_7 : decode cX3_shrunkAcross 7 = .ok (.isub, 1) := by decide +kernel
theorem dX3_shrunkAcross_8 : decode cX3_shrunkAcross 8 = .ok (.imul, 1) := by decide +kernel
theorem dX3_shrunkAcross_9 : decode cX3_shrunkAcross 9 = .ok (.bipush 100, 2) := by decide +kernel
theorem dX3_shrunkAcross_11 : decode cX3_shrunkAcross 11 = .ok (.idiv, 1) := by decide +kernel
theorem dX3_shrunkAcross_12 : decode cX3_shrunkAcross 12 = .ok (.ireturn, 1) := by decide +kernel
theorem dX3_shrunkAlong_0 : decode cX3_shrunkAlong 0 = .ok (.iload_n 1, 1) := by decide +kernel
theorem dX3_shrunkAlong_1 : decode cX3_shrunkAlong 1 = .ok (.bipush 100, 2) := by decide +kernel
theorem dX3_shrunkAlong_3 : decode cX3_shrunkAlong 3 = .ok (.aload_n 0, 1) := by decide +kernel
theorem dX3_shrunkAlong_4 : decode cX3_shrunkAlong 4 = .ok (.getfield 43, 3) := by decide +kernel
theorem dX3_shrunkAlong_7 : decode cX3_shrunkAlong 7 = .ok (.isub, 1) := by decide +kernel
theorem dX3_shrunkAlong_8 : decode cX3_shrunkAlong 8 = .ok (.imul, 1) := by decide +kernel
theorem dX3_shrunkAlong_9 : decode cX3_shrunkAlong 9 = .ok (.bipush 100, 2) := by decide +kernel
theorem dX3_shrunkAlong_11 : decode cX3_shrunkAlong 11 = .ok (.idiv, 1) := by decide +kernel
theorem dX3_shrunkAlong_12 : decode cX3_shrunkAlong 12 = .ok (.ireturn, 1) := by decide +kernel
theorem dX4_init_0 : decode cX4_init 0 = .ok (.aload_n 0, 1) := by decide +kernel
theorem dX4_init_1 : decode cX4_init 1 = .ok (.invokespecial 1, 3) := by decide +kernel
theorem dX4_init_4 : decode cX4_init 4 = .ok (.aload_n 0, 1) := by decide +kernel
theorem dX4_init_5 : decode cX4_init 5 = .ok (.iconst 0, 1) := by decide +kernel
theorem dX4_init_6 : decode cX4_init 6 = .ok (.putfield 7, 3) := by decide +kernel
theorem dX4_init_9 : decode cX4_init 9 = .ok (.aload_n 0, 1) := by decide +kernel
theorem dX4_init_10 : decode cX4_init 10 = .ok (.iconst 0, 1) := by decide +kernel
theorem dX4_init_11 : decode cX4_init 11 = .ok (.putfield 13, 3) := by decide +kernel
theorem dX4_init_14 : decode cX4_init 14 = .ok (.return_, 1) := by decide +kernel
theorem dX4_breathe_0 : decode cX4_breathe 0 = .ok (.aload_n 0, 1) := by decide +kernel
theorem dX4_breathe_1 : decode cX4_breathe 1 = .ok (.dup, 1) := by decide +kernel
theorem dX4_breathe_2 : decode cX4_breathe 2 = .ok (.getfield 7, 3) := by decide +kernel
theorem dX4_breathe_5 : decode cX4_breathe 5 = .ok (.iload_n 1, 1) := by decide +kernel
theorem dX4_breathe_6 : decode cX4_breathe 6 = .ok (.iadd, 1) := by decide +kernel
theorem dX4_breathe_7 : decode cX4_breathe 7 = .ok (.putfield 7, 3) := by decide +kernel
theorem dX4_breathe_10 : decode cX4_breathe 10 = .ok (.aload_n 0, 1) := by decide +kernel
theorem dX4_breathe_11 : decode cX4_breathe 11 = .ok (.dup, 1) := by decide +kernel
theorem dX4_breathe_12 : decode cX4_breathe 12 = .ok (.getfield 13, 3) := by decide +kernel
theorem dX4_breathe_15 : decode cX4_breathe 15 = .ok (.iload_n 1, 1) := by decide +kernel
theorem dX4_breathe_16 : decode cX4_breathe 16 = .ok (.iadd, 1) := by decide +kernel
theorem dX4_breathe_17 : decode cX4_breathe 17 = .ok (.putfield 13, 3) := by decide +kernel
theorem dX4_breathe_20 : decode cX4_breathe 20 = .ok (.return_, 1) := by decide +kernel
theorem dX5_init_0 : decode cX5_init 0 = .ok (.aload_n 0, 1) := by decide +kernel
theorem dX5_init_1 : decode cX5_init 1 = .ok (.invokespecial 3, 3) := by decide +kernel
theorem dX5_init_4 : decode cX5_init 4 = .ok (.aload_n 0, 1) := by decide +kernel
theorem dX5_init_5 : decode cX5_init 5 = .ok (.bipush 8, 2) := by decide +kernel
theorem dX5_init_7 : decode cX5_init 7 = .ok (.newarray .int, 2) := by decide +kernel
theorem dX5_init_9 : decode cX5_init 9 = .ok (.putfield 9, 3) := by decide +kernel
theorem dX5_init_12 : decode cX5_init 12 = .ok (.return_, 1) := by decide +kernel
theorem dX5_setRadius_0 : decode cX5_setRadius 0 = .ok (.iload_n 1, 1) := by decide +kernel
theorem dX5_setRadius_1 : decode cX5_setRadius 1 = .ok (.ifCond .lt 19, 3) := by decide +kernel
theorem dX5_setRadius_4 : decode cX5_setRadius 4 = .ok (.iload_n 1, 1) := by decide +kernel
theorem dX5_setRadius_5 : decode cX5_setRadius 5 = .ok (.aload_n 0, 1) := by decide +kernel
theorem dX5_setRadius_6 : decode cX5_setRadius 6 = .ok (.getfield 9, 3) := by decide +kernel
theorem dX5_setRadius_9 : decode cX5_setRadius 9 = .ok (.arraylength, 1) := by decide +kernel
theorem dX5_setRadius_10 : decode cX5_setRadius 10 = .ok (.if_icmp .ge 10, 3) := by decide +kernel
theorem dX5_setRadius_13 : decode cX5_setRadius 13 = .ok (.aload_n 0, 1) := by decide +kernel
theorem dX5_setRadius_14 : decode cX5_setRadius 14 = .ok (.getfield 9, 3) := by decide +kernel
theorem dX5_setRadius_17 : decode cX5_setRadius 17 = .ok (.iload_n 1, 1) := by decide +kernel
theorem dX5_setRadius_18 : decode cX5_setRadius 18 = .ok (.iload_n 2, 1) := by decide +kernel
theorem dX5_setRadius_19 : decode cX5_setRadius 19 = .ok (.iastore, 1) := by decide +kernel
theorem dX5_setRadius_20 : decode cX5_setRadius 20 = .ok (.return_, 1) := by decide +kernel
theorem dX5_around_0 : decode cX5_around 0 = .ok (.iconst 0, 1) := by decide +kernel
theorem dX5_around_1 : decode cX5_around 1 = .ok (.istore_n 1, 1) := by decide +kernel
theorem dX5_around_2 : decode cX5_around 2 = .ok (.aload_n 0, 1) := by decide +kernel
theorem dX5_around_3 : decode cX5_around 3 = .ok (.getfield 9, 3) := by decide +kernel
theorem dX5_around_6 : decode cX5_around 6 = .ok (.astore_n 2, 1) := by decide +kernel
theorem dX5_around_7 : decode cX5_around 7 = .ok (.aload_n 2, 1) := by decide +kernel
theorem dX5_around_8 : decode cX5_around 8 = .ok (.arraylength, 1) := by decide +kernel
theorem dX5_around_9 : decode cX5_around 9 = .ok (.istore_n 3, 1) := by decide +kernel
theorem dX5_around_10 : decode cX5_around 10 = .ok (.iconst 0, 1) := by decide +kernel
theorem dX5_around_11 : decode cX5_around 11 = .ok (.istore 4, 2) := by decide +kernel
theorem dX5_around_13 : decode cX5_around 13 = .ok (.iload 4, 2) := by decide +kernel
theorem dX5_around_15 : decode cX5_around 15 = .ok (.iload_n 3, 1) := by decide +kernel
theorem dX5_around_16 : decode cX5_around 16 = .ok (.if_icmp .ge 20, 3) := by decide +kernel
theorem dX5_around_19 : decode cX5_around 19 = .ok (.aload_n 2, 1) := by decide +kernel
theorem dX5_around_20 : decode cX5_around 20 = .ok (.iload 4, 2) := by decide +kernel
theorem dX5_around_22 : decode cX5_around 22 = .ok (.iaload, 1) := by decide +kernel
theorem dX5_around_23 : decode cX5_around 23 = .ok (.istore 5, 2) := by decide +kernel
theorem dX5_around_25 : decode cX5_around 25 = .ok (.iload_n 1, 1) := by decide +kernel
theorem dX5_around_26 : decode cX5_around 26 = .ok (.iload 5, 2) := by decide +kernel
theorem dX5_around_28 : decode cX5_around 28 = .ok (.iadd, 1) := by decide +kernel
theorem dX5_around_29 : decode cX5_around 29 = .ok (.istore_n 1, 1) := by decide +kernel
theorem dX5_around_30 : decode cX5_around 30 = .ok (.iinc 4 1, 3) := by decide +kernel
theorem dX5_around_33 : decode cX5_around 33 = .ok (.goto (-20), 3) := by decide +kernel
theorem dX5_around_36 : decode cX5_around 36 = .ok (.iload_n 1, 1) := by decide +kernel
theorem dX5_around_37 : decode cX5_around 37 = .ok (.sipush 785, 3) := by decide +kernel
theorem dX5_around_40 : decode cX5_around 40 = .ok (.imul, 1) := by decide +kernel
theorem dX5_around_41 : decode cX5_around 41 = .ok (.sipush 1000, 3) := by decide +kernel
theorem dX5_around_44 : decode cX5_around 44 = .ok (.idiv, 1) := by decide +kernel
theorem dX5_around_45 : decode cX5_around 45 = .ok (.ireturn, 1) := by decide +kernel
theorem dX5_sizeIn_0 : decode cX5_sizeIn 0 = .ok (.aload_n 0, 1) := by decide +kernel
theorem dX5_sizeIn_1 : decode cX5_sizeIn 1 = .ok (.invokevirtual 15, 3) := by decide +kernel
theorem dX5_sizeIn_4 : decode cX5_sizeIn 4 = .ok (.i2f, 1) := by decide +kernel
theorem dX5_sizeIn_5 : decode cX5_sizeIn 5 = .ok (.fstore_n 2, 1) := by decide +kernel
theorem dX5_sizeIn_6 : decode cX5_sizeIn 6 = .ok (.iload_n 1, 1) := by decide +kernel
theorem dX5_sizeIn_7 : decode cX5_sizeIn 7 = .ok (.tableswitch 43 0 2 #[25, 30, 35], 25) := by decide +kernel
theorem dX5_sizeIn_32 : decode cX5_sizeIn 32 = .ok (.fload_n 2, 1) := by decide +kernel
theorem dX5_sizeIn_33 : decode cX5_sizeIn 33 = .ok (.ldc 19, 2) := by decide +kernel
theorem dX5_sizeIn_35 : decode cX5_sizeIn 35 = .ok (.fdiv, 1) := by decide +kernel
theorem dX5_sizeIn_36 : decode cX5_sizeIn 36 = .ok (.freturn, 1) := by decide +kernel
theorem dX5_sizeIn_37 : decode cX5_sizeIn 37 = .ok (.fload_n 2, 1) := by decide +kernel
theorem dX5_sizeIn_38 : decode cX5_sizeIn 38 = .ok (.ldc 20, 2) := by decide +kernel
theorem dX5_sizeIn_40 : decode cX5_sizeIn 40 = .ok (.fdiv, 1) := by decide +kernel
theorem dX5_sizeIn_41 : decode cX5_sizeIn 41 = .ok (.freturn, 1) := by decide +kernel
theorem dX5_sizeIn_42 : decode cX5_sizeIn 42 = .ok (.fload_n 2, 1) := by decide +kernel
theorem dX5_sizeIn_43 : decode cX5_sizeIn 43 = .ok (.ldc 20, 2) := by decide +kernel
theorem dX5_sizeIn_45 : decode cX5_sizeIn 45 = .ok (.fdiv, 1) := by decide +kernel
theorem dX5_sizeIn_46 : decode cX5_sizeIn 46 = .ok (.ldc 21, 2) := by decide +kernel
theorem dX5_sizeIn_48 : decode cX5_sizeIn 48 = .ok (.fadd, 1) := by decide +kernel
theorem dX5_sizeIn_49 : decode cX5_sizeIn 49 = .ok (.freturn, 1) := by decide +kernel
theorem dX5_sizeIn_50 : decode cX5_sizeIn 50 = .ok (.fload_n 2, 1) := by decide +kernel
theorem dX5_sizeIn_51 : decode cX5_sizeIn 51 = .ok (.ldc 22, 2) := by decide +kernel
theorem dX5_sizeIn_53 : decode cX5_sizeIn 53 = .ok (.fdiv, 1) := by decide +kernel
theorem dX5_sizeIn_54 : decode cX5_sizeIn 54 = .ok (.freturn, 1) := by decide +kernel
theorem dX6_init_0 : decode cX6_init 0 = .ok (.aload_n 0, 1) := by decide +kernel
theorem dX6_init_1 : decode cX6_init 1 = .ok (.invokespecial 1, 3) := by decide +kernel
theorem dX6_init_4 : decode cX6_init 4 = .ok (.aload_n 0, 1) := by decide +kernel
theorem dX6_init_5 : decode cX6_init 5 = .ok (.aload_n 1, 1) := by decide +kernel
theorem dX6_init_6 : decode cX6_init 6 = .ok (.putfield 7, 3) := by decide +kernel
theorem dX6_init_9 : decode cX6_init 9 = .ok (.aload_n 0, 1) := by decide +kernel
theorem dX6_init_10 : decode cX6_init 10 = .ok (.iload_n 2, 1) := by decide +kernel
theorem dX6_init_11 : decode cX6_init 11 = .ok (.putfield 13, 3) := by decide +kernel
theorem dX6_init_14 : decode cX6_init 14 = .ok (.return_, 1) := by decide +kernel
theorem dX7_gainOf_0 : decode cX7_gainOf 0 = .ok (.aload_n 0, 1) := by decide +kernel
theorem dX7_gainOf_1 : decode cX7_gainOf 1 = .ok (.getfield 45, 3) := by decide +kernel
theorem dX7_gainOf_4 : decode cX7_gainOf 4 = .ok (.ifCond .eq 18, 3) := by decide +kernel
theorem dX7_gainOf_7 : decode cX7_gainOf 7 = .ok (.iconst 0, 1) := by decide +kernel
theorem dX7_gainOf_8 : decode cX7_gainOf 8 = .ok (.aload_n 0, 1) := by decide +kernel
theorem dX7_gainOf_9 : decode cX7_gainOf 9 = .ok (.getfield 41, 3) := by decide +kernel
theorem dX7_gainOf_12 : decode cX7_gainOf 12 = .ok (.iload_n 1, 1) := by decide +kernel
theorem dX7_gainOf_13 : decode cX7_gainOf 13 = .ok (.iconst 3, 1) := by decide +kernel
theorem dX7_gainOf_14 : decode cX7_gainOf 14 = .ok (.idiv, 1) := by decide +kernel
theorem dX7_gainOf_15 : decode cX7_gainOf 15 = .ok (.isub, 1) := by decide +kernel
theorem dX7_gainOf_16 : decode cX7_gainOf 16 = .ok (.invokestatic 49, 3) := by decide +kernel
theorem dX7_gainOf_19 : decode cX7_gainOf 19 = .ok (.goto 7, 3) := by decide +kernel
theorem dX7_gainOf_22 : decode cX7_gainOf 22 = .ok (.aload_n 0, 1) := by decide +kernel
theorem dX7_gainOf_23 : decode cX7_gainOf 23 = .ok (.getfield 41, 3) := by decide +kernel
theorem dX7_gainOf_26 : decode cX7_gainOf 26 = .ok (.ireturn, 1) := by decide +kernel
theorem dX7_stitchesRowByRow_0 : decode cX7_stitchesRowByRow 0 = .ok (.bipush 6, 2) := by decide +kernel
theorem dX7_stitchesRowByRow_2 : decode cX7_stitchesRowByRow 2 = .ok (.istore_n 2, 1) := by decide +kernel
theorem dX7_stitchesRowByRow_3 : decode cX7_stitchesRowByRow 3 = .ok (.bipush 6, 2) := by decide +kernel
theorem dX7_stitchesRowByRow_5 : decode cX7_stitchesRowByRow 5 = .ok (.istore_n 3, 1) := by decide +kernel
theorem dX7_stitchesRowByRow_6 : decode cX7_stitchesRowByRow 6 = .ok (.iconst 2, 1) := by decide +kernel
theorem dX7_stitchesRowByRow_7 : decode cX7_stitchesRowByRow 7 = .ok (.istore 4, 2) := by decide +kernel
theorem dX7_stitchesRowByRow_9 : decode cX7_stitchesRowByRow 9 = .ok (.iload 4, 2) := by decide +kernel
theorem dX7_stitchesRowByRow_11 : decode cX7_stitchesRowByRow 11 = .ok (.iload_n 1, 1) := by decide +kernel
theorem dX7_stitchesRowByRow_12 : decode cX7_stitchesRowByRow 12 = .ok (.if_icmp .gt 22, 3) := by decide +kernel
theorem dX7_stitchesRowByRow_15 : decode cX7_stitchesRowByRow 15 = .ok (.iload_n 2, 1) := by decide +kernel
theorem dX7_stitchesRowByRow_16 : decode cX7_stitchesRowByRow 16 = .ok (.aload_n 0, 1) := by decide +kernel
theorem dX7_stitchesRowByRow_17 : decode cX7_stitchesRowByRow 17 = .ok (.iload 4, 2) := by decide +kernel
theorem dX7_stitchesRowByRow_19 : decode cX7_stitchesRowByRow 19 = .ok (.invokevirtual 55, 3) := by decide +kernel
theorem dX7_stitchesRowByRow_22 : decode cX7_stitchesRowByRow 22 = .ok (.iadd, 1) := by decide +kernel
theorem dX7_stitchesRowByRow_23 : decode cX7_stitchesRowByRow 23 = .ok (.istore_n 2, 1) := by decide +kernel
theorem dX7_stitchesRowByRow_24 : decode cX7_stitchesRowByRow 24 = .ok (.iload_n 3, 1) := by decide +kernel
theorem dX7_stitchesRowByRow_25 : decode cX7_stitchesRowByRow 25 = .ok (.iload_n 2, 1) := by decide +kernel
theorem dX7_stitchesRowByRow_26 : decode cX7_stitchesRowByRow 26 = .ok (.iadd, 1) := by decide +kernel
theorem dX7_stitchesRowByRow_27 : decode cX7_stitchesRowByRow 27 = .ok (.istore_n 3, 1) := by decide +kernel
theorem dX7_stitchesRowByRow_28 : decode cX7_stitchesRowByRow 28 = .ok (.iinc 4 1, 3) := by decide +kernel
theorem dX7_stitchesRowByRow_31 : decode cX7_stitchesRowByRow 31 = .ok (.goto (-22), 3) := by decide +kernel
theorem dX7_stitchesRowByRow_34 : decode cX7_stitchesRowByRow 34 = .ok (.iload_n 3, 1) := by decide +kernel
theorem dX7_stitchesRowByRow_35 : decode cX7_stitchesRowByRow 35 = .ok (.ireturn, 1) := by decide +kernel
theorem dX7_stitchesAtOnce_0 : decode cX7_stitchesAtOnce 0 = .ok (.aload_n 0, 1) := by decide +kernel
theorem dX7_stitchesAtOnce_1 : decode cX7_stitchesAtOnce 1 = .ok (.getfield 45, 3) := by decide +kernel
theorem dX7_stitchesAtOnce_4 : decode cX7_stitchesAtOnce 4 = .ok (.ifCond .ne 19, 3) := by decide +kernel
theorem dX7_stitchesAtOnce_7 : decode cX7_stitchesAtOnce 7 = .ok (.bipush 6, 2) := by decide +kernel
theorem dX7_stitchesAtOnce_9 : decode cX7_stitchesAtOnce 9 = .ok (.iload_n 1, 1) := by decide +kernel
theorem dX7_stitchesAtOnce_10 : decode cX7_stitchesAtOnce 10 = .ok (.imul, 1) := by decide +kernel
theorem dX7_stitchesAtOnce_11 : decode cX7_stitchesAtOnce 11 = .ok (.aload_n 0, 1) := by decide +kernel
theorem dX7_stitchesAtOnce_12 : decode cX7_stitchesAtOnce 12 = .ok (.getfield 41, 3) := by decide +kernel
theorem dX7_stitchesAtOnce_15 : decode cX7_stitchesAtOnce 15 = .ok (.iload_n 1, 1) := by decide +kernel
theorem dX7_stitchesAtOnce_16 : decode cX7_stitchesAtOnce 16 = .ok (.iload_n 1, 1) := by decide +kernel
theorem dX7_stitchesAtOnce_17 : decode cX7_stitchesAtOnce 17 = .ok (.invokestatic 59, 3) := by decide +kernel
theorem dX7_stitchesAtOnce_20 : decode cX7_stitchesAtOnce 20 = .ok (.imul, 1) := by decide +kernel
theorem dX7_stitchesAtOnce_21 : decode cX7_stitchesAtOnce 21 = .ok (.iadd, 1) := by decide +kernel
theorem dX7_stitchesAtOnce_22 : decode cX7_stitchesAtOnce 22 = .ok (.ireturn, 1) := by decide +kernel
theorem dX7_stitchesAtOnce_23 : decode cX7_stitchesAtOnce 23 = .ok (.bipush 6, 2) := by decide +kernel
theorem dX7_stitchesAtOnce_25 : decode cX7_stitchesAtOnce 25 = .ok (.iload_n 1, 1) := by decide +kernel
theorem dX7_stitchesAtOnce_26 : decode cX7_stitchesAtOnce 26 = .ok (.imul, 1) := by decide +kernel
theorem dX7_stitchesAtOnce_27 : decode cX7_stitchesAtOnce 27 = .ok (.istore_n 2, 1) := by decide +kernel
theorem dX7_stitchesAtOnce_28 : decode cX7_stitchesAtOnce 28 = .ok (.iconst 1, 1) := by decide +kernel
theorem dX7_stitchesAtOnce_29 : decode cX7_stitchesAtOnce 29 = .ok (.istore_n 3, 1) := by decide +kernel
theorem dX7_stitchesAtOnce_30 : decode cX7_stitchesAtOnce 30 = .ok (.iload_n 3, 1) := by decide +kernel
theorem dX7_stitchesAtOnce_31 : decode cX7_stitchesAtOnce 31 = .ok (.aload_n 0, 1) := by decide +kernel
theorem dX7_stitchesAtOnce_32 : decode cX7_stitchesAtOnce 32 = .ok (.getfield 41, 3) := by decide +kernel
theorem dX7_stitchesAtOnce_35 : decode cX7_stitchesAtOnce 35 = .ok (.if_icmp .gt 25, 3) := by decide +kernel
theorem dX7_stitchesAtOnce_38 : decode cX7_stitchesAtOnce 38 = .ok (.iload_n 2, 1) := by decide +kernel
theorem dX7_stitchesAtOnce_39 : decode cX7_stitchesAtOnce 39 = .ok (.iload_n 1, 1) := by decide +kernel
theorem dX7_stitchesAtOnce_40 : decode cX7_stitchesAtOnce 40 = .ok (.iload_n 1, 1) := by decide +kernel
theorem dX7_stitchesAtOnce_41 : decode cX7_stitchesAtOnce 41 = .ok (.iconst 3, 1) := by decide +kernel
theorem dX7_stitchesAtOnce_42 : decode cX7_stitchesAtOnce 42 = .ok (.iload_n 3, 1) := by decide +kernel
theorem dX7_stitchesAtOnce_43 : decode cX7_stitchesAtOnce 43 = .ok (.imul, 1) := by decide +kernel
theorem dX7_stitchesAtOnce_44 : decode cX7_stitchesAtOnce 44 = .ok (.iconst 1, 1) := by decide +kernel
theorem dX7_stitchesAtOnce_45 : decode cX7_stitchesAtOnce 45 = .ok (.isub, 1) := by decide +kernel
theorem dX7_stitchesAtOnce_46 : decode cX7_stitchesAtOnce 46 = .ok (.invokestatic 62, 3) := by decide +kernel
theorem dX7_stitchesAtOnce_49 : decode cX7_stitchesAtOnce 49 = .ok (.invokestatic 59, 3) := by decide +kernel
theorem dX7_stitchesAtOnce_52 : decode cX7_stitchesAtOnce 52 = .ok (.iadd, 1) := by decide +kernel
theorem dX7_stitchesAtOnce_53 : decode cX7_stitchesAtOnce 53 = .ok (.istore_n 2, 1) := by decide +kernel
theorem dX7_stitchesAtOnce_54 : decode cX7_stitchesAtOnce 54 = .ok (.iinc 3 1, 3) := by decide +kernel
theorem dX7_stitchesAtOnce_57 : decode cX7_stitchesAtOnce 57 = .ok (.goto (-27), 3) := by decide +kernel
theorem dX7_stitchesAtOnce_60 : decode cX7_stitchesAtOnce 60 = .ok (.iload_n 2, 1) := by decide +kernel
theorem dX7_stitchesAtOnce_61 : decode cX7_stitchesAtOnce 61 = .ok (.ireturn, 1) := by decide +kernel
theorem dX7_addedByOneEach_0 : decode cX7_addedByOneEach 0 = .ok (.iload_n 1, 1) := by decide +kernel
theorem dX7_addedByOneEach_1 : decode cX7_addedByOneEach 1 = .ok (.iconst 1, 1) := by decide +kernel
theorem dX7_addedByOneEach_2 : decode cX7_addedByOneEach 2 = .ok (.isub, 1) := by decide +kernel
theorem dX7_addedByOneEach_3 : decode cX7_addedByOneEach 3 = .ok (.iconst 2, 1) := by decide +kernel
theorem dX7_addedByOneEach_4 : decode cX7_addedByOneEach 4 = .ok (.iload_n 0, 1) := by decide +kernel
theorem dX7_addedByOneEach_5 : decode cX7_addedByOneEach 5 = .ok (.imul, 1) := by decide +kernel
theorem dX7_addedByOneEach_6 : decode cX7_addedByOneEach 6 = .ok (.iload_n 1, 1) := by decide +kernel
theorem dX7_addedByOneEach_7 : decode cX7_addedByOneEach 7 = .ok (.isub, 1) := by decide +kernel
theorem dX7_addedByOneEach_8 : decode cX7_addedByOneEach 8 = .ok (.imul, 1) := by decide +kernel
theorem dX7_addedByOneEach_9 : decode cX7_addedByOneEach 9 = .ok (.iconst 2, 1) := by decide +kernel
theorem dX7_addedByOneEach_10 : decode cX7_addedByOneEach 10 = .ok (.idiv, 1) := by decide +kernel
theorem dX7_addedByOneEach_11 : decode cX7_addedByOneEach 11 = .ok (.ireturn, 1) := by decide +kernel
theorem dX7_rowsToClose_0 : decode cX7_rowsToClose 0 = .ok (.bipush 6, 2) := by decide +kernel
theorem dX7_rowsToClose_2 : decode cX7_rowsToClose 2 = .ok (.istore_n 2, 1) := by decide +kernel
theorem dX7_rowsToClose_3 : decode cX7_rowsToClose 3 = .ok (.iconst 1, 1) := by decide +kernel
theorem dX7_rowsToClose_4 : decode cX7_rowsToClose 4 = .ok (.istore_n 3, 1) := by decide +kernel
theorem dX7_rowsToClose_5 : decode cX7_rowsToClose 5 = .ok (.iload_n 3, 1) := by decide +kernel
theorem dX7_rowsToClose_6 : decode cX7_rowsToClose 6 = .ok (.sipush 1000, 3) := by decide +kernel
theorem dX7_rowsToClose_9 : decode cX7_rowsToClose 9 = .ok (.if_icmp .gt 26, 3) := by decide +kernel
theorem dX7_rowsToClose_12 : decode cX7_rowsToClose 12 = .ok (.iload_n 2, 1) := by decide +kernel
theorem dX7_rowsToClose_13 : decode cX7_rowsToClose 13 = .ok (.iload_n 1, 1) := by decide +kernel
theorem dX7_rowsToClose_14 : decode cX7_rowsToClose 14 = .ok (.if_icmp .lt 5, 3) := by decide +kernel
theorem dX7_rowsToClose_17 : decode cX7_rowsToClose 17 = .ok (.iload_n 3, 1) := by decide +kernel
theorem dX7_rowsToClose_18 : decode cX7_rowsToClose 18 = .ok (.ireturn, 1) := by decide +kernel
theorem dX7_rowsToClose_19 : decode cX7_rowsToClose 19 = .ok (.iload_n 2, 1) := by decide +kernel
theorem dX7_rowsToClose_20 : decode cX7_rowsToClose 20 = .ok (.aload_n 0, 1) := by decide +kernel
theorem dX7_rowsToClose_21 : decode cX7_rowsToClose 21 = .ok (.iload_n 3, 1) := by decide +kernel
theorem dX7_rowsToClose_22 : decode cX7_rowsToClose 22 = .ok (.iconst 1, 1) := by decide +kernel
theorem dX7_rowsToClose_23 : decode cX7_rowsToClose 23 = .ok (.iadd, 1) := by decide +kernel
theorem dX7_rowsToClose_24 : decode cX7_rowsToClose 24 = .ok (.invokevirtual 55, 3) := by decide +kernel
theorem dX7_rowsToClose_27 : decode cX7_rowsToClose 27 = .ok (.iadd, 1) := by decide +kernel
theorem dX7_rowsToClose_28 : decode cX7_rowsToClose 28 = .ok (.istore_n 2, 1) := by decide +kernel
theorem dX7_rowsToClose_29 : decode cX7_rowsToClose 29 = .ok (.iinc 3 1, 3) := by decide +kernel
theorem dX7_rowsToClose_32 : decode cX7_rowsToClose 32 = .ok (.goto (-27), 3) := by decide +kernel
theorem dX7_rowsToClose_35 : decode cX7_rowsToClose 35 = .ok (.iconst (-1), 1) := by decide +kernel
theorem dX7_rowsToClose_36 : decode cX7_rowsToClose 36 = .ok (.ireturn, 1) := by decide +kernel
theorem dX8_init_0 : decode cX8_init 0 = .ok (.aload_n 0, 1) := by decide +kernel
theorem dX8_init_1 : decode cX8_init 1 = .ok (.invokespecial 1, 3) := by decide +kernel
theorem dX8_init_4 : decode cX8_init 4 = .ok (.aload_n 0, 1) := by decide +kernel
theorem dX8_init_5 : decode cX8_init 5 = .ok (.new 7, 3) := by decide +kernel
theorem dX8_init_8 : decode cX8_init 8 = .ok (.dup, 1) := by decide +kernel
theorem dX8_init_9 : decode cX8_init 9 = .ok (.invokespecial 9, 3) := by decide +kernel
theorem dX8_init_12 : decode cX8_init 12 = .ok (.putfield 10, 3) := by decide +kernel
theorem dX8_init_15 : decode cX8_init 15 = .ok (.aload_n 0, 1) := by decide +kernel
theorem dX8_init_16 : decode cX8_init 16 = .ok (.bipush 10, 2) := by decide +kernel
theorem dX8_init_18 : decode cX8_init 18 = .ok (.anewarray 16, 3) := by decide +kernel
theorem dX8_init_21 : decode cX8_init 21 = .ok (.putfield 18, 3) := by decide +kernel
theorem dX8_init_24 : decode cX8_init 24 = .ok (.aload_n 0, 1) := by decide +kernel
theorem dX8_init_25 : decode cX8_init 25 = .ok (.bipush 12, 2) := by decide +kernel
theorem dX8_init_27 : decode cX8_init 27 = .ok (.anewarray 22, 3) := by decide +kernel
theorem dX8_init_30 : decode cX8_init 30 = .ok (.putfield 24, 3) := by decide +kernel
theorem dX8_init_33 : decode cX8_init 33 = .ok (.aload_n 0, 1) := by decide +kernel
theorem dX8_init_34 : decode cX8_init 34 = .ok (.bipush 6, 2) := by decide +kernel
theorem dX8_init_36 : decode cX8_init 36 = .ok (.anewarray 28, 3) := by decide +kernel
theorem dX8_init_39 : decode cX8_init 39 = .ok (.putfield 30, 3) := by decide +kernel
theorem dX8_init_42 : decode cX8_init 42 = .ok (.aload_n 0, 1) := by decide +kernel
theorem dX8_init_43 : decode cX8_init 43 = .ok (.bipush 8, 2) := by decide +kernel
theorem dX8_init_45 : decode cX8_init 45 = .ok (.anewarray 34, 3) := by decide +kernel
theorem dX8_init_48 : decode cX8_init 48 = .ok (.putfield 36, 3) := by decide +kernel
theorem dX8_init_51 : decode cX8_init 51 = .ok (.aload_n 0, 1) := by decide +kernel
theorem dX8_init_52 : decode cX8_init 52 = .ok (.new 40, 3) := by decide +kernel
theorem dX8_init_55 : decode cX8_init 55 = .ok (.dup, 1) := by decide +kernel
theorem dX8_init_56 : decode cX8_init 56 = .ok (.invokespecial 42, 3) := by decide +kernel
theorem dX8_init_59 : decode cX8_init 59 = .ok (.putfield 43, 3) := by decide +kernel
theorem dX8_init_62 : decode cX8_init 62 = .ok (.aload_n 0, 1) := by decide +kernel
theorem dX8_init_63 : decode cX8_init 63 = .ok (.iconst 0, 1) := by decide +kernel
theorem dX8_init_64 : decode cX8_init 64 = .ok (.putfield 47, 3) := by decide +kernel
theorem dX8_init_67 : decode cX8_init 67 = .ok (.aload_n 0, 1) := by decide +kernel
theorem dX8_init_68 : decode cX8_init 68 = .ok (.iconst 0, 1) := by decide +kernel
theorem dX8_init_69 : decode cX8_init 69 = .ok (.putfield 51, 3) := by decide +kernel
theorem dX8_init_72 : decode cX8_init 72 = .ok (.aload_n 0, 1) := by decide +kernel
theorem dX8_init_73 : decode cX8_init 73 = .ok (.iconst 0, 1) := by decide +kernel
theorem dX8_init_74 : decode cX8_init 74 = .ok (.putfield 54, 3) := by decide +kernel
theorem dX8_init_77 : decode cX8_init 77 = .ok (.aload_n 0, 1) := by decide +kernel
theorem dX8_init_78 : decode cX8_init 78 = .ok (.iconst 0, 1) := by decide +kernel
theorem dX8_init_79 : decode cX8_init 79 = .ok (.putfield 57, 3) := by decide +kernel
theorem dX8_init_82 : decode cX8_init 82 = .ok (.aload_n 0, 1) := by decide +kernel
theorem dX8_init_83 : decode cX8_init 83 = .ok (.iconst 0, 1) := by decide +kernel
theorem dX8_init_84 : decode cX8_init 84 = .ok (.putfield 60, 3) := by decide +kernel
theorem dX8_init_87 : decode cX8_init 87 = .ok (.return_, 1) := by decide +kernel
theorem dX8_letter_0 : decode cX8_letter 0 = .ok (.iload_n 1, 1) := by decide +kernel
theorem dX8_letter_1 : decode cX8_letter 1 = .ok (.bipush 97, 2) := by decide +kernel
theorem dX8_letter_3 : decode cX8_letter 3 = .ok (.bipush 122, 2) := by decide +kernel
theorem dX8_letter_5 : decode cX8_letter 5 = .ok (.invokestatic 63, 3) := by decide +kernel
theorem dX8_letter_8 : decode cX8_letter 8 = .ok (.aload_n 0, 1) := by decide +kernel
theorem dX8_letter_9 : decode cX8_letter 9 = .ok (.getfield 10, 3) := by decide +kernel
theorem dX8_letter_12 : decode cX8_letter 12 = .ok (.invokevirtual 67, 3) := by decide +kernel
theorem dX8_letter_15 : decode cX8_letter 15 = .ok (.bipush 7, 2) := by decide +kernel
theorem dX8_letter_17 : decode cX8_letter 17 = .ok (.invokestatic 71, 3) := by decide +kernel
theorem dX8_letter_20 : decode cX8_letter 20 = .ok (.aload_n 0, 1) := by decide +kernel
theorem dX8_letter_21 : decode cX8_letter 21 = .ok (.getfield 10, 3) := by decide +kernel
theorem dX8_letter_24 : decode cX8_letter 24 = .ok (.iload_n 1, 1) := by decide +kernel
theorem dX8_letter_25 : decode cX8_letter 25 = .ok (.invokevirtual 75, 3) := by decide +kernel
theorem dX8_letter_28 : decode cX8_letter 28 = .ok (.pop, 1) := by decide +kernel
theorem dX8_letter_29 : decode cX8_letter 29 = .ok (.aload_n 0, 1) := by decide +kernel
theorem dX8_letter_30 : decode cX8_letter 30 = .ok (.getfield 10, 3) := by decide +kernel
theorem dX8_letter_33 : decode cX8_letter 33 = .ok (.invokevirtual 67, 3) := by decide +kernel
theorem dX8_letter_36 : decode cX8_letter 36 = .ok (.ireturn, 1) := by decide +kernel
theorem dX8_lot_0 : decode cX8_lot 0 = .ok (.iload_n 1, 1) := by decide +kernel
theorem dX8_lot_1 : decode cX8_lot 1 = .ok (.iconst 1, 1) := by decide +kernel
theorem dX8_lot_2 : decode cX8_lot 2 = .ok (.sipush 5000, 3) := by decide +kernel
theorem dX8_lot_5 : decode cX8_lot 5 = .ok (.invokestatic 63, 3) := by decide +kernel
theorem dX8_lot_8 : decode cX8_lot 8 = .ok (.aload_n 0, 1) := by decide +kernel
theorem dX8_lot_9 : decode cX8_lot 9 = .ok (.getfield 47, 3) := by decide +kernel
theorem dX8_lot_12 : decode cX8_lot 12 = .ok (.aload_n 0, 1) := by decide +kernel
theorem dX8_lot_13 : decode cX8_lot 13 = .ok (.getfield 18, 3) := by decide +kernel
theorem dX8_lot_16 : decode cX8_lot 16 = .ok (.arraylength, 1) := by decide +kernel
theorem dX8_lot_17 : decode cX8_lot 17 = .ok (.invokestatic 71, 3) := by decide +kernel
theorem dX8_lot_20 : decode cX8_lot 20 = .ok (.aload_n 0, 1) := by decide +kernel
theorem dX8_lot_21 : decode cX8_lot 21 = .ok (.invokevirtual 79, 3) := by decide +kernel
theorem dX8_lot_24 : decode cX8_lot 24 = .ok (.astore_n 2, 1) := by decide +kernel
theorem dX8_lot_25 : decode cX8_lot 25 = .ok (.aload_n 0, 1) := by decide +kernel
theorem dX8_lot_26 : decode cX8_lot 26 = .ok (.invokevirtual 83, 3) := by decide +kernel
theorem dX8_lot_29 : decode cX8_lot 29 = .ok (.aload_n 2, 1) := by decide +kernel
theorem dX8_lot_30 : decode cX8_lot 30 = .ok (.ifnonnull 5, 3) := by decide +kernel
theorem dX8_lot_33 : decode cX8_lot 33 = .ok (.iconst (-1), 1) := by decide +kernel
theorem dX8_lot_34 : decode cX8_lot 34 = .ok (.ireturn, 1) := by decide +kernel
theorem dX8_lot_35 : decode cX8_lot 35 = .ok (.aload_n 0, 1) := by decide +kernel
theorem dX8_lot_36 : decode cX8_lot 36 = .ok (.getfield 18, 3) := by decide +kernel
theorem dX8_lot_39 : decode cX8_lot 39 = .ok (.aload_n 0, 1) := by decide +kernel
theorem dX8_lot_40 : decode cX8_lot 40 = .ok (.getfield 47, 3) := by decide +kernel
theorem dX8_lot_43 : decode cX8_lot 43 = .ok (.new 16, 3) := by decide +kernel
theorem dX8_lot_46 : decode cX8_lot 46 = .ok (.dup, 1) := by decide +kernel
theorem dX8_lot_47 : decode cX8_lot 47 = .ok (.aload_n 2, 1) := by decide +kernel
theorem dX8_lot_48 : decode cX8_lot 48 = .ok (.iload_n 1, 1) := by decide +kernel
theorem dX8_lot_49 : decode cX8_lot 49 = .ok (.invokespecial 86, 3) := by decide +kernel
theorem dX8_lot_52 : decode cX8_lot 52 = .ok (.aastore, 1) := by decide +kernel
theorem dX8_lot_53 : decode cX8_lot 53 = .ok (.aload_n 0, 1) := by decide +kernel
theorem dX8_lot_54 : decode cX8_lot 54 = .ok (.dup, 1) := by decide +kernel
theorem dX8_lot_55 : decode cX8_lot 55 = .ok (.getfield 47, 3) := by decide +kernel
theorem dX8_lot_58 : decode cX8_lot 58 = .ok (.iconst 1, 1) := by decide +kernel
theorem dX8_lot_59 : decode cX8_lot 59 = .ok (.iadd, 1) := by decide +kernel
theorem dX8_lot_60 : decode cX8_lot 60 = .ok (.putfield 47, 3) := by decide +kernel
theorem dX8_lot_63 : decode cX8_lot 63 = .ok (.aload_n 0, 1) := by decide +kernel
theorem dX8_lot_64 : decode cX8_lot 64 = .ok (.getfield 47, 3) := by decide +kernel
theorem dX8_lot_67 : decode cX8_lot 67 = .ok (.iconst 1, 1) := by decide +kernel
theorem dX8_lot_68 : decode cX8_lot 68 = .ok (.isub, 1) := by decide +kernel
theorem dX8_lot_69 : decode cX8_lot 69 = .ok (.ireturn, 1) := by decide +kernel
theorem dX8_cone_0 : decode cX8_cone 0 = .ok (.aload_n 0, 1) := by decide +kernel
theorem dX8_cone_1 : decode cX8_cone 1 = .ok (.iload_n 1, 1) := by decide +kernel
theorem dX8_cone_2 : decode cX8_cone 2 = .ok (.invokevirtual 89, 3) := by decide +kernel
theorem dX8_cone_5 : decode cX8_cone 5 = .ok (.astore 4, 2) := by decide +kernel
theorem dX8_cone_7 : decode cX8_cone 7 = .ok (.iload_n 2, 1) := by decide +kernel
theorem dX8_cone_8 : decode cX8_cone 8 = .ok (.bipush 10, 2) := by decide +kernel
theorem dX8_cone_10 : decode cX8_cone 10 = .ok (.sipush 500, 3) := by decide +kernel
theorem dX8_cone_13 : decode cX8_cone 13 = .ok (.invokestatic 63, 3) := by decide +kernel
theorem dX8_cone_16 : decode cX8_cone 16 = .ok (.iload_n 3, 1) := by decide +kernel
theorem dX8_cone_17 : decode cX8_cone 17 = .ok (.iconst 0, 1) := by decide +kernel
theorem dX8_cone_18 : decode cX8_cone 18 = .ok (.iconst 5, 1) := by decide +kernel
theorem dX8_cone_19 : decode cX8_cone 19 = .ok (.invokestatic 63, 3) := by decide +kernel
theorem dX8_cone_22 : decode cX8_cone 22 = .ok (.aload_n 0, 1) := by decide +kernel
theorem dX8_cone_23 : decode cX8_cone 23 = .ok (.getfield 51, 3) := by decide +kernel
theorem dX8_cone_26 : decode cX8_cone 26 = .ok (.aload_n 0, 1) := by decide +kernel
theorem dX8_cone_27 : decode cX8_cone 27 = .ok (.getfield 24, 3) := by decide +kernel
theorem dX8_cone_30 : decode cX8_cone 30 = .ok (.arraylength, 1) := by decide +kernel
theorem dX8_cone_31 : decode cX8_cone 31 = .ok (.invokestatic 71, 3) := by decide +kernel
theorem dX8_cone_34 : decode cX8_cone 34 = .ok (.aload 4, 2) := by decide +kernel
theorem dX8_cone_36 : decode cX8_cone 36 = .ok (.getfield 93, 3) := by decide +kernel
theorem dX8_cone_39 : decode cX8_cone 39 = .ok (.iload_n 2, 1) := by decide +kernel
theorem dX8_cone_40 : decode cX8_cone 40 = .ok (.if_icmp .ge 13, 3) := by decide +kernel
theorem dX8_cone_43 : decode cX8_cone 43 = .ok (.new 96, 3) := by decide +kernel
theorem dX8_cone_46 : decode cX8_cone 46 = .ok (.dup, 1) := by decide +kernel
theorem dX8_cone_47 : decode cX8_cone 47 = .ok (.ldc 98, 2) := by decide +kernel
theorem dX8_cone_49 : decode cX8_cone 49 = .ok (.invokespecial 100, 3) := by decide +kernel
theorem dX8_cone_52 : decode cX8_cone 52 = .ok (.athrow, 1) := by decide +kernel
theorem dX8_cone_53 : decode cX8_cone 53 = .ok (.aload 4, 2) := by decide +kernel
theorem dX8_cone_55 : decode cX8_cone 55 = .ok (.dup, 1) := by decide +kernel
theorem dX8_cone_56 : decode cX8_cone 56 = .ok (.getfield 93, 3) := by decide +kernel
theorem dX8_cone_59 : decode cX8_cone 59 = .ok (.iload_n 2, 1) := by decide +kernel
theorem dX8_cone_60 : decode cX8_cone 60 = .ok (.isub, 1) := by decide +kernel
theorem dX8_cone_61 : decode cX8_cone 61 = .ok (.putfield 93, 3) := by decide +kernel
theorem dX8_cone_64 : decode cX8_cone 64 = .ok (.aload_n 0, 1) := by decide +kernel
theorem dX8_cone_65 : decode cX8_cone 65 = .ok (.getfield 24, 3) := by decide +kernel
theorem dX8_cone_68 : decode cX8_cone 68 = .ok (.aload_n 0, 1) := by decide +kernel
theorem dX8_cone_69 : decode cX8_cone 69 = .ok (.getfield 51, 3) := by decide +kernel
theorem dX8_cone_72 : decode cX8_cone 72 = .ok (.new 22, 3) := by decide +kernel
theorem dX8_cone_75 : decode cX8_cone 75 = .ok (.dup, 1) := by decide +kernel
theorem dX8_cone_76 : decode cX8_cone 76 = .ok (.aload 4, 2) := by decide +kernel
theorem dX8_cone_78 : decode cX8_cone 78 = .ok (.getfield 103, 3) := by decide +kernel
theorem dX8_cone_81 : decode cX8_cone 81 = .ok (.iload_n 2, 1) := by decide +kernel
theorem dX8_cone_82 : decode cX8_cone 82 = .ok (.iload_n 3, 1) := by decide +kernel
theorem dX8_cone_83 : decode cX8_cone 83 = .ok (.invokespecial 107, 3) := by decide +kernel
theorem dX8_cone_86 : decode cX8_cone 86 = .ok (.aastore, 1) := by decide +kernel
theorem dX8_cone_87 : decode cX8_cone 87 = .ok (.aload_n 0, 1) := by decide +kernel
theorem dX8_cone_88 : decode cX8_cone 88 = .ok (.dup, 1) := by decide +kernel
theorem dX8_cone_89 : decode cX8_cone 89 = .ok (.getfield 51, 3) := by decide +kernel
theorem dX8_cone_92 : decode cX8_cone 92 = .ok (.iconst 1, 1) := by decide +kernel
theorem dX8_cone_93 : decode cX8_cone 93 = .ok (.iadd, 1) := by decide +kernel
theorem dX8_cone_94 : decode cX8_cone 94 = .ok (.putfield 51, 3) := by decide +kernel
theorem dX8_cone_97 : decode cX8_cone 97 = .ok (.aload_n 0, 1) := by decide +kernel
theorem dX8_cone_98 : decode cX8_cone 98 = .ok (.getfield 51, 3) := by decide +kernel
theorem dX8_cone_101 : decode cX8_cone 101 = .ok (.iconst 1, 1) := by decide +kernel
theorem dX8_cone_102 : decode cX8_cone 102 = .ok (.isub, 1) := by decide +kernel
theorem dX8_cone_103 : decode cX8_cone 103 = .ok (.ireturn, 1) := by decide +kernel
theorem dX8_hand_0 : decode cX8_hand 0 = .ok (.aload_n 0, 1) := by decide +kernel
theorem dX8_hand_1 : decode cX8_hand 1 = .ok (.getfield 54, 3) := by decide +kernel
theorem dX8_hand_4 : decode cX8_hand 4 = .ok (.aload_n 0, 1) := by decide +kernel
theorem dX8_hand_5 : decode cX8_hand 5 = .ok (.getfield 30, 3) := by decide +kernel
theorem dX8_hand_8 : decode cX8_hand 8 = .ok (.arraylength, 1) := by decide +kernel
theorem dX8_hand_9 : decode cX8_hand 9 = .ok (.invokestatic 71, 3) := by decide +kernel
theorem dX8_hand_12 : decode cX8_hand 12 = .ok (.aload_n 0, 1) := by decide +kernel
theorem dX8_hand_13 : decode cX8_hand 13 = .ok (.getfield 30, 3) := by decide +kernel
theorem dX8_hand_16 : decode cX8_hand 16 = .ok (.aload_n 0, 1) := by decide +kernel
theorem dX8_hand_17 : decode cX8_hand 17 = .ok (.getfield 54, 3) := by decide +kernel
theorem dX8_hand_20 : decode cX8_hand 20 = .ok (.new 28, 3) := by decide +kernel
theorem dX8_hand_23 : decode cX8_hand 23 = .ok (.dup, 1) := by decide +kernel
theorem dX8_hand_24 : decode cX8_hand 24 = .ok (.invokespecial 110, 3) := by decide +kernel
theorem dX8_hand_27 : decode cX8_hand 27 = .ok (.aastore, 1) := by decide +kernel
theorem dX8_hand_28 : decode cX8_hand 28 = .ok (.aload_n 0, 1) := by decide +kernel
theorem dX8_hand_29 : decode cX8_hand 29 = .ok (.dup, 1) := by decide +kernel
theorem dX8_hand_30 : decode cX8_hand 30 = .ok (.getfield 54, 3) := by decide +kernel
theorem dX8_hand_33 : decode cX8_hand 33 = .ok (.iconst 1, 1) := by decide +kernel
theorem dX8_hand_34 : decode cX8_hand 34 = .ok (.iadd, 1) := by decide +kernel
theorem dX8_hand_35 : decode cX8_hand 35 = .ok (.putfield 54, 3) := by decide +kernel
theorem dX8_hand_38 : decode cX8_hand 38 = .ok (.aload_n 0, 1) := by decide +kernel
theorem dX8_hand_39 : decode cX8_hand 39 = .ok (.getfield 54, 3) := by decide +kernel
theorem dX8_hand_42 : decode cX8_hand 42 = .ok (.iconst 1, 1) := by decide +kernel
theorem dX8_hand_43 : decode cX8_hand 43 = .ok (.isub, 1) := by decide +kernel
theorem dX8_hand_44 : decode cX8_hand 44 = .ok (.ireturn, 1) := by decide +kernel
theorem dX8_cycle_0 : decode cX8_cycle 0 = .ok (.aload_n 0, 1) := by decide +kernel
theorem dX8_cycle_1 : decode cX8_cycle 1 = .ok (.iload_n 1, 1) := by decide +kernel
theorem dX8_cycle_2 : decode cX8_cycle 2 = .ok (.invokevirtual 111, 3) := by decide +kernel
theorem dX8_cycle_5 : decode cX8_cycle 5 = .ok (.astore_n 3, 1) := by decide +kernel
theorem dX8_cycle_6 : decode cX8_cycle 6 = .ok (.aload_n 0, 1) := by decide +kernel
theorem dX8_cycle_7 : decode cX8_cycle 7 = .ok (.iload_n 2, 1) := by decide +kernel
theorem dX8_cycle_8 : decode cX8_cycle 8 = .ok (.invokevirtual 115, 3) := by decide +kernel
theorem dX8_cycle_11 : decode cX8_cycle 11 = .ok (.astore 4, 2) := by decide +kernel
theorem dX8_cycle_13 : decode cX8_cycle 13 = .ok (.aload 4, 2) := by decide +kernel
theorem dX8_cycle_15 : decode cX8_cycle 15 = .ok (.getfield 119, 3) := by decide +kernel
theorem dX8_cycle_18 : decode cX8_cycle 18 = .ok (.aload_n 3, 1) := by decide +kernel
theorem dX8_cycle_19 : decode cX8_cycle 19 = .ok (.getfield 122, 3) := by decide +kernel
theorem dX8_cycle_22 : decode cX8_cycle 22 = .ok (.getfield 123, 3) := by decide +kernel
theorem dX8_cycle_25 : decode cX8_cycle 25 = .ok (.iadd, 1) := by decide +kernel
theorem dX8_cycle_26 : decode cX8_cycle 26 = .ok (.bipush 30, 2) := by decide +kernel
theorem dX8_cycle_28 : decode cX8_cycle 28 = .ok (.if_icmp .le 13, 3) := by decide +kernel
theorem dX8_cycle_31 : decode cX8_cycle 31 = .ok (.new 96, 3) := by decide +kernel
theorem dX8_cycle_34 : decode cX8_cycle 34 = .ok (.dup, 1) := by decide +kernel
theorem dX8_cycle_35 : decode cX8_cycle 35 = .ok (.ldc 128, 2) := by decide +kernel
theorem dX8_cycle_37 : decode cX8_cycle 37 = .ok (.invokespecial 100, 3) := by decide +kernel
theorem dX8_cycle_40 : decode cX8_cycle 40 = .ok (.athrow, 1) := by decide +kernel
theorem dX8_cycle_41 : decode cX8_cycle 41 = .ok (.aload_n 3, 1) := by decide +kernel
theorem dX8_cycle_42 : decode cX8_cycle 42 = .ok (.getfield 130, 3) := by decide +kernel
theorem dX8_cycle_45 : decode cX8_cycle 45 = .ok (.ifnull 13, 3) := by decide +kernel
theorem dX8_cycle_48 : decode cX8_cycle 48 = .ok (.new 96, 3) := by decide +kernel
theorem dX8_cycle_51 : decode cX8_cycle 51 = .ok (.dup, 1) := by decide +kernel
theorem dX8_cycle_52 : decode cX8_cycle 52 = .ok (.ldc 134, 2) := by decide +kernel
theorem dX8_cycle_54 : decode cX8_cycle 54 = .ok (.invokespecial 100, 3) := by decide +kernel
theorem dX8_cycle_57 : decode cX8_cycle 57 = .ok (.athrow, 1) := by decide +kernel
theorem dX8_cycle_58 : decode cX8_cycle 58 = .ok (.aload_n 3, 1) := by decide +kernel
theorem dX8_cycle_59 : decode cX8_cycle 59 = .ok (.getfield 136, 3) := by decide +kernel
theorem dX8_cycle_62 : decode cX8_cycle 62 = .ok (.bipush 12, 2) := by decide +kernel
theorem dX8_cycle_64 : decode cX8_cycle 64 = .ok (.invokestatic 71, 3) := by decide +kernel
theorem dX8_cycle_67 : decode cX8_cycle 67 = .ok (.aload 4, 2) := by decide +kernel
theorem dX8_cycle_69 : decode cX8_cycle 69 = .ok (.aload_n 3, 1) := by decide +kernel
theorem dX8_cycle_70 : decode cX8_cycle 70 = .ok (.getfield 122, 3) := by decide +kernel
theorem dX8_cycle_73 : decode cX8_cycle 73 = .ok (.getfield 123, 3) := by decide +kernel
theorem dX8_cycle_76 : decode cX8_cycle 76 = .ok (.invokevirtual 139, 3) := by decide +kernel
theorem dX8_cycle_79 : decode cX8_cycle 79 = .ok (.aload_n 3, 1) := by decide +kernel
theorem dX8_cycle_80 : decode cX8_cycle 80 = .ok (.invokevirtual 143, 3) := by decide +kernel
theorem dX8_cycle_83 : decode cX8_cycle 83 = .ok (.aload_n 3, 1) := by decide +kernel
theorem dX8_cycle_84 : decode cX8_cycle 84 = .ok (.iconst 0, 1) := by decide +kernel
theorem dX8_cycle_85 : decode cX8_cycle 85 = .ok (.invokevirtual 146, 3) := by decide +kernel
theorem dX8_cycle_88 : decode cX8_cycle 88 = .ok (.ireturn, 1) := by decide +kernel
theorem dX8_block_0 : decode cX8_block 0 = .ok (.iload_n 1, 1) := by decide +kernel
theorem dX8_block_1 : decode cX8_block 1 = .ok (.sipush 300, 3) := by decide +kernel
theorem dX8_block_4 : decode cX8_block 4 = .ok (.sipush 700, 3) := by decide +kernel
theorem dX8_block_7 : decode cX8_block 7 = .ok (.invokestatic 63, 3) := by decide +kernel
theorem dX8_block_10 : decode cX8_block 10 = .ok (.iload_n 2, 1) := by decide +kernel
theorem dX8_block_11 : decode cX8_block 11 = .ok (.iconst 1, 1) := by decide +kernel
theorem dX8_block_12 : decode cX8_block 12 = .ok (.bipush 6, 2) := by decide +kernel
theorem dX8_block_14 : decode cX8_block 14 = .ok (.invokestatic 63, 3) := by decide +kernel
theorem dX8_block_17 : decode cX8_block 17 = .ok (.aload_n 0, 1) := by decide +kernel
theorem dX8_block_18 : decode cX8_block 18 = .ok (.getfield 57, 3) := by decide +kernel
theorem dX8_block_21 : decode cX8_block 21 = .ok (.aload_n 0, 1) := by decide +kernel
theorem dX8_block_22 : decode cX8_block 22 = .ok (.getfield 36, 3) := by decide +kernel
theorem dX8_block_25 : decode cX8_block 25 = .ok (.arraylength, 1) := by decide +kernel
theorem dX8_block_26 : decode cX8_block 26 = .ok (.invokestatic 71, 3) := by decide +kernel
theorem dX8_block_29 : decode cX8_block 29 = .ok (.aload_n 0, 1) := by decide +kernel
theorem dX8_block_30 : decode cX8_block 30 = .ok (.getfield 36, 3) := by decide +kernel
theorem dX8_block_33 : decode cX8_block 33 = .ok (.aload_n 0, 1) := by decide +kernel
theorem dX8_block_34 : decode cX8_block 34 = .ok (.getfield 57, 3) := by decide +kernel
theorem dX8_block_37 : decode cX8_block 37 = .ok (.new 34, 3) := by decide +kernel
theorem dX8_block_40 : decode cX8_block 40 = .ok (.dup, 1) := by decide +kernel
theorem dX8_block_41 : decode cX8_block 41 = .ok (.iload_n 1, 1) := by decide +kernel
theorem dX8_block_42 : decode cX8_block 42 = .ok (.iload_n 2, 1) := by decide +kernel
theorem dX8_block_43 : decode cX8_block 43 = .ok (.invokespecial 150, 3) := by decide +kernel
theorem dX8_block_46 : decode cX8_block 46 = .ok (.aastore, 1) := by decide +kernel
theorem dX8_block_47 : decode cX8_block 47 = .ok (.aload_n 0, 1) := by decide +kernel
theorem dX8_block_48 : decode cX8_block 48 = .ok (.dup, 1) := by decide +kernel
theorem dX8_block_49 : decode cX8_block 49 = .ok (.getfield 57, 3) := by decide +kernel
theorem dX8_block_52 : decode cX8_block 52 = .ok (.iconst 1, 1) := by decide +kernel
theorem dX8_block_53 : decode cX8_block 53 = .ok (.iadd, 1) := by decide +kernel
theorem dX8_block_54 : decode cX8_block 54 = .ok (.putfield 57, 3) := by decide +kernel
theorem dX8_block_57 : decode cX8_block 57 = .ok (.aload_n 0, 1) := by decide +kernel
theorem dX8_block_58 : decode cX8_block 58 = .ok (.getfield 57, 3) := by decide +kernel
theorem dX8_block_61 : decode cX8_block 61 = .ok (.iconst 1, 1) := by decide +kernel
theorem dX8_block_62 : decode cX8_block 62 = .ok (.isub, 1) := by decide +kernel
theorem dX8_block_63 : decode cX8_block 63 = .ok (.ireturn, 1) := by decide +kernel
theorem dX8_draw_0 : decode cX8_draw 0 = .ok (.aload_n 0, 1) := by decide +kernel
theorem dX8_draw_1 : decode cX8_draw 1 = .ok (.iload_n 1, 1) := by decide +kernel
theorem dX8_draw_2 : decode cX8_draw 2 = .ok (.invokevirtual 111, 3) := by decide +kernel
theorem dX8_draw_5 : decode cX8_draw 5 = .ok (.astore_n 3, 1) := by decide +kernel
theorem dX8_draw_6 : decode cX8_draw 6 = .ok (.aload_n 0, 1) := by decide +kernel
theorem dX8_draw_7 : decode cX8_draw 7 = .ok (.iload_n 2, 1) := by decide +kernel
theorem dX8_draw_8 : decode cX8_draw 8 = .ok (.invokevirtual 152, 3) := by decide +kernel
theorem dX8_draw_11 : decode cX8_draw 11 = .ok (.astore 4, 2) := by decide +kernel
theorem dX8_draw_13 : decode cX8_draw 13 = .ok (.aload_n 3, 1) := by decide +kernel
theorem dX8_draw_14 : decode cX8_draw 14 = .ok (.aload 4, 2) := by decide +kernel
theorem dX8_draw_16 : decode cX8_draw 16 = .ok (.invokevirtual 156, 3) := by decide +kernel
theorem dX8_draw_19 : decode cX8_draw 19 = .ok (.istore 5, 2) := by decide +kernel
theorem dX8_draw_21 : decode cX8_draw 21 = .ok (.iload 5, 2) := by decide +kernel
theorem dX8_draw_23 : decode cX8_draw 23 = .ok (.ifCond .ne 9, 3) := by decide +kernel
theorem dX8_draw_26 : decode cX8_draw 26 = .ok (.aload_n 3, 1) := by decide +kernel
theorem dX8_draw_27 : decode cX8_draw 27 = .ok (.aload 4, 2) := by decide +kernel
theorem dX8_draw_29 : decode cX8_draw 29 = .ok (.invokevirtual 160, 3) := by decide +kernel
theorem dX8_draw_32 : decode cX8_draw 32 = .ok (.iload 5, 2) := by decide +kernel
theorem dX8_draw_34 : decode cX8_draw 34 = .ok (.ireturn, 1) := by decide +kernel
theorem dX8_trim_0 : decode cX8_trim 0 = .ok (.aload_n 0, 1) := by decide +kernel
theorem dX8_trim_1 : decode cX8_trim 1 = .ok (.iload_n 1, 1) := by decide +kernel
theorem dX8_trim_2 : decode cX8_trim 2 = .ok (.invokevirtual 111, 3) := by decide +kernel
theorem dX8_trim_5 : decode cX8_trim 5 = .ok (.astore_n 2, 1) := by decide +kernel
theorem dX8_trim_6 : decode cX8_trim 6 = .ok (.aload_n 2, 1) := by decide +kernel
theorem dX8_trim_7 : decode cX8_trim 7 = .ok (.getfield 164, 3) := by decide +kernel
theorem dX8_trim_10 : decode cX8_trim 10 = .ok (.ifCond .eq 13, 3) := by decide +kernel
theorem dX8_trim_13 : decode cX8_trim 13 = .ok (.new 96, 3) := by decide +kernel
theorem dX8_trim_16 : decode cX8_trim 16 = .ok (.dup, 1) := by decide +kernel
theorem dX8_trim_17 : decode cX8_trim 17 = .ok (.ldc 168, 2) := by decide +kernel
theorem dX8_trim_19 : decode cX8_trim 19 = .ok (.invokespecial 100, 3) := by decide +kernel
theorem dX8_trim_22 : decode cX8_trim 22 = .ok (.athrow, 1) := by decide +kernel
theorem dX8_trim_23 : decode cX8_trim 23 = .ok (.aload_n 0, 1) := by decide +kernel
theorem dX8_trim_24 : decode cX8_trim 24 = .ok (.invokevirtual 170, 3) := by decide +kernel
theorem dX8_trim_27 : decode cX8_trim 27 = .ok (.astore_n 3, 1) := by decide +kernel
theorem dX8_trim_28 : decode cX8_trim 28 = .ok (.aload_n 0, 1) := by decide +kernel
theorem dX8_trim_29 : decode cX8_trim 29 = .ok (.invokevirtual 83, 3) := by decide +kernel
theorem dX8_trim_32 : decode cX8_trim 32 = .ok (.aload_n 2, 1) := by decide +kernel
theorem dX8_trim_33 : decode cX8_trim 33 = .ok (.aload_n 3, 1) := by decide +kernel
theorem dX8_trim_34 : decode cX8_trim 34 = .ok (.ifnull 18, 3) := by decide +kernel
theorem dX8_trim_37 : decode cX8_trim 37 = .ok (.aload_n 3, 1) := by decide +kernel
theorem dX8_trim_38 : decode cX8_trim 38 = .ok (.aload_n 0, 1) := by decide +kernel
theorem dX8_trim_39 : decode cX8_trim 39 = .ok (.invokevirtual 174, 3) := by decide +kernel
theorem dX8_trim_42 : decode cX8_trim 42 = .ok (.invokevirtual 177, 3) := by decide +kernel
theorem dX8_trim_45 : decode cX8_trim 45 = .ok (.ifCond .eq 7, 3) := by decide +kernel
theorem dX8_trim_48 : decode cX8_trim 48 = .ok (.iconst 1, 1) := by decide +kernel
theorem dX8_trim_49 : decode cX8_trim 49 = .ok (.goto 4, 3) := by decide +kernel
theorem dX8_trim_52 : decode cX8_trim 52 = .ok (.iconst 0, 1) := by decide +kernel
theorem dX8_trim_53 : decode cX8_trim 53 = .ok (.putfield 164, 3) := by decide +kernel
theorem dX8_trim_56 : decode cX8_trim 56 = .ok (.aload_n 2, 1) := by decide +kernel
theorem dX8_trim_57 : decode cX8_trim 57 = .ok (.getfield 164, 3) := by decide +kernel
theorem dX8_trim_60 : decode cX8_trim 60 = .ok (.ireturn, 1) := by decide +kernel
theorem dX8_pass_0 : decode cX8_pass 0 = .ok (.iload_n 1, 1) := by decide +kernel
theorem dX8_pass_1 : decode cX8_pass 1 = .ok (.iconst 1, 1) := by decide +kernel
theorem dX8_pass_2 : decode cX8_pass 2 = .ok (.bipush 30, 2) := by decide +kernel
theorem dX8_pass_4 : decode cX8_pass 4 = .ok (.invokestatic 63, 3) := by decide +kernel
theorem dX8_pass_7 : decode cX8_pass 7 = .ok (.aload_n 0, 1) := by decide +kernel
theorem dX8_pass_8 : decode cX8_pass 8 = .ok (.dup, 1) := by decide +kernel
theorem dX8_pass_9 : decode cX8_pass 9 = .ok (.getfield 60, 3) := by decide +kernel
theorem dX8_pass_12 : decode cX8_pass 12 = .ok (.iload_n 1, 1) := by decide +kernel
theorem dX8_pass_13 : decode cX8_pass 13 = .ok (.iadd, 1) := by decide +kernel
theorem dX8_pass_14 : decode cX8_pass 14 = .ok (.putfield 60, 3) := by decide +kernel
theorem dX8_pass_17 : decode cX8_pass 17 = .ok (.aload_n 0, 1) := by decide +kernel
theorem dX8_pass_18 : decode cX8_pass 18 = .ok (.getfield 30, 3) := by decide +kernel
theorem dX8_pass_21 : decode cX8_pass 21 = .ok (.astore_n 2, 1) := by decide +kernel
theorem dX8_pass_22 : decode cX8_pass 22 = .ok (.aload_n 2, 1) := by decide +kernel
theorem dX8_pass_23 : decode cX8_pass 23 = .ok (.arraylength, 1) := by decide +kernel
theorem dX8_pass_24 : decode cX8_pass 24 = .ok (.istore_n 3, 1) := by decide +kernel
theorem dX8_pass_25 : decode cX8_pass 25 = .ok (.iconst 0, 1) := by decide +kernel
theorem dX8_pass_26 : decode cX8_pass 26 = .ok (.istore 4, 2) := by decide +kernel
theorem dX8_pass_28 : decode cX8_pass 28 = .ok (.iload 4, 2) := by decide +kernel
theorem dX8_pass_30 : decode cX8_pass 30 = .ok (.iload_n 3, 1) := by decide +kernel
theorem dX8_pass_31 : decode cX8_pass 31 = .ok (.if_icmp .ge 26, 3) := by decide +kernel
theorem dX8_pass_34 : decode cX8_pass 34 = .ok (.aload_n 2, 1) := by decide +kernel
theorem dX8_pass_35 : decode cX8_pass 35 = .ok (.iload 4, 2) := by decide +kernel
theorem dX8_pass_37 : decode cX8_pass 37 = .ok (.aaload, 1) := by decide +kernel
theorem dX8_pass_38 : decode cX8_pass 38 = .ok (.astore 5, 2) := by decide +kernel
theorem dX8_pass_40 : decode cX8_pass 40 = .ok (.aload 5, 2) := by decide +kernel
theorem dX8_pass_42 : decode cX8_pass 42 = .ok (.ifnull 9, 3) := by decide +kernel
theorem dX8_pass_45 : decode cX8_pass 45 = .ok (.aload 5, 2) := by decide +kernel
theorem dX8_pass_47 : decode cX8_pass 47 = .ok (.iconst 0, 1) := by decide +kernel
theorem dX8_pass_48 : decode cX8_pass 48 = .ok (.putfield 119, 3) := by decide +kernel
theorem dX8_pass_51 : decode cX8_pass 51 = .ok (.iinc 4 1, 3) := by decide +kernel
theorem dX8_pass_54 : decode cX8_pass 54 = .ok (.goto (-26), 3) := by decide +kernel
theorem dX8_pass_57 : decode cX8_pass 57 = .ok (.aload_n 0, 1) := by decide +kernel
theorem dX8_pass_58 : decode cX8_pass 58 = .ok (.invokevirtual 174, 3) := by decide +kernel
theorem dX8_pass_61 : decode cX8_pass 61 = .ok (.ireturn, 1) := by decide +kernel
theorem dX8_about_0 : decode cX8_about 0 = .ok (.aload_n 0, 1) := by decide +kernel
theorem dX8_about_1 : decode cX8_about 1 = .ok (.iload_n 1, 1) := by decide +kernel
theorem dX8_about_2 : decode cX8_about 2 = .ok (.invokevirtual 111, 3) := by decide +kernel
theorem dX8_about_5 : decode cX8_about 5 = .ok (.astore 4, 2) := by decide +kernel
theorem dX8_about_7 : decode cX8_about 7 = .ok (.iload_n 2, 1) := by decide +kernel
theorem dX8_about_8 : decode cX8_about 8 = .ok (.bipush 6, 2) := by decide +kernel
theorem dX8_about_10 : decode cX8_about 10 = .ok (.invokestatic 183, 3) := by decide +kernel
theorem dX8_about_13 : decode cX8_about 13 = .ok (.iload_n 3, 1) := by decide +kernel
theorem dX8_about_14 : decode cX8_about 14 = .ok (.iconst 0, 1) := by decide +kernel
theorem dX8_about_15 : decode cX8_about 15 = .ok (.iconst 3, 1) := by decide +kernel
theorem dX8_about_16 : decode cX8_about 16 = .ok (.invokestatic 63, 3) := by decide +kernel
theorem dX8_about_19 : decode cX8_about 19 = .ok (.iload_n 3, 1) := by decide +kernel
theorem dX8_about_20 : decode cX8_about 20 = .ok (.tableswitch 48 0 2 #[28, 35, 41], 28) := by decide +kernel
theorem dX8_about_48 : decode cX8_about 48 = .ok (.aload 4, 2) := by decide +kernel
theorem dX8_about_50 : decode cX8_about 50 = .ok (.iload_n 2, 1) := by decide +kernel
theorem dX8_about_51 : decode cX8_about 51 = .ok (.invokevirtual 146, 3) := by decide +kernel
theorem dX8_about_54 : decode cX8_about 54 = .ok (.ireturn, 1) := by decide +kernel
theorem dX8_about_55 : decode cX8_about 55 = .ok (.aload 4, 2) := by decide +kernel
theorem dX8_about_57 : decode cX8_about 57 = .ok (.getfield 186, 3) := by decide +kernel
theorem dX8_about_60 : decode cX8_about 60 = .ok (.ireturn, 1) := by decide +kernel
theorem dX8_about_61 : decode cX8_about 61 = .ok (.aload 4, 2) := by decide +kernel
theorem dX8_about_63 : decode cX8_about 63 = .ok (.iload_n 2, 1) := by decide +kernel
theorem dX8_about_64 : decode cX8_about 64 = .ok (.invokevirtual 189, 3) := by decide +kernel
theorem dX8_about_67 : decode cX8_about 67 = .ok (.ireturn, 1) := by decide +kernel
theorem dX8_about_68 : decode cX8_about 68 = .ok (.aload 4, 2) := by decide +kernel
theorem dX8_about_70 : decode cX8_about 70 = .ok (.iload_n 2, 1) := by decide +kernel
theorem dX8_about_71 : decode cX8_about 71 = .ok (.invokevirtual 192, 3) := by decide +kernel
theorem dX8_about_74 : decode cX8_about 74 = .ok (.ireturn, 1) := by decide +kernel
theorem dX8_widthAnew_0 : decode cX8_widthAnew 0 = .ok (.aload_n 0, 1) := by decide +kernel
theorem dX8_widthAnew_1 : decode cX8_widthAnew 1 = .ok (.iload_n 1, 1) := by decide +kernel
theorem dX8_widthAnew_2 : decode cX8_widthAnew 2 = .ok (.invokevirtual 111, 3) := by decide +kernel
theorem dX8_widthAnew_5 : decode cX8_widthAnew 5 = .ok (.astore_n 3, 1) := by decide +kernel
theorem dX8_widthAnew_6 : decode cX8_widthAnew 6 = .ok (.iload_n 2, 1) := by decide +kernel
theorem dX8_widthAnew_7 : decode cX8_widthAnew 7 = .ok (.bipush 6, 2) := by decide +kernel
theorem dX8_widthAnew_9 : decode cX8_widthAnew 9 = .ok (.invokestatic 183, 3) := by decide +kernel
theorem dX8_widthAnew_12 : decode cX8_widthAnew 12 = .ok (.aload_n 3, 1) := by decide +kernel
theorem dX8_widthAnew_13 : decode cX8_widthAnew 13 = .ok (.iload_n 2, 1) := by decide +kernel
theorem dX8_widthAnew_14 : decode cX8_widthAnew 14 = .ok (.invokevirtual 195, 3) := by decide +kernel
theorem dX8_widthAnew_17 : decode cX8_widthAnew 17 = .ok (.ireturn, 1) := by decide +kernel
theorem dX8_brim_0 : decode cX8_brim 0 = .ok (.aload_n 0, 1) := by decide +kernel
theorem dX8_brim_1 : decode cX8_brim 1 = .ok (.iload_n 1, 1) := by decide +kernel
theorem dX8_brim_2 : decode cX8_brim 2 = .ok (.invokevirtual 111, 3) := by decide +kernel
theorem dX8_brim_5 : decode cX8_brim 5 = .ok (.astore_n 3, 1) := by decide +kernel
theorem dX8_brim_6 : decode cX8_brim 6 = .ok (.iload_n 2, 1) := by decide +kernel
theorem dX8_brim_7 : decode cX8_brim 7 = .ok (.bipush 10, 2) := by decide +kernel
theorem dX8_brim_9 : decode cX8_brim 9 = .ok (.sipush 150, 3) := by decide +kernel
theorem dX8_brim_12 : decode cX8_brim 12 = .ok (.invokestatic 63, 3) := by decide +kernel
theorem dX8_brim_15 : decode cX8_brim 15 = .ok (.aload_n 3, 1) := by decide +kernel
theorem dX8_brim_16 : decode cX8_brim 16 = .ok (.iconst 0, 1) := by decide +kernel
theorem dX8_brim_17 : decode cX8_brim 17 = .ok (.invokevirtual 146, 3) := by decide +kernel
theorem dX8_brim_20 : decode cX8_brim 20 = .ok (.istore 4, 2) := by decide +kernel
theorem dX8_brim_22 : decode cX8_brim 22 = .ok (.iload 4, 2) := by decide +kernel
theorem dX8_brim_24 : decode cX8_brim 24 = .ok (.ifCond .gt 5, 3) := by decide +kernel
theorem dX8_brim_27 : decode cX8_brim 27 = .ok (.iconst 0, 1) := by decide +kernel
theorem dX8_brim_28 : decode cX8_brim 28 = .ok (.ireturn, 1) := by decide +kernel
theorem dX8_brim_29 : decode cX8_brim 29 = .ok (.iconst 2, 1) := by decide +kernel
theorem dX8_brim_30 : decode cX8_brim 30 = .ok (.iload_n 2, 1) := by decide +kernel
theorem dX8_brim_31 : decode cX8_brim 31 = .ok (.imul, 1) := by decide +kernel
theorem dX8_brim_32 : decode cX8_brim 32 = .ok (.i2f, 1) := by decide +kernel
theorem dX8_brim_33 : decode cX8_brim 33 = .ok (.ldc 198, 2) := by decide +kernel
theorem dX8_brim_35 : decode cX8_brim 35 = .ok (.fmul, 1) := by decide +kernel
theorem dX8_brim_36 : decode cX8_brim 36 = .ok (.iload 4, 2) := by decide +kernel
theorem dX8_brim_38 : decode cX8_brim 38 = .ok (.i2f, 1) := by decide +kernel
theorem dX8_brim_39 : decode cX8_brim 39 = .ok (.fdiv, 1) := by decide +kernel
theorem dX8_brim_40 : decode cX8_brim 40 = .ok (.invokestatic 199, 3) := by decide +kernel
theorem dX8_brim_43 : decode cX8_brim 43 = .ok (.ireturn, 1) := by decide +kernel
theorem dX8_count_0 : decode cX8_count 0 = .ok (.iload_n 1, 1) := by decide +kernel
theorem dX8_count_1 : decode cX8_count 1 = .ok (.iconst 1, 1) := by decide +kernel
theorem dX8_count_2 : decode cX8_count 2 = .ok (.bipush 100, 2) := by decide +kernel
theorem dX8_count_4 : decode cX8_count 4 = .ok (.invokestatic 63, 3) := by decide +kernel
theorem dX8_count_7 : decode cX8_count 7 = .ok (.aload_n 0, 1) := by decide +kernel
theorem dX8_count_8 : decode cX8_count 8 = .ok (.invokevirtual 203, 3) := by decide +kernel
theorem dX8_count_11 : decode cX8_count 11 = .ok (.astore_n 2, 1) := by decide +kernel
theorem dX8_count_12 : decode cX8_count 12 = .ok (.aload_n 0, 1) := by decide +kernel
theorem dX8_count_13 : decode cX8_count 13 = .ok (.invokevirtual 83, 3) := by decide +kernel
theorem dX8_count_16 : decode cX8_count 16 = .ok (.aload_n 2, 1) := by decide +kernel
theorem dX8_count_17 : decode cX8_count 17 = .ok (.ifnonnull 7, 3) := by decide +kernel
theorem dX8_count_20 : decode cX8_count 20 = .ok (.iconst (-1), 1) := by decide +kernel
theorem dX8_count_21 : decode cX8_count 21 = .ok (.goto 8, 3) := by decide +kernel
theorem dX8_count_24 : decode cX8_count 24 = .ok (.aload_n 2, 1) := by decide +kernel
theorem dX8_count_25 : decode cX8_count 25 = .ok (.iload_n 1, 1) := by decide +kernel
theorem dX8_count_26 : decode cX8_count 26 = .ok (.invokevirtual 207, 3) := by decide +kernel
theorem dX8_count_29 : decode cX8_count 29 = .ok (.ireturn, 1) := by decide +kernel
theorem dX8_countAnew_0 : decode cX8_countAnew 0 = .ok (.iload_n 1, 1) := by decide +kernel
theorem dX8_countAnew_1 : decode cX8_countAnew 1 = .ok (.iconst 1, 1) := by decide +kernel
theorem dX8_countAnew_2 : decode cX8_countAnew 2 = .ok (.bipush 100, 2) := by decide +kernel
theorem dX8_countAnew_4 : decode cX8_countAnew 4 = .ok (.invokestatic 63, 3) := by decide +kernel
theorem dX8_countAnew_7 : decode cX8_countAnew 7 = .ok (.aload_n 0, 1) := by decide +kernel
theorem dX8_countAnew_8 : decode cX8_countAnew 8 = .ok (.invokevirtual 203, 3) := by decide +kernel
theorem dX8_countAnew_11 : decode cX8_countAnew 11 = .ok (.astore_n 2, 1) := by decide +kernel
theorem dX8_countAnew_12 : decode cX8_countAnew 12 = .ok (.aload_n 0, 1) := by decide +kernel
theorem dX8_countAnew_13 : decode cX8_countAnew 13 = .ok (.invokevirtual 83, 3) := by decide +kernel
theorem dX8_countAnew_16 : decode cX8_countAnew 16 = .ok (.aload_n 2, 1) := by decide +kernel
theorem dX8_countAnew_17 : decode cX8_countAnew 17 = .ok (.ifnonnull 7, 3) := by decide +kernel
theorem dX8_countAnew_20 : decode cX8_countAnew 20 = .ok (.iconst (-1), 1) := by decide +kernel
theorem dX8_countAnew_21 : decode cX8_countAnew 21 = .ok (.goto 8, 3) := by decide +kernel
theorem dX8_countAnew_24 : decode cX8_countAnew 24 = .ok (.aload_n 2, 1) := by decide +kernel
theorem dX8_countAnew_25 : decode cX8_countAnew 25 = .ok (.iload_n 1, 1) := by decide +kernel
theorem dX8_countAnew_26 : decode cX8_countAnew 26 = .ok (.invokevirtual 212, 3) := by decide +kernel
theorem dX8_countAnew_29 : decode cX8_countAnew 29 = .ok (.ireturn, 1) := by decide +kernel
theorem dX8_rows_0 : decode cX8_rows 0 = .ok (.iload_n 1, 1) := by decide +kernel
theorem dX8_rows_1 : decode cX8_rows 1 = .ok (.iconst 1, 1) := by decide +kernel
theorem dX8_rows_2 : decode cX8_rows 2 = .ok (.sipush 2000, 3) := by decide +kernel
theorem dX8_rows_5 : decode cX8_rows 5 = .ok (.invokestatic 63, 3) := by decide +kernel
theorem dX8_rows_8 : decode cX8_rows 8 = .ok (.aload_n 0, 1) := by decide +kernel
theorem dX8_rows_9 : decode cX8_rows 9 = .ok (.invokevirtual 203, 3) := by decide +kernel
theorem dX8_rows_12 : decode cX8_rows 12 = .ok (.astore_n 2, 1) := by decide +kernel
theorem dX8_rows_13 : decode cX8_rows 13 = .ok (.aload_n 0, 1) := by decide +kernel
theorem dX8_rows_14 : decode cX8_rows 14 = .ok (.invokevirtual 83, 3) := by decide +kernel
theorem dX8_rows_17 : decode cX8_rows 17 = .ok (.aload_n 2, 1) := by decide +kernel
theorem dX8_rows_18 : decode cX8_rows 18 = .ok (.ifnonnull 7, 3) := by decide +kernel
theorem dX8_rows_21 : decode cX8_rows 21 = .ok (.iconst (-1), 1) := by decide +kernel
theorem dX8_rows_22 : decode cX8_rows 22 = .ok (.goto 8, 3) := by decide +kernel
theorem dX8_rows_25 : decode cX8_rows 25 = .ok (.aload_n 2, 1) := by decide +kernel
theorem dX8_rows_26 : decode cX8_rows 26 = .ok (.iload_n 1, 1) := by decide +kernel
theorem dX8_rows_27 : decode cX8_rows 27 = .ok (.invokevirtual 215, 3) := by decide +kernel
theorem dX8_rows_30 : decode cX8_rows 30 = .ok (.ireturn, 1) := by decide +kernel
theorem dX8_measure_0 : decode cX8_measure 0 = .ok (.iload_n 1, 1) := by decide +kernel
theorem dX8_measure_1 : decode cX8_measure 1 = .ok (.bipush 8, 2) := by decide +kernel
theorem dX8_measure_3 : decode cX8_measure 3 = .ok (.invokestatic 183, 3) := by decide +kernel
theorem dX8_measure_6 : decode cX8_measure 6 = .ok (.iload_n 2, 1) := by decide +kernel
theorem dX8_measure_7 : decode cX8_measure 7 = .ok (.iconst 0, 1) := by decide +kernel
theorem dX8_measure_8 : decode cX8_measure 8 = .ok (.sipush 200, 3) := by decide +kernel
theorem dX8_measure_11 : decode cX8_measure 11 = .ok (.invokestatic 63, 3) := by decide +kernel
theorem dX8_measure_14 : decode cX8_measure 14 = .ok (.aload_n 0, 1) := by decide +kernel
theorem dX8_measure_15 : decode cX8_measure 15 = .ok (.getfield 43, 3) := by decide +kernel
theorem dX8_measure_18 : decode cX8_measure 18 = .ok (.iload_n 1, 1) := by decide +kernel
theorem dX8_measure_19 : decode cX8_measure 19 = .ok (.iload_n 2, 1) := by decide +kernel
theorem dX8_measure_20 : decode cX8_measure 20 = .ok (.invokevirtual 218, 3) := by decide +kernel
theorem dX8_measure_23 : decode cX8_measure 23 = .ok (.aload_n 0, 1) := by decide +kernel
theorem dX8_measure_24 : decode cX8_measure 24 = .ok (.getfield 43, 3) := by decide +kernel
theorem dX8_measure_27 : decode cX8_measure 27 = .ok (.invokevirtual 221, 3) := by decide +kernel
theorem dX8_measure_30 : decode cX8_measure 30 = .ok (.ireturn, 1) := by decide +kernel
theorem dX8_fits_0 : decode cX8_fits 0 = .ok (.aload_n 0, 1) := by decide +kernel
theorem dX8_fits_1 : decode cX8_fits 1 = .ok (.iload_n 1, 1) := by decide +kernel
theorem dX8_fits_2 : decode cX8_fits 2 = .ok (.invokevirtual 111, 3) := by decide +kernel
theorem dX8_fits_5 : decode cX8_fits 5 = .ok (.iconst 0, 1) := by decide +kernel
theorem dX8_fits_6 : decode cX8_fits 6 = .ok (.invokevirtual 146, 3) := by decide +kernel
theorem dX8_fits_9 : decode cX8_fits 9 = .ok (.aload_n 0, 1) := by decide +kernel
theorem dX8_fits_10 : decode cX8_fits 10 = .ok (.getfield 43, 3) := by decide +kernel
theorem dX8_fits_13 : decode cX8_fits 13 = .ok (.invokevirtual 221, 3) := by decide +kernel
theorem dX8_fits_16 : decode cX8_fits 16 = .ok (.isub, 1) := by decide +kernel
theorem dX8_fits_17 : decode cX8_fits 17 = .ok (.istore_n 2, 1) := by decide +kernel
theorem dX8_fits_18 : decode cX8_fits 18 = .ok (.iload_n 2, 1) := by decide +kernel
theorem dX8_fits_19 : decode cX8_fits 19 = .ok (.ifCond .lt 13, 3) := by decide +kernel
theorem dX8_fits_22 : decode cX8_fits 22 = .ok (.iload_n 2, 1) := by decide +kernel
theorem dX8_fits_23 : decode cX8_fits 23 = .ok (.bipush 12, 2) := by decide +kernel
theorem dX8_fits_25 : decode cX8_fits 25 = .ok (.if_icmp .gt 7, 3) := by decide +kernel
theorem dX8_fits_28 : decode cX8_fits 28 = .ok (.iconst 1, 1) := by decide +kernel
theorem dX8_fits_29 : decode cX8_fits 29 = .ok (.goto 4, 3) := by decide +kernel
theorem dX8_fits_32 : decode cX8_fits 32 = .ok (.iconst 0, 1) := by decide +kernel
theorem dX8_fits_33 : decode cX8_fits 33 = .ok (.ireturn, 1) := by decide +kernel
theorem dX8_size_0 : decode cX8_size 0 = .ok (.iload_n 1, 1) := by decide +kernel
theorem dX8_size_1 : decode cX8_size 1 = .ok (.iconst 4, 1) := by decide +kernel
theorem dX8_size_2 : decode cX8_size 2 = .ok (.invokestatic 183, 3) := by decide +kernel
theorem dX8_size_5 : decode cX8_size 5 = .ok (.aload_n 0, 1) := by decide +kernel
theorem dX8_size_6 : decode cX8_size 6 = .ok (.getfield 43, 3) := by decide +kernel
theorem dX8_size_9 : decode cX8_size 9 = .ok (.iload_n 1, 1) := by decide +kernel
theorem dX8_size_10 : decode cX8_size 10 = .ok (.invokevirtual 224, 3) := by decide +kernel
theorem dX8_size_13 : decode cX8_size 13 = .ok (.invokestatic 199, 3) := by decide +kernel
theorem dX8_size_16 : decode cX8_size 16 = .ok (.ireturn, 1) := by decide +kernel
theorem dX8_air_0 : decode cX8_air 0 = .ok (.aload_n 0, 1) := by decide +kernel
theorem dX8_air_1 : decode cX8_air 1 = .ok (.iload_n 1, 1) := by decide +kernel
theorem dX8_air_2 : decode cX8_air 2 = .ok (.invokevirtual 115, 3) := by decide +kernel
theorem dX8_air_5 : decode cX8_air 5 = .ok (.astore_n 3, 1) := by decide +kernel
theorem dX8_air_6 : decode cX8_air 6 = .ok (.iload_n 2, 1) := by decide +kernel
theorem dX8_air_7 : decode cX8_air 7 = .ok (.ifCond .eq 10, 3) := by decide +kernel
theorem dX8_air_10 : decode cX8_air 10 = .ok (.aload_n 3, 1) := by decide +kernel
theorem dX8_air_11 : decode cX8_air 11 = .ok (.getfield 119, 3) := by decide +kernel
theorem dX8_air_14 : decode cX8_air 14 = .ok (.goto 7, 3) := by decide +kernel
theorem dX8_air_17 : decode cX8_air 17 = .ok (.aload_n 3, 1) := by decide +kernel
theorem dX8_air_18 : decode cX8_air 18 = .ok (.getfield 228, 3) := by decide +kernel
theorem dX8_air_21 : decode cX8_air 21 = .ok (.ireturn, 1) := by decide +kernel
theorem dX8_grams_0 : decode cX8_grams 0 = .ok (.aload_n 0, 1) := by decide +kernel
theorem dX8_grams_1 : decode cX8_grams 1 = .ok (.iload_n 1, 1) := by decide +kernel
theorem dX8_grams_2 : decode cX8_grams 2 = .ok (.invokevirtual 89, 3) := by decide +kernel
theorem dX8_grams_5 : decode cX8_grams 5 = .ok (.getfield 93, 3) := by decide +kernel
theorem dX8_grams_8 : decode cX8_grams 8 = .ok (.ireturn, 1) := by decide +kernel
theorem dX8_refuseOutside_0 : decode cX8_refuseOutside 0 = .ok (.iload_n 0, 1) := by decide +kernel
theorem dX8_refuseOutside_1 : decode cX8_refuseOutside 1 = .ok (.iload_n 1, 1) := by decide +kernel
theorem dX8_refuseOutside_2 : decode cX8_refuseOutside 2 = .ok (.if_icmp .lt 8, 3) := by decide +kernel
theorem dX8_refuseOutside_5 : decode cX8_refuseOutside 5 = .ok (.iload_n 0, 1) := by decide +kernel
theorem dX8_refuseOutside_6 : decode cX8_refuseOutside 6 = .ok (.iload_n 2, 1) := by decide +kernel
theorem dX8_refuseOutside_7 : decode cX8_refuseOutside 7 = .ok (.if_icmp .le 13, 3) := by decide +kernel
theorem dX8_refuseOutside_10 : decode cX8_refuseOutside 10 = .ok (.new 231, 3) := by decide +kernel
theorem dX8_refuseOutside_13 : decode cX8_refuseOutside 13 = .ok (.dup, 1) := by decide +kernel
theorem dX8_refuseOutside_14 : decode cX8_refuseOutside 14 = .ok (.ldc 233, 2) := by decide +kernel
theorem dX8_refuseOutside_16 : decode cX8_refuseOutside 16 = .ok (.invokespecial 235, 3) := by decide +kernel
theorem dX8_refuseOutside_19 : decode cX8_refuseOutside 19 = .ok (.athrow, 1) := by decide +kernel
theorem dX8_refuseOutside_20 : decode cX8_refuseOutside 20 = .ok (.return_, 1) := by decide +kernel
theorem dX8_refuseFull_0 : decode cX8_refuseFull 0 = .ok (.iload_n 0, 1) := by decide +kernel
theorem dX8_refuseFull_1 : decode cX8_refuseFull 1 = .ok (.iload_n 1, 1) := by decide +kernel
theorem dX8_refuseFull_2 : decode cX8_refuseFull 2 = .ok (.if_icmp .lt 13, 3) := by decide +kernel
theorem dX8_refuseFull_5 : decode cX8_refuseFull 5 = .ok (.new 96, 3) := by decide +kernel
theorem dX8_refuseFull_8 : decode cX8_refuseFull 8 = .ok (.dup, 1) := by decide +kernel
theorem dX8_refuseFull_9 : decode cX8_refuseFull 9 = .ok (.ldc 236, 2) := by decide +kernel
theorem dX8_refuseFull_11 : decode cX8_refuseFull 11 = .ok (.invokespecial 100, 3) := by decide +kernel
theorem dX8_refuseFull_14 : decode cX8_refuseFull 14 = .ok (.athrow, 1) := by decide +kernel
theorem dX8_refuseFull_15 : decode cX8_refuseFull 15 = .ok (.return_, 1) := by decide +kernel
theorem dX8_refuseNoSuch_0 : decode cX8_refuseNoSuch 0 = .ok (.iload_n 0, 1) := by decide +kernel
theorem dX8_refuseNoSuch_1 : decode cX8_refuseNoSuch 1 = .ok (.ifCond .lt 8, 3) := by decide +kernel
theorem dX8_refuseNoSuch_4 : decode cX8_refuseNoSuch 4 = .ok (.iload_n 0, 1) := by decide +kernel
theorem dX8_refuseNoSuch_5 : decode cX8_refuseNoSuch 5 = .ok (.iload_n 1, 1) := by decide +kernel
theorem dX8_refuseNoSuch_6 : decode cX8_refuseNoSuch 6 = .ok (.if_icmp .lt 13, 3) := by decide +kernel
theorem dX8_refuseNoSuch_9 : decode cX8_refuseNoSuch 9 = .ok (.new 238, 3) := by decide +kernel
theorem dX8_refuseNoSuch_12 : decode cX8_refuseNoSuch 12 = .ok (.dup, 1) := by decide +kernel
theorem dX8_refuseNoSuch_13 : decode cX8_refuseNoSuch 13 = .ok (.ldc 240, 2) := by decide +kernel
theorem dX8_refuseNoSuch_15 : decode cX8_refuseNoSuch 15 = .ok (.invokespecial 242, 3) := by decide +kernel
theorem dX8_refuseNoSuch_18 : decode cX8_refuseNoSuch 18 = .ok (.athrow, 1) := by decide +kernel
theorem dX8_refuseNoSuch_19 : decode cX8_refuseNoSuch 19 = .ok (.return_, 1) := by decide +kernel
theorem dX8_lotAt_0 : decode cX8_lotAt 0 = .ok (.iload_n 1, 1) := by decide +kernel
theorem dX8_lotAt_1 : decode cX8_lotAt 1 = .ok (.aload_n 0, 1) := by decide +kernel
theorem dX8_lotAt_2 : decode cX8_lotAt 2 = .ok (.getfield 18, 3) := by decide +kernel
theorem dX8_lotAt_5 : decode cX8_lotAt 5 = .ok (.arraylength, 1) := by decide +kernel
theorem dX8_lotAt_6 : decode cX8_lotAt 6 = .ok (.invokestatic 183, 3) := by decide +kernel
theorem dX8_lotAt_9 : decode cX8_lotAt 9 = .ok (.aload_n 0, 1) := by decide +kernel
theorem dX8_lotAt_10 : decode cX8_lotAt 10 = .ok (.getfield 18, 3) := by decide +kernel
theorem dX8_lotAt_13 : decode cX8_lotAt 13 = .ok (.iload_n 1, 1) := by decide +kernel
theorem dX8_lotAt_14 : decode cX8_lotAt 14 = .ok (.aaload, 1) := by decide +kernel
theorem dX8_lotAt_15 : decode cX8_lotAt 15 = .ok (.astore_n 2, 1) := by decide +kernel
theorem dX8_lotAt_16 : decode cX8_lotAt 16 = .ok (.aload_n 2, 1) := by decide +kernel
theorem dX8_lotAt_17 : decode cX8_lotAt 17 = .ok (.ifnonnull 13, 3) := by decide +kernel
theorem dX8_lotAt_20 : decode cX8_lotAt 20 = .ok (.new 238, 3) := by decide +kernel
theorem dX8_lotAt_23 : decode cX8_lotAt 23 = .ok (.dup, 1) := by decide +kernel
theorem dX8_lotAt_24 : decode cX8_lotAt 24 = .ok (.ldc 243, 2) := by decide +kernel
theorem dX8_lotAt_26 : decode cX8_lotAt 26 = .ok (.invokespecial 242, 3) := by decide +kernel
theorem dX8_lotAt_29 : decode cX8_lotAt 29 = .ok (.athrow, 1) := by decide +kernel
theorem dX8_lotAt_30 : decode cX8_lotAt 30 = .ok (.aload_n 2, 1) := by decide +kernel
theorem dX8_lotAt_31 : decode cX8_lotAt 31 = .ok (.areturn, 1) := by decide +kernel
theorem dX8_coneAt_0 : decode cX8_coneAt 0 = .ok (.iload_n 1, 1) := by decide +kernel
theorem dX8_coneAt_1 : decode cX8_coneAt 1 = .ok (.aload_n 0, 1) := by decide +kernel
theorem dX8_coneAt_2 : decode cX8_coneAt 2 = .ok (.getfield 24, 3) := by decide +kernel
theorem dX8_coneAt_5 : decode cX8_coneAt 5 = .ok (.arraylength, 1) := by decide +kernel
theorem dX8_coneAt_6 : decode cX8_coneAt 6 = .ok (.invokestatic 183, 3) := by decide +kernel
theorem dX8_coneAt_9 : decode cX8_coneAt 9 = .ok (.aload_n 0, 1) := by decide +kernel
theorem dX8_coneAt_10 : decode cX8_coneAt 10 = .ok (.getfield 24, 3) := by decide +kernel
theorem dX8_coneAt_13 : decode cX8_coneAt 13 = .ok (.iload_n 1, 1) := by decide +kernel
theorem dX8_coneAt_14 : decode cX8_coneAt 14 = .ok (.aaload, 1) := by decide +kernel
theorem dX8_coneAt_15 : decode cX8_coneAt 15 = .ok (.astore_n 2, 1) := by decide +kernel
theorem dX8_coneAt_16 : decode cX8_coneAt 16 = .ok (.aload_n 2, 1) := by decide +kernel
theorem dX8_coneAt_17 : decode cX8_coneAt 17 = .ok (.ifnonnull 13, 3) := by decide +kernel
theorem dX8_coneAt_20 : decode cX8_coneAt 20 = .ok (.new 238, 3) := by decide +kernel
theorem dX8_coneAt_23 : decode cX8_coneAt 23 = .ok (.dup, 1) := by decide +kernel
theorem dX8_coneAt_24 : decode cX8_coneAt 24 = .ok (.ldc 245, 2) := by decide +kernel
theorem dX8_coneAt_26 : decode cX8_coneAt 26 = .ok (.invokespecial 242, 3) := by decide +kernel
theorem dX8_coneAt_29 : decode cX8_coneAt 29 = .ok (.athrow, 1) := by decide +kernel
theorem dX8_coneAt_30 : decode cX8_coneAt 30 = .ok (.aload_n 2, 1) := by decide +kernel
theorem dX8_coneAt_31 : decode cX8_coneAt 31 = .ok (.areturn, 1) := by decide +kernel
theorem dX8_handAt_0 : decode cX8_handAt 0 = .ok (.iload_n 1, 1) := by decide +kernel
theorem dX8_handAt_1 : decode cX8_handAt 1 = .ok (.aload_n 0, 1) := by decide +kernel
theorem dX8_handAt_2 : decode cX8_handAt 2 = .ok (.getfield 30, 3) := by decide +kernel
theorem dX8_handAt_5 : decode cX8_handAt 5 = .ok (.arraylength, 1) := by decide +kernel
theorem dX8_handAt_6 : decode cX8_handAt 6 = .ok (.invokestatic 183, 3) := by decide +kernel
theorem dX8_handAt_9 : decode cX8_handAt 9 = .ok (.aload_n 0, 1) := by decide +kernel
theorem dX8_handAt_10 : decode cX8_handAt 10 = .ok (.getfield 30, 3) := by decide +kernel
theorem dX8_handAt_13 : decode cX8_handAt 13 = .ok (.iload_n 1, 1) := by decide +kernel
theorem dX8_handAt_14 : decode cX8_handAt 14 = .ok (.aaload, 1) := by decide +kernel
theorem dX8_handAt_15 : decode cX8_handAt 15 = .ok (.astore_n 2, 1) := by decide +kernel
theorem dX8_handAt_16 : decode cX8_handAt 16 = .ok (.aload_n 2, 1) := by decide +kernel
theorem dX8_handAt_17 : decode cX8_handAt 17 = .ok (.ifnonnull 13, 3) := by decide +kernel
theorem dX8_handAt_20 : decode cX8_handAt 20 = .ok (.new 238, 3) := by decide +kernel
theorem dX8_handAt_23 : decode cX8_handAt 23 = .ok (.dup, 1) := by decide +kernel
theorem dX8_handAt_24 : decode cX8_handAt 24 = .ok (.ldc 247, 2) := by decide +kernel
theorem dX8_handAt_26 : decode cX8_handAt 26 = .ok (.invokespecial 242, 3) := by decide +kernel
theorem dX8_handAt_29 : decode cX8_handAt 29 = .ok (.athrow, 1) := by decide +kernel
theorem dX8_handAt_30 : decode cX8_handAt 30 = .ok (.aload_n 2, 1) := by decide +kernel
theorem dX8_handAt_31 : decode cX8_handAt 31 = .ok (.areturn, 1) := by decide +kernel
theorem dX8_blockAt_0 : decode cX8_blockAt 0 = .ok (.iload_n 1, 1) := by decide +kernel
theorem dX8_blockAt_1 : decode cX8_blockAt 1 = .ok (.aload_n 0, 1) := by decide +kernel
theorem dX8_blockAt_2 : decode cX8_blockAt 2 = .ok (.getfield 36, 3) := by decide +kernel
theorem dX8_blockAt_5 : decode cX8_blockAt 5 = .ok (.arraylength, 1) := by decide +kernel
theorem dX8_blockAt_6 : decode cX8_blockAt 6 = .ok (.invokestatic 183, 3) := by decide +kernel
theorem dX8_blockAt_9 : decode cX8_blockAt 9 = .ok (.aload_n 0, 1) := by decide +kernel
theorem dX8_blockAt_10 : decode cX8_blockAt 10 = .ok (.getfield 36, 3) := by decide +kernel
theorem dX8_blockAt_13 : decode cX8_blockAt 13 = .ok (.iload_n 1, 1) := by decide +kernel
theorem dX8_blockAt_14 : decode cX8_blockAt 14 = .ok (.aaload, 1) := by decide +kernel
theorem dX8_blockAt_15 : decode cX8_blockAt 15 = .ok (.astore_n 2, 1) := by decide +kernel
theorem dX8_blockAt_16 : decode cX8_blockAt 16 = .ok (.aload_n 2, 1) := by decide +kernel
theorem dX8_blockAt_17 : decode cX8_blockAt 17 = .ok (.ifnonnull 13, 3) := by decide +kernel
theorem dX8_blockAt_20 : decode cX8_blockAt 20 = .ok (.new 238, 3) := by decide +kernel
theorem dX8_blockAt_23 : decode cX8_blockAt 23 = .ok (.dup, 1) := by decide +kernel
theorem dX8_blockAt_24 : decode cX8_blockAt 24 = .ok (.ldc 249, 2) := by decide +kernel
theorem dX8_blockAt_26 : decode cX8_blockAt 26 = .ok (.invokespecial 242, 3) := by decide +kernel
theorem dX8_blockAt_29 : decode cX8_blockAt 29 = .ok (.athrow, 1) := by decide +kernel
theorem dX8_blockAt_30 : decode cX8_blockAt 30 = .ok (.aload_n 2, 1) := by decide +kernel
theorem dX8_blockAt_31 : decode cX8_blockAt 31 = .ok (.areturn, 1) := by decide +kernel
theorem dX8_typedFur_0 : decode cX8_typedFur 0 = .ok (.getstatic 251, 3) := by decide +kernel
theorem dX8_typedFur_3 : decode cX8_typedFur 3 = .ok (.astore_n 1, 1) := by decide +kernel
theorem dX8_typedFur_4 : decode cX8_typedFur 4 = .ok (.aload_n 1, 1) := by decide +kernel
theorem dX8_typedFur_5 : decode cX8_typedFur 5 = .ok (.arraylength, 1) := by decide +kernel
theorem dX8_typedFur_6 : decode cX8_typedFur 6 = .ok (.istore_n 2, 1) := by decide +kernel
theorem dX8_typedFur_7 : decode cX8_typedFur 7 = .ok (.iconst 0, 1) := by decide +kernel
theorem dX8_typedFur_8 : decode cX8_typedFur 8 = .ok (.istore_n 3, 1) := by decide +kernel
theorem dX8_typedFur_9 : decode cX8_typedFur 9 = .ok (.iload_n 3, 1) := by decide +kernel
theorem dX8_typedFur_10 : decode cX8_typedFur 10 = .ok (.iload_n 2, 1) := by decide +kernel
theorem dX8_typedFur_11 : decode cX8_typedFur 11 = .ok (.if_icmp .ge 29, 3) := by decide +kernel
theorem dX8_typedFur_14 : decode cX8_typedFur 14 = .ok (.aload_n 1, 1) := by decide +kernel
theorem dX8_typedFur_15 : decode cX8_typedFur 15 = .ok (.iload_n 3, 1) := by decide +kernel
theorem dX8_typedFur_16 : decode cX8_typedFur 16 = .ok (.aaload, 1) := by decide +kernel
theorem dX8_typedFur_17 : decode cX8_typedFur 17 = .ok (.astore 4, 2) := by decide +kernel
theorem dX8_typedFur_19 : decode cX8_typedFur 19 = .ok (.aload_n 0, 1) := by decide +kernel
theorem dX8_typedFur_20 : decode cX8_typedFur 20 = .ok (.aload 4, 2) := by decide +kernel
theorem dX8_typedFur_22 : decode cX8_typedFur 22 = .ok (.getfield 255, 3) := by decide +kernel
theorem dX8_typedFur_25 : decode cX8_typedFur 25 = .ok (.invokevirtual 259, 3) := by decide +kernel
theorem dX8_typedFur_28 : decode cX8_typedFur 28 = .ok (.ifCond .eq 6, 3) := by decide +kernel
theorem dX8_typedFur_31 : decode cX8_typedFur 31 = .ok (.aload 4, 2) := by decide +kernel
theorem dX8_typedFur_33 : decode cX8_typedFur 33 = .ok (.areturn, 1) := by decide +kernel
theorem dX8_typedFur_34 : decode cX8_typedFur 34 = .ok (.iinc 3 1, 3) := by decide +kernel
theorem dX8_typedFur_37 : decode cX8_typedFur 37 = .ok (.goto (-28), 3) := by decide +kernel
theorem dX8_typedFur_40 : decode cX8_typedFur 40 = .ok (.aconst_null, 1) := by decide +kernel
theorem dX8_typedFur_41 : decode cX8_typedFur 41 = .ok (.areturn, 1) := by decide +kernel
theorem dX8_typedFeather_0 : decode cX8_typedFeather 0 = .ok (.getstatic 263, 3) := by decide +kernel
theorem dX8_typedFeather_3 : decode cX8_typedFeather 3 = .ok (.astore_n 1, 1) := by decide +kernel
theorem dX8_typedFeather_4 : decode cX8_typedFeather 4 = .ok (.aload_n 1, 1) := by decide +kernel
theorem dX8_typedFeather_5 : decode cX8_typedFeather 5 = .ok (.arraylength, 1) := by decide +kernel
theorem dX8_typedFeather_6 : decode cX8_typedFeather 6 = .ok (.istore_n 2, 1) := by decide +kernel
theorem dX8_typedFeather_7 : decode cX8_typedFeather 7 = .ok (.iconst 0, 1) := by decide +kernel
theorem dX8_typedFeather_8 : decode cX8_typedFeather 8 = .ok (.istore_n 3, 1) := by decide +kernel
theorem dX8_typedFeather_9 : decode cX8_typedFeather 9 = .ok (.iload_n 3, 1) := by decide +kernel
theorem dX8_typedFeather_10 : decode cX8_typedFeather 10 = .ok (.iload_n 2, 1) := by decide +kernel
theorem dX8_typedFeather_11 : decode cX8_typedFeather 11 = .ok (.if_icmp .ge 29, 3) := by decide +kernel
theorem dX8_typedFeather_14 : decode cX8_typedFeather 14 = .ok (.aload_n 1, 1) := by decide +kernel
theorem dX8_typedFeather_15 : decode cX8_typedFeather 15 = .ok (.iload_n 3, 1) := by decide +kernel
theorem dX8_typedFeather_16 : decode cX8_typedFeather 16 = .ok (.aaload, 1) := by decide +kernel
theorem dX8_typedFeather_17 : decode cX8_typedFeather 17 = .ok (.astore 4, 2) := by decide +kernel
theorem dX8_typedFeather_19 : decode cX8_typedFeather 19 = .ok (.aload_n 0, 1) := by decide +kernel
theorem dX8_typedFeather_20 : decode cX8_typedFeather 20 = .ok (.aload 4, 2) := by decide +kernel
theorem dX8_typedFeather_22 : decode cX8_typedFeather 22 = .ok (.getfield 267, 3) := by decide +kernel
theorem dX8_typedFeather_25 : decode cX8_typedFeather 25 = .ok (.invokevirtual 259, 3) := by decide +kernel
theorem dX8_typedFeather_28 : decode cX8_typedFeather 28 = .ok (.ifCond .eq 6, 3) := by decide +kernel
theorem dX8_typedFeather_31 : decode cX8_typedFeather 31 = .ok (.aload 4, 2) := by decide +kernel
theorem dX8_typedFeather_33 : decode cX8_typedFeather 33 = .ok (.areturn, 1) := by decide +kernel
theorem dX8_typedFeather_34 : decode cX8_typedFeather 34 = .ok (.iinc 3 1, 3) := by decide +kernel
theorem dX8_typedFeather_37 : decode cX8_typedFeather 37 = .ok (.goto (-28), 3) := by decide +kernel
theorem dX8_typedFeather_40 : decode cX8_typedFeather 40 = .ok (.aconst_null, 1) := by decide +kernel
theorem dX8_typedFeather_41 : decode cX8_typedFeather 41 = .ok (.areturn, 1) := by decide +kernel
theorem dX8_typedSpiral_0 : decode cX8_typedSpiral 0 = .ok (.getstatic 268, 3) := by decide +kernel
theorem dX8_typedSpiral_3 : decode cX8_typedSpiral 3 = .ok (.astore_n 1, 1) := by decide +kernel
theorem dX8_typedSpiral_4 : decode cX8_typedSpiral 4 = .ok (.aload_n 1, 1) := by decide +kernel
theorem dX8_typedSpiral_5 : decode cX8_typedSpiral 5 = .ok (.arraylength, 1) := by decide +kernel
theorem dX8_typedSpiral_6 : decode cX8_typedSpiral 6 = .ok (.istore_n 2, 1) := by decide +kernel
theorem dX8_typedSpiral_7 : decode cX8_typedSpiral 7 = .ok (.iconst 0, 1) := by decide +kernel
theorem dX8_typedSpiral_8 : decode cX8_typedSpiral 8 = .ok (.istore_n 3, 1) := by decide +kernel
theorem dX8_typedSpiral_9 : decode cX8_typedSpiral 9 = .ok (.iload_n 3, 1) := by decide +kernel
theorem dX8_typedSpiral_10 : decode cX8_typedSpiral 10 = .ok (.iload_n 2, 1) := by decide +kernel
theorem dX8_typedSpiral_11 : decode cX8_typedSpiral 11 = .ok (.if_icmp .ge 29, 3) := by decide +kernel
theorem dX8_typedSpiral_14 : decode cX8_typedSpiral 14 = .ok (.aload_n 1, 1) := by decide +kernel
theorem dX8_typedSpiral_15 : decode cX8_typedSpiral 15 = .ok (.iload_n 3, 1) := by decide +kernel
theorem dX8_typedSpiral_16 : decode cX8_typedSpiral 16 = .ok (.aaload, 1) := by decide +kernel
theorem dX8_typedSpiral_17 : decode cX8_typedSpiral 17 = .ok (.astore 4, 2) := by decide +kernel
theorem dX8_typedSpiral_19 : decode cX8_typedSpiral 19 = .ok (.aload_n 0, 1) := by decide +kernel
theorem dX8_typedSpiral_20 : decode cX8_typedSpiral 20 = .ok (.aload 4, 2) := by decide +kernel
theorem dX8_typedSpiral_22 : decode cX8_typedSpiral 22 = .ok (.getfield 272, 3) := by decide +kernel
theorem dX8_typedSpiral_25 : decode cX8_typedSpiral 25 = .ok (.invokevirtual 259, 3) := by decide +kernel
theorem dX8_typedSpiral_28 : decode cX8_typedSpiral 28 = .ok (.ifCond .eq 6, 3) := by decide +kernel
theorem dX8_typedSpiral_31 : decode cX8_typedSpiral 31 = .ok (.aload 4, 2) := by decide +kernel
theorem dX8_typedSpiral_33 : decode cX8_typedSpiral 33 = .ok (.areturn, 1) := by decide +kernel
theorem dX8_typedSpiral_34 : decode cX8_typedSpiral 34 = .ok (.iinc 3 1, 3) := by decide +kernel
theorem dX8_typedSpiral_37 : decode cX8_typedSpiral 37 = .ok (.goto (-28), 3) := by decide +kernel
theorem dX8_typedSpiral_40 : decode cX8_typedSpiral 40 = .ok (.aconst_null, 1) := by decide +kernel
theorem dX8_typedSpiral_41 : decode cX8_typedSpiral 41 = .ok (.areturn, 1) := by decide +kernel
theorem dX8_isTyped_0 : decode cX8_isTyped 0 = .ok (.aload_n 0, 1) := by decide +kernel
theorem dX8_isTyped_1 : decode cX8_isTyped 1 = .ok (.getfield 10, 3) := by decide +kernel
theorem dX8_isTyped_4 : decode cX8_isTyped 4 = .ok (.invokevirtual 67, 3) := by decide +kernel
theorem dX8_isTyped_7 : decode cX8_isTyped 7 = .ok (.aload_n 1, 1) := by decide +kernel
theorem dX8_isTyped_8 : decode cX8_isTyped 8 = .ok (.invokevirtual 273, 3) := by decide +kernel
theorem dX8_isTyped_11 : decode cX8_isTyped 11 = .ok (.if_icmp .eq 5, 3) := by decide +kernel
theorem dX8_isTyped_14 : decode cX8_isTyped 14 = .ok (.iconst 0, 1) := by decide +kernel
theorem dX8_isTyped_15 : decode cX8_isTyped 15 = .ok (.ireturn, 1) := by decide +kernel
theorem dX8_isTyped_16 : decode cX8_isTyped 16 = .ok (.iconst 0, 1) := by decide +kernel
theorem dX8_isTyped_17 : decode cX8_isTyped 17 = .ok (.istore_n 2, 1) := by decide +kernel
theorem dX8_isTyped_18 : decode cX8_isTyped 18 = .ok (.iload_n 2, 1) := by decide +kernel
theorem dX8_isTyped_19 : decode cX8_isTyped 19 = .ok (.aload_n 1, 1) := by decide +kernel
theorem dX8_isTyped_20 : decode cX8_isTyped 20 = .ok (.invokevirtual 273, 3) := by decide +kernel
theorem dX8_isTyped_23 : decode cX8_isTyped 23 = .ok (.if_icmp .ge 27, 3) := by decide +kernel
theorem dX8_isTyped_26 : decode cX8_isTyped 26 = .ok (.aload_n 0, 1) := by decide +kernel
theorem dX8_isTyped_27 : decode cX8_isTyped 27 = .ok (.getfield 10, 3) := by decide +kernel
theorem dX8_isTyped_30 : decode cX8_isTyped 30 = .ok (.iload_n 2, 1) := by decide +kernel
theorem dX8_isTyped_31 : decode cX8_isTyped 31 = .ok (.invokevirtual 276, 3) := by decide +kernel
theorem dX8_isTyped_34 : decode cX8_isTyped 34 = .ok (.aload_n 1, 1) := by decide +kernel
theorem dX8_isTyped_35 : decode cX8_isTyped 35 = .ok (.iload_n 2, 1) := by decide +kernel
theorem dX8_isTyped_36 : decode cX8_isTyped 36 = .ok (.invokevirtual 280, 3) := by decide +kernel
theorem dX8_isTyped_39 : decode cX8_isTyped 39 = .ok (.if_icmp .eq 5, 3) := by decide +kernel
theorem dX8_isTyped_42 : decode cX8_isTyped 42 = .ok (.iconst 0, 1) := by decide +kernel
theorem dX8_isTyped_43 : decode cX8_isTyped 43 = .ok (.ireturn, 1) := by decide +kernel
theorem dX8_isTyped_44 : decode cX8_isTyped 44 = .ok (.iinc 2 1, 3) := by decide +kernel
theorem dX8_isTyped_47 : decode cX8_isTyped 47 = .ok (.goto (-29), 3) := by decide +kernel
theorem dX8_isTyped_50 : decode cX8_isTyped 50 = .ok (.iconst 1, 1) := by decide +kernel
theorem dX8_isTyped_51 : decode cX8_isTyped 51 = .ok (.ireturn, 1) := by decide +kernel
theorem dX8_clearTyped_0 : decode cX8_clearTyped 0 = .ok (.aload_n 0, 1) := by decide +kernel
theorem dX8_clearTyped_1 : decode cX8_clearTyped 1 = .ok (.getfield 10, 3) := by decide +kernel
theorem dX8_clearTyped_4 : decode cX8_clearTyped 4 = .ok (.iconst 0, 1) := by decide +kernel
theorem dX8_clearTyped_5 : decode cX8_clearTyped 5 = .ok (.invokevirtual 281, 3) := by decide +kernel
theorem dX8_clearTyped_8 : decode cX8_clearTyped 8 = .ok (.return_, 1) := by decide +kernel
theorem dX8_year_0 : decode cX8_year 0 = .ok (.aload_n 0, 1) := by decide +kernel
theorem dX8_year_1 : decode cX8_year 1 = .ok (.getfield 60, 3) := by decide +kernel
theorem dX8_year_4 : decode cX8_year 4 = .ok (.bipush 10, 2) := by decide +kernel
theorem dX8_year_6 : decode cX8_year 6 = .ok (.idiv, 1) := by decide +kernel
theorem dX8_year_7 : decode cX8_year 7 = .ok (.ireturn, 1) := by decide +kernel
theorem dX8_bitsOf_0 : decode cX8_bitsOf 0 = .ok (.fload_n 0, 1) := by decide +kernel
theorem dX8_bitsOf_1 : decode cX8_bitsOf 1 = .ok (.fconst 0, 1) := by decide +kernel
theorem dX8_bitsOf_2 : decode cX8_bitsOf 2 = .ok (.fcmp .l, 1) := by decide +kernel
theorem dX8_bitsOf_3 : decode cX8_bitsOf 3 = .ok (.ifCond .gt 5, 3) := by decide +kernel
theorem dX8_bitsOf_6 : decode cX8_bitsOf 6 = .ok (.iconst 0, 1) := by decide +kernel
theorem dX8_bitsOf_7 : decode cX8_bitsOf 7 = .ok (.ireturn, 1) := by decide +kernel
theorem dX8_bitsOf_8 : decode cX8_bitsOf 8 = .ok (.fload_n 0, 1) := by decide +kernel
theorem dX8_bitsOf_9 : decode cX8_bitsOf 9 = .ok (.fstore_n 1, 1) := by decide +kernel
theorem dX8_bitsOf_10 : decode cX8_bitsOf 10 = .ok (.iconst 0, 1) := by decide +kernel
theorem dX8_bitsOf_11 : decode cX8_bitsOf 11 = .ok (.istore_n 2, 1) := by decide +kernel
theorem dX8_bitsOf_12 : decode cX8_bitsOf 12 = .ok (.iconst 0, 1) := by decide +kernel
theorem dX8_bitsOf_13 : decode cX8_bitsOf 13 = .ok (.istore_n 3, 1) := by decide +kernel
theorem dX8_bitsOf_14 : decode cX8_bitsOf 14 = .ok (.iload_n 3, 1) := by decide +kernel
theorem dX8_bitsOf_15 : decode cX8_bitsOf 15 = .ok (.sipush 128, 3) := by decide +kernel
theorem dX8_bitsOf_18 : decode cX8_bitsOf 18 = .ok (.if_icmp .ge 22, 3) := by decide +kernel
theorem dX8_bitsOf_21 : decode cX8_bitsOf 21 = .ok (.fload_n 1, 1) := by decide +kernel
theorem dX8_bitsOf_22 : decode cX8_bitsOf 22 = .ok (.fconst 2, 1) := by decide +kernel
theorem dX8_bitsOf_23 : decode cX8_bitsOf 23 = .ok (.fcmp .l, 1) := by decide +kernel
theorem dX8_bitsOf_24 : decode cX8_bitsOf 24 = .ok (.ifCond .lt 16, 3) := by decide +kernel
theorem dX8_bitsOf_27 : decode cX8_bitsOf 27 = .ok (.fload_n 1, 1) := by decide +kernel
theorem dX8_bitsOf_28 : decode cX8_bitsOf 28 = .ok (.fconst 2, 1) := by decide +kernel
theorem dX8_bitsOf_29 : decode cX8_bitsOf 29 = .ok (.fdiv, 1) := by decide +kernel
theorem dX8_bitsOf_30 : decode cX8_bitsOf 30 = .ok (.fstore_n 1, 1) := by decide +kernel
theorem dX8_bitsOf_31 : decode cX8_bitsOf 31 = .ok (.iinc 2 1, 3) := by decide +kernel
theorem dX8_bitsOf_34 : decode cX8_bitsOf 34 = .ok (.iinc 3 1, 3) := by decide +kernel
theorem dX8_bitsOf_37 : decode cX8_bitsOf 37 = .ok (.goto (-23), 3) := by decide +kernel
theorem dX8_bitsOf_40 : decode cX8_bitsOf 40 = .ok (.iconst 0, 1) := by decide +kernel
theorem dX8_bitsOf_41 : decode cX8_bitsOf 41 = .ok (.istore_n 3, 1) := by decide +kernel
theorem dX8_bitsOf_42 : decode cX8_bitsOf 42 = .ok (.iload_n 3, 1) := by decide +kernel
theorem dX8_bitsOf_43 : decode cX8_bitsOf 43 = .ok (.sipush 128, 3) := by decide +kernel
theorem dX8_bitsOf_46 : decode cX8_bitsOf 46 = .ok (.if_icmp .ge 22, 3) := by decide +kernel
theorem dX8_bitsOf_49 : decode cX8_bitsOf 49 = .ok (.fload_n 1, 1) := by decide +kernel
theorem dX8_bitsOf_50 : decode cX8_bitsOf 50 = .ok (.fconst 1, 1) := by decide +kernel
theorem dX8_bitsOf_51 : decode cX8_bitsOf 51 = .ok (.fcmp .g, 1) := by decide +kernel
theorem dX8_bitsOf_52 : decode cX8_bitsOf 52 = .ok (.ifCond .ge 16, 3) := by decide +kernel
theorem dX8_bitsOf_55 : decode cX8_bitsOf 55 = .ok (.fload_n 1, 1) := by decide +kernel
theorem dX8_bitsOf_56 : decode cX8_bitsOf 56 = .ok (.fconst 2, 1) := by decide +kernel
theorem dX8_bitsOf_57 : decode cX8_bitsOf 57 = .ok (.fmul, 1) := by decide +kernel
theorem dX8_bitsOf_58 : decode cX8_bitsOf 58 = .ok (.fstore_n 1, 1) := by decide +kernel
theorem dX8_bitsOf_59 : decode cX8_bitsOf 59 = .ok (.iinc 2 (-1), 3) := by decide +kernel
theorem dX8_bitsOf_62 : decode cX8_bitsOf 62 = .ok (.iinc 3 1, 3) := by decide +kernel
theorem dX8_bitsOf_65 : decode cX8_bitsOf 65 = .ok (.goto (-23), 3) := by decide +kernel
theorem dX8_bitsOf_68 : decode cX8_bitsOf 68 = .ok (.iload_n 2, 1) := by decide +kernel
theorem dX8_bitsOf_69 : decode cX8_bitsOf 69 = .ok (.bipush 127, 2) := by decide +kernel
theorem dX8_bitsOf_71 : decode cX8_bitsOf 71 = .ok (.iadd, 1) := by decide +kernel
theorem dX8_bitsOf_72 : decode cX8_bitsOf 72 = .ok (.bipush 23, 2) := by decide +kernel
theorem dX8_bitsOf_74 : decode cX8_bitsOf 74 = .ok (.ishl, 1) := by decide +kernel
theorem dX8_bitsOf_75 : decode cX8_bitsOf 75 = .ok (.fload_n 1, 1) := by decide +kernel
theorem dX8_bitsOf_76 : decode cX8_bitsOf 76 = .ok (.fconst 1, 1) := by decide +kernel
theorem dX8_bitsOf_77 : decode cX8_bitsOf 77 = .ok (.fsub, 1) := by decide +kernel
theorem dX8_bitsOf_78 : decode cX8_bitsOf 78 = .ok (.ldc_w 284, 3) := by decide +kernel
theorem dX8_bitsOf_81 : decode cX8_bitsOf 81 = .ok (.fmul, 1) := by decide +kernel
theorem dX8_bitsOf_82 : decode cX8_bitsOf 82 = .ok (.f2i, 1) := by decide +kernel
theorem dX8_bitsOf_83 : decode cX8_bitsOf 83 = .ok (.ior, 1) := by decide +kernel
theorem dX8_bitsOf_84 : decode cX8_bitsOf 84 = .ok (.ireturn, 1) := by decide +kernel
theorem dJ5_init_d00df_0 : decode cJ5_init_d00df 0 = .ok (.aload_n 0, 1) := by decide +kernel
theorem dJ5_init_d00df_1 : decode cJ5_init_d00df 1 = .ok (.invokespecial 3, 3) := by decide +kernel
theorem dJ5_init_d00df_4 : decode cJ5_init_d00df 4 = .ok (.getstatic 18, 3) := by decide +kernel
theorem dJ5_init_d00df_7 : decode cJ5_init_d00df 7 = .ok (.ifCond .eq 18, 3) := by decide +kernel
theorem dJ5_init_d00df_10 : decode cJ5_init_d00df 10 = .ok (.aload_n 0, 1) := by decide +kernel
theorem dJ5_init_d00df_11 : decode cJ5_init_d00df 11 = .ok (.iload_n 1, 1) := by decide +kernel
theorem dJ5_init_d00df_12 : decode cJ5_init_d00df 12 = .ok (.newarray .byte, 2) := by decide +kernel
theorem dJ5_init_d00df_14 : decode cJ5_init_d00df 14 = .ok (.putfield 15, 3) := by decide +kernel
theorem dJ5_init_d00df_17 : decode cJ5_init_d00df 17 = .ok (.aload_n 0, 1) := by decide +kernel
theorem dJ5_init_d00df_18 : decode cJ5_init_d00df 18 = .ok (.iconst 0, 1) := by decide +kernel
theorem dJ5_init_d00df_19 : decode cJ5_init_d00df 19 = .ok (.putfield 22, 3) := by decide +kernel
theorem dJ5_init_d00df_22 : decode cJ5_init_d00df 22 = .ok (.goto 16, 3) := by decide +kernel
theorem dJ5_init_d00df_25 : decode cJ5_init_d00df 25 = .ok (.aload_n 0, 1) := by decide +kernel
theorem dJ5_init_d00df_26 : decode cJ5_init_d00df 26 = .ok (.iload_n 1, 1) := by decide +kernel
theorem dJ5_init_d00df_27 : decode cJ5_init_d00df 27 = .ok (.invokestatic 26, 3) := by decide +kernel
theorem dJ5_init_d00df_30 : decode cJ5_init_d00df 30 = .ok (.putfield 15, 3) := by decide +kernel
theorem dJ5_init_d00df_33 : decode cJ5_init_d00df 33 = .ok (.aload_n 0, 1) := by decide +kernel
theorem dJ5_init_d00df_34 : decode cJ5_init_d00df 34 = .ok (.iconst 1, 1) := by decide +kernel
theorem dJ5_init_d00df_35 : decode cJ5_init_d00df 35 = .ok (.putfield 22, 3) := by decide +kernel
theorem dJ5_init_d00df_38 : decode cJ5_init_d00df 38 = .ok (.return_, 1) := by decide +kernel
theorem dJ5_length_8abf5_0 : decode cJ5_length_8abf5 0 = .ok (.aload_n 0, 1) := by decide +kernel
theorem dJ5_length_8abf5_1 : decode cJ5_length_8abf5 1 = .ok (.getfield 79, 3) := by decide +kernel
theorem dJ5_length_8abf5_4 : decode cJ5_length_8abf5 4 = .ok (.ireturn, 1) := by decide +kernel
theorem dJ5_ensureCapacityInternal_d00df_0 : decode cJ5_ensureCapacityInternal_d00df 0 = .ok (.aload_n 0, 1) := by decide +kernel
theorem dJ5_ensureCapacityInternal_d00df_1 : decode cJ5_ensureCapacityInternal_d00df 1 = .ok (.getfield 15, 3) := by decide +kernel
theorem dJ5_ensureCapacityInternal_d00df_4 : decode cJ5_ensureCapacityInternal_d00df 4 = .ok (.arraylength, 1) := by decide +kernel
theorem dJ5_ensureCapacityInternal_d00df_5 : decode cJ5_ensureCapacityInternal_d00df 5 = .ok (.aload_n 0, 1) := by decide +kernel
theorem dJ5_ensureCapacityInternal_d00df_6 : decode cJ5_ensureCapacityInternal_d00df 6 = .ok (.getfield 22, 3) := by decide +kernel
theorem dJ5_ensureCapacityInternal_d00df_9 : decode cJ5_ensureCapacityInternal_d00df 9 = .ok (.ishr, 1) := by decide +kernel
theorem dJ5_ensureCapacityInternal_d00df_10 : decode cJ5_ensureCapacityInternal_d00df 10 = .ok (.istore_n 2, 1) := by decide +kernel
theorem dJ5_ensureCapacityInternal_d00df_11 : decode cJ5_ensureCapacityInternal_d00df 11 = .ok (.iload_n 1, 1) := by decide +kernel
theorem dJ5_ensureCapacityInternal_d00df_12 : decode cJ5_ensureCapacityInternal_d00df 12 = .ok (.iload_n 2, 1) := by decide +kernel
theorem dJ5_ensureCapacityInternal_d00df_13 : decode cJ5_ensureCapacityInternal_d00df 13 = .ok (.isub, 1) := by decide +kernel
theorem dJ5_ensureCapacityInternal_d00df_14 : decode cJ5_ensureCapacityInternal_d00df 14 = .ok (.ifCond .le 24, 3) := by decide +kernel
theorem dJ5_ensureCapacityInternal_d00df_17 : decode cJ5_ensureCapacityInternal_d00df 17 = .ok (.aload_n 0, 1) := by decide +kernel
theorem dJ5_ensureCapacityInternal_d00df_18 : decode cJ5_ensureCapacityInternal_d00df 18 = .ok (.aload_n 0, 1) := by decide +kernel
theorem dJ5_ensureCapacityInternal_d00df_19 : decode cJ5_ensureCapacityInternal_d00df 19 = .ok (.getfield 15, 3) := by decide +kernel
theorem dJ5_ensureCapacityInternal_d00df_22 : decode cJ5_ensureCapacityInternal_d00df 22 = .ok (.aload_n 0, 1) := by decide +kernel
theorem dJ5_ensureCapacityInternal_d00df_23 : decode cJ5_ensureCapacityInternal_d00df 23 = .ok (.iload_n 1, 1) := by decide +kernel
theorem dJ5_ensureCapacityInternal_d00df_24 : decode cJ5_ensureCapacityInternal_d00df 24 = .ok (.invokevirtual 104, 3) := by decide +kernel
theorem dJ5_ensureCapacityInternal_d00df_27 : decode cJ5_ensureCapacityInternal_d00df 27 = .ok (.aload_n 0, 1) := by decide +kernel
theorem dJ5_ensureCapacityInternal_d00df_28 : decode cJ5_ensureCapacityInternal_d00df 28 = .ok (.getfield 22, 3) := by decide +kernel
theorem dJ5_ensureCapacityInternal_d00df_31 : decode cJ5_ensureCapacityInternal_d00df 31 = .ok (.ishl, 1) := by decide +kernel
theorem dJ5_ensureCapacityInternal_d00df_32 : decode cJ5_ensureCapacityInternal_d00df 32 = .ok (.invokestatic 108, 3) := by decide +kernel
theorem dJ5_ensureCapacityInternal_d00df_35 : decode cJ5_ensureCapacityInternal_d00df 35 = .ok (.putfield 15, 3) := by decide +kernel
theorem dJ5_ensureCapacityInternal_d00df_38 : decode cJ5_ensureCapacityInternal_d00df 38 = .ok (.return_, 1) := by decide +kernel
theorem dJ5_setLength_d00df_0 : decode cJ5_setLength_d00df 0 = .ok (.iload_n 1, 1) := by decide +kernel
theorem dJ5_setLength_d00df_1 : decode cJ5_setLength_d00df 1 = .ok (.ifCond .ge 12, 3) := by decide +kernel
theorem dJ5_setLength_d00df_4 : decode cJ5_setLength_d00df 4 = .ok (.new 129, 3) := by decide +kernel
theorem dJ5_setLength_d00df_7 : decode cJ5_setLength_d00df 7 = .ok (.dup, 1) := by decide +kernel
theorem dJ5_setLength_d00df_8 : decode cJ5_setLength_d00df 8 = .ok (.iload_n 1, 1) := by decide +kernel
theorem dJ5_setLength_d00df_9 : decode cJ5_setLength_d00df 9 = .ok (.invokespecial 131, 3) := by decide +kernel
theorem dJ5_setLength_d00df_12 : decode cJ5_setLength_d00df 12 = .ok (.athrow, 1) := by decide +kernel
theorem dJ5_setLength_d00df_13 : decode cJ5_setLength_d00df 13 = .ok (.aload_n 0, 1) := by decide +kernel
theorem dJ5_setLength_d00df_14 : decode cJ5_setLength_d00df 14 = .ok (.iload_n 1, 1) := by decide +kernel
theorem dJ5_setLength_d00df_15 : decode cJ5_setLength_d00df 15 = .ok (.invokevirtual 100, 3) := by decide +kernel
theorem dJ5_setLength_d00df_18 : decode cJ5_setLength_d00df 18 = .ok (.aload_n 0, 1) := by decide +kernel
theorem dJ5_setLength_d00df_19 : decode cJ5_setLength_d00df 19 = .ok (.getfield 79, 3) := by decide +kernel
theorem dJ5_setLength_d00df_22 : decode cJ5_setLength_d00df 22 = .ok (.iload_n 1, 1) := by decide +kernel
theorem dJ5_setLength_d00df_23 : decode cJ5_setLength_d00df 23 = .ok (.if_icmp .ge 40, 3) := by decide +kernel
theorem dJ5_setLength_d00df_26 : decode cJ5_setLength_d00df 26 = .ok (.aload_n 0, 1) := by decide +kernel
theorem dJ5_setLength_d00df_27 : decode cJ5_setLength_d00df 27 = .ok (.invokevirtual 83, 3) := by decide +kernel
theorem dJ5_setLength_d00df_30 : decode cJ5_setLength_d00df 30 = .ok (.ifCond .eq 18, 3) := by decide +kernel
theorem dJ5_setLength_d00df_33 : decode cJ5_setLength_d00df 33 = .ok (.aload_n 0, 1) := by decide +kernel
theorem dJ5_setLength_d00df_34 : decode cJ5_setLength_d00df 34 = .ok (.getfield 15, 3) := by decide +kernel
theorem dJ5_setLength_d00df_37 : decode cJ5_setLength_d00df 37 = .ok (.aload_n 0, 1) := by decide +kernel
theorem dJ5_setLength_d00df_38 : decode cJ5_setLength_d00df 38 = .ok (.getfield 79, 3) := by decide +kernel
theorem dJ5_setLength_d00df_41 : decode cJ5_setLength_d00df 41 = .ok (.iload_n 1, 1) := by decide +kernel
theorem dJ5_setLength_d00df_42 : decode cJ5_setLength_d00df 42 = .ok (.invokestatic 133, 3) := by decide +kernel
theorem dJ5_setLength_d00df_45 : decode cJ5_setLength_d00df 45 = .ok (.goto 31, 3) := by decide +kernel
theorem dJ5_setLength_d00df_48 : decode cJ5_setLength_d00df 48 = .ok (.aload_n 0, 1) := by decide +kernel
theorem dJ5_setLength_d00df_49 : decode cJ5_setLength_d00df 49 = .ok (.getfield 15, 3) := by decide +kernel
theorem dJ5_setLength_d00df_52 : decode cJ5_setLength_d00df 52 = .ok (.aload_n 0, 1) := by decide +kernel
theorem dJ5_setLength_d00df_53 : decode cJ5_setLength_d00df 53 = .ok (.getfield 79, 3) := by decide +kernel
theorem dJ5_setLength_d00df_56 : decode cJ5_setLength_d00df 56 = .ok (.iload_n 1, 1) := by decide +kernel
theorem dJ5_setLength_d00df_57 : decode cJ5_setLength_d00df 57 = .ok (.invokestatic 137, 3) := by decide +kernel
theorem dJ5_setLength_d00df_60 : decode cJ5_setLength_d00df 60 = .ok (.goto 16, 3) := by decide +kernel
theorem dJ5_setLength_d00df_63 : decode cJ5_setLength_d00df 63 = .ok (.aload_n 0, 1) := by decide +kernel
theorem dJ5_setLength_d00df_64 : decode cJ5_setLength_d00df 64 = .ok (.getfield 79, 3) := by decide +kernel
theorem dJ5_setLength_d00df_67 : decode cJ5_setLength_d00df 67 = .ok (.iload_n 1, 1) := by decide +kernel
theorem dJ5_setLength_d00df_68 : decode cJ5_setLength_d00df 68 = .ok (.if_icmp .le 8, 3) := by decide +kernel
theorem dJ5_setLength_d00df_71 : decode cJ5_setLength_d00df 71 = .ok (.aload_n 0, 1) := by decide +kernel
theorem dJ5_setLength_d00df_72 : decode cJ5_setLength_d00df 72 = .ok (.iconst 1, 1) := by decide +kernel
theorem dJ5_setLength_d00df_73 : decode cJ5_setLength_d00df 73 = .ok (.putfield 73, 3) := by decide +kernel
theorem dJ5_setLength_d00df_76 : decode cJ5_setLength_d00df 76 = .ok (.aload_n 0, 1) := by decide +kernel
theorem dJ5_setLength_d00df_77 : decode cJ5_setLength_d00df 77 = .ok (.iload_n 1, 1) := by decide +kernel
theorem dJ5_setLength_d00df_78 : decode cJ5_setLength_d00df 78 = .ok (.putfield 79, 3) := by decide +kernel
theorem dJ5_setLength_d00df_81 : decode cJ5_setLength_d00df 81 = .ok (.return_, 1) := by decide +kernel
theorem dJ5_charAt_5068e_0 : decode cJ5_charAt_5068e 0 = .ok (.aload_n 0, 1) := by decide +kernel
theorem dJ5_charAt_5068e_1 : decode cJ5_charAt_5068e 1 = .ok (.getfield 22, 3) := by decide +kernel
theorem dJ5_charAt_5068e_4 : decode cJ5_charAt_5068e 4 = .ok (.istore_n 2, 1) := by decide +kernel
theorem dJ5_charAt_5068e_5 : decode cJ5_charAt_5068e 5 = .ok (.aload_n 0, 1) := by decide +kernel
theorem dJ5_charAt_5068e_6 : decode cJ5_charAt_5068e 6 = .ok (.getfield 15, 3) := by decide +kernel
theorem dJ5_charAt_5068e_9 : decode cJ5_charAt_5068e 9 = .ok (.astore_n 3, 1) := by decide +kernel
theorem dJ5_charAt_5068e_10 : decode cJ5_charAt_5068e 10 = .ok (.aload_n 0, 1) := by decide +kernel
theorem dJ5_charAt_5068e_11 : decode cJ5_charAt_5068e 11 = .ok (.getfield 79, 3) := by decide +kernel
theorem dJ5_charAt_5068e_14 : decode cJ5_charAt_5068e 14 = .ok (.aload_n 3, 1) := by decide +kernel
theorem dJ5_charAt_5068e_15 : decode cJ5_charAt_5068e 15 = .ok (.arraylength, 1) := by decide +kernel
theorem dJ5_charAt_5068e_16 : decode cJ5_charAt_5068e 16 = .ok (.iload_n 2, 1) := by decide +kernel
theorem dJ5_charAt_5068e_17 : decode cJ5_charAt_5068e 17 = .ok (.ishr, 1) := by decide +kernel
theorem dJ5_charAt_5068e_18 : decode cJ5_charAt_5068e 18 = .ok (.invokestatic 138, 3) := by decide +kernel
theorem dJ5_charAt_5068e_21 : decode cJ5_charAt_5068e 21 = .ok (.istore 4, 2) := by decide +kernel
theorem dJ5_charAt_5068e_23 : decode cJ5_charAt_5068e 23 = .ok (.iload_n 1, 1) := by decide +kernel
theorem dJ5_charAt_5068e_24 : decode cJ5_charAt_5068e 24 = .ok (.iload 4, 2) := by decide +kernel
theorem dJ5_charAt_5068e_26 : decode cJ5_charAt_5068e 26 = .ok (.invokestatic 144, 3) := by decide +kernel
theorem dJ5_charAt_5068e_29 : decode cJ5_charAt_5068e 29 = .ok (.iload_n 2, 1) := by decide +kernel
theorem dJ5_charAt_5068e_30 : decode cJ5_charAt_5068e 30 = .ok (.ifCond .ne 12, 3) := by decide +kernel
theorem dJ5_charAt_5068e_33 : decode cJ5_charAt_5068e 33 = .ok (.aload_n 3, 1) := by decide +kernel
theorem dJ5_charAt_5068e_34 : decode cJ5_charAt_5068e 34 = .ok (.iload_n 1, 1) := by decide +kernel
theorem dJ5_charAt_5068e_35 : decode cJ5_charAt_5068e 35 = .ok (.baload, 1) := by decide +kernel
theorem dJ5_charAt_5068e_36 : decode cJ5_charAt_5068e 36 = .ok (.sipush 255, 3) := by decide +kernel
theorem dJ5_charAt_5068e_39 : decode cJ5_charAt_5068e 39 = .ok (.iand, 1) := by decide +kernel
theorem dJ5_charAt_5068e_40 : decode cJ5_charAt_5068e 40 = .ok (.i2c, 1) := by decide +kernel
theorem dJ5_charAt_5068e_41 : decode cJ5_charAt_5068e 41 = .ok (.ireturn, 1) := by decide +kernel
theorem dJ5_charAt_5068e_42 : decode cJ5_charAt_5068e 42 = .ok (.aload_n 3, 1) := by decide +kernel
theorem dJ5_charAt_5068e_43 : decode cJ5_charAt_5068e 43 = .ok (.iload_n 1, 1) := by decide +kernel
theorem dJ5_charAt_5068e_44 : decode cJ5_charAt_5068e 44 = .ok (.invokestatic 148, 3) := by decide +kernel
theorem dJ5_charAt_5068e_47 : decode cJ5_charAt_5068e 47 = .ok (.ireturn, 1) := by decide +kernel
theorem dJ5_append_3fe6f_0 : decode cJ5_append_3fe6f 0 = .ok (.aload_n 0, 1) := by decide +kernel
theorem dJ5_append_3fe6f_1 : decode cJ5_append_3fe6f 1 = .ok (.aload_n 0, 1) := by decide +kernel
theorem dJ5_append_3fe6f_2 : decode cJ5_append_3fe6f 2 = .ok (.getfield 79, 3) := by decide +kernel
theorem dJ5_append_3fe6f_5 : decode cJ5_append_3fe6f 5 = .ok (.iconst 1, 1) := by decide +kernel
theorem dJ5_append_3fe6f_6 : decode cJ5_append_3fe6f 6 = .ok (.iadd, 1) := by decide +kernel
theorem dJ5_append_3fe6f_7 : decode cJ5_append_3fe6f 7 = .ok (.invokevirtual 100, 3) := by decide +kernel
theorem dJ5_append_3fe6f_10 : decode cJ5_append_3fe6f 10 = .ok (.aload_n 0, 1) := by decide +kernel
theorem dJ5_append_3fe6f_11 : decode cJ5_append_3fe6f 11 = .ok (.invokevirtual 83, 3) := by decide +kernel
theorem dJ5_append_3fe6f_14 : decode cJ5_append_3fe6f 14 = .ok (.ifCond .eq 31, 3) := by decide +kernel
theorem dJ5_append_3fe6f_17 : decode cJ5_append_3fe6f 17 = .ok (.iload_n 1, 1) := by decide +kernel
theorem dJ5_append_3fe6f_18 : decode cJ5_append_3fe6f 18 = .ok (.invokestatic 191, 3) := by decide +kernel
theorem dJ5_append_3fe6f_21 : decode cJ5_append_3fe6f 21 = .ok (.ifCond .eq 24, 3) := by decide +kernel
theorem dJ5_append_3fe6f_24 : decode cJ5_append_3fe6f 24 = .ok (.aload_n 0, 1) := by decide +kernel
theorem dJ5_append_3fe6f_25 : decode cJ5_append_3fe6f 25 = .ok (.getfield 15, 3) := by decide +kernel
theorem dJ5_append_3fe6f_28 : decode cJ5_append_3fe6f 28 = .ok (.aload_n 0, 1) := by decide +kernel
theorem dJ5_append_3fe6f_29 : decode cJ5_append_3fe6f 29 = .ok (.dup, 1) := by decide +kernel
theorem dJ5_append_3fe6f_30 : decode cJ5_append_3fe6f 30 = .ok (.getfield 79, 3) := by decide +kernel
theorem dJ5_append_3fe6f_33 : decode cJ5_append_3fe6f 33 = .ok (.dup_x1, 1) := by decide +kernel
theorem dJ5_append_3fe6f_34 : decode cJ5_append_3fe6f 34 = .ok (.iconst 1, 1) := by decide +kernel
theorem dJ5_append_3fe6f_35 : decode cJ5_append_3fe6f 35 = .ok (.iadd, 1) := by decide +kernel
theorem dJ5_append_3fe6f_36 : decode cJ5_append_3fe6f 36 = .ok (.putfield 79, 3) := by decide +kernel
theorem dJ5_append_3fe6f_39 : decode cJ5_append_3fe6f 39 = .ok (.iload_n 1, 1) := by decide +kernel
theorem dJ5_append_3fe6f_40 : decode cJ5_append_3fe6f 40 = .ok (.i2b, 1) := by decide +kernel
theorem dJ5_append_3fe6f_41 : decode cJ5_append_3fe6f 41 = .ok (.bastore, 1) := by decide +kernel
theorem dJ5_append_3fe6f_42 : decode cJ5_append_3fe6f 42 = .ok (.goto 33, 3) := by decide +kernel
theorem dJ5_append_3fe6f_45 : decode cJ5_append_3fe6f 45 = .ok (.aload_n 0, 1) := by decide +kernel
theorem dJ5_append_3fe6f_46 : decode cJ5_append_3fe6f 46 = .ok (.invokevirtual 83, 3) := by decide +kernel
theorem dJ5_append_3fe6f_49 : decode cJ5_append_3fe6f 49 = .ok (.ifCond .eq 7, 3) := by decide +kernel
theorem dJ5_append_3fe6f_52 : decode cJ5_append_3fe6f 52 = .ok (.aload_n 0, 1) := by decide +kernel
theorem dJ5_append_3fe6f_53 : decode cJ5_append_3fe6f 53 = .ok (.invokevirtual 195, 3) := by decide +kernel
theorem dJ5_append_3fe6f_56 : decode cJ5_append_3fe6f 56 = .ok (.aload_n 0, 1) := by decide +kernel
theorem dJ5_append_3fe6f_57 : decode cJ5_append_3fe6f 57 = .ok (.getfield 15, 3) := by decide +kernel
theorem dJ5_append_3fe6f_60 : decode cJ5_append_3fe6f 60 = .ok (.aload_n 0, 1) := by decide +kernel
theorem dJ5_append_3fe6f_61 : decode cJ5_append_3fe6f 61 = .ok (.dup, 1) := by decide +kernel
theorem dJ5_append_3fe6f_62 : decode cJ5_append_3fe6f 62 = .ok (.getfield 79, 3) := by decide +kernel
theorem dJ5_append_3fe6f_65 : decode cJ5_append_3fe6f 65 = .ok (.dup_x1, 1) := by decide +kernel
theorem dJ5_append_3fe6f_66 : decode cJ5_append_3fe6f 66 = .ok (.iconst 1, 1) := by decide +kernel
theorem dJ5_append_3fe6f_67 : decode cJ5_append_3fe6f 67 = .ok (.iadd, 1) := by decide +kernel
theorem dJ5_append_3fe6f_68 : decode cJ5_append_3fe6f 68 = .ok (.putfield 79, 3) := by decide +kernel
theorem dJ5_append_3fe6f_71 : decode cJ5_append_3fe6f 71 = .ok (.iload_n 1, 1) := by decide +kernel
theorem dJ5_append_3fe6f_72 : decode cJ5_append_3fe6f 72 = .ok (.invokestatic 197, 3) := by decide +kernel
theorem dJ5_append_3fe6f_75 : decode cJ5_append_3fe6f 75 = .ok (.aload_n 0, 1) := by decide +kernel
theorem dJ5_append_3fe6f_76 : decode cJ5_append_3fe6f 76 = .ok (.areturn, 1) := by decide +kernel
theorem dJ5_isLatin1_aae02_0 : decode cJ5_isLatin1_aae02 0 = .ok (.getstatic 18, 3) := by decide +kernel
theorem dJ5_isLatin1_aae02_3 : decode cJ5_isLatin1_aae02 3 = .ok (.ifCond .eq 14, 3) := by decide +kernel
theorem dJ5_isLatin1_aae02_6 : decode cJ5_isLatin1_aae02 6 = .ok (.aload_n 0, 1) := by decide +kernel
theorem dJ5_isLatin1_aae02_7 : decode cJ5_isLatin1_aae02 7 = .ok (.getfield 22, 3) := by decide +kernel
theorem dJ5_isLatin1_aae02_10 : decode cJ5_isLatin1_aae02 10 = .ok (.ifCond .ne 7, 3) := by decide +kernel
theorem dJ5_isLatin1_aae02_13 : decode cJ5_isLatin1_aae02 13 = .ok (.iconst 1, 1) := by decide +kernel
theorem dJ5_isLatin1_aae02_14 : decode cJ5_isLatin1_aae02 14 = .ok (.goto 4, 3) := by decide +kernel
theorem dJ5_isLatin1_aae02_17 : decode cJ5_isLatin1_aae02 17 = .ok (.iconst 0, 1) := by decide +kernel
theorem dJ5_isLatin1_aae02_18 : decode cJ5_isLatin1_aae02 18 = .ok (.ireturn, 1) := by decide +kernel
theorem dJxf58ca_isNaN_12338_0 : decode cJxf58ca_isNaN_12338 0 = .ok (.fload_n 0, 1) := by decide +kernel
theorem dJxf58ca_isNaN_12338_1 : decode cJxf58ca_isNaN_12338 1 = .ok (.fload_n 0, 1) := by decide +kernel
theorem dJxf58ca_isNaN_12338_2 : decode cJxf58ca_isNaN_12338 2 = .ok (.fcmp .l, 1) := by decide +kernel
theorem dJxf58ca_isNaN_12338_3 : decode cJxf58ca_isNaN_12338 3 = .ok (.ifCond .eq 7, 3) := by decide +kernel
theorem dJxf58ca_isNaN_12338_6 : decode cJxf58ca_isNaN_12338 6 = .ok (.iconst 1, 1) := by decide +kernel
theorem dJxf58ca_isNaN_12338_7 : decode cJxf58ca_isNaN_12338 7 = .ok (.goto 4, 3) := by decide +kernel
theorem dJxf58ca_isNaN_12338_10 : decode cJxf58ca_isNaN_12338 10 = .ok (.iconst 0, 1) := by decide +kernel
theorem dJxf58ca_isNaN_12338_11 : decode cJxf58ca_isNaN_12338 11 = .ok (.ireturn, 1) := by decide +kernel
theorem dJxf58ca_floatToIntBits_5c35a_0 : decode cJxf58ca_floatToIntBits_5c35a 0 = .ok (.fload_n 0, 1) := by decide +kernel
theorem dJxf58ca_floatToIntBits_5c35a_1 : decode cJxf58ca_floatToIntBits_5c35a 1 = .ok (.invokestatic 59, 3) := by decide +kernel
theorem dJxf58ca_floatToIntBits_5c35a_4 : decode cJxf58ca_floatToIntBits_5c35a 4 = .ok (.ifCond .ne 8, 3) := by decide +kernel
theorem dJxf58ca_floatToIntBits_5c35a_7 : decode cJxf58ca_floatToIntBits_5c35a 7 = .ok (.fload_n 0, 1) := by decide +kernel
theorem dJxf58ca_floatToIntBits_5c35a_8 : decode cJxf58ca_floatToIntBits_5c35a 8 = .ok (.invokestatic 74, 3) := by decide +kernel
theorem dJxf58ca_floatToIntBits_5c35a_11 : decode cJxf58ca_floatToIntBits_5c35a 11 = .ok (.ireturn, 1) := by decide +kernel
theorem dJxf58ca_floatToIntBits_5c35a_12 : decode cJxf58ca_floatToIntBits_5c35a 12 = .ok (.ldc 77, 2) := by decide +kernel
theorem dJxf58ca_floatToIntBits_5c35a_14 : decode cJxf58ca_floatToIntBits_5c35a 14 = .ok (.ireturn, 1) := by decide +kernel
theorem dJ9_max_7cf53_0 : decode cJ9_max_7cf53 0 = .ok (.iload_n 0, 1) := by decide +kernel
theorem dJ9_max_7cf53_1 : decode cJ9_max_7cf53 1 = .ok (.iload_n 1, 1) := by decide +kernel
theorem dJ9_max_7cf53_2 : decode cJ9_max_7cf53 2 = .ok (.if_icmp .lt 7, 3) := by decide +kernel
theorem dJ9_max_7cf53_5 : decode cJ9_max_7cf53 5 = .ok (.iload_n 0, 1) := by decide +kernel
theorem dJ9_max_7cf53_6 : decode cJ9_max_7cf53 6 = .ok (.goto 4, 3) := by decide +kernel
theorem dJ9_max_7cf53_9 : decode cJ9_max_7cf53 9 = .ok (.iload_n 1, 1) := by decide +kernel
theorem dJ9_max_7cf53_10 : decode cJ9_max_7cf53 10 = .ok (.ireturn, 1) := by decide +kernel
theorem dJ9_min_7cf53_0 : decode cJ9_min_7cf53 0 = .ok (.iload_n 0, 1) := by decide +kernel
theorem dJ9_min_7cf53_1 : decode cJ9_min_7cf53 1 = .ok (.iload_n 1, 1) := by decide +kernel
theorem dJ9_min_7cf53_2 : decode cJ9_min_7cf53 2 = .ok (.if_icmp .gt 7, 3) := by decide +kernel
theorem dJ9_min_7cf53_5 : decode cJ9_min_7cf53 5 = .ok (.iload_n 0, 1) := by decide +kernel
theorem dJ9_min_7cf53_6 : decode cJ9_min_7cf53 6 = .ok (.goto 4, 3) := by decide +kernel
theorem dJ9_min_7cf53_9 : decode cJ9_min_7cf53 9 = .ok (.iload_n 1, 1) := by decide +kernel
theorem dJ9_min_7cf53_10 : decode cJ9_min_7cf53 10 = .ok (.ireturn, 1) := by decide +kernel
theorem dJ0_length_8abf5_0 : decode cJ0_length_8abf5 0 = .ok (.aload_n 0, 1) := by decide +kernel
theorem dJ0_length_8abf5_1 : decode cJ0_length_8abf5 1 = .ok (.getfield 9, 3) := by decide +kernel
theorem dJ0_length_8abf5_4 : decode cJ0_length_8abf5 4 = .ok (.arraylength, 1) := by decide +kernel
theorem dJ0_length_8abf5_5 : decode cJ0_length_8abf5 5 = .ok (.aload_n 0, 1) := by decide +kernel
theorem dJ0_length_8abf5_6 : decode cJ0_length_8abf5 6 = .ok (.invokevirtual 335, 3) := by decide +kernel
theorem dJ0_length_8abf5_9 : decode cJ0_length_8abf5 9 = .ok (.ishr, 1) := by decide +kernel
theorem dJ0_length_8abf5_10 : decode cJ0_length_8abf5 10 = .ok (.ireturn, 1) := by decide +kernel
theorem dJ0_charAt_5068e_0 : decode cJ0_charAt_5068e 0 = .ok (.aload_n 0, 1) := by decide +kernel
theorem dJ0_charAt_5068e_1 : decode cJ0_charAt_5068e 1 = .ok (.invokevirtual 492, 3) := by decide +kernel
theorem dJ0_charAt_5068e_4 : decode cJ0_charAt_5068e 4 = .ok (.ifCond .eq 12, 3) := by decide +kernel
theorem dJ0_charAt_5068e_7 : decode cJ0_charAt_5068e 7 = .ok (.aload_n 0, 1) := by decide +kernel
theorem dJ0_charAt_5068e_8 : decode cJ0_charAt_5068e 8 = .ok (.getfield 9, 3) := by decide +kernel
theorem dJ0_charAt_5068e_11 : decode cJ0_charAt_5068e 11 = .ok (.iload_n 1, 1) := by decide +kernel
theorem dJ0_charAt_5068e_12 : decode cJ0_charAt_5068e 12 = .ok (.invokestatic 495, 3) := by decide +kernel
theorem dJ0_charAt_5068e_15 : decode cJ0_charAt_5068e 15 = .ok (.ireturn, 1) := by decide +kernel
theorem dJ0_charAt_5068e_16 : decode cJ0_charAt_5068e 16 = .ok (.aload_n 0, 1) := by decide +kernel
theorem dJ0_charAt_5068e_17 : decode cJ0_charAt_5068e 17 = .ok (.getfield 9, 3) := by decide +kernel
theorem dJ0_charAt_5068e_20 : decode cJ0_charAt_5068e 20 = .ok (.iload_n 1, 1) := by decide +kernel
theorem dJ0_charAt_5068e_21 : decode cJ0_charAt_5068e 21 = .ok (.invokestatic 498, 3) := by decide +kernel
theorem dJ0_charAt_5068e_24 : decode cJ0_charAt_5068e 24 = .ok (.ireturn, 1) := by decide +kernel
theorem dJ0_coder_7d493_0 : decode cJ0_coder_7d493 0 = .ok (.getstatic 38, 3) := by decide +kernel
theorem dJ0_coder_7d493_3 : decode cJ0_coder_7d493 3 = .ok (.ifCond .eq 10, 3) := by decide +kernel
theorem dJ0_coder_7d493_6 : decode cJ0_coder_7d493 6 = .ok (.aload_n 0, 1) := by decide +kernel
theorem dJ0_coder_7d493_7 : decode cJ0_coder_7d493 7 = .ok (.getfield 15, 3) := by decide +kernel
theorem dJ0_coder_7d493_10 : decode cJ0_coder_7d493 10 = .ok (.goto 4, 3) := by decide +kernel
theorem dJ0_coder_7d493_13 : decode cJ0_coder_7d493 13 = .ok (.iconst 1, 1) := by decide +kernel
theorem dJ0_coder_7d493_14 : decode cJ0_coder_7d493 14 = .ok (.ireturn, 1) := by decide +kernel
theorem dJ0_isLatin1_aae02_0 : decode cJ0_isLatin1_aae02 0 = .ok (.getstatic 38, 3) := by decide +kernel
theorem dJ0_isLatin1_aae02_3 : decode cJ0_isLatin1_aae02 3 = .ok (.ifCond .eq 14, 3) := by decide +kernel
theorem dJ0_isLatin1_aae02_6 : decode cJ0_isLatin1_aae02 6 = .ok (.aload_n 0, 1) := by decide +kernel
theorem dJ0_isLatin1_aae02_7 : decode cJ0_isLatin1_aae02 7 = .ok (.getfield 15, 3) := by decide +kernel
theorem dJ0_isLatin1_aae02_10 : decode cJ0_isLatin1_aae02 10 = .ok (.ifCond .ne 7, 3) := by decide +kernel
theorem dJ0_isLatin1_aae02_13 : decode cJ0_isLatin1_aae02 13 = .ok (.iconst 1, 1) := by decide +kernel
theorem dJ0_isLatin1_aae02_14 : decode cJ0_isLatin1_aae02 14 = .ok (.goto 4, 3) := by decide +kernel
theorem dJ0_isLatin1_aae02_17 : decode cJ0_isLatin1_aae02 17 = .ok (.iconst 0, 1) := by decide +kernel
theorem dJ0_isLatin1_aae02_18 : decode cJ0_isLatin1_aae02 18 = .ok (.ireturn, 1) := by decide +kernel
theorem dJ0_checkIndex_df160_0 : decode cJ0_checkIndex_df160 0 = .ok (.iload_n 0, 1) := by decide +kernel
theorem dJ0_checkIndex_df160_1 : decode cJ0_checkIndex_df160 1 = .ok (.iload_n 1, 1) := by decide +kernel
theorem dJ0_checkIndex_df160_2 : decode cJ0_checkIndex_df160 2 = .ok (.getstatic 1053, 3) := by decide +kernel
theorem dJ0_checkIndex_df160_5 : decode cJ0_checkIndex_df160 5 = .ok (.invokestatic 1059, 3) := by decide +kernel
theorem dJ0_checkIndex_df160_8 : decode cJ0_checkIndex_df160 8 = .ok (.pop, 1) := by decide +kernel
theorem dJ0_checkIndex_df160_9 : decode cJ0_checkIndex_df160 9 = .ok (.return_, 1) := by decide +kernel
theorem dJ4_init_da8c8_0 : decode cJ4_init_da8c8 0 = .ok (.aload_n 0, 1) := by decide +kernel
theorem dJ4_init_da8c8_1 : decode cJ4_init_da8c8 1 = .ok (.bipush 16, 2) := by decide +kernel
theorem dJ4_init_da8c8_3 : decode cJ4_init_da8c8 3 = .ok (.invokespecial 1, 3) := by decide +kernel
theorem dJ4_init_da8c8_6 : decode cJ4_init_da8c8 6 = .ok (.return_, 1) := by decide +kernel
theorem dJ4_append_cf468_0 : decode cJ4_append_cf468 0 = .ok (.aload_n 0, 1) := by decide +kernel
theorem dJ4_append_cf468_1 : decode cJ4_append_cf468 1 = .ok (.iload_n 1, 1) := by decide +kernel
theorem dJ4_append_cf468_2 : decode cJ4_append_cf468 2 = .ok (.invokespecial 50, 3) := by decide +kernel
theorem dJ4_append_cf468_5 : decode cJ4_append_cf468 5 = .ok (.pop, 1) := by decide +kernel
theorem dJ4_append_cf468_6 : decode cJ4_append_cf468 6 = .ok (.aload_n 0, 1) := by decide +kernel
theorem dJ4_append_cf468_7 : decode cJ4_append_cf468 7 = .ok (.areturn, 1) := by decide +kernel
theorem dJ4_charAt_5068e_0 : decode cJ4_charAt_5068e 0 = .ok (.aload_n 0, 1) := by decide +kernel
theorem dJ4_charAt_5068e_1 : decode cJ4_charAt_5068e 1 = .ok (.iload_n 1, 1) := by decide +kernel
theorem dJ4_charAt_5068e_2 : decode cJ4_charAt_5068e 2 = .ok (.invokespecial 329, 3) := by decide +kernel
theorem dJ4_charAt_5068e_5 : decode cJ4_charAt_5068e 5 = .ok (.ireturn, 1) := by decide +kernel
theorem dJ4_setLength_d00df_0 : decode cJ4_setLength_d00df 0 = .ok (.aload_n 0, 1) := by decide +kernel
theorem dJ4_setLength_d00df_1 : decode cJ4_setLength_d00df 1 = .ok (.iload_n 1, 1) := by decide +kernel
theorem dJ4_setLength_d00df_2 : decode cJ4_setLength_d00df 2 = .ok (.invokespecial 333, 3) := by decide +kernel
theorem dJ4_setLength_d00df_5 : decode cJ4_setLength_d00df 5 = .ok (.return_, 1) := by decide +kernel
theorem dJ4_length_8abf5_0 : decode cJ4_length_8abf5 0 = .ok (.aload_n 0, 1) := by decide +kernel
theorem dJ4_length_8abf5_1 : decode cJ4_length_8abf5 1 = .ok (.invokespecial 343, 3) := by decide +kernel
theorem dJ4_length_8abf5_4 : decode cJ4_length_8abf5 4 = .ok (.ireturn, 1) := by decide +kernel
theorem dJ1_charAt_3b067_0 : decode cJ1_charAt_3b067 0 = .ok (.iload_n 1, 1) := by decide +kernel
theorem dJ1_charAt_3b067_1 : decode cJ1_charAt_3b067 1 = .ok (.aload_n 0, 1) := by decide +kernel
theorem dJ1_charAt_3b067_2 : decode cJ1_charAt_3b067 2 = .ok (.arraylength, 1) := by decide +kernel
theorem dJ1_charAt_3b067_3 : decode cJ1_charAt_3b067 3 = .ok (.invokestatic 9, 3) := by decide +kernel
theorem dJ1_charAt_3b067_6 : decode cJ1_charAt_3b067 6 = .ok (.aload_n 0, 1) := by decide +kernel
theorem dJ1_charAt_3b067_7 : decode cJ1_charAt_3b067 7 = .ok (.iload_n 1, 1) := by decide +kernel
theorem dJ1_charAt_3b067_8 : decode cJ1_charAt_3b067 8 = .ok (.baload, 1) := by decide +kernel
theorem dJ1_charAt_3b067_9 : decode cJ1_charAt_3b067 9 = .ok (.sipush 255, 3) := by decide +kernel
theorem dJ1_charAt_3b067_12 : decode cJ1_charAt_3b067 12 = .ok (.iand, 1) := by decide +kernel
theorem dJ1_charAt_3b067_13 : decode cJ1_charAt_3b067 13 = .ok (.i2c, 1) := by decide +kernel
theorem dJ1_charAt_3b067_14 : decode cJ1_charAt_3b067 14 = .ok (.ireturn, 1) := by decide +kernel
theorem dJ1_canEncode_fc78d_0 : decode cJ1_canEncode_fc78d 0 = .ok (.iload_n 0, 1) := by decide +kernel
theorem dJ1_canEncode_fc78d_1 : decode cJ1_canEncode_fc78d 1 = .ok (.sipush 255, 3) := by decide +kernel
theorem dJ1_canEncode_fc78d_4 : decode cJ1_canEncode_fc78d 4 = .ok (.if_icmp .gt 7, 3) := by decide +kernel
theorem dJ1_canEncode_fc78d_7 : decode cJ1_canEncode_fc78d 7 = .ok (.iconst 1, 1) := by decide +kernel
theorem dJ1_canEncode_fc78d_8 : decode cJ1_canEncode_fc78d 8 = .ok (.goto 4, 3) := by decide +kernel
theorem dJ1_canEncode_fc78d_11 : decode cJ1_canEncode_fc78d 11 = .ok (.iconst 0, 1) := by decide +kernel
theorem dJ1_canEncode_fc78d_12 : decode cJ1_canEncode_fc78d 12 = .ok (.ireturn, 1) := by decide +kernel
theorem dJ3_checkIndex_8e157_0 : decode cJ3_checkIndex_8e157 0 = .ok (.iload_n 0, 1) := by decide +kernel
theorem dJ3_checkIndex_8e157_1 : decode cJ3_checkIndex_8e157 1 = .ok (.ifCond .lt 8, 3) := by decide +kernel
theorem dJ3_checkIndex_8e157_4 : decode cJ3_checkIndex_8e157 4 = .ok (.iload_n 0, 1) := by decide +kernel
theorem dJ3_checkIndex_8e157_5 : decode cJ3_checkIndex_8e157 5 = .ok (.iload_n 1, 1) := by decide +kernel
theorem dJ3_checkIndex_8e157_6 : decode cJ3_checkIndex_8e157 6 = .ok (.if_icmp .lt 10, 3) := by decide +kernel
theorem dJ3_checkIndex_8e157_9 : decode cJ3_checkIndex_8e157 9 = .ok (.aload_n 2, 1) := by decide +kernel
theorem dJ3_checkIndex_8e157_10 : decode cJ3_checkIndex_8e157 10 = .ok (.iload_n 0, 1) := by decide +kernel
theorem dJ3_checkIndex_8e157_11 : decode cJ3_checkIndex_8e157 11 = .ok (.iload_n 1, 1) := by decide +kernel
theorem dJ3_checkIndex_8e157_12 : decode cJ3_checkIndex_8e157 12 = .ok (.invokestatic 95, 3) := by decide +kernel
theorem dJ3_checkIndex_8e157_15 : decode cJ3_checkIndex_8e157 15 = .ok (.athrow, 1) := by decide +kernel
theorem dJ3_checkIndex_8e157_16 : decode cJ3_checkIndex_8e157 16 = .ok (.iload_n 0, 1) := by decide +kernel
theorem dJ3_checkIndex_8e157_17 : decode cJ3_checkIndex_8e157 17 = .ok (.ireturn, 1) := by decide +kernel
end
section
theorem uw_of {ws : List Cond} (h : ∀ w ∈ ws, w ∈ lw_tbl) (g : ws.all goodWord = true) : ∀ w ∈ ws, w ∈ Wc := fun w hw => List.mem_filter.mpr ⟨List.mem_cons_of_mem _ (h w hw), List.all_eq_true.mp g w hw⟩
theorem uwX0 : ∀ w ∈ u_ws RX0 TX0 2, w ∈ Wc := uw_of (by decide +kernel) (by decide +kernel)
theorem uwX1 : ∀ w ∈ u_ws RX1 TX1 7, w ∈ Wc := uw_of (by decide +kernel) (by decide +kernel)
theorem uwX4 : ∀ w ∈ u_ws RX4 TX4 2, w ∈ Wc := uw_of (by decide +kernel) (by decide +kernel)
theorem uwX5 : ∀ w ∈ u_ws RX5 TX5 1, w ∈ Wc := uw_of (by decide +kernel) (by decide +kernel)
theorem uwX6 : ∀ w ∈ u_ws RX6 TX6 2, w ∈ Wc := uw_of (by decide +kernel) (by decide +kernel)
theorem uwX8 : ∀ w ∈ u_ws RX8 TX8 11, w ∈ Wc := uw_of (by decide +kernel) (by decide +kernel)
theorem uwX9 : ∀ w ∈ u_ws RX9 TX9 22, w ∈ Wc := uw_of (by decide +kernel) (by decide +kernel)
theorem uwJ0 : ∀ w ∈ u_ws RJ0 TJ0 4, w ∈ Wc := uw_of (by decide +kernel) (by decide +kernel)
theorem uwJ4 : ∀ w ∈ u_ws RJ4 TJ4 4, w ∈ Wc := uw_of (by decide +kernel) (by decide +kernel)
/-! Worlds as maps: hp D A φ H says that at each address where φ tells something, it lies in H. A contract speaks of any such map: what it doesn't name stays. -/
abbrev hpM : Type := Nat → Option va_E
def hp (D : va_G) (A : Nat → Prop) (φ : hpM) (H : Heap) : Prop := ∀ (a : Nat) (e : va_E), φ a = some e → va_at D vwCl (a, e) H ∧ A a
def ups (φ : hpM) (a : Nat) (e : va_E) : hpM := fun x => if x = a then some e else φ x
theorem ups_s (φ : hpM) (a : Nat) (e : va_E) : ups φ a e a = some e := by simp [ups]
theorem ups_n {φ : hpM} {a b : Nat} {e : va_E} {x : Option va_E} (h : b ≠ a) (hx : φ b = x) : ups φ a e b = x := by simp [ups, h, hx]
theorem ups_ups (φ : hpM) (a : Nat) (x y : va_E) : ups (ups φ a x) a y = ups φ a y := by funext b; simp only [ups]; split <;> rfl
theorem ups_id {φ : hpM} {a : Nat} {x : va_E} (h : φ a = some x) : φ = ups φ a x := by
  funext b
  by_cases hb : b = a
  · rw [hb, h, ups_s]
  · exact (ups_n hb rfl).symm
theorem hp_ne {φ : hpM} {a b : Nat} {x y : va_E} (ha : φ a = some x) (hb : φ b = some y) (h : x ≠ y) : a ≠ b := fun q => h (Option.some.inj (ha.symm.trans (by rw [q]; exact hb)))
theorem hp_nf {φ : hpM} {a b : Nat} {x : va_E} (ha : φ a = some x) (hb : φ b = none) : a ≠ b := fun q => by rw [q, hb] at ha; cases ha
/-- the cells that a method may change: its map's, and those that it makes -/
def Af (φ : hpM) (sz : Nat) : Nat → Prop := fun q => φ q ≠ none ∨ sz ≤ q
theorem Af_in {φ : hpM} {sz a : Nat} {e : va_E} (h : φ a = some e) : Af φ sz a := Or.inl (by rw [h]; exact fun q => by cases q)
theorem hp.self {D : va_G} {A : Nat → Prop} {φ : hpM} {H : Heap} {sz : Nat} (h : hp D A φ H) : hp D (Af φ sz) φ H := fun a e he => ⟨(h a e he).1, Af_in he⟩
theorem hp.weaken {D : va_G} {A B : Nat → Prop} {φ : hpM} {H : Heap} (h : hp D A φ H) (hAB : ∀ q, A q → B q) : hp D B φ H := fun a e he => ⟨(h a e he).1, hAB a (h a e he).2⟩
theorem hp.lt {D : va_G} {A : Nat → Prop} {φ : hpM} {H : Heap} {a : Nat} {e : va_E} (h : hp D A φ H) (he : φ a = some e) : a < H.size := (h a e he).1.lt
theorem hp.fresh {D : va_G} {A : Nat → Prop} {φ : hpM} {H : Heap} {a : Nat} (h : hp D A φ H) (ha : H.size ≤ a) : φ a = none := by
  cases hc : φ a with
  | none => rfl
  | some e => exact absurd (h.lt hc) (Nat.not_lt.mpr ha)
theorem hp.p1 {D : va_G} {A : Nat → Prop} {φ : hpM} {H : Heap} {a : Nat} {e : va_E} (h : hp D A φ H) (he : φ a = some e) : va_P D vwCl [(a, e)] H := fun k q hk => by
  match k, hk with
  | 0, hk => cases hk; exact (h a e he).1
  | k + 1, hk => simp at hk
theorem hp.kept {D : va_G} {A : Nat → Prop} {φ : hpM} {H H1 : Heap} (h : hp D A φ H) (hq : ∀ (a : Nat) (e : va_E), φ a = some e → H1[a]? = H[a]?) : hp D A φ H1 := fun a e he => ⟨(h a e he).1.kept (hq a e he), (h a e he).2⟩
theorem hp.set {D : va_G} {A : Nat → Prop} {φ : hpM} {H H1 : Heap} {a : Nat} {e0 e : va_E} (h : hp D A φ H) (he : φ a = some e0) (h1 : va_at D vwCl (a, e) H1) (oq : ∀ q : Nat, q ≠ a → H1[q]? = H[q]?) : hp D A (ups φ a e) H1 := by
  intro b eb hb
  by_cases hba : b = a
  · subst hba
    rw [ups_s] at hb
    cases hb
    exact ⟨h1, (h _ _ he).2⟩
  · rw [ups_n hba rfl] at hb
    exact ⟨(h b eb hb).1.kept (oq b hba), (h b eb hb).2⟩
theorem hp.push {D : va_G} {A : Nat → Prop} {φ : hpM} {H H1 : Heap} {a : Nat} {e : va_E} (h : hp D A φ H) (ha : a = H.size) (hA : A a) (h1 : va_at D vwCl (a, e) H1) (oq : ∀ q : Nat, q < H.size → H1[q]? = H[q]?) : hp D A (ups φ a e) H1 := by
  intro b eb hb
  by_cases hba : b = a
  · subst hba
    rw [ups_s] at hb
    cases hb
    exact ⟨h1, hA⟩
  · rw [ups_n hba rfl] at hb
    exact ⟨(h b eb hb).1.kept (oq b (h.lt hb)), (h b eb hb).2⟩
/-- behind a call: a map that the callee didn't get -/
theorem hp.frame {D : va_G} {A : Nat → Prop} {φ ψ : hpM} {H H1 : Heap} (h : hp D A φ H) (hd : ∀ a : Nat, φ a = none ∨ ψ a = none) (hk : ∀ q : Nat, q < H.size → ¬ Af ψ H.size q → H1[q]? = H[q]?) : hp D A φ H1 := by
  refine h.kept (fun a e he => hk a (h.lt he) (fun z => ?_))
  rcases z with z | z
  · rcases hd a with q | q
    · rw [q] at he; cases he
    · exact z q
  · exact absurd (h.lt he) (Nat.not_lt.mpr z)
/-- the array classes of the claim, by their places -/
abbrev tysL (cA : Nat → ClassId) : List (ClassId × FieldType) := [(cA 0, .byte), (cA 1, .int), (cA 2, .boolean), (cA 3, .long), (cA 4, .object RX0), (cA 5, .object RX1), (cA 6, .object RX4), (cA 7, .object RX6)]
section HPR
variable {p : Program} {l : Launch} {e : Env} {R : Room} {s : State} {m : MethodId} {args : Array Value} {below : List Frame} {meth : Method} {c : Code} {H : Heap} {locs : List Loc} {cells slots : Nat} {Q : State → Prop}
variable {cc : ByteArray} {pc nL : Nat} {ls : Array Slot} {rest : List Value} {D : va_G} {A : Nat → Prop} {a : Nat} {tys : List (ClassId × FieldType)} {φ : hpM} {H0 : Heap} {Ts : List Cond} {own : String}
theorem hv_get (S : CallFix p m c cc nL s args Ts own) {ref C : String} {T : u_T} {N ci index : Nat} (hin : ∀ w ∈ u_ws C T N, w ∈ Ts) (hK : va_K D vwCl tys s) (hH : hp D A φ H) {fs : List Value} (he : φ a = some (.inr (ci, fs))) (hc : vwCl[ci]? = some (C, T, N)) (k : Nat) (hk : k < N) (hlink : Cond.fieldLink own index ref (T k).2.1 (T k).2.2.1 ∈ Ts) (hsame : ∀ x, s.fieldFound? (T k).1 (T k).2.1 (T k).2.2.1 = some x → s.fieldFound? ref (T k).2.1 (T k).2.2.1 = some x) {v : Value} (hv : fs[k]? = some v) (hdg : decode cc pc = .ok (.getfield index, 3))
    (kk : W p l e R s m args below meth c H locs cells slots Q (F0 m (pc + 3) ls (v :: rest))) : W p l e R s m args below meth c H locs cells slots Q (F0 m pc ls (.ref a :: rest)) :=
  va_get S.1 S.2.1 S.2.2.2.2 hin S.2.2.2.1 hK (hH.p1 he) 0 rfl hc k hk (S.2.2.2.2 _ hlink) hsame hv hdg kk
theorem hv_getN (S : CallFix p m c cc nL s args Ts own) {ref C host : String} {T : u_T} {N ci index : Nat} (hin : ∀ w ∈ u_ws C T N, w ∈ Ts) (hK : va_K D vwCl tys s) (hH : hp D A φ H) {fs : List Value} (he : φ a = some (.inr (ci, fs))) (hc : vwCl[ci]? = some (C, T, N)) (k : Nat) (hk : k < N) (hlink : va_Nw (.fieldLinkNest own index ref (T k).2.1 (T k).2.2.1 host) s) (hsame : ∀ x, s.fieldFound? (T k).1 (T k).2.1 (T k).2.2.1 = some x → s.fieldFound? ref (T k).2.1 (T k).2.2.1 = some x) {v : Value} (hv : fs[k]? = some v) (hdg : decode cc pc = .ok (.getfield index, 3))
    (kk : W p l e R s m args below meth c H locs cells slots Q (F0 m (pc + 3) ls (v :: rest))) : W p l e R s m args below meth c H locs cells slots Q (F0 m pc ls (.ref a :: rest)) :=
  va_getN S.1 S.2.1 S.2.2.2.2 hin S.2.2.2.1 hK (hH.p1 he) 0 rfl hc k hk (va_Nw.use rfl hlink) hsame hv hdg kk
theorem hv_put (S : CallFix p m c cc nL s args Ts own) {ref C : String} {T : u_T} {N ci index : Nat} (hin : ∀ w ∈ u_ws C T N, w ∈ Ts) (ty0 : Nat → FieldType) (hty : ∀ k, k < N → parseFieldDescriptor (T k).2.2.1 = some (ty0 k)) (hnm : ∀ a, a < N → ∀ b, b < N → a ≠ b → (T a).2.1 ≠ (T b).2.1) (hK : va_K D vwCl tys s) (hH : hp D A φ H) (hS0 : va_S A H0 H locs) {fs : List Value} (he : φ a = some (.inr (ci, fs))) (hc : vwCl[ci]? = some (C, T, N)) (k : Nat) (hk : k < N) (hlink : Cond.fieldLink own index ref (T k).2.1 (T k).2.2.1 ∈ Ts) (hsame : ∀ x, s.fieldFound? (T k).1 (T k).2.1 (T k).2.2.1 = some x → s.fieldFound? ref (T k).2.1 (T k).2.2.1 = some x) (hfin : (T k).2.2.2 = false) {ty : FieldType} {v : Value} (hd : parseFieldDescriptor (T k).2.2.1 = some ty) (hn : narrow ty v = v) (hfit : fits ty v = true) (hl : k < fs.length)
    (hdg : decode cc pc = .ok (.putfield index, 3)) (kk : ∀ (H1 : Heap) (locs1 : List Loc), hp D A (ups φ a (.inr (ci, fs.set k v))) H1 → va_S A H0 H1 locs1 → W p l e R s m args below meth c H1 locs1 cells slots Q (F0 m (pc + 3) ls rest)) : W p l e R s m args below meth c H locs cells slots Q (F0 m pc ls (v :: .ref a :: rest)) := by
  obtain ⟨hexec, hb, hml, hown, hts⟩ := S
  have hap := va_apart (own := own) hts hin ty0 hty hnm hK hc
  obtain ⟨⟨r, h1, cell, q1, q2, q3, q4⟩, hAa⟩ := hH a _ he
  have hr : r = (C, T, N) := Option.some.inj (h1.symm.trans hc)
  subst hr
  obtain ⟨hS, hfc, kC, hkC, hkind⟩ := hK.1 ci _ hc
  obtain ⟨cf, kf, fi, f, hi, hsl⟩ := hS k hk
  have hlay := hts _ (hin _ (u_in_lay hk))
  unfold u_lay at hlay
  rw [if_neg (by rw [hfin]; decide)] at hlay
  have hst := (u_facts hfc hkC (u_lays hts hin hk) hi).1
  have h6 := u_store hfc hkC hkind hlay hi hd hn hfit
  refine W.putK hexec hb (f := f) ⟨hown, hts _ hlink, ⟨_, _, _, hsame _ hi⟩, hst⟩ (by rw [q2]; exact h6) q1 q3 (by rw [hsl]; exact k2_hasslot (q4 k hk)) rfl rfl hdg fun H' e1 e2 e3 => ?_
  rw [hsl] at e1 ⊢
  exact kk H' _ (hH.set he ⟨_, hc, t_OB.to (V := updV (vp_V fs) k v) ⟨_, e1, q2, q3, t_set q4 hap hk v⟩ (fun j _ => vp_updV_set hl v j)⟩ e3) (hS0.put e2 e3 hAa)
theorem hv_putN (S : CallFix p m c cc nL s args Ts own) {ref C host : String} {T : u_T} {N ci index : Nat} (hin : ∀ w ∈ u_ws C T N, w ∈ Ts) (ty0 : Nat → FieldType) (hty : ∀ k, k < N → parseFieldDescriptor (T k).2.2.1 = some (ty0 k)) (hnm : ∀ a, a < N → ∀ b, b < N → a ≠ b → (T a).2.1 ≠ (T b).2.1) (hK : va_K D vwCl tys s) (hH : hp D A φ H) (hS0 : va_S A H0 H locs) {fs : List Value} (he : φ a = some (.inr (ci, fs))) (hc : vwCl[ci]? = some (C, T, N)) (k : Nat) (hk : k < N) (hlink : va_Nw (.fieldLinkNest own index ref (T k).2.1 (T k).2.2.1 host) s) (hsame : ∀ x, s.fieldFound? (T k).1 (T k).2.1 (T k).2.2.1 = some x → s.fieldFound? ref (T k).2.1 (T k).2.2.1 = some x) (hfin : (T k).2.2.2 = false) {ty : FieldType} {v : Value} (hd : parseFieldDescriptor (T k).2.2.1 = some ty) (hn : narrow ty v = v) (hfit : fits ty v = true) (hl : k < fs.length)
    (hdg : decode cc pc = .ok (.putfield index, 3)) (kk : ∀ (H1 : Heap) (locs1 : List Loc), hp D A (ups φ a (.inr (ci, fs.set k v))) H1 → va_S A H0 H1 locs1 → W p l e R s m args below meth c H1 locs1 cells slots Q (F0 m (pc + 3) ls rest)) : W p l e R s m args below meth c H locs cells slots Q (F0 m pc ls (v :: .ref a :: rest)) := by
  obtain ⟨hexec, hb, hml, hown, hts⟩ := S
  have hap := va_apart (own := own) hts hin ty0 hty hnm hK hc
  obtain ⟨⟨r, h1, cell, q1, q2, q3, q4⟩, hAa⟩ := hH a _ he
  have hr : r = (C, T, N) := Option.some.inj (h1.symm.trans hc)
  subst hr
  obtain ⟨hS, hfc, kC, hkC, hkind⟩ := hK.1 ci _ hc
  obtain ⟨cf, kf, fi, f, hi, hsl⟩ := hS k hk
  have hlay := hts _ (hin _ (u_in_lay hk))
  unfold u_lay at hlay
  rw [if_neg (by rw [hfin]; decide)] at hlay
  have hst := (u_facts hfc hkC (u_lays hts hin hk) hi).1
  have h6 := u_store hfc hkC hkind hlay hi hd hn hfit
  refine va_WputK hexec hb (f := f) hown (va_Nw.use rfl hlink) (hsame _ hi) hst (by rw [q2]; exact h6) q1 q3 (by rw [hsl]; exact k2_hasslot (q4 k hk)) rfl rfl hdg fun H' e1 e2 e3 => ?_
  rw [hsl] at e1 ⊢
  exact kk H' _ (hH.set he ⟨_, hc, t_OB.to (V := updV (vp_V fs) k v) ⟨_, e1, q2, q3, t_set q4 hap hk v⟩ (fun j _ => vp_updV_set hl v j)⟩ e3) (hS0.put e2 e3 hAa)
theorem hv_putF (S : CallFix p m c cc nL s args Ts own) {ref C : String} {T : u_T} {N ci index : Nat} (hin : ∀ w ∈ u_ws C T N, w ∈ Ts) (ty0 : Nat → FieldType) (hty : ∀ k, k < N → parseFieldDescriptor (T k).2.2.1 = some (ty0 k)) (hnm : ∀ a, a < N → ∀ b, b < N → a ≠ b → (T a).2.1 ≠ (T b).2.1) (hK : va_K D vwCl tys s) (hH : hp D A φ H) (hS0 : va_S A H0 H locs) {fs : List Value} (he : φ a = some (.inr (ci, fs))) (hc : vwCl[ci]? = some (C, T, N)) (k : Nat) (hk : k < N) (hlink : Cond.fieldLink own index ref (T k).2.1 (T k).2.2.1 ∈ Ts) (hsame : ∀ x, s.fieldFound? (T k).1 (T k).2.1 (T k).2.2.1 = some x → s.fieldFound? ref (T k).2.1 (T k).2.2.1 = some x) (hfin : (T k).2.2.2 = true) (hin2 : meth.name = "<init>") (hdecl : (T k).1 = own) {ty : FieldType} {v : Value} (hd : parseFieldDescriptor (T k).2.2.1 = some ty) (hn : narrow ty v = v) (hfit : fits ty v = true) (hl : k < fs.length)
    (hdg : decode cc pc = .ok (.putfield index, 3)) (kk : ∀ (H1 : Heap) (locs1 : List Loc), hp D A (ups φ a (.inr (ci, fs.set k v))) H1 → va_S A H0 H1 locs1 → W p l e R s m args below meth c H1 locs1 cells slots Q (F0 m (pc + 3) ls rest)) : W p l e R s m args below meth c H locs cells slots Q (F0 m pc ls (v :: .ref a :: rest)) := by
  obtain ⟨hexec, hb, hml, hown, hts⟩ := S
  have hap := va_apart (own := own) hts hin ty0 hty hnm hK hc
  obtain ⟨⟨r, h1, cell, q1, q2, q3, q4⟩, hAa⟩ := hH a _ he
  have hr : r = (C, T, N) := Option.some.inj (h1.symm.trans hc)
  subst hr
  obtain ⟨hS, hfc, kC, hkC, hkind⟩ := hK.1 ci _ hc
  obtain ⟨cf, kf, fi, f, hi, hsl⟩ := hS k hk
  have hlay := hts _ (hin _ (u_in_lay hk))
  unfold u_lay at hlay
  rw [if_pos hfin] at hlay
  have hst := (u_facts hfc hkC (u_lays hts hin hk) hi).1
  have hcf : m.cls = cf := by
    obtain ⟨_, _, c', _, _, _, -, -, hf', -, -, -, hown2, -⟩ := Cond.laysFinal_spec hlay
    have e1 : c' = cf := by have := hi.symm.trans hf'; simp at this; exact this.1.symm
    rw [hdecl] at hown2
    rw [← e1]; exact Option.some.inj (hown.symm.trans hown2)
  have h6 := u_fits hfc hkC hkind (Or.inr hlay) hi hd hn hfit
  refine W.putFinK hexec hb hown (hts _ hlink) (hsame _ hi) hst hcf hin2 (by rw [q2]; exact h6) q1 q3 (by rw [hsl]; exact k2_hasslot (q4 k hk)) rfl rfl hdg fun H' e1 e2 e3 => ?_
  rw [hsl] at e1 ⊢
  exact kk H' _ (hH.set he ⟨_, hc, t_OB.to (V := updV (vp_V fs) k v) ⟨_, e1, q2, q3, t_set q4 hap hk v⟩ (fun j _ => vp_updV_set hl v j)⟩ e3) (hS0.put e2 e3 hAa)
theorem hv_iald (S : CallFix p m c cc nL s args Ts own) (hK : va_K D vwCl tys s) (hH : hp D A φ H) (t0 : Nat) {cA : ClassId} {n : Nat} {f : Nat → Int32} (ha : φ a = some (.inl (cA, n, .inl f))) (ht : tys[t0]? = some (cA, .int)) {i : Int32} (hin : vp_in i n) (hdg : decode cc pc = .ok (.iaload, 1))
    (kk : W p l e R s m args below meth c H locs cells slots Q (F0 m (pc + 1) ls (.int (f i.toNatClampNeg) :: rest))) : W p l e R s m args below meth c H locs cells slots Q (F0 m pc ls (.int i :: .ref a :: rest)) := va_iald S.1 S.2.1 hK (hH.p1 ha) 0 t0 rfl ht hin hdg kk
theorem hv_bald (S : CallFix p m c cc nL s args Ts own) (hK : va_K D vwCl tys s) (hH : hp D A φ H) (t0 : Nat) {cA : ClassId} {n : Nat} {f : Nat → Int32} (ha : φ a = some (.inl (cA, n, .inl f))) (ht : tys[t0]? = some (cA, .byte)) {i : Int32} (hin : vp_in i n) (hdg : decode cc pc = .ok (.baload, 1))
    (kk : W p l e R s m args below meth c H locs cells slots Q (F0 m (pc + 1) ls (.int (f i.toNatClampNeg) :: rest))) : W p l e R s m args below meth c H locs cells slots Q (F0 m pc ls (.int i :: .ref a :: rest)) := va_bald S.1 S.2.1 hK (hH.p1 ha) 0 t0 rfl ht hin hdg kk
theorem hv_zald (S : CallFix p m c cc nL s args Ts own) (hK : va_K D vwCl tys s) (hH : hp D A φ H) (t0 : Nat) {cA : ClassId} {n : Nat} {f : Nat → Int32} (ha : φ a = some (.inl (cA, n, .inl f))) (ht : tys[t0]? = some (cA, .boolean)) {i : Int32} (hin : vp_in i n) (hdg : decode cc pc = .ok (.baload, 1))
    (kk : W p l e R s m args below meth c H locs cells slots Q (F0 m (pc + 1) ls (.int (f i.toNatClampNeg) :: rest))) : W p l e R s m args below meth c H locs cells slots Q (F0 m pc ls (.int i :: .ref a :: rest)) := va_zald S.1 S.2.1 hK (hH.p1 ha) 0 t0 rfl ht hin hdg kk
theorem hv_lald (S : CallFix p m c cc nL s args Ts own) (hK : va_K D vwCl tys s) (hH : hp D A φ H) (t0 : Nat) {cA : ClassId} {n : Nat} {f : Nat → Int64} (ha : φ a = some (.inl (cA, n, .inr (.inl f)))) (ht : tys[t0]? = some (cA, .long)) {i : Int32} (hin : vp_in i n) (hdg : decode cc pc = .ok (.laload, 1))
    (kk : W p l e R s m args below meth c H locs cells slots Q (F0 m (pc + 1) ls (.long (f i.toNatClampNeg) :: rest))) : W p l e R s m args below meth c H locs cells slots Q (F0 m pc ls (.int i :: .ref a :: rest)) := va_lald S.1 S.2.1 hK (hH.p1 ha) 0 t0 rfl ht hin hdg kk
theorem hv_aald (S : CallFix p m c cc nL s args Ts own) (hK : va_K D vwCl tys s) (hH : hp D A φ H) (t0 : Nat) {cA : ClassId} {C : String} {n : Nat} {f : Nat → Option Nat} (ha : φ a = some (.inl (cA, n, .inr (.inr (.inr (.inr f)))))) (ht : tys[t0]? = some (cA, .object C)) {i : Int32} (hin : vp_in i n) (hdg : decode cc pc = .ok (.aaload, 1))
    (kk : W p l e R s m args below meth c H locs cells slots Q (F0 m (pc + 1) ls (va_rf (f i.toNatClampNeg) :: rest))) : W p l e R s m args below meth c H locs cells slots Q (F0 m pc ls (.int i :: .ref a :: rest)) := va_aldq S.1 S.2.1 hK (hH.p1 ha) 0 t0 rfl ht hin hdg kk
theorem hv_alen (S : CallFix p m c cc nL s args Ts own) (hK : va_K D vwCl tys s) (hH : hp D A φ H) (t0 : Nat) {cA : ClassId} {x : vp_A} (ha : φ a = some (.inl (cA, x))) {ty : FieldType} (ht : tys[t0]? = some (cA, ty)) {v : Int32} (hv : Int32.ofNat x.1 = v) (hdg : decode cc pc = .ok (.arraylength, 1))
    (kk : W p l e R s m args below meth c H locs cells slots Q (F0 m (pc + 1) ls (.int v :: rest))) : W p l e R s m args below meth c H locs cells slots Q (F0 m pc ls (.ref a :: rest)) := va_alen S.1 S.2.1 hK (hH.p1 ha) 0 t0 rfl ht hv hdg kk
theorem hv_iast (S : CallFix p m c cc nL s args Ts own) (hK : va_K D vwCl tys s) (hH : hp D A φ H) (hS : va_S A H0 H locs) (t0 : Nat) {cA : ClassId} {n : Nat} {f : Nat → Int32} (ha : φ a = some (.inl (cA, n, .inl f))) (ht : tys[t0]? = some (cA, .int)) {i : Int32} {x : Int32} (hin : vp_in i n) (hdg : decode cc pc = .ok (.iastore, 1))
    (kk : ∀ (H1 : Heap) (locs1 : List Loc), hp D A (ups φ a (.inl (cA, n, .inl (upd f i.toNatClampNeg x)))) H1 → va_S A H0 H1 locs1 → W p l e R s m args below meth c H1 locs1 cells slots Q (F0 m (pc + 1) ls rest)) : W p l e R s m args below meth c H locs cells slots Q (F0 m pc ls (.int x :: .int i :: .ref a :: rest)) := by
  refine W.iast S.1 S.2.1 (hH _ _ ha).1 ((hK.2 t0 _ ht).1 n (fun j => .int (f j))) (fun q => by cases q) (by show ¬ (i < 0 ∨ (arrV _ _ _).slots.size ≤ _); rw [arrV_size]; exact hin) rfl rfl hdg fun H1 e z oq => ?_
  refine kk H1 _ (hH.set ha ?_ oq) (hS.put z oq (hH _ _ ha).2)
  show H1[a]? = some (vp_cell _ _)
  rw [e]
  rw [vp_cell_i, vp_cell_i, arrV_store]
  congr 2
  funext q
  by_cases hq : q = i.toNatClampNeg
  · subst hq
    simp [updV, upd]
  · simp [updV, upd, hq]
theorem hv_bast (S : CallFix p m c cc nL s args Ts own) (hK : va_K D vwCl tys s) (hH : hp D A φ H) (hS : va_S A H0 H locs) (t0 : Nat) {cA : ClassId} {n : Nat} {f : Nat → Int32} (ha : φ a = some (.inl (cA, n, .inl f))) (ht : tys[t0]? = some (cA, .byte)) {i : Int32} {x : Int32} (hin : vp_in i n) (hdg : decode cc pc = .ok (.bastore, 1))
    (kk : ∀ (H1 : Heap) (locs1 : List Loc), hp D A (ups φ a (.inl (cA, n, .inl (upd f i.toNatClampNeg (vp_nar .byte x))))) H1 → va_S A H0 H1 locs1 → W p l e R s m args below meth c H1 locs1 cells slots Q (F0 m (pc + 1) ls rest)) : W p l e R s m args below meth c H locs cells slots Q (F0 m pc ls (.int x :: .int i :: .ref a :: rest)) := by
  refine W.bast S.1 S.2.1 (hH _ _ ha).1 ((hK.2 t0 _ ht).1 n (fun j => .int (f j))) (fun q => by cases q) (by show ¬ (i < 0 ∨ (arrV _ _ _).slots.size ≤ _); rw [arrV_size]; exact hin) rfl rfl hdg fun H1 e z oq => ?_
  refine kk H1 _ (hH.set ha ?_ oq) (hS.put z oq (hH _ _ ha).2)
  show H1[a]? = some (vp_cell _ _)
  rw [e]
  rw [vp_cell_i, vp_cell_i, arrV_store]
  congr 2
  funext q
  by_cases hq : q = i.toNatClampNeg
  · subst hq
    simp [updV, upd, vp_nar]
    try rfl
  · simp [updV, upd, hq]
theorem hv_zast (S : CallFix p m c cc nL s args Ts own) (hK : va_K D vwCl tys s) (hH : hp D A φ H) (hS : va_S A H0 H locs) (t0 : Nat) {cA : ClassId} {n : Nat} {f : Nat → Int32} (ha : φ a = some (.inl (cA, n, .inl f))) (ht : tys[t0]? = some (cA, .boolean)) {i : Int32} {x : Int32} (hin : vp_in i n) (hdg : decode cc pc = .ok (.bastore, 1))
    (kk : ∀ (H1 : Heap) (locs1 : List Loc), hp D A (ups φ a (.inl (cA, n, .inl (upd f i.toNatClampNeg (vp_nar .boolean x))))) H1 → va_S A H0 H1 locs1 → W p l e R s m args below meth c H1 locs1 cells slots Q (F0 m (pc + 1) ls rest)) : W p l e R s m args below meth c H locs cells slots Q (F0 m pc ls (.int x :: .int i :: .ref a :: rest)) := by
  refine W.zast S.1 S.2.1 (hH _ _ ha).1 ((hK.2 t0 _ ht).1 n (fun j => .int (f j))) (fun q => by cases q) (by show ¬ (i < 0 ∨ (arrV _ _ _).slots.size ≤ _); rw [arrV_size]; exact hin) rfl rfl hdg fun H1 e z oq => ?_
  refine kk H1 _ (hH.set ha ?_ oq) (hS.put z oq (hH _ _ ha).2)
  show H1[a]? = some (vp_cell _ _)
  rw [e]
  rw [vp_cell_i, vp_cell_i, arrV_store]
  congr 2
  funext q
  by_cases hq : q = i.toNatClampNeg
  · subst hq
    simp [updV, upd, vp_nar]
    try rfl
  · simp [updV, upd, hq]
theorem hv_last (S : CallFix p m c cc nL s args Ts own) (hK : va_K D vwCl tys s) (hH : hp D A φ H) (hS : va_S A H0 H locs) (t0 : Nat) {cA : ClassId} {n : Nat} {f : Nat → Int64} (ha : φ a = some (.inl (cA, n, .inr (.inl f)))) (ht : tys[t0]? = some (cA, .long)) {i : Int32} {x : Int64} (hin : vp_in i n) (hdg : decode cc pc = .ok (.lastore, 1))
    (kk : ∀ (H1 : Heap) (locs1 : List Loc), hp D A (ups φ a (.inl (cA, n, .inr (.inl (vp_updL f i.toNatClampNeg x))))) H1 → va_S A H0 H1 locs1 → W p l e R s m args below meth c H1 locs1 cells slots Q (F0 m (pc + 1) ls rest)) : W p l e R s m args below meth c H locs cells slots Q (F0 m pc ls (.long x :: .int i :: .ref a :: rest)) := by
  refine W.last S.1 S.2.1 (hH _ _ ha).1 ((hK.2 t0 _ ht).1 n (fun j => .long (f j))) (fun q => by cases q) (by show ¬ (i < 0 ∨ (arrV _ _ _).slots.size ≤ _); rw [arrV_size]; exact hin) rfl rfl hdg fun H1 e z oq => ?_
  refine kk H1 _ (hH.set ha ?_ oq) (hS.put z oq (hH _ _ ha).2)
  show H1[a]? = some (vp_cell _ _)
  rw [e]
  rw [vp_cell_l, vp_cell_l, arrV_store]
  congr 2
  funext q
  by_cases hq : q = i.toNatClampNeg
  · subst hq
    simp [updV, vp_updL]
  · simp [updV, vp_updL, hq]
theorem hv_aast (S : CallFix p m c cc nL s args Ts own) (hK : va_K D vwCl tys s) (hH : hp D A φ H) (hS : va_S A H0 H locs) (t0 ci : Nat) {cA : ClassId} {r : vw_C} {n v : Nat} {vs : List Value} {f : Nat → Option Nat} (ha : φ a = some (.inl (cA, n, .inr (.inr (.inr (.inr f)))))) (ht : tys[t0]? = some (cA, .object r.1)) (hv : φ v = some (.inr (ci, vs))) (hc : vwCl[ci]? = some r) {i : Int32} (hin : vp_in i n) (hdg : decode cc pc = .ok (.aastore, 1))
    (kk : ∀ (H1 : Heap) (locs1 : List Loc), hp D A (ups φ a (.inl (cA, n, .inr (.inr (.inr (.inr (va_up f i.toNatClampNeg (some v)))))))) H1 → va_S A H0 H1 locs1 → W p l e R s m args below meth c H1 locs1 cells slots Q (F0 m (pc + 1) ls rest)) : W p l e R s m args below meth c H locs cells slots Q (F0 m pc ls (.ref v :: .int i :: .ref a :: rest)) := by
  have hlt : i.toNatClampNeg < n := Nat.not_le.mp fun q => hin (Or.inr q)
  have h0 : ¬ i < 0 := fun q => hin (Or.inl q)
  obtain ⟨⟨r', hr', cellV, g1, g2, g3, -⟩, -⟩ := hH _ _ hv
  have hcls := (hK.1 ci r hc).2
  obtain ⟨kA, comp, k1, k2, k3, -⟩ := (hK.2 t0 _ ht).2
  have hcomp : comp = D.1 ci := Option.some.inj (k3.symm.trans hcls.1)
  subst hcomp
  obtain ⟨kC, hkC, -⟩ := hcls.2
  refine W.aast S.1 S.2.1 (hH _ _ ha).1 (fun q h => by cases h) (fun h => by cases h) k1 k2 rfl hkC ⟨h0, by show _ < (arrV _ _ _).slots.size; rw [arrV_size]; exact hlt⟩ g1 (fun q h => by rw [g3] at h; cases h) (by rw [g2]; exact hkC) (by rw [g2]; exact va_assign hcls) rfl rfl hdg fun H1 e z oq => ?_
  refine kk H1 _ (hH.set ha ?_ oq) (hS.put z oq (hH _ _ ha).2)
  show H1[a]? = some (vp_cell _ _)
  rw [e]
  rw [vp_cell_q, vp_cell_q, arrV_store]
  congr 2
  funext q
  by_cases hq : q = i.toNatClampNeg
  · subst hq
    simp [updV, va_up, va_rf]
  · simp [updV, va_up, hq]
theorem hv_new (S : CallFix p m c cc nL s args Ts own) {C : String} {T : u_T} {N ci index : Nat} (hin : ∀ w ∈ u_ws C T N, w ∈ Ts) (ty : Nat → FieldType) (hty : ∀ k, k < N → parseFieldDescriptor (T k).2.2.1 = some (ty k)) (hcl : Cond.classLink own index C ∈ Ts) (hinst : Cond.instantiable C N ∈ Ts) (hini : Cond.initialized C ∈ Ts)
    (hK : va_K D vwCl tys s) (hH : hp D A φ H) (hS : va_S A H0 H locs) (hA : ∀ q, H0.size ≤ q → A q) (hc : vwCl[ci]? = some (C, T, N)) {fs : List Value} (hfs : ∀ j, j < N → defaultValue (ty j) = vp_V fs j) (hcells : cells + 1 ≤ R.cells) (hslots : slots + N ≤ R.slots) (hdg : decode cc pc = .ok (.new index, 3))
    (kk : ∀ (q : Nat) (H1 : Heap), φ q = none → hp D A (ups φ q (.inr (ci, fs))) H1 → va_S A H0 H1 locs →
      W p l e R s m args below meth c H1 locs (cells + 1) (slots + N) Q (F0 m (pc + 3) ls (.ref q :: rest))) : W p l e R s m args below meth c H locs cells slots Q (F0 m pc ls rest) := by
  obtain ⟨hexec, hb, hml, hown, hts⟩ := S
  have hKn := hK.1 ci _ hc
  refine W.newcK hexec hb hown (hts _ hcl) (hts _ hinst) (hts _ hini) rfl hdg hcells hslots hKn.2.1 rfl fun H1 kC hkC e1 z1 o1 => ?_
  refine kk H.size H1 (hH.fresh (Nat.le_refl _)) (hH.push rfl (hA _ hS.1) ⟨_, hc, (u_born ty hts hin hKn hkC e1 hty).to hfs⟩ o1) ⟨Nat.le_trans hS.1 (by omega), fun x h1 h2 => (o1 x (Nat.lt_of_lt_of_le h1 hS.1)).trans (hS.2.1 x h1 h2), hS.2.2⟩
theorem hv_newa (S : CallFix p m c cc nL s args Ts own) {atype : ArrayType} (harr : Cond.arrayClass (newarray.typeOf atype) ∈ Ts) {ty : FieldType} (hty : newarray.typeOf atype = ty) (hK : va_K D vwCl tys s) (t0 : Nat) {cA : ClassId} (ht : tys[t0]? = some (cA, ty)) (hH : hp D A φ H) (hS : va_S A H0 H locs) (hA : ∀ q, H0.size ≤ q → A q)
    {n : Int32} {N' : Nat} {a0 : vp_A} (ha : ∀ cA : ClassId, vp_cell cA a0 = arrV cA N' (fun _ => defaultValue ty)) (hn : ¬ n < 0) (hN : n.toNatClampNeg = N') (hbytes : N' * componentBytes ty ≤ 536870912) (hcells : cells + 1 ≤ R.cells) (hslots : slots + N' ≤ R.slots) (hdg : decode cc pc = .ok (.newarray atype, 2))
    (kk : ∀ (q : Nat) (H1 : Heap), φ q = none → hp D A (ups φ q (.inl (cA, a0))) H1 → va_S A H0 H1 locs →
      W p l e R s m args below meth c H1 locs (cells + 1) (slots + N') Q (F0 m (pc + 2) ls (.ref q :: rest))) : W p l e R s m args below meth c H locs cells slots Q (F0 m pc ls (.int n :: rest)) := by
  subst hty
  refine va_newaK S.1 S.2.1 (S.2.2.2.2 _ harr) rfl hdg rfl hn hN hbytes hcells hslots rfl fun H1 cB e1 z1 o1 hAr hNm => ?_
  have hcc : cB = cA := by
    have h2 := (hK.2 t0 _ ht).2
    cases atype <;> exact Option.some.inj (hNm.symm.trans h2)
  subst hcc
  refine kk H.size H1 (hH.fresh (Nat.le_refl _)) (hH.push rfl (hA _ hS.1) ?_ o1) ⟨Nat.le_trans hS.1 (by omega), fun x h1 h2 => (o1 x (Nat.lt_of_lt_of_le h1 hS.1)).trans (hS.2.1 x h1 h2), hS.2.2⟩
  show H1[H.size]? = some (vp_cell _ _)
  rw [ha]
  exact e1
theorem hv_newq (S : CallFix p m c cc nL s args Ts own) {C : String} {index : Nat} (hclink : Cond.classLink own index C ∈ Ts) (hover : va_AO C s) (hK : va_K D vwCl tys s) (t0 : Nat) {cA : ClassId} (ht : tys[t0]? = some (cA, .object C)) (hH : hp D A φ H) (hS : va_S A H0 H locs) (hA : ∀ q, H0.size ≤ q → A q)
    {n : Int32} {N' : Nat} (hn : ¬ n < 0) (hN : n.toNatClampNeg = N') (hbytes : N' * 4 ≤ 536870912) (hcells : cells + 1 ≤ R.cells) (hslots : slots + N' ≤ R.slots) (hdg : decode cc pc = .ok (.anewarray index, 3))
    (kk : ∀ (q : Nat) (H1 : Heap), φ q = none → hp D A (ups φ q (.inl (cA, N', .inr (.inr (.inr (.inr (fun _ => none))))))) H1 → va_S A H0 H1 locs →
      W p l e R s m args below meth c H1 locs (cells + 1) (slots + N') Q (F0 m (pc + 3) ls (.ref q :: rest))) : W p l e R s m args below meth c H locs cells slots Q (F0 m pc ls (.int n :: rest)) := by
  subst hN
  refine W.anew S.1 S.2.1 S.2.2.2.1 (S.2.2.2.2 _ hclink) (va_AO.use hover) rfl hdg rfl hn hbytes hcells hslots fun cB kA comp f1 f2 f3 f4 => ?_
  have hcc : cB = cA := by
    obtain ⟨kA2, comp2, k1, k2, k3, k4⟩ := (hK.2 t0 _ ht).2
    exact Option.some.inj (f1.symm.trans k4)
  subst hcc
  generalize hH1 : H.push ({ cls := cB, slots := Array.replicate n.toNatClampNeg .null, vm := .none } : Cell) = H1
  have z1 : H1.size = H.size + 1 := by rw [← hH1, Array.size_push]
  have e1 : H1[H.size]? = some (arrV cB n.toNatClampNeg (fun _ => .null)) := by rw [← hH1, Array.getElem?_push_size, ← arrV_new]
  have o1 : ∀ q : Nat, q < H.size → H1[q]? = H[q]? := fun q hq => by rw [← hH1, Array.getElem?_push, if_neg (Nat.ne_of_lt hq)]
  refine kk H.size H1 (hH.fresh (Nat.le_refl _)) (hH.push rfl (hA _ hS.1) ?_ o1) ⟨Nat.le_trans hS.1 (by omega), fun x h1 h2 => (o1 x (Nat.lt_of_lt_of_le h1 hS.1)).trans (hS.2.1 x h1 h2), hS.2.2⟩
  show H1[H.size]? = some (vp_cell _ _)
  rw [vp_cell_q]
  exact e1
end HPR
section HPB
variable {p : Program} {l : Launch} {e : Env} {R : Room} {s : State} {m : MethodId} {args : Array Value} {below : List Frame} {meth : Method} {c : Code} {H : Heap} {locs : List Loc} {cells slots : Nat} {Q : State → Prop}
variable {cc : ByteArray} {pc : Nat} {ls : Array Slot} {rest : List Value}
theorem nup {D : va_G} {A : Nat → Prop} {φ : hpM} {H : Heap} {a : Nat} {e : va_E} (h : hp D A (ups φ a e) H) : ∃ φ1 : hpM, φ1 = ups φ a e ∧ φ1 a = some e ∧ (∀ (b : Nat) (x : Option va_E), b ≠ a → φ b = x → φ1 b = x) ∧ hp D A φ1 H := ⟨_, rfl, ups_s _ _ _, fun _ _ hb hx => ups_n hb hx, h⟩
theorem hv_ti {x y : Int32} (h : x = y) (k : W p l e R s m args below meth c H locs cells slots Q (F0 m pc ls (.int y :: rest))) : W p l e R s m args below meth c H locs cells slots Q (F0 m pc ls (.int x :: rest)) := by rw [h]; exact k
theorem hv_tv {x y : Value} (h : x = y) (k : W p l e R s m args below meth c H locs cells slots Q (F0 m pc ls (y :: rest))) : W p l e R s m args below meth c H locs cells slots Q (F0 m pc ls (x :: rest)) := by rw [h]; exact k
theorem hv_icmp_eq (hexec : p.tables.exec = Jvm.exec) (hcb : c.code = cc) {a b : Nat} {off : Int} {tgt : Nat} (ha : a < 2 ^ 31) (hb : b < 2 ^ 31) (hdg : decode cc pc = .ok (.if_icmp .eq off, 3)) (ht : (pc : Int) + off = (tgt : Int)) (kt : a = b → W p l e R s m args below meth c H locs cells slots Q (F0 m tgt ls rest)) (kf : ¬ a = b → W p l e R s m args below meth c H locs cells slots Q (F0 m (pc + 3) ls rest)) : W p l e R s m args below meth c H locs cells slots Q (F0 m pc ls (.int (nI b) :: .int (nI a) :: rest)) := lv_icmp_eq hexec hcb hdg ht (fun q => kt ((nI_eq ha hb).mp q)) (fun q => kf (fun z => q ((nI_eq ha hb).mpr z)))
theorem hv_icmp_ne (hexec : p.tables.exec = Jvm.exec) (hcb : c.code = cc) {a b : Nat} {off : Int} {tgt : Nat} (ha : a < 2 ^ 31) (hb : b < 2 ^ 31) (hdg : decode cc pc = .ok (.if_icmp .ne off, 3)) (ht : (pc : Int) + off = (tgt : Int)) (kt : ¬ a = b → W p l e R s m args below meth c H locs cells slots Q (F0 m tgt ls rest)) (kf : a = b → W p l e R s m args below meth c H locs cells slots Q (F0 m (pc + 3) ls rest)) : W p l e R s m args below meth c H locs cells slots Q (F0 m pc ls (.int (nI b) :: .int (nI a) :: rest)) := lv_icmp_ne hexec hcb hdg ht (fun q => kt (fun z => q ((nI_eq ha hb).mpr z))) (fun q => kf ((nI_eq ha hb).mp q))
theorem hv_icmp_lt (hexec : p.tables.exec = Jvm.exec) (hcb : c.code = cc) {a b : Nat} {off : Int} {tgt : Nat} (ha : a < 2 ^ 31) (hb : b < 2 ^ 31) (hdg : decode cc pc = .ok (.if_icmp .lt off, 3)) (ht : (pc : Int) + off = (tgt : Int)) (kt : a < b → W p l e R s m args below meth c H locs cells slots Q (F0 m tgt ls rest)) (kf : b ≤ a → W p l e R s m args below meth c H locs cells slots Q (F0 m (pc + 3) ls rest)) : W p l e R s m args below meth c H locs cells slots Q (F0 m pc ls (.int (nI b) :: .int (nI a) :: rest)) := lv_icmp_lt hexec hcb hdg ht (fun q => kt ((nI_ltI ha hb).mp q)) (fun q => kf (by have := mt (nI_ltI ha hb).mpr q; omega))
theorem hv_icmp_ge (hexec : p.tables.exec = Jvm.exec) (hcb : c.code = cc) {a b : Nat} {off : Int} {tgt : Nat} (ha : a < 2 ^ 31) (hb : b < 2 ^ 31) (hdg : decode cc pc = .ok (.if_icmp .ge off, 3)) (ht : (pc : Int) + off = (tgt : Int)) (kt : b ≤ a → W p l e R s m args below meth c H locs cells slots Q (F0 m tgt ls rest)) (kf : a < b → W p l e R s m args below meth c H locs cells slots Q (F0 m (pc + 3) ls rest)) : W p l e R s m args below meth c H locs cells slots Q (F0 m pc ls (.int (nI b) :: .int (nI a) :: rest)) := lv_icmp_ge hexec hcb hdg ht (fun q => kt ((nI_leI hb ha).mp q)) (fun q => kf (by have := mt (nI_leI hb ha).mpr q; omega))
theorem hv_icmp_gt (hexec : p.tables.exec = Jvm.exec) (hcb : c.code = cc) {a b : Nat} {off : Int} {tgt : Nat} (ha : a < 2 ^ 31) (hb : b < 2 ^ 31) (hdg : decode cc pc = .ok (.if_icmp .gt off, 3)) (ht : (pc : Int) + off = (tgt : Int)) (kt : b < a → W p l e R s m args below meth c H locs cells slots Q (F0 m tgt ls rest)) (kf : a ≤ b → W p l e R s m args below meth c H locs cells slots Q (F0 m (pc + 3) ls rest)) : W p l e R s m args below meth c H locs cells slots Q (F0 m pc ls (.int (nI b) :: .int (nI a) :: rest)) := lv_icmp_gt hexec hcb hdg ht (fun q => kt ((nI_ltI hb ha).mp q)) (fun q => kf (by have := mt (nI_ltI hb ha).mpr q; omega))
theorem hv_icmp_le (hexec : p.tables.exec = Jvm.exec) (hcb : c.code = cc) {a b : Nat} {off : Int} {tgt : Nat} (ha : a < 2 ^ 31) (hb : b < 2 ^ 31) (hdg : decode cc pc = .ok (.if_icmp .le off, 3)) (ht : (pc : Int) + off = (tgt : Int)) (kt : a ≤ b → W p l e R s m args below meth c H locs cells slots Q (F0 m tgt ls rest)) (kf : b < a → W p l e R s m args below meth c H locs cells slots Q (F0 m (pc + 3) ls rest)) : W p l e R s m args below meth c H locs cells slots Q (F0 m pc ls (.int (nI b) :: .int (nI a) :: rest)) := lv_icmp_le hexec hcb hdg ht (fun q => kt ((nI_leI ha hb).mp q)) (fun q => kf (by have := mt (nI_leI ha hb).mpr q; omega))
theorem hv_if_eq (hexec : p.tables.exec = Jvm.exec) (hcb : c.code = cc) {a : Nat} {off : Int} {tgt : Nat} (ha : a < 2 ^ 31) (hdg : decode cc pc = .ok (.ifCond .eq off, 3)) (ht : (pc : Int) + off = (tgt : Int)) (kt : a = 0 → W p l e R s m args below meth c H locs cells slots Q (F0 m tgt ls rest)) (kf : ¬ a = 0 → W p l e R s m args below meth c H locs cells slots Q (F0 m (pc + 3) ls rest)) : W p l e R s m args below meth c H locs cells slots Q (F0 m pc ls (.int (nI a) :: rest)) := lv_if_eq hexec hcb hdg ht (fun q => kt ((nI_eq ha (by decide)).mp (q.trans nI_0.symm))) (fun q => kf (fun z => q (by rw [z]; exact nI_0)))
theorem hv_if_ne (hexec : p.tables.exec = Jvm.exec) (hcb : c.code = cc) {a : Nat} {off : Int} {tgt : Nat} (ha : a < 2 ^ 31) (hdg : decode cc pc = .ok (.ifCond .ne off, 3)) (ht : (pc : Int) + off = (tgt : Int)) (kt : ¬ a = 0 → W p l e R s m args below meth c H locs cells slots Q (F0 m tgt ls rest)) (kf : a = 0 → W p l e R s m args below meth c H locs cells slots Q (F0 m (pc + 3) ls rest)) : W p l e R s m args below meth c H locs cells slots Q (F0 m pc ls (.int (nI a) :: rest)) := lv_if_ne hexec hcb hdg ht (fun q => kt (fun z => q (by rw [z]; exact nI_0))) (fun q => kf ((nI_eq ha (by decide)).mp (q.trans nI_0.symm)))
theorem hv_if_lt (hexec : p.tables.exec = Jvm.exec) (hcb : c.code = cc) {a : Nat} {off : Int} {tgt : Nat} (ha : a < 2 ^ 31) (hdg : decode cc pc = .ok (.ifCond .lt off, 3)) (ht : (pc : Int) + off = (tgt : Int)) (kt : False → W p l e R s m args below meth c H locs cells slots Q (F0 m tgt ls rest)) (kf : True → W p l e R s m args below meth c H locs cells slots Q (F0 m (pc + 3) ls rest)) : W p l e R s m args below meth c H locs cells slots Q (F0 m pc ls (.int (nI a) :: rest)) := lv_if_lt hexec hcb hdg ht (fun q => kt (nI_pos ha q)) (fun _ => kf trivial)
theorem hv_if_ge (hexec : p.tables.exec = Jvm.exec) (hcb : c.code = cc) {a : Nat} {off : Int} {tgt : Nat} (ha : a < 2 ^ 31) (hdg : decode cc pc = .ok (.ifCond .ge off, 3)) (ht : (pc : Int) + off = (tgt : Int)) (kt : True → W p l e R s m args below meth c H locs cells slots Q (F0 m tgt ls rest)) (kf : False → W p l e R s m args below meth c H locs cells slots Q (F0 m (pc + 3) ls rest)) : W p l e R s m args below meth c H locs cells slots Q (F0 m pc ls (.int (nI a) :: rest)) := lv_if_ge hexec hcb hdg ht (fun _ => kt trivial) (fun q => kf (q (nI_pos' ha)))
theorem hv_if_gt (hexec : p.tables.exec = Jvm.exec) (hcb : c.code = cc) {a : Nat} {off : Int} {tgt : Nat} (ha : a < 2 ^ 31) (hdg : decode cc pc = .ok (.ifCond .gt off, 3)) (ht : (pc : Int) + off = (tgt : Int)) (kt : 0 < a → W p l e R s m args below meth c H locs cells slots Q (F0 m tgt ls rest)) (kf : a = 0 → W p l e R s m args below meth c H locs cells slots Q (F0 m (pc + 3) ls rest)) : W p l e R s m args below meth c H locs cells slots Q (F0 m pc ls (.int (nI a) :: rest)) := lv_if_gt hexec hcb hdg ht (fun q => kt ((Nat.eq_zero_or_pos a).elim (fun z => absurd (show (0 : Int32) < nI 0 by rw [← z]; exact q) (by decide)) (fun z => z))) (fun q => kf ((Nat.eq_zero_or_pos a).elim (fun z => z) (fun z => absurd (show (0 : Int32) < nI a by rw [← nI_0]; exact nI_lt z ha) q)))
theorem hv_if_le (hexec : p.tables.exec = Jvm.exec) (hcb : c.code = cc) {a : Nat} {off : Int} {tgt : Nat} (ha : a < 2 ^ 31) (hdg : decode cc pc = .ok (.ifCond .le off, 3)) (ht : (pc : Int) + off = (tgt : Int)) (kt : a = 0 → W p l e R s m args below meth c H locs cells slots Q (F0 m tgt ls rest)) (kf : 0 < a → W p l e R s m args below meth c H locs cells slots Q (F0 m (pc + 3) ls rest)) : W p l e R s m args below meth c H locs cells slots Q (F0 m pc ls (.int (nI a) :: rest)) := lv_if_le hexec hcb hdg ht (fun q => kt ((Nat.eq_zero_or_pos a).elim (fun z => z) (fun z => absurd q (nI_nle z ha)))) (fun q => kf ((Nat.eq_zero_or_pos a).elim (fun z => absurd (show nI a ≤ 0 by rw [z]; decide) q) (fun z => z)))
end HPB
theorem hv_ld {g : Nat → Nat} {k : Nat} (hk : k < 2 ^ 31) : (fun j => nI (g j)) (nI k).toNatClampNeg = nI (g k) := by rw [nI_clamp hk]
theorem hv_upd {g : Nat → Nat} {k v : Nat} (hk : k < 2 ^ 31) : upd (fun j => nI (g j)) (nI k).toNatClampNeg (nI v) = fun j => nI (va_up g k v j) := by
  rw [nI_clamp hk]
  funext j
  by_cases h : j = k
  · subst h; simp [upd, va_up]
  · simp [upd, va_up, h]
/-- the content of an array counts below its length alone -/
theorem hp.arr {D : va_G} {A : Nat → Prop} {φ : hpM} {H : Heap} {a n : Nat} {cA : ClassId} {f g : Nat → Int32} (h : hp D A φ H) (he : φ a = some (.inl (cA, n, .inl f))) (hfg : ∀ j, j < n → f j = g j) : hp D A (ups φ a (.inl (cA, n, .inl g))) H := by
  refine h.set he ?_ (fun _ _ => rfl)
  have h1 : H[a]? = some (vp_cell cA (n, .inl f)) := (h a _ he).1
  show H[a]? = some (vp_cell cA (n, .inl g))
  rw [h1, vp_cell_i, vp_cell_i]
  unfold arrV
  have e : (fun j : Fin n => Value.int (f j.val)) = fun j : Fin n => Value.int (g j.val) := funext fun j => by rw [hfg j.val j.isLt]
  rw [e]
/-- an array's zeros -/
def zr : Nat → Nat := fun _ => 0
/-- the sum of the first places -/
def smN (g : Nat → Nat) : Nat → Nat
  | 0 => 0
  | k + 1 => smN g k + g k
theorem smN_le {g : Nat → Nat} {M : Nat} (h : ∀ j, g j ≤ M) : ∀ k, smN g k ≤ M * k
  | 0 => Nat.zero_le _
  | k + 1 => by have := smN_le h k; have := h k; rw [Nat.mul_succ]; simp only [smN]; omega
end
section
/-! What stands still: the enums, their texts, the statics that nobody writes, the words of nest mates; and the form of a contract over a map. -/
def fAcr (k : Nat) : Nat := [8, 10, 5, 7].getD k 0
def fAlo (k : Nat) : Nat := [6, 9, 5, 6].getD k 0
def fStr (k : Nat) : Nat := [20, 15, 35, 25].getD k 0
def fAir (k : Nat) : Nat := [8, 2, 5, 12].getD k 0
def fPro (k : Nat) : Nat := [2147483647, 5, 2].getD k 0
def sGai (k : Nat) : Nat := [6, 4, 6, 9].getD k 0
def sLes (k : Nat) : Nat := [0, 0, 1, 0].getD k 0
/-- the words: furs 0 to 3, feathers 4 to 6, spirals 7 to 10 -/
def wdT (i : Nat) : List Nat := [[114, 97, 98, 98, 105, 116], [119, 111, 111, 108], [98, 101, 97, 118, 101, 114], [104, 97, 114, 101], [111, 115, 116, 114, 105, 99, 104], [101, 103, 114, 101, 116], [101, 97, 103, 108, 101], [102, 108, 97, 116], [99, 111, 110, 101], [100, 111, 109, 101], [98, 114, 105, 109]].getD i []
/-- a text that stands still at q, its bytes at v -/
def Sw (w : List Nat) (q v : Nat) (A : Nat → Prop) (U : State) (H : Heap) : Prop := va_O "java/lang/String" q A U H ∧ va_OF "java/lang/String" "coder" "B" (.int 0) q A U H ∧ va_OF "java/lang/String" "value" "[B" (.ref v) q A U H ∧ va_T .byte v w.length (fun j => .int (nI (w.getD j 0))) A U H
/-- what a fact that stands still keeps: through a call, in a heap where its own cells are as they were, seen with fewer cells to change -/
def SF (P : (Nat → Prop) → State → Heap → Prop) : Prop := ∀ (A B : Nat → Prop) (u U : State) (H H1 : Heap), u.WarmedH U.vm → (∀ a : Nat, a < H.size → ¬ A a → H1[a]? = H[a]?) → (∀ q, B q → A q) → P A u H → P B U H1
theorem SF.and {P R : (Nat → Prop) → State → Heap → Prop} (hP : SF P) (hR : SF R) : SF (fun A U H => P A U H ∧ R A U H) := fun A B u U H H1 hW hk hB h => ⟨hP A B u U H H1 hW hk hB h.1, hR A B u U H H1 hW hk hB h.2⟩
theorem SF.all {P : Nat → (Nat → Prop) → State → Heap → Prop} {N : Nat} (hP : ∀ i, SF (P i)) : SF (fun A U H => ∀ i, i < N → P i A U H) := fun A B u U H H1 hW hk hB h i hi => hP i A B u U H H1 hW hk hB (h i hi)
theorem SF.o {E : String} {t : Nat} : SF (fun A U H => va_O E t A U H) := fun _ _ _ _ _ _ hW hk hB h => ((h.kept hk).moved hW.alike).narrow hB
theorem SF.of {o n d : String} {v : Value} {t : Nat} : SF (fun A U H => va_OF o n d v t A U H) := fun _ _ _ _ _ _ hW hk hB h => ((h.kept hk).moved hW.alike).narrow hB
theorem SF.ef {N : Nat} {o n d : String} {v : Nat → Value} {ad : Nat → Nat} : SF (fun A U H => va_Ef N o n d v ad A U H) := fun _ _ _ _ _ _ hW hk hB h => ((h.kept hk).moved hW.alike).narrow hB
theorem SF.z {C n d : String} {v : Value} : SF (fun A U H => va_Z C n d v A U H) := fun _ _ _ _ _ _ hW hk hB h => ((h.kept hk).moved hW.alike).narrow hB
theorem SF.zq {C n d : String} : SF (fun A U H => va_Zq C n d A U H) := fun _ _ _ _ _ _ hW hk hB h => ((h.kept hk).moved hW.alike).narrow hB
theorem SF.xq {C n d : String} : SF (fun A U H => vx_Zq C n d A U H) := fun _ _ _ _ _ _ hW hk hB h => ((h.kept hk).moved hW.alike).narrow hB
theorem SF.t {ty : FieldType} {t N : Nat} {f : Nat → Value} : SF (fun A U H => va_T ty t N f A U H) := fun _ _ _ _ _ _ hW hk hB h => ((h.kept hk).moved hW.alike).narrow hB
theorem SF.sw {w : List Nat} {q v : Nat} : SF (fun A U H => Sw w q v A U H) := SF.and SF.o (SF.and SF.of (SF.and SF.of SF.t))
theorem SF.r {own tx : String} {k a : Nat} : SF (fun _ U _ => vk_R own k tx a U) := fun _ _ _ _ _ _ hW _ _ h => h.warm hW
theorem SF.ao {C : String} : SF (fun _ U _ => va_AO C U) := fun _ _ _ _ _ _ hW _ _ h => h.moved hW.alike
def nestW : List Cond := [.methodLinkNest "HatbandYard" 42 ⟨"HatbandYard$Head", "<init>", "()V"⟩ "HatbandYard", .methodLinkNest "HatbandYard" 86 ⟨"HatbandYard$Lot", "<init>", "(LHatbandYard$Fur;I)V"⟩ "HatbandYard", .methodLinkNest "HatbandYard" 107 ⟨"HatbandYard$Cone", "<init>", "(LHatbandYard$Fur;II)V"⟩ "HatbandYard", .methodLinkNest "HatbandYard" 110 ⟨"HatbandYard$Hand", "<init>", "()V"⟩ "HatbandYard", .methodLinkNest "HatbandYard" 139 ⟨"HatbandYard$Hand", "breathe", "(I)V"⟩ "HatbandYard", .methodLinkNest "HatbandYard" 143 ⟨"HatbandYard$Cone", "shrink", "()V"⟩ "HatbandYard", .methodLinkNest "HatbandYard$Cone" 52 ⟨"HatbandYard$Fur", "shrunkAcross", "(I)I"⟩ "HatbandYard", .methodLinkNest "HatbandYard$Cone" 57 ⟨"HatbandYard$Fur", "shrunkAlong", "(I)I"⟩ "HatbandYard", .methodLinkNest "HatbandYard" 146 ⟨"HatbandYard$Cone", "widthOf", "(I)I"⟩ "HatbandYard", .methodLinkNest "HatbandYard" 150 ⟨"HatbandYard$Block", "<init>", "(II)V"⟩ "HatbandYard", .methodLinkNest "HatbandYard" 156 ⟨"HatbandYard$Cone", "refusalOf", "(LHatbandYard$Block;)I"⟩ "HatbandYard", .methodLinkNest "HatbandYard$Cone" 64 ⟨"HatbandYard$Block", "widthFor", "(I)I"⟩ "HatbandYard", .methodLinkNest "HatbandYard" 160 ⟨"HatbandYard$Cone", "stretchOver", "(LHatbandYard$Block;)V"⟩ "HatbandYard", .methodLinkNest "HatbandYard" 177 ⟨"HatbandYard$Feather", "isAllowedIn", "(I)Z"⟩ "HatbandYard", .methodLinkNest "HatbandYard" 189 ⟨"HatbandYard$Cone", "gramsOf", "(I)I"⟩ "HatbandYard", .methodLinkNest "HatbandYard" 192 ⟨"HatbandYard$Cone", "thicknessOf", "(I)I"⟩ "HatbandYard", .methodLinkNest "HatbandYard" 195 ⟨"HatbandYard$Cone", "widthFollowed", "(I)I"⟩ "HatbandYard", .methodLinkNest "HatbandYard" 207 ⟨"HatbandYard$Spiral", "stitchesRowByRow", "(I)I"⟩ "HatbandYard", .methodLinkNest "HatbandYard" 212 ⟨"HatbandYard$Spiral", "stitchesAtOnce", "(I)I"⟩ "HatbandYard", .methodLinkNest "HatbandYard" 215 ⟨"HatbandYard$Spiral", "rowsToClose", "(I)I"⟩ "HatbandYard", .methodLinkNest "HatbandYard" 218 ⟨"HatbandYard$Head", "setRadius", "(II)V"⟩ "HatbandYard", .methodLinkNest "HatbandYard" 221 ⟨"HatbandYard$Head", "around", "()I"⟩ "HatbandYard", .methodLinkNest "HatbandYard" 224 ⟨"HatbandYard$Head", "sizeIn", "(I)F"⟩ "HatbandYard", .fieldLinkNest "HatbandYard" 103 "HatbandYard$Lot" "fur" "LHatbandYard$Fur;" "HatbandYard", .fieldLinkNest "HatbandYard" 93 "HatbandYard$Lot" "gramsLeft" "I" "HatbandYard", .fieldLinkNest "HatbandYard" 122 "HatbandYard$Cone" "fur" "LHatbandYard$Fur;" "HatbandYard", .fieldLinkNest "HatbandYard" 186 "HatbandYard$Cone" "height" "I" "HatbandYard", .fieldLinkNest "HatbandYard" 136 "HatbandYard$Cone" "cycleCount" "I" "HatbandYard", .fieldLinkNest "HatbandYard" 130 "HatbandYard$Cone" "lastBlock" "LHatbandYard$Block;" "HatbandYard", .fieldLinkNest "HatbandYard" 164 "HatbandYard$Cone" "isTrimmed" "Z" "HatbandYard", .fieldLinkNest "HatbandYard" 119 "HatbandYard$Hand" "airToday" "I" "HatbandYard", .fieldLinkNest "HatbandYard" 228 "HatbandYard$Hand" "airEver" "I" "HatbandYard", .fieldLinkNest "HatbandYard" 255 "HatbandYard$Fur" "word" "Ljava/lang/String;" "HatbandYard", .fieldLinkNest "HatbandYard" 123 "HatbandYard$Fur" "airOfCycle" "I" "HatbandYard", .fieldLinkNest "HatbandYard$Cone" 76 "HatbandYard$Fur" "strain" "I" "HatbandYard", .fieldLinkNest "HatbandYard" 267 "HatbandYard$Feather" "word" "Ljava/lang/String;" "HatbandYard", .fieldLinkNest "HatbandYard" 272 "HatbandYard$Spiral" "word" "Ljava/lang/String;" "HatbandYard"]
theorem SF.nest : SF (fun _ U _ => ∀ w ∈ nestW, va_Nw w U) := by
  intro _ _ u U _ _ hW _ _ h
  have hM : ∀ {a : String} {i : Nat} {x : MethodName} {g : String}, va_Nw (.methodLinkNest a i x g) u → va_Nw (.methodLinkNest a i x g) U := fun h => va_Nw.warmM hW h
  have hF : ∀ {a : String} {i : Nat} {b n d g : String}, va_Nw (.fieldLinkNest a i b n d g) u → va_Nw (.fieldLinkNest a i b n d g) U := fun h => va_Nw.warmF hW h
  simp only [nestW, List.forall_mem_cons] at h ⊢
  obtain ⟨h0, h1, h2, h3, h4, h5, h6, h7, h8, h9, h10, h11, h12, h13, h14, h15, h16, h17, h18, h19, h20, h21, h22, h23, h24, h25, h26, h27, h28, h29, h30, h31, h32, h33, h34, h35, h36, -⟩ := h
  exact ⟨hM h0, hM h1, hM h2, hM h3, hM h4, hM h5, hM h6, hM h7, hM h8, hM h9, hM h10, hM h11, hM h12, hM h13, hM h14, hM h15, hM h16, hM h17, hM h18, hM h19, hM h20, hM h21, hM h22, hF h23, hF h24, hF h25, hF h26, hF h27, hF h28, hF h29, hF h30, hF h31, hF h32, hF h33, hF h34, hF h35, hF h36, fun _ h => absurd h List.not_mem_nil⟩
/-- words of the tables that are not among the common ones -/
def tabW : List Cond := [(Jvm.Cond.castable "java/lang/IllegalArgumentException" "java/lang/IllegalArgumentException"), (Jvm.Cond.declares ({ cls := "java/lang/RuntimeException", name := "<init>", desc := "()V" } : Jvm.MethodName)), (Jvm.Cond.declares ({ cls := "java/lang/RuntimeException", name := "<init>", desc := "(Ljava/lang/String;)V" } : Jvm.MethodName)), (Jvm.Cond.declares ({ cls := "java/lang/Exception", name := "<init>", desc := "()V" } : Jvm.MethodName)), (Jvm.Cond.declares ({ cls := "java/lang/Exception", name := "<init>", desc := "(Ljava/lang/String;)V" } : Jvm.MethodName)), (Jvm.Cond.declares ({ cls := "java/lang/Throwable", name := "<init>", desc := "()V" } : Jvm.MethodName)), (Jvm.Cond.declares ({ cls := "java/lang/Throwable", name := "<init>", desc := "(Ljava/lang/String;)V" } : Jvm.MethodName)), (Jvm.Cond.castable "java/lang/IllegalStateException" "java/lang/IllegalStateException"), (Jvm.Cond.castable "[B" "java/lang/Cloneable"), (Jvm.Cond.castable "java/lang/ArrayIndexOutOfBoundsException" "java/lang/ArrayIndexOutOfBoundsException"), (Jvm.Cond.declares ({ cls := "java/lang/IndexOutOfBoundsException", name := "<init>", desc := "()V" } : Jvm.MethodName)), (Jvm.Cond.declares ({ cls := "java/lang/IndexOutOfBoundsException", name := "<init>", desc := "(Ljava/lang/String;)V" } : Jvm.MethodName)), (Jvm.Cond.castable "java/lang/IndexOutOfBoundsException" "java/lang/IndexOutOfBoundsException"), (Jvm.Cond.castable "java/lang/ArrayIndexOutOfBoundsException" "java/lang/IndexOutOfBoundsException"), (Jvm.Cond.castable "java/lang/StringIndexOutOfBoundsException" "java/lang/IndexOutOfBoundsException")]
theorem SF.tabs : SF (fun _ U _ => ∀ w ∈ tabW, va_Nw w U) := by
  intro _ _ u U _ _ hW _ _ h
  have hC : ∀ {a b : String}, va_Nw (.castable a b) u → va_Nw (.castable a b) U := fun h => va_Nw.warmC hW h
  have hD : ∀ {x : MethodName}, va_Nw (.declares x) u → va_Nw (.declares x) U := fun h => va_Nw.warmD hW h
  simp only [tabW, List.forall_mem_cons] at h ⊢
  obtain ⟨h0, h1, h2, h3, h4, h5, h6, h7, h8, h9, h10, h11, h12, h13, h14, -⟩ := h
  exact ⟨hC h0, hD h1, hD h2, hD h3, hD h4, hD h5, hD h6, hC h7, hC h8, hC h9, hD h10, hD h11, hC h12, hC h13, hC h14, fun _ h => absurd h List.not_mem_nil⟩
/-- ga: 0, 1, 2: the constants of Fur, Feather, Spiral; 3, 4: their texts and the texts' bytes; 5: the arrays of the constants; 6: the texts of what is thrown -/
def Sx (ga : Nat → Nat → Nat) (A : Nat → Prop) (U : State) (H : Heap) : Prop := (∀ i, i < 4 → va_O RX3 (ga 0 i) A U H) ∧ (∀ i, i < 3 → va_O RX2 (ga 1 i) A U H) ∧ (∀ i, i < 4 → va_O RX7 (ga 2 i) A U H) ∧ (va_Ef 4 RX3 "lessAcross" "I" (fun i => .int (nI (fAcr i))) (ga 0) A U H) ∧ (va_Ef 4 RX3 "lessAlong" "I" (fun i => .int (nI (fAlo i))) (ga 0) A U H) ∧ (va_Ef 4 RX3 "strain" "I" (fun i => .int (nI (fStr i))) (ga 0) A U H) ∧ (va_Ef 4 RX3 "airOfCycle" "I" (fun i => .int (nI (fAir i))) (ga 0) A U H) ∧ (va_Ef 4 RX3 "word" "Ljava/lang/String;" (fun i => .ref (ga 3 i)) (ga 0) A U H) ∧ (va_Ef 3 RX2 "protectedFrom" "I" (fun i => .int (nI (fPro i))) (ga 1) A U H) ∧ (va_Ef 3 RX2 "word" "Ljava/lang/String;" (fun i => .ref (ga 3 (4 + i))) (ga 1) A U H) ∧ (va_Ef 4 RX7 "firstGain" "I" (fun i => .int (nI (sGai i))) (ga 2) A U H) ∧ (va_Ef 4 RX7 "gainsLess" "Z" (fun i => .int (nI (sLes i))) (ga 2) A U H) ∧ (va_Ef 4 RX7 "word" "Ljava/lang/String;" (fun i => .ref (ga 3 (7 + i))) (ga 2) A U H) ∧ (∀ i, i < 11 → Sw (wdT i) (ga 3 i) (ga 4 i) A U H) ∧ (va_Z RX8 "FURS" "[LHatbandYard$Fur;" (.ref (ga 5 0)) A U H) ∧ (va_T (.object RX3) (ga 5 0) 4 (fun j => .ref (ga 0 j)) A U H) ∧ (va_Z RX8 "FEATHERS" "[LHatbandYard$Feather;" (.ref (ga 5 1)) A U H) ∧ (va_T (.object RX2) (ga 5 1) 3 (fun j => .ref (ga 1 j)) A U H) ∧ (va_Z RX8 "SPIRALS" "[LHatbandYard$Spiral;" (.ref (ga 5 2)) A U H) ∧ (va_T (.object RX7) (ga 5 2) 4 (fun j => .ref (ga 2 j)) A U H) ∧ (va_Z "java/lang/String" "COMPACT_STRINGS" "Z" (.int 1) A U H) ∧ (va_Zq "jdk/internal/util/Preconditions" "SIOOBE_FORMATTER" "Ljava/util/function/BiFunction;" A U H) ∧ (vx_Zq Bundle.tN "UNASSIGNED_STACK" Bundle.steD A U H) ∧ (vx_Zq Bundle.tN "SUPPRESSED_SENTINEL" Bundle.listD A U H) ∧ (vk_R RX8 98 "the lot has not so much" (ga 6 0) U) ∧ (vk_R RX8 128 "too much air for the hand today" (ga 6 1) U) ∧ (vk_R RX8 134 "the cone was drawn over a block" (ga 6 2) U) ∧ (vk_R RX8 168 "the cone is trimmed" (ga 6 3) U) ∧ (vk_R RX8 233 "an argument is out of its range" (ga 6 4) U) ∧ (vk_R RX8 236 "there are as many as there may be" (ga 6 5) U) ∧ (vk_R RX8 240 "there is no such number" (ga 6 6) U) ∧ (vk_R RX8 243 "there is no such lot" (ga 6 7) U) ∧ (vk_R RX8 245 "there is no such cone" (ga 6 8) U) ∧ (vk_R RX8 247 "there is no such hand" (ga 6 9) U) ∧ (vk_R RX8 249 "there is no such block" (ga 6 10) U) ∧ (va_AO RX0 U) ∧ (va_AO RX1 U) ∧ (va_AO RX4 U) ∧ (va_AO RX6 U) ∧ (∀ w ∈ tabW, va_Nw w U) ∧ (∀ w ∈ nestW, va_Nw w U)
theorem SF.sx {ga : Nat → Nat → Nat} : SF (fun A U H => Sx ga A U H) := SF.and (SF.all (fun _ => SF.o)) (SF.and (SF.all (fun _ => SF.o)) (SF.and (SF.all (fun _ => SF.o)) (SF.and (SF.ef) (SF.and (SF.ef) (SF.and (SF.ef) (SF.and (SF.ef) (SF.and (SF.ef) (SF.and (SF.ef) (SF.and (SF.ef) (SF.and (SF.ef) (SF.and (SF.ef) (SF.and (SF.ef) (SF.and (SF.all (fun _ => SF.sw)) (SF.and (SF.z) (SF.and (SF.t) (SF.and (SF.z) (SF.and (SF.t) (SF.and (SF.z) (SF.and (SF.t) (SF.and (SF.z) (SF.and (SF.zq) (SF.and (SF.xq) (SF.and (SF.xq) (SF.and (SF.r) (SF.and (SF.r) (SF.and (SF.r) (SF.and (SF.r) (SF.and (SF.r) (SF.and (SF.r) (SF.and (SF.r) (SF.and (SF.r) (SF.and (SF.r) (SF.and (SF.r) (SF.and (SF.r) (SF.and (SF.ao) (SF.and (SF.ao) (SF.and (SF.ao) (SF.and (SF.ao) (SF.and (SF.tabs) (SF.nest))))))))))))))))))))))))))))))))))))))))
theorem Sx.furO {ga : Nat → Nat → Nat} {A : Nat → Prop} {U : State} {H : Heap} (h : Sx ga A U H) : ∀ i, i < 4 → va_O RX3 (ga 0 i) A U H := h.1
theorem Sx.feaO {ga : Nat → Nat → Nat} {A : Nat → Prop} {U : State} {H : Heap} (h : Sx ga A U H) : ∀ i, i < 3 → va_O RX2 (ga 1 i) A U H := h.2.1
theorem Sx.spiO {ga : Nat → Nat → Nat} {A : Nat → Prop} {U : State} {H : Heap} (h : Sx ga A U H) : ∀ i, i < 4 → va_O RX7 (ga 2 i) A U H := h.2.2.1
theorem Sx.fur_lessAcross {ga : Nat → Nat → Nat} {A : Nat → Prop} {U : State} {H : Heap} (h : Sx ga A U H) : va_Ef 4 RX3 "lessAcross" "I" (fun i => .int (nI (fAcr i))) (ga 0) A U H := h.2.2.2.1
theorem Sx.fur_lessAlong {ga : Nat → Nat → Nat} {A : Nat → Prop} {U : State} {H : Heap} (h : Sx ga A U H) : va_Ef 4 RX3 "lessAlong" "I" (fun i => .int (nI (fAlo i))) (ga 0) A U H := h.2.2.2.2.1
theorem Sx.fur_strain {ga : Nat → Nat → Nat} {A : Nat → Prop} {U : State} {H : Heap} (h : Sx ga A U H) : va_Ef 4 RX3 "strain" "I" (fun i => .int (nI (fStr i))) (ga 0) A U H := h.2.2.2.2.2.1
theorem Sx.fur_airOfCycle {ga : Nat → Nat → Nat} {A : Nat → Prop} {U : State} {H : Heap} (h : Sx ga A U H) : va_Ef 4 RX3 "airOfCycle" "I" (fun i => .int (nI (fAir i))) (ga 0) A U H := h.2.2.2.2.2.2.1
theorem Sx.fur_word {ga : Nat → Nat → Nat} {A : Nat → Prop} {U : State} {H : Heap} (h : Sx ga A U H) : va_Ef 4 RX3 "word" "Ljava/lang/String;" (fun i => .ref (ga 3 i)) (ga 0) A U H := h.2.2.2.2.2.2.2.1
theorem Sx.fea_pro {ga : Nat → Nat → Nat} {A : Nat → Prop} {U : State} {H : Heap} (h : Sx ga A U H) : va_Ef 3 RX2 "protectedFrom" "I" (fun i => .int (nI (fPro i))) (ga 1) A U H := h.2.2.2.2.2.2.2.2.1
theorem Sx.fea_word {ga : Nat → Nat → Nat} {A : Nat → Prop} {U : State} {H : Heap} (h : Sx ga A U H) : va_Ef 3 RX2 "word" "Ljava/lang/String;" (fun i => .ref (ga 3 (4 + i))) (ga 1) A U H := h.2.2.2.2.2.2.2.2.2.1
theorem Sx.spi_gain {ga : Nat → Nat → Nat} {A : Nat → Prop} {U : State} {H : Heap} (h : Sx ga A U H) : va_Ef 4 RX7 "firstGain" "I" (fun i => .int (nI (sGai i))) (ga 2) A U H := h.2.2.2.2.2.2.2.2.2.2.1
theorem Sx.spi_less {ga : Nat → Nat → Nat} {A : Nat → Prop} {U : State} {H : Heap} (h : Sx ga A U H) : va_Ef 4 RX7 "gainsLess" "Z" (fun i => .int (nI (sLes i))) (ga 2) A U H := h.2.2.2.2.2.2.2.2.2.2.2.1
theorem Sx.spi_word {ga : Nat → Nat → Nat} {A : Nat → Prop} {U : State} {H : Heap} (h : Sx ga A U H) : va_Ef 4 RX7 "word" "Ljava/lang/String;" (fun i => .ref (ga 3 (7 + i))) (ga 2) A U H := h.2.2.2.2.2.2.2.2.2.2.2.2.1
theorem Sx.words {ga : Nat → Nat → Nat} {A : Nat → Prop} {U : State} {H : Heap} (h : Sx ga A U H) : ∀ i, i < 11 → Sw (wdT i) (ga 3 i) (ga 4 i) A U H := h.2.2.2.2.2.2.2.2.2.2.2.2.2.1
theorem Sx.z_FURS {ga : Nat → Nat → Nat} {A : Nat → Prop} {U : State} {H : Heap} (h : Sx ga A U H) : va_Z RX8 "FURS" "[LHatbandYard$Fur;" (.ref (ga 5 0)) A U H := h.2.2.2.2.2.2.2.2.2.2.2.2.2.2.1
theorem Sx.t_FURS {ga : Nat → Nat → Nat} {A : Nat → Prop} {U : State} {H : Heap} (h : Sx ga A U H) : va_T (.object RX3) (ga 5 0) 4 (fun j => .ref (ga 0 j)) A U H := h.2.2.2.2.2.2.2.2.2.2.2.2.2.2.2.1
theorem Sx.z_FEATHERS {ga : Nat → Nat → Nat} {A : Nat → Prop} {U : State} {H : Heap} (h : Sx ga A U H) : va_Z RX8 "FEATHERS" "[LHatbandYard$Feather;" (.ref (ga 5 1)) A U H := h.2.2.2.2.2.2.2.2.2.2.2.2.2.2.2.2.1
theorem Sx.t_FEATHERS {ga : Nat → Nat → Nat} {A : Nat → Prop} {U : State} {H : Heap} (h : Sx ga A U H) : va_T (.object RX2) (ga 5 1) 3 (fun j => .ref (ga 1 j)) A U H := h.2.2.2.2.2.2.2.2.2.2.2.2.2.2.2.2.2.1
theorem Sx.z_SPIRALS {ga : Nat → Nat → Nat} {A : Nat → Prop} {U : State} {H : Heap} (h : Sx ga A U H) : va_Z RX8 "SPIRALS" "[LHatbandYard$Spiral;" (.ref (ga 5 2)) A U H := h.2.2.2.2.2.2.2.2.2.2.2.2.2.2.2.2.2.2.1
theorem Sx.t_SPIRALS {ga : Nat → Nat → Nat} {A : Nat → Prop} {U : State} {H : Heap} (h : Sx ga A U H) : va_T (.object RX7) (ga 5 2) 4 (fun j => .ref (ga 2 j)) A U H := h.2.2.2.2.2.2.2.2.2.2.2.2.2.2.2.2.2.2.2.1
theorem Sx.compact {ga : Nat → Nat → Nat} {A : Nat → Prop} {U : State} {H : Heap} (h : Sx ga A U H) : va_Z "java/lang/String" "COMPACT_STRINGS" "Z" (.int 1) A U H := h.2.2.2.2.2.2.2.2.2.2.2.2.2.2.2.2.2.2.2.2.1
theorem Sx.sioobe {ga : Nat → Nat → Nat} {A : Nat → Prop} {U : State} {H : Heap} (h : Sx ga A U H) : va_Zq "jdk/internal/util/Preconditions" "SIOOBE_FORMATTER" "Ljava/util/function/BiFunction;" A U H := h.2.2.2.2.2.2.2.2.2.2.2.2.2.2.2.2.2.2.2.2.2.1
theorem Sx.thrU {ga : Nat → Nat → Nat} {A : Nat → Prop} {U : State} {H : Heap} (h : Sx ga A U H) : vx_Zq Bundle.tN "UNASSIGNED_STACK" Bundle.steD A U H := h.2.2.2.2.2.2.2.2.2.2.2.2.2.2.2.2.2.2.2.2.2.2.1
theorem Sx.thrN {ga : Nat → Nat → Nat} {A : Nat → Prop} {U : State} {H : Heap} (h : Sx ga A U H) : vx_Zq Bundle.tN "SUPPRESSED_SENTINEL" Bundle.listD A U H := h.2.2.2.2.2.2.2.2.2.2.2.2.2.2.2.2.2.2.2.2.2.2.2.1
theorem Sx.tx98 {ga : Nat → Nat → Nat} {A : Nat → Prop} {U : State} {H : Heap} (h : Sx ga A U H) : vk_R RX8 98 "the lot has not so much" (ga 6 0) U := h.2.2.2.2.2.2.2.2.2.2.2.2.2.2.2.2.2.2.2.2.2.2.2.2.1
theorem Sx.tx128 {ga : Nat → Nat → Nat} {A : Nat → Prop} {U : State} {H : Heap} (h : Sx ga A U H) : vk_R RX8 128 "too much air for the hand today" (ga 6 1) U := h.2.2.2.2.2.2.2.2.2.2.2.2.2.2.2.2.2.2.2.2.2.2.2.2.2.1
theorem Sx.tx134 {ga : Nat → Nat → Nat} {A : Nat → Prop} {U : State} {H : Heap} (h : Sx ga A U H) : vk_R RX8 134 "the cone was drawn over a block" (ga 6 2) U := h.2.2.2.2.2.2.2.2.2.2.2.2.2.2.2.2.2.2.2.2.2.2.2.2.2.2.1
theorem Sx.tx168 {ga : Nat → Nat → Nat} {A : Nat → Prop} {U : State} {H : Heap} (h : Sx ga A U H) : vk_R RX8 168 "the cone is trimmed" (ga 6 3) U := h.2.2.2.2.2.2.2.2.2.2.2.2.2.2.2.2.2.2.2.2.2.2.2.2.2.2.2.1
theorem Sx.tx233 {ga : Nat → Nat → Nat} {A : Nat → Prop} {U : State} {H : Heap} (h : Sx ga A U H) : vk_R RX8 233 "an argument is out of its range" (ga 6 4) U := h.2.2.2.2.2.2.2.2.2.2.2.2.2.2.2.2.2.2.2.2.2.2.2.2.2.2.2.2.1
theorem Sx.tx236 {ga : Nat → Nat → Nat} {A : Nat → Prop} {U : State} {H : Heap} (h : Sx ga A U H) : vk_R RX8 236 "there are as many as there may be" (ga 6 5) U := h.2.2.2.2.2.2.2.2.2.2.2.2.2.2.2.2.2.2.2.2.2.2.2.2.2.2.2.2.2.1
theorem Sx.tx240 {ga : Nat → Nat → Nat} {A : Nat → Prop} {U : State} {H : Heap} (h : Sx ga A U H) : vk_R RX8 240 "there is no such number" (ga 6 6) U := h.2.2.2.2.2.2.2.2.2.2.2.2.2.2.2.2.2.2.2.2.2.2.2.2.2.2.2.2.2.2.1
theorem Sx.tx243 {ga : Nat → Nat → Nat} {A : Nat → Prop} {U : State} {H : Heap} (h : Sx ga A U H) : vk_R RX8 243 "there is no such lot" (ga 6 7) U := h.2.2.2.2.2.2.2.2.2.2.2.2.2.2.2.2.2.2.2.2.2.2.2.2.2.2.2.2.2.2.2.1
theorem Sx.tx245 {ga : Nat → Nat → Nat} {A : Nat → Prop} {U : State} {H : Heap} (h : Sx ga A U H) : vk_R RX8 245 "there is no such cone" (ga 6 8) U := h.2.2.2.2.2.2.2.2.2.2.2.2.2.2.2.2.2.2.2.2.2.2.2.2.2.2.2.2.2.2.2.2.1
theorem Sx.tx247 {ga : Nat → Nat → Nat} {A : Nat → Prop} {U : State} {H : Heap} (h : Sx ga A U H) : vk_R RX8 247 "there is no such hand" (ga 6 9) U := h.2.2.2.2.2.2.2.2.2.2.2.2.2.2.2.2.2.2.2.2.2.2.2.2.2.2.2.2.2.2.2.2.2.1
theorem Sx.tx249 {ga : Nat → Nat → Nat} {A : Nat → Prop} {U : State} {H : Heap} (h : Sx ga A U H) : vk_R RX8 249 "there is no such block" (ga 6 10) U := h.2.2.2.2.2.2.2.2.2.2.2.2.2.2.2.2.2.2.2.2.2.2.2.2.2.2.2.2.2.2.2.2.2.2.1
theorem Sx.ao0 {ga : Nat → Nat → Nat} {A : Nat → Prop} {U : State} {H : Heap} (h : Sx ga A U H) : va_AO RX0 U := h.2.2.2.2.2.2.2.2.2.2.2.2.2.2.2.2.2.2.2.2.2.2.2.2.2.2.2.2.2.2.2.2.2.2.2.1
theorem Sx.ao1 {ga : Nat → Nat → Nat} {A : Nat → Prop} {U : State} {H : Heap} (h : Sx ga A U H) : va_AO RX1 U := h.2.2.2.2.2.2.2.2.2.2.2.2.2.2.2.2.2.2.2.2.2.2.2.2.2.2.2.2.2.2.2.2.2.2.2.2.1
theorem Sx.ao4 {ga : Nat → Nat → Nat} {A : Nat → Prop} {U : State} {H : Heap} (h : Sx ga A U H) : va_AO RX4 U := h.2.2.2.2.2.2.2.2.2.2.2.2.2.2.2.2.2.2.2.2.2.2.2.2.2.2.2.2.2.2.2.2.2.2.2.2.2.1
theorem Sx.ao6 {ga : Nat → Nat → Nat} {A : Nat → Prop} {U : State} {H : Heap} (h : Sx ga A U H) : va_AO RX6 U := h.2.2.2.2.2.2.2.2.2.2.2.2.2.2.2.2.2.2.2.2.2.2.2.2.2.2.2.2.2.2.2.2.2.2.2.2.2.2.1
theorem Sx.tabs {ga : Nat → Nat → Nat} {A : Nat → Prop} {U : State} {H : Heap} (h : Sx ga A U H) : ∀ w ∈ tabW, va_Nw w U := h.2.2.2.2.2.2.2.2.2.2.2.2.2.2.2.2.2.2.2.2.2.2.2.2.2.2.2.2.2.2.2.2.2.2.2.2.2.2.2.1
theorem Sx.nest {ga : Nat → Nat → Nat} {A : Nat → Prop} {U : State} {H : Heap} (h : Sx ga A U H) : ∀ w ∈ nestW, va_Nw w U := h.2.2.2.2.2.2.2.2.2.2.2.2.2.2.2.2.2.2.2.2.2.2.2.2.2.2.2.2.2.2.2.2.2.2.2.2.2.2.2.2
/-- a method's start over a map φ -/
def Pre0 (D : va_G) (cA : Nat → ClassId) (ga : Nat → Nat → Nat) (φ : hpM) (sz : Nat) (U : State) : Prop := U.heap.size = sz ∧ hp D (Af φ sz) φ U.heap ∧ va_K D vwCl (tysL cA) U ∧ Sx ga (Af φ sz) U U.heap
/-- its end: the answer and the map behind it -/
def hQ (post : Option Value → hpM → Prop) (D : va_G) (A : Nat → Prop) : Array Value → State → Outcome → State → Prop := fun _ st oc t => (∃ (v : Option Value) (φ' : hpM), oc = .returned v ∧ post v φ' ∧ hp D A φ' t.heap) ∧ va_F A st t
def hX (px : String → hpM → Prop) (D : va_G) (A : Nat → Prop) : String → State → State → Prop := fun E st t => ∃ φ' : hpM, px E φ' ∧ hp D A φ' t.heap ∧ va_F A st t
abbrev hM (l : Launch) (y : MethodName) (cc : ByteArray) (maxL : Nat) (ret : Option FieldType) (rm : Room) (av : List Value) (D : va_G) (cA : Nat → ClassId) (ga : Nat → Nat → Nat) (φ : hpM) (sz : Nat) (post : Option Value → hpM → Prop) (mc ms : Nat) : Prop := Met l y (wl y cc maxL ret) rm (va_Pc av (Pre0 D cA ga φ sz)) (hQ post D (Af φ sz)) mc ms (Af φ sz)
abbrev hMX (l : Launch) (y : MethodName) (cc : ByteArray) (maxL : Nat) (ret : Option FieldType) (rm : Room) (av : List Value) (D : va_G) (cA : Nat → ClassId) (ga : Nat → Nat → Nat) (φ : hpM) (sz : Nat) (post : Option Value → hpM → Prop) (px : String → hpM → Prop) (mc ms : Nat) : Prop := vx_Met l y (wl y cc maxL ret) rm (va_Pc av (Pre0 D cA ga φ sz)) (hQ post D (Af φ sz)) (hX px D (Af φ sz)) mc ms (Af φ sz)
theorem Pre0.at {D : va_G} {cA : Nat → ClassId} {ga : Nat → Nat → Nat} {φ : hpM} {A : Nat → Prop} {s U : State} {H : Heap} {locs : List Loc} (hH : hp D A φ H) (hK : va_K D vwCl (tysL cA) s) (hX : Sx ga A s s.heap) (hS : va_S A s.heap H locs) (hA : ∀ q, s.heap.size ≤ q → A q) (hU : U.heap = H) (hW : s.WarmedH U.vm) : Pre0 D cA ga φ H.size U := by
  subst hU
  refine ⟨rfl, hH.self, va_K.moved hW.alike hK, SF.sx A _ s U s.heap U.heap hW hS.2.1 (fun q h => ?_) hX⟩
  rcases h with h | h
  · cases hc : φ q with
    | none => exact absurd hc h
    | some e => exact (hH q e hc).2
  · exact hA q (Nat.le_trans hS.1 h)
theorem Pre0.blind {D : va_G} {cA : Nat → ClassId} {ga : Nat → Nat → Nat} {φ : hpM} {sz : Nat} (av : List Value) : FrameBlind (va_Pc av (Pre0 D cA ga φ sz)) := fun a U g mk h => by
  obtain ⟨h1, h2, h3, h4, h5⟩ := h
  refine ⟨h1, h2, h3, va_K.moved (u := U) (U := U.calling g mk a) (Vm.Alike.refl U.vm) h4, ?_⟩
  exact SF.sx _ _ U (U.calling g mk a) U.heap U.heap (State.WarmedH.refl U) (fun _ _ _ => rfl) (fun _ h => h) h5
theorem af_le {D : va_G} {φ : hpM} {A : Nat → Prop} {H0 H : Heap} {locs : List Loc} (hH : hp D A φ H) (hS : va_S A H0 H locs) (hA : ∀ q, H0.size ≤ q → A q) : ∀ q, Af φ H.size q → A q := fun q h => by
  rcases h with h | h
  · cases hc : φ q with
    | none => exact absurd hc h
    | some e => exact (hH q e hc).2
  · exact hA q (Nat.le_trans hS.1 h)
theorem pre0_S {D : va_G} {cA : Nat → ClassId} {ga : Nat → Nat → Nat} {φ : hpM} {A : Nat → Prop} {s : State} {H : Heap} {locs : List Loc} {As : List Value} (hH : hp D A φ H) (hK : va_K D vwCl (tysL cA) s) (hX : Sx ga A s s.heap) (hS : va_S A s.heap H locs) (hA : ∀ q, s.heap.size ≤ q → A q) : PreS s H (va_Pc As (Pre0 D cA ga φ H.size)) As :=
  ⟨Pre0.blind As, fun _ hU hW => ⟨rfl, Pre0.at hH hK hX hS hA hU hW⟩⟩
theorem pre0_V {D : va_G} {cA : Nat → ClassId} {ga : Nat → Nat → Nat} {φ : hpM} {A : Nat → Prop} {s : State} {H : Heap} {locs : List Loc} {As : List Value} {C : String} {b : Addr} (hH : hp D A φ H) (hK : va_K D vwCl (tysL cA) s) (hX : Sx ga A s s.heap) (hS : va_S A s.heap H locs) (hA : ∀ q, s.heap.size ≤ q → A q) (hrec : ∃ cellB : Cell, H[b]? = some cellB ∧ cellB.vm.isStatics = false ∧ s.vm.findClass C = some cellB.cls) : PreV s H C b (va_Pc (.ref b :: As) (Pre0 D cA ga φ H.size)) As :=
  ⟨Pre0.blind _, hrec, fun _ hU hW => ⟨rfl, Pre0.at hH hK hX hS hA hU hW⟩⟩
theorem hp.recv {D : va_G} {A : Nat → Prop} {φ : hpM} {s : State} {H : Heap} {tys : List (ClassId × FieldType)} {a ci : Nat} {q : vw_C} {fs : List Value} (hH : hp D A φ H) (hK : va_K D vwCl tys s) (he : φ a = some (.inr (ci, fs))) (hc : vwCl[ci]? = some q) : ∃ cell : Cell, H[a]? = some cell ∧ cell.vm.isStatics = false ∧ s.vm.findClass q.1 = some cell.cls := va_recv hK (hH.p1 he) hc (q0 := 0) rfl
theorem o_recv {E : String} {t : Nat} {A : Nat → Prop} {s : State} {H : Heap} {locs : List Loc} (h : va_O E t A s s.heap) (hS : va_S A s.heap H locs) : ∃ cell : Cell, H[t]? = some cell ∧ cell.vm.isStatics = false ∧ s.vm.findClass E = some cell.cls := by
  obtain ⟨cell, h1, h2, h3, -⟩ := h.kept hS.2.1
  exact ⟨cell, h1, h2, h3⟩
/-- a contract's body, opened -/
theorem hM.of {l : Launch} {y : MethodName} {rm : Room} {av : List Value} {D : va_G} {cA : Nat → ClassId} {ga : Nat → Nat → Nat} {φ : hpM} {sz : Nat} {post : Option Value → hpM → Prop} {mc ms : Nat} {cc : ByteArray} {maxL : Nat} {ret : Option FieldType} {lv : List (Nat × Value)}
    (hy : plainName y.cls = true) (hn : (lg_sl av).length ≤ maxL) (hlv : lv_args 0 av = lv)
    (body : ∀ (p : Program) (e : Env) (s : State) (m : MethodId) (args : Array Value) (below : List Frame) (meth : Method) (c : Code) (ls : Array Slot) (H : Heap) (locs : List Loc), CallFix p m c cc maxL s args Wc y.cls → meth.sig.returnType = ret → meth.locks = false → meth.name = y.name → s.heap.size = sz → H.size = sz → hp D (Af φ sz) φ H → va_K D vwCl (tysL cA) s → Sx ga (Af φ sz) s s.heap → va_S (Af φ sz) s.heap H locs → (∀ q, s.heap.size ≤ q → Af φ sz q) → lv_has ls maxL lv →
      W p l e rm s m args below meth c H locs 0 0 (MQ below (hQ post D (Af φ sz)) args s mc ms (Af φ sz)) (F0 m 0 ls [])) : hM l y cc maxL ret rm av D cA ga φ sz post mc ms := by
  refine Met.ofW (cc := cc) (maxL := maxL) (ret := ret) hy rfl ?_
  intro p e s m args below meth c s₁ B hml hv
  obtain ⟨rfl, hsz, hH, hK, hX⟩ := hv
  have hl := lv_entry av (n := maxL) hn
  rw [lg_entry_eq]
  exact body p e s m _ below meth c _ s.heap [] ⟨B.exec, B.bytes, hml, findClass_of_methodNamed B.named, fun w hw => atoms_spec (ws := wl y cc maxL ret) B.pre w (List.mem_cons_of_mem _ hw)⟩ B.returns B.notSynchronized (name_of_methodNamed B.named B.method).1 hsz hsz hH hK hX va_S.rf (fun q h => Or.inr (by rw [← hsz]; exact h)) (hlv ▸ hl)
theorem hMX.of {l : Launch} {y : MethodName} {rm : Room} {av : List Value} {D : va_G} {cA : Nat → ClassId} {ga : Nat → Nat → Nat} {φ : hpM} {sz : Nat} {post : Option Value → hpM → Prop} {px : String → hpM → Prop} {mc ms : Nat} {cc : ByteArray} {maxL : Nat} {ret : Option FieldType} {lv : List (Nat × Value)}
    (hy : plainName y.cls = true) (hn : (lg_sl av).length ≤ maxL) (hlv : lv_args 0 av = lv)
    (body : ∀ (p : Program) (e : Env) (s : State) (m : MethodId) (args : Array Value) (below : List Frame) (meth : Method) (c : Code) (ls : Array Slot) (H : Heap) (locs : List Loc), CallFix p m c cc maxL s args Wc y.cls → meth.sig.returnType = ret → meth.locks = false → (∀ x ∈ c.exceptionTable.toList, False) → s.heap.size = sz → H.size = sz → hp D (Af φ sz) φ H → va_K D vwCl (tysL cA) s → Sx ga (Af φ sz) s s.heap → va_S (Af φ sz) s.heap H locs → (∀ q, s.heap.size ≤ q → Af φ sz q) → lv_has ls maxL lv →
      W p l e rm s m args below meth c H locs 0 0 (vx_MQ below (hQ post D (Af φ sz)) (hX px D (Af φ sz)) args s mc ms (Af φ sz)) (F0 m 0 ls [])) : hMX l y cc maxL ret rm av D cA ga φ sz post px mc ms := by
  refine vx_ofW (cc := cc) (maxL := maxL) (ret := ret) hy rfl ?_
  intro p e s m args below meth c s₁ B hml hne hv
  obtain ⟨rfl, hsz, hH, hK, hX⟩ := hv
  have hl := lv_entry av (n := maxL) hn
  rw [lg_entry_eq]
  exact body p e s m _ below meth c _ s.heap [] ⟨B.exec, B.bytes, hml, findClass_of_methodNamed B.named, fun w hw => atoms_spec (ws := wl y cc maxL ret) B.pre w (List.mem_cons_of_mem _ hw)⟩ B.returns B.notSynchronized hne hsz hsz hH hK hX va_S.rf (fun q h => Or.inr (by rw [← hsz]; exact h)) (hlv ▸ hl)
section HVC
variable {p : Program} {l : Launch} {e : Env} {R : Room} {s : State} {m : MethodId} {args : Array Value} {below : List Frame} {meth : Method} {c : Code} {H : Heap} {locs : List Loc} {cells slots : Nat} {Q : State → Prop}
variable {cc : ByteArray} {pc nL : Nat} {ls : Array Slot} {rest st0 : List Value} {D : va_G} {A A1 : Nat → Prop} {φ : hpM} {Ts : List Cond} {own : String} {a : Array Value} {mc ms : Nat} {post : Option Value → hpM → Prop} {px : String → hpM → Prop}
theorem hv_call (hr : va_Run p l e R s m args below meth c H locs cells slots mc ms (F0 m pc ls st0) rest (hQ post D A1 a) A1) (hS : va_S A s.heap H locs) (hf : ∀ q, A1 q → A q)
    (kk : ∀ (v : Option Value) (φ1 : hpM) (H1 : Heap) (locs1 : List Loc), post v φ1 → hp D A φ1 H1 → va_S A s.heap H1 locs1 → W p l e R s m args below meth c H1 locs1 (cells + mc) (slots + ms) Q (F0 m (pc + 3) ls (v.toList ++ rest))) : W p l e R s m args below meth c H locs cells slots Q (F0 m pc ls st0) := by
  intro T hT X
  obtain ⟨v, st₀, t, T', L, h0, X', hL, e1, e2, ⟨⟨v', φ1, hv, hp1, hb⟩, hF⟩, st⟩ := hr T hT X
  cases hv
  obtain ⟨k1, k2, k3⟩ := vx_keep (A1 := A1) h0 e1 hS (fun q _ h => hf q h) hf hL hF
  obtain ⟨t2, a1, b1⟩ := kk v φ1 T'.heap (locs ++ L) hp1 (by rw [e1]; exact hb.weaken hf) k3 T' rfl X'
  exact ⟨t2, st t2 a1, b1⟩
theorem hv_callX (hr : vx_Run p l e R s m args below meth c H locs cells slots mc ms (F0 m pc ls st0) rest (hQ post D A1 a) (hX px D A1) A1) (hS : va_S A s.heap H locs) (hf : ∀ q, A1 q → A q)
    (kx : ∀ (E : String) (ce : Cell) (q9 : Addr) (φ1 : hpM) (H1 : Heap) (locs1 : List Loc), px E φ1 → hp D A φ1 H1 → va_S A s.heap H1 locs1 → H1[q9]? = some ce → ce.vm = .none → s.vm.findClass E = some ce.cls → vx_W p l e R s m args below meth c H1 locs1 (cells + mc) (slots + ms) Q (F0 m pc ls rest) q9)
    (kk : ∀ (v : Option Value) (φ1 : hpM) (H1 : Heap) (locs1 : List Loc), post v φ1 → hp D A φ1 H1 → va_S A s.heap H1 locs1 → W p l e R s m args below meth c H1 locs1 (cells + mc) (slots + ms) Q (F0 m (pc + 3) ls (v.toList ++ rest))) : W p l e R s m args below meth c H locs cells slots Q (F0 m pc ls st0) := by
  intro T hT X
  rcases hr T hT X with ⟨v, st₀, t, T', L, h0, X', hL, e1, e2, ⟨⟨v', φ1, hv, hp1, hb⟩, hF⟩, st⟩ | ⟨q, st₀, t, T', L, E, ce, h0, X', hL, e1, e2, ⟨φ1, hp1, hb, hF⟩, hce, hcv, hcl, st⟩
  · cases hv
    obtain ⟨k1, k2, k3⟩ := vx_keep (A1 := A1) h0 e1 hS (fun q _ h => hf q h) hf hL hF
    obtain ⟨t2, a1, b1⟩ := kk v φ1 T'.heap (locs ++ L) hp1 (by rw [e1]; exact hb.weaken hf) k3 T' rfl X'
    exact ⟨t2, st t2 a1, b1⟩
  · obtain ⟨k1, k2, k3⟩ := vx_keep (A1 := A1) h0 e1 hS (fun q _ h => hf q h) hf hL hF
    obtain ⟨t2, a1, b1⟩ := kx E ce q φ1 T'.heap (locs ++ L) hp1 (by rw [e1]; exact hb.weaken hf) k3 (by rw [e1]; exact hce) hcv hcl T' rfl X'
    exact ⟨t2, st.trans a1, b1⟩
theorem tabW_on {w : Cond} (h : w ∈ tabW) : w.onTables = true := List.all_eq_true.mp (show tabW.all Cond.onTables = true by decide +kernel) w h
abbrev XN : List String := ["java/lang/RuntimeException", "java/lang/Exception"]
/-- 'throw new E("text")' in the class -/
theorem hv_throw {ga : Nat → Nat → Nat} (S : CallFix p m c cc nL s args Wc RX8) (hfl : l.stackTraces = false) {cls text : String} {ik is ic sa : Nat} (hcls : Bundle.fit cls = true) (hk : Cond.classLink RX8 ik cls ∈ Wc) (hini : Cond.initialized cls ∈ Wc) (hstr : vk_R RX8 is text sa s) (hat : ∀ w ∈ vx_atS RX8 ic cls XN, w ∈ Wc ∨ w ∈ tabW) (hX9 : Sx ga A s s.heap)
    (hne : ∀ x ∈ c.exceptionTable.toList, False) (hlocks : meth.locks = false) (hH : hp D A φ H) (hS : va_S A s.heap H locs) (hpx : px cls φ) (hls : ls.size = nL)
    (d0 : decode cc pc = .ok (.new ik, 3)) (d3 : decode cc (pc + 3) = .ok (.dup, 1)) (d4 : decode cc (pc + 4) = .ok (.ldc is, 2)) (d6 : decode cc (pc + 6) = .ok (.invokespecial ic, 3)) (d9 : decode cc (pc + 9) = .ok (.athrow, 1))
    (hRf : 5 < R.frames) (hRl : (rest.map fun v => v.category).sum + 82 ≤ R.locals) (hRc : cells + 1 ≤ R.cells) (hRs : slots + 6 ≤ R.slots) (hc : cells + 1 ≤ mc) (hs : slots + 6 ≤ ms) :
    W p l e R s m args below meth c H locs cells slots (vx_MQ below (hQ post D A) (hX px D A) args s mc ms A) (F0 m pc ls rest) := by
  have hts := S.2.2.2.2
  have hg : ∀ w, w ∈ Wc → vx_ot w = true := fun w h => by
    have h2 := (List.mem_filter.mp h).2
    simp only [vx_ot, Bool.or_eq_true]
    exact Or.inr h2
  refine vx_throwS S.1 S.2.1 hfl (A := A) (names := XN) S.2.2.2.1 hcls (by decide +kernel) (hts _ hk) (hts _ hini) hstr (fun w h => ?_) (fun w h => ?_) hX9.thrU hX9.thrN hS (by rw [S.2.2.1]; exact hls) d0 d3 d4 d6 d9 (fun x hx => (hne x hx).elim) hRf hRl hRc hRs hlocks (fun t _ hz hq => ?_) hS.2.2 hc hs
  · rcases hat w h with h | h
    · exact hts _ h
    · exact va_Nw.use (tabW_on h) (hX9.tabs w h)
  · rcases List.mem_cons.mp h with e | h
    · rw [e]; exact hg _ hk
    · rcases List.mem_cons.mp h with e | h
      · rw [e]; exact hg _ hini
      · rcases hat w h with h | h
        · exact hg _ h
        · simp only [vx_ot, Bool.or_eq_true]; exact Or.inl (tabW_on h)
  · exact ⟨φ, hpx, hH.kept (fun a e he => hq a (hH.lt he)), Nat.le_trans hS.1 hz, fun q h1 h2 => (hq q (Nat.lt_of_lt_of_le h1 hS.1)).trans (hS.2.1 q h1 h2)⟩
/-- not caught here: it goes on -/
theorem hv_out {E : String} {ce : Cell} {q : Addr} (hne : ∀ x ∈ c.exceptionTable.toList, False) (hlocks : meth.locks = false) (hcell : H[q]? = some ce) (hv : ce.vm = .none) (hcl : s.vm.findClass E = some ce.cls) (hH : hp D A φ H) (hS : va_S A s.heap H locs) (hpx : px E φ) (hc : cells ≤ mc) (hs : slots ≤ ms) :
    vx_W p l e R s m args below meth c H locs cells slots (vx_MQ below (hQ post D A) (hX px D A) args s mc ms A) (F0 m pc ls rest) q :=
  vx_out (fun x hx => (hne x hx).elim) hlocks hcell hv hcl (fun t ht _ => ⟨φ, hpx, by rw [ht]; exact hH, hS.F ht⟩) hS.2.2 hc hs
theorem hv_ret {v : Int32} {ty : FieldType} (S : CallFix p m c cc nL s args Ts own) (hr : meth.sig.returnType = some ty) (hn : narrow ty (.int v) = .int v) (hlocks : meth.locks = false) (hH : hp D A φ H) (hS : va_S A s.heap H locs) (hpo : post (some (.int v)) φ) (hc : cells ≤ mc) (hs : slots ≤ ms) (hdg : decode cc pc = .ok (.ireturn, 1)) :
    W p l e R s m args below meth c H locs cells slots (MQ below (hQ post D A) args s mc ms A) (F0 m pc ls [.int v]) :=
  W.widen hc hs (W.zret S.1 S.2.1 hr hn (fun t ht _ => ⟨⟨_, φ, rfl, hpo, by rw [ht]; exact hH⟩, hS.F ht⟩) hS.2.2 hdg hlocks)
theorem hv_fret {v : UInt32} (S : CallFix p m c cc nL s args Ts own) (hr : meth.sig.returnType = some .float) (hlocks : meth.locks = false) (hH : hp D A φ H) (hS : va_S A s.heap H locs) (hpo : post (some (.float v)) φ) (hc : cells ≤ mc) (hs : slots ≤ ms) (hdg : decode cc pc = .ok (.freturn, 1)) :
    W p l e R s m args below meth c H locs cells slots (MQ below (hQ post D A) args s mc ms A) (F0 m pc ls [.float v]) :=
  W.widen hc hs (W.fret S.1 S.2.1 hr (fun t ht _ => ⟨⟨_, φ, rfl, hpo, by rw [ht]; exact hH⟩, hS.F ht⟩) hS.2.2 hdg hlocks)
theorem hv_lret {v : Int64} (S : CallFix p m c cc nL s args Ts own) (hr : meth.sig.returnType = some .long) (hlocks : meth.locks = false) (hH : hp D A φ H) (hS : va_S A s.heap H locs) (hpo : post (some (.long v)) φ) (hc : cells ≤ mc) (hs : slots ≤ ms) (hdg : decode cc pc = .ok (.lreturn, 1)) :
    W p l e R s m args below meth c H locs cells slots (MQ below (hQ post D A) args s mc ms A) (F0 m pc ls [.long v]) :=
  W.widen hc hs (W.lret S.1 S.2.1 hr (fun t ht _ => ⟨⟨_, φ, rfl, hpo, by rw [ht]; exact hH⟩, hS.F ht⟩) hS.2.2 hdg hlocks)
theorem hv_vret (S : CallFix p m c cc nL s args Ts own) (hr : meth.sig.returnType = none) (hlocks : meth.locks = false) (hH : hp D A φ H) (hS : va_S A s.heap H locs) (hpo : post none φ) (hc : cells ≤ mc) (hs : slots ≤ ms) (hdg : decode cc pc = .ok (.return_, 1)) :
    W p l e R s m args below meth c H locs cells slots (MQ below (hQ post D A) args s mc ms A) (F0 m pc ls []) :=
  W.widen hc hs (W.vret S.1 S.2.1 hr (fun t ht _ => ⟨⟨_, φ, rfl, hpo, by rw [ht]; exact hH⟩, hS.F ht⟩) hS.2.2 hdg hlocks)
theorem hv_aret {v : Value} {rt : FieldType} (S : CallFix p m c cc nL s args Ts own) (hr : meth.sig.returnType = some rt) (hrt : (∃ n, rt = .object n) ∨ ∃ t, rt = .array t) (hv : v = .null ∨ ∃ a, v = .ref a) (hlocks : meth.locks = false) (hH : hp D A φ H) (hS : va_S A s.heap H locs) (hpo : post (some v) φ) (hc : cells ≤ mc) (hs : slots ≤ ms) (hdg : decode cc pc = .ok (.areturn, 1)) :
    W p l e R s m args below meth c H locs cells slots (MQ below (hQ post D A) args s mc ms A) (F0 m pc ls [v]) :=
  W.widen hc hs (W.aret S.1 S.2.1 hr hrt hv (fun t ht _ => ⟨⟨_, φ, rfl, hpo, by rw [ht]; exact hH⟩, hS.F ht⟩) hS.2.2 hdg hlocks)
theorem hv_getXN (S : CallFix p m c cc nL s args Ts own) {o n d ref host : String} {N : Nat} {v : Nat → Value} {ad : Nat → Nat} {index i : Nat} (hE : va_Ef N o n d v ad A s s.heap) (hi : i < N) (hS : va_S A s.heap H locs) (hlink : va_Nw (.fieldLinkNest own index ref n d host) s) (hsame : ∀ x, s.fieldFound? o n d = some x → s.fieldFound? ref n d = some x) (hdg : decode cc pc = .ok (.getfield index, 3))
    (kk : W p l e R s m args below meth c H locs cells slots Q (F0 m (pc + 3) ls (v i :: rest))) : W p l e R s m args below meth c H locs cells slots Q (F0 m pc ls (.ref (ad i) :: rest)) := by
  obtain ⟨cf, k, fi, f, cell, h1, h2, h3, h4, h5, h6⟩ := (hE i hi).kept hS.2.1
  exact va_Wgetf S.1 S.2.1 S.2.2.2.1 (va_Nw.use rfl hlink) (hsame _ h1) h2 h3 h4 (v := v i) h5 rfl rfl hdg kk
end HVC
end
section
/-! Fur and Feather: at the law's start nothing says that their classes are initialised, and an instance call doesn't ask. So their methods' contracts (and the row of a call by them) follow the library's laws MetFree.of_bodySF, Steps.callFree, Back.of_free, va_runVN without that. -/
def nApp (S : Spec) (x : MethodName) (pl : Platform) (s : State) (m : MethodId) (args : Array Value) (below : List Frame) : Prop :=
  s.status = .running ∧ s.curStatus? = some .runnable ∧ s.alone = true ∧ s.methodNamed? x = some m ∧ s.hears m below = true ∧ s.hasRoom pl S.room = true ∧ S.pre.before args s = true
def MetN (l : Launch) (y : MethodName) (ws : List Cond) (rm : Room) (Pc : Array Value → State → Prop) (Qc : Array Value → State → Outcome → State → Prop) (mc ms : Nat) (free : Addr → Prop) : Prop :=
  ∀ (p : Program) (e : Env), l.admits e → FairCas e.choices → FairClock e.choices → ∀ (s : State) (m : MethodId) (args : Array Value) (below : List Frame),
    s.frames = .invoking m args :: below → nApp (headSpec ws rm) y e.platform s m args below → Pc args s →
    ∃ n o, (∀ k, k < n → Within (stepsAlone p.tables e k s) below) ∧ (stepsAlone p.tables e n s).status = .running ∧ Ended (stepsAlone p.tables e n s) below o ∧ (Qc args s o (stepsAlone p.tables e n s) ∧ ∃ L, FrameEnd s o (stepsAlone p.tables e n s) L mc ms ∧ ∀ q ∈ L, free q.base)
theorem MetN.ofW {l : Launch} {y : MethodName} {ws ws' : List Cond} {rm : Room} {Pc : Array Value → State → Prop} {Qc : Array Value → State → Outcome → State → Prop} {mc ms : Nat} {free : Addr → Prop} {cc : ByteArray} {maxL : Nat} {ret : Option FieldType}
    (hx : plainName y.cls = true) (hw : ws = Cond.code y cc maxL ret :: ws')
    (body : ∀ (p : Program) (e : Env) (s : State) (m : MethodId) (args : Array Value) (below : List Frame) (meth : Method) (c : Code), p.tables.exec = Jvm.exec → s.methodNamed? y = some m → s.vm.method? m = some meth → meth.sig.returnType = ret → meth.locks = false → c.code = cc → c.maxLocals = maxL → (headSpec ws rm).pre.before args s = true → Pc args s →
      W p l e (headSpec ws rm).room s m args below meth c s.heap [] 0 0 (MQ below Qc args s mc ms free) (entryFrame m args maxL)) : MetN l y ws rm Pc Qc mc ms free := by
  intro p e ha hc hk s m args below hf happ hP
  obtain ⟨hrun, hable, halone, hname, hhears, hroom, hpre⟩ := happ
  obtain ⟨meth, c, hmeth, hcode, hbytes, hlocals, hret, hlocks, -, -⟩ := Cond.code_spec hname (atoms_spec (ws := ws) hpre _ (by rw [hw]; exact List.mem_cons_self))
  have hcur := State.cur_lt_of_frames hf
  have hf1 : (s.setFrames (.java (entryFrame m args maxL) :: below)).frames = .java (entryFrame m args maxL) :: below :=
    State.frames_setFrames _ hcur
  have ht1 := State.topJava?_of_frames hf1
  have hplain : (s.setFrames (.java (entryFrame m args maxL) :: below)).plainMethod m := State.plainMethod.of_named (s := s) (plainFor_of_name hx) hname hmeth
  have hAt : At (s.setFrames (.java (entryFrame m args maxL) :: below)) m c below :=
    ⟨by rw [ht1]; rfl, ⟨[], by rw [hf1]; rfl⟩, hrun, by simpa using hable, by simpa using halone,
      by rw [State.code?_eq]; simp [State.setFrames, hmeth, hcode], hplain⟩
  have hstep : (stepThread p.tables e s).1 = (s.setFrames (.java (entryFrame m args maxL) :: below)).setTop (entryFrame m args maxL) := by
    have hfull : e.platform.stackFull (s.setFrames below).me (s.setFrames below).frames c.maxLocals = false := by
      obtain ⟨-, h1, -, h2⟩ := State.hasRoom_stack hroom
      rw [hf, List.length_cons] at h1
      rw [State.localsInUse_invoking hf hmeth hcode] at h2
      have hw := stackUse_le_stackWeight below
      rw [State.frames_setFrames _ hcur]
      exact Platform.stackFull_eq_false (by rw [State.stackLimits_setFrames]; omega) (by rw [State.stackLimits_setFrames]; omega)
    rw [stepThread_invoking hf, (doInvoke_java (s := s.setFrames below) (e := e) (meth := meth) (code := c) hmeth hcode hlocks hfull).1, State.setTop_self ht1]
    simp only [State.pushFrame, State.frames_setFrames _ hcur, State.setFrames_setFrames, hlocals, entryFrame]
  have X : Stand p l e (headSpec ws rm).room s m args below meth c (s.setFrames (.java (entryFrame m args maxL) :: below)) [] 0 0 := by
    obtain ⟨t, ht, -⟩ := State.frames_cons hf
    exact ⟨ha, hc, hk, hf, hroom, hhears, hmeth, hcode, hAt, by rw [hf1]; rfl, State.WarmedH.refl s, State.stackLimits_setFrames .., State.stackBytes_setFrames .., (State.sameButNew.refl s ht).setFrames (.java (entryFrame m args maxL) :: below) hcur⟩
  obtain ⟨t, hs, o, hr, he, hp⟩ := body p e s m args below meth c (by cases p <;> rfl) hname hmeth hret hlocks hbytes hlocals hpre hP (s.setFrames (.java (entryFrame m args maxL) :: below)) rfl X
  obtain ⟨n, hn, hw⟩ := Steps.head (tb := p.tables) (e := e) ⟨hrun, hable, halone⟩ ⟨[.invoking m args], hf, by simp, by simp⟩ (hstep ▸ hs)
  exact ⟨n, o, hw, hn ▸ hr, hn ▸ he, hn ▸ hp⟩
abbrev hN (l : Launch) (y : MethodName) (cc : ByteArray) (maxL : Nat) (ret : Option FieldType) (rm : Room) (av : List Value) (D : va_G) (cA : Nat → ClassId) (ga : Nat → Nat → Nat) (φ : hpM) (sz : Nat) (post : Option Value → hpM → Prop) (mc ms : Nat) : Prop := MetN l y (wl y cc maxL ret) rm (va_Pc av (Pre0 D cA ga φ sz)) (hQ post D (Af φ sz)) mc ms (Af φ sz)
theorem hN.of {l : Launch} {y : MethodName} {rm : Room} {av : List Value} {D : va_G} {cA : Nat → ClassId} {ga : Nat → Nat → Nat} {φ : hpM} {sz : Nat} {post : Option Value → hpM → Prop} {mc ms : Nat} {cc : ByteArray} {maxL : Nat} {ret : Option FieldType} {lv : List (Nat × Value)}
    (hy : plainName y.cls = true) (hn : (lg_sl av).length ≤ maxL) (hlv : lv_args 0 av = lv)
    (body : ∀ (p : Program) (e : Env) (s : State) (m : MethodId) (args : Array Value) (below : List Frame) (meth : Method) (c : Code) (ls : Array Slot) (H : Heap) (locs : List Loc), CallFix p m c cc maxL s args Wc y.cls → meth.sig.returnType = ret → meth.locks = false → meth.name = y.name → s.heap.size = sz → H.size = sz → hp D (Af φ sz) φ H → va_K D vwCl (tysL cA) s → Sx ga (Af φ sz) s s.heap → va_S (Af φ sz) s.heap H locs → (∀ q, s.heap.size ≤ q → Af φ sz q) → lv_has ls maxL lv →
      W p l e rm s m args below meth c H locs 0 0 (MQ below (hQ post D (Af φ sz)) args s mc ms (Af φ sz)) (F0 m 0 ls [])) : hN l y cc maxL ret rm av D cA ga φ sz post mc ms := by
  refine MetN.ofW (cc := cc) (maxL := maxL) (ret := ret) hy rfl ?_
  intro p e s m args below meth c hexec hnamed hmeth hret hlocks hb hml hpre hv
  obtain ⟨rfl, hsz, hH, hK, hX⟩ := hv
  have hl := lv_entry av (n := maxL) hn
  rw [lg_entry_eq]
  exact body p e s m _ below meth c _ s.heap [] ⟨hexec, hb, hml, findClass_of_methodNamed hnamed, fun w hw => atoms_spec (ws := wl y cc maxL ret) hpre w (List.mem_cons_of_mem _ hw)⟩ hret hlocks (name_of_methodNamed hnamed hmeth).1 hsz hsz hH hK hX va_S.rf (fun q h => Or.inr (by rw [← hsz]; exact h)) (hlv ▸ hl)
section METN
variable {l : Launch} {R : Room} {p : Program} {e : Env} {below : List Frame} {s : State} {sargs : Array Value} {y : MethodName} {len W9 : Nat}
theorem nApp_calling {S : Spec} {U : State} {g : JFrame} {c : Code} {mk : MethodId} {a : Array Value} (h : At U g.method c below) {ig : Instr} {len : Nat} (hdg : decode c.code g.pc = .ok (ig, len)) (hnamed : U.methodNamed? y = some mk)
    (hroom : (U.calling g mk a).hasRoom e.platform S.room = true) (hpre : S.pre.before a U = true) :
    nApp S y e.platform (U.calling g mk a) mk a (.java g :: U.frames.tail) := by
  have hcode : (U.calling g mk a).code? g.method = some c := by
    have := h.code
    rw [State.code?_eq] at this ⊢
    simpa [State.calling, State.pushFrame, State.setFrames] using this
  refine ⟨h.running, ?_, ?_, hnamed, ?_, hroom, ?_⟩
  · simpa [State.calling] using h.runnable
  · simpa [State.calling] using h.alone
  · simp [State.hears, hcode, hdg, Except.toOption]
  · rw [State.calling_eq h.top, Cond.before_setFrames]; exact hpre
theorem callMetN {ws : List Cond} {rm : Room} {Pc : Array Value → State → Prop} {Qc : Array Value → State → Outcome → State → Prop} {mc ms : Nat} {free : Addr → Prop}
    (hM : MetN l y ws rm Pc Qc mc ms free) (ha : l.admits e) (hc : FairCas e.choices) (hk : FairClock e.choices) {U : State} {g : JFrame} {c : Code} (h : At U g.method c below) {mk : MethodId} {a : Array Value}
    (happ : nApp (headSpec ws rm) y e.platform (U.calling g mk a) mk a (.java g :: U.frames.tail)) (hP : Pc a (U.calling g mk a)) :
    ∃ o s₂, Steps p.tables e below (doInvoke e (U.setTop g) [] mk a).1 s₂ ∧ Ended s₂ (.java g :: U.frames.tail) o ∧ (Qc a (U.calling g mk a) o s₂ ∧ ∃ L, FrameEnd (U.calling g mk a) o s₂ L mc ms ∧ ∀ q ∈ L, free q.base) := by
  obtain ⟨mid, hmid⟩ := h.above
  have hfr : (U.setTop g).frames = (.java g :: mid) ++ below := by rw [State.frames_setTop' g h.top, hmid]; rfl
  have hf' : (U.calling g mk a).frames = .invoking mk a :: .java g :: U.frames.tail := State.frames_calling h.top g mk a
  obtain ⟨hrun, hable, halone, -⟩ := id happ
  have hgo : (U.calling g mk a).goesOn := ⟨hrun, hable, halone⟩
  obtain ⟨n, o, hw, hr, he, hp⟩ := hM p e ha hc hk (U.calling g mk a) mk a (.java g :: U.frames.tail) hf' happ hP
  obtain ⟨t, ht, -⟩ := State.frames_cons hfr
  have hstep : (stepThread p.tables e (U.calling g mk a)).1 = (doInvoke e (U.setTop g) [] mk a).1 := by
    rw [stepThread_invoking hf', doInvoke_state e (U.setTop g) []]
    show (doInvoke e (((U.setTop g).pushFrame (.invoking mk a)).setFrames (.java g :: U.frames.tail)) _ mk a).1 = _
    rw [State.pushFrame, State.setFrames_setFrames, ← State.frames_setTop' g h.top, State.setFrames_self ht]
  cases n with
  | zero => exact absurd ⟨[.invoking mk a], hf', by simp, by simp⟩ he.not_within
  | succ k =>
    rw [stepsAlone_succ _ hgo, hstep] at hr he hp
    refine ⟨o, _, ⟨k, rfl, fun j hj => ?_⟩, he, hp⟩
    have := hw (j + 1) (by omega)
    rw [stepsAlone_succ _ hgo, hstep] at this
    rw [← State.frames_setTop' g h.top, hfr] at this
    exact this.weaken
theorem backN {ws : List Cond} {rm : Room} {Pc : Array Value → State → Prop} {Qc : Array Value → State → Outcome → State → Prop} {mc ms : Nat} {free : Addr → Prop} {bytes : ByteArray} {maxL : Nat} {ret : Option FieldType}
    (hM : MetN l y ws rm Pc Qc mc ms free) (hblind : FrameBlind Pc) (hrc : rm.cells = mc) (hrs : rm.slots = ms)
    (hframes : rm.frames + 1 ≤ R.frames) (hlocals : W9 + (maxL + 11) + rm.locals ≤ R.locals)
    (hws : ∀ w ∈ ws, ∀ a' U, s.WarmedH U.vm → w.before a' U = true) (hcode : Cond.code y bytes maxL ret ∈ ws) :
    Back l R p e below s sargs y len W9 (PreOf R mc ms Pc) (PostOf Qc mc ms free) := by
  intro m meth c A g ig mk a X hg hsize hdg hW hn hp
  have h1 : (headSpec ws rm).pre.before a A.U = true := atoms_intro fun w hw => hws w hw _ _ X.warmed
  have h2 : (Cond.code y bytes maxL ret).before a A.U = true := hws _ hcode _ _ X.warmed
  have h4 : A.cells + (headSpec ws rm).room.cells ≤ R.cells := by rw [show (headSpec ws rm).room.cells = mc from hrc]; exact hp.1
  have h5 : A.slots + (headSpec ws rm).room.slots ≤ R.slots := by rw [show (headSpec ws rm).room.slots = ms from hrs]; exact hp.2.1
  have hPc : Pc a (A.U.calling g mk a) := hblind _ _ _ _ hp.2.2
  obtain ⟨U, Ls, c0, s0⟩ := A
  dsimp only [Pt.U, Pt.locs, Pt.cells, Pt.slots] at h1 h2 h4 h5 X hn hPc ⊢
  obtain ⟨methY, cY, hmY, hcY, -, hlY, -, -, -, -⟩ := Cond.code_spec hn h2
  have h : At U g.method c below := by rw [hg]; exact X.here
  have hlocals9 : W9 + (maxL + 11) + (headSpec ws rm).room.locals ≤ R.locals := hlocals
  have happ : nApp (headSpec ws rm) y e.platform (U.calling g mk a) mk a (.java g :: U.frames.tail) :=
    nApp_calling h hdg hn (X.room_calling (g := g) (R' := (headSpec ws rm).room) hsize hmY hcY hframes (by rw [hlY]; omega) h4 h5) h1
  obtain ⟨o, s₂, hsteps, hend, hqc, L, hfe, hL⟩ := callMetN (p := p) hM X.admits X.cas X.clock h happ hPc
  obtain ⟨⟨v, rfl⟩, hW₂, e2, q2, q3, q4, q5, q6⟩ := id hfe
  have e3 : s₂ = ({ (U.calling g mk a).setFrames s₂.frames with heap := s₂.heap, slotsUsed := s₂.slotsUsed } : State).setVm s₂.vm := by
    have : s₂ = ({ s₂ with vm := (U.calling g mk a).vm } : State).setVm s₂.vm := rfl
    rw [e2] at this
    exact this
  obtain ⟨g₀, hg0⟩ := Option.isSome_iff_exists.mp h.top
  obtain ⟨r, hr⟩ := State.topJava?_eq_some.mp hg0
  have hr' : (({ U with heap := s₂.heap, slotsUsed := s₂.slotsUsed } : State).setVm s₂.vm).frames = .java g₀ :: r := hr
  obtain ⟨c₂, i₂, len₂, hc₂, hd₂, hf₂⟩ := hend
  have hW' : U.WarmedH s₂.vm := hW₂
  have hcc : c₂ = c := by
    have h1 : s₂.code? g.method = U.code? g.method := by
      rw [State.code?_eq, State.code?_eq, hW'.alike.method?]
    exact Option.some.inj (hc₂.symm.trans (h1.trans h.code))
  subst hcc
  have hlen : len₂ = len := by rw [hdg] at hd₂; cases hd₂; rfl
  subst hlen
  have hs₂ : s₂ = (({ U with heap := s₂.heap, slotsUsed := s₂.slotsUsed } : State).setVm s₂.vm).setTop { g with pc := g.pc + len₂, stack := v.toList ++ g.stack } := by
    refine e3.trans ?_
    rw [hf₂, State.calling_eq h.top, State.setFrames_setFrames, State.setTop_of_frames _ hr', hr]
    rfl
  have hsame : U.sameButNew ({ U with heap := s₂.heap, slotsUsed := s₂.slotsUsed } : State) L mc ms := by
    refine ⟨?_, q2, q3, q4, q5, q6⟩
    obtain ⟨t, ht, -⟩ := State.frames_cons hr
    show ({ U with heap := s₂.heap, slotsUsed := s₂.slotsUsed } : State) = { U.setFrames U.frames with heap := s₂.heap, slotsUsed := s₂.slotsUsed }
    rw [State.setFrames_self ht]
  subst hg
  refine ⟨v, ⟨(({ U with heap := s₂.heap, slotsUsed := s₂.slotsUsed } : State).setVm s₂.vm), Ls ++ L, c0 + mc, s0 + ms⟩,
    ⟨X.admits, X.cas, X.clock, X.frames, X.room, X.hears, X.method, X.code, (X.here.setHeapUsed s₂.heap s₂.slotsUsed).setVm hW'.alike, X.tail, State.WarmedH.trans X.warmed hW', X.limits, X.bytes, X.same.trans (hsame.setVm s.vm)⟩,
    ⟨g, mk, s₂, L, rfl, rfl, hqc, rfl, hL, rfl, rfl⟩, ?_⟩
  show Steps p.tables e below _ ((({ U with heap := s₂.heap, slotsUsed := s₂.slotsUsed } : State).setVm s₂.vm).setTop { g with pc := g.pc + len₂, stack := v.toList ++ g.stack })
  rw [← hs₂]
  exact hsteps
end METN
section METR
variable {p : Program} {l : Launch} {e : Env} {R : Room} {s : State} {m : MethodId} {args : Array Value} {below : List Frame} {meth : Method} {c : Code} {H : Heap} {locs : List Loc} {cells slots : Nat}
abbrev va_CNn (R : Room) (s : State) (args : Array Value) (own : String) (index : Nat) (y : MethodName) (host : String) (bytes : ByteArray) (maxL : Nat) (ret : Option FieldType) (ws : List Cond) (rm : Room) (mc ms n : Nat) : Prop :=
  (rm.cells = mc ∧ rm.slots = ms ∧ rm.frames + 1 ≤ R.frames ∧ 8 + (maxL + 11) + rm.locals ≤ R.locals ∧ (∀ w ∈ ws, ∀ (a' : Array Value) (U : State), s.WarmedH U.vm → w.before a' U = true) ∧ Cond.code y bytes maxL ret ∈ ws) ∧
  (Cond.code y bytes maxL ret).before args s = true ∧ (y.cls ≠ "java/lang/invoke/MethodHandle" ∧ y.cls ≠ "java/lang/invoke/VarHandle") ∧ (∀ sig, parseMethodDescriptor y.desc = some sig → n = sig.parameters.length) ∧ (Cond.methodLinkNest own index y host).before args s = true
theorem va_cnBn {own host : String} {index maxL mc ms : Nat} {y : MethodName} {bytes : ByteArray} {ret : Option FieldType} {Ts ws ws' : List Cond} {rm : Room} (n : Nat) (ht : ∀ w ∈ Ts, w.before args s = true) (hG : GoodIn Ts ws) (hw : ws = Cond.code y bytes maxL ret :: ws') (hrc : rm.cells = mc) (hrs : rm.slots = ms) (hl : va_Nw (.methodLinkNest own index y host) s)
    (hd : y.cls ≠ "java/lang/invoke/MethodHandle" ∧ y.cls ≠ "java/lang/invoke/VarHandle" ∧ (parseMethodDescriptor y.desc).map (fun d => d.parameters.length) = some n) (hR : rm.frames + 1 ≤ R.frames ∧ 8 + (maxL + 11) + rm.locals ≤ R.locals) : va_CNn R s args own index y host bytes maxL ret ws rm mc ms n := by
  have hc : Cond.code y bytes maxL ret ∈ ws := by rw [hw]; exact List.mem_cons_self
  refine ⟨⟨hrc, hrs, hR.1, hR.2, pay_in ht hG, hc⟩, ht _ (hG _ hc).1, ⟨hd.1, hd.2.1⟩, fun sig h => ?_, va_Nw.use rfl hl⟩
  have h2 := hd.2.2
  rw [h] at h2
  exact (Option.some.inj h2).symm
theorem va_runVNn {y : MethodName} {bytes cc : ByteArray} {maxL nL mc ms n index : Nat} {ret : Option FieldType} {ws : List Cond} {rm : Room} {Pc : Array Value → State → Prop} {Qc : Array Value → State → Outcome → State → Prop} {free : Addr → Prop} {Ts : List Cond} {own C host : String} {b : Addr} {As rest : List Value} {g : JFrame}
    (S : CallFix p m c cc nL s args Ts own) (hM : MetN l y ws rm Pc Qc mc ms free) (cw : va_CNn R s args own index y host bytes maxL ret ws rm mc ms n ∧ (Cond.instanceMethod y).before args s = true ∧ (Cond.selects C y y).before args s = true) (hp : PreV s H C b Pc As)
    (hg : g.method = m) (hn : As.length = n) (hsize : g.locals.size = nL) (hstack : g.stack = As.reverse ++ .ref b :: rest) (hW : 2 * g.monitorRoom + (rest.map fun v => v.category).sum ≤ 8) (hdg : decode cc g.pc = .ok (.invokevirtual index, 3)) (hf : cells + mc ≤ R.cells ∧ slots + ms ≤ R.slots) :
    va_Run p l e R s m args below meth c H locs cells slots mc ms g rest (Qc (Value.ref b :: As).toArray) (free) := by
  obtain ⟨⟨⟨hrc, hrs, hfr, hlo, hws, hcw⟩, hcode, hy, hlen, hl⟩, hx1, hx2⟩ := cw
  have hK : Back l R p e below s args y 3 8 (PreOf R mc ms Pc) (PostOf Qc mc ms free) := backN (bytes := bytes) (maxL := maxL) (ret := ret) hM hp.1 hrc hrs hfr hlo hws hcw
  obtain ⟨hx, hb, hml, ho, -⟩ := S
  obtain ⟨-, ⟨cellB, hcB, hoB, hclB⟩, hPc⟩ := hp
  intro T hT X
  obtain ⟨v, vm₁, ⟨U', l2, c2, s2⟩, hW₁, X', ⟨g', mk, t, L, e1, e2, hq, h1, hL, h2, h3⟩, st⟩ := va_callVN X hx (C := C) (bytes := bytes) (maxL := maxL) (ret := ret) ho hl hx1 hx2 hcode hy hK (by rw [hT]; exact hcB) hoB hclB hg (hsize.trans hml.symm) (argsL := As) (rest := rest) (fun sig h => hn.trans (hlen sig h)) hstack hW (by rw [hb]; exact hdg)
    (fun vm₁ hW₁ => ⟨hf.1, hf.2, hPc (T.setVm vm₁) hT hW₁⟩)
  dsimp only [Pt.U, Pt.locs, Pt.cells, Pt.slots] at X' e1 e2 h1 h2 h3 st
  subst h1; subst h2; subst h3
  exact ⟨v, (T.setVm vm₁).calling g' mk (Value.ref b :: As).toArray, t, U', L, hT, X', hL, e1, e2, hq, st⟩
end METR
end
section
/-- how wide a block is at a band -/
def bW (a d b : Nat) : Nat := max 50 (a - a / 10 * (b + 1 - d))
/-- max(0, b - d + 1) -/
theorem hv_maxsub {b d : Nat} (hb : b < 2 ^ 30) (hd : d < 2 ^ 30) : (if nI 0 < nI b - nI d + nI 1 then nI b - nI d + nI 1 else nI 0) = nI (b + 1 - d) := by
  by_cases h : d ≤ b
  · rw [pk_sub h, nI_add, if_pos (nI_lt (by omega) (by omega))]
    congr 1; omega
  · have e : nI b - nI d + nI 1 = nI (b + 1) - nI d := by rw [← nI_add]; simp only [Int32.sub_eq_add_neg]; ac_rfl
    by_cases h2 : d = b + 1
    · subst h2
      rw [e, pk_sub (Nat.le_refl _), Nat.sub_self]
      rfl
    · have hn : nI (b + 1) - nI d < 0 := pk_sneg (by omega) (by omega)
      rw [e, if_neg (fun z => by have z2 : (0 : Int32) < nI (b + 1) - nI d := z; rw [Int32.lt_iff_toInt_lt] at hn z2; omega)]
      rw [show b + 1 - d = 0 by omega]
theorem bW_mul {a b d : Nat} (hb : b < 6) : a / 10 * (b + 1 - d) ≤ a / 10 * 6 := Nat.mul_le_mul_left _ (by omega)
theorem hv_bw {a d b : Nat} (ha : a ≤ 700) (hb : b < 6) : (if nI 50 < nI (a - a / 10 * (b + 1 - d)) then nI (a - a / 10 * (b + 1 - d)) else nI 50) = nI (bW a d b) := by
  have h1 := bW_mul (a := a) (d := d) hb
  unfold bW
  by_cases h : 50 < a - a / 10 * (b + 1 - d)
  · rw [if_pos (nI_lt h (by omega)), Nat.max_eq_right (by omega)]
  · rw [if_neg (nI_nlt (by omega) (by omega)), Nat.max_eq_left (by omega)]
set_option maxHeartbeats 4000000 in
set_option maxRecDepth 100000 in
/-- Block(size, depth) -/
theorem c_X0_init (l : Launch) (D : va_G) (cA : Nat → ClassId) (ga : Nat → Nat → Nat) (φ : hpM) (sz : Nat) (h0 a d : Nat) (f0 : φ h0 = some (.inr (4, [.int (nI 0), .int (nI 0)]))) : hM l yX0_init cX0_init 3 none { frames := 8, cells := 0, slots := 0, locals := 200 } [.ref h0, .int (nI a), .int (nI d)] D cA ga φ sz (fun v φ' => v = none ∧ φ' = ups φ h0 (.inr (4, [.int (nI a), .int (nI d)]))) 0 0 := by
  refine hM.of (by decide) (Nat.le_of_ble_eq_true rfl) rfl ?_
  intro p e s m args below meth c ls H locs S hr hlocks hnm hsz hHz hH hK hX hS hA hl
  refine lv_aload_n (pc := 0) S.1 S.2.1 dX0_init_0 rfl (lv_at hl 0 rfl) ?_
  refine W.objInit S.1 S.2.1 S.2.2.2.1 (S.2.2.2.2 _ tw_725) (S.2.2.2.2 _ tw_36) (S.2.2.2.2 _ tw_37) rfl (by rw [S.2.2.1]; exact hl.1) rfl dX0_init_1 (Nat.le_of_ble_eq_true rfl) (Nat.le_of_ble_eq_true rfl) ?_
  refine W.eq (g2 := F0 m 4 ls []) rfl ?_
  refine lv_aload_n (pc := 4) S.1 S.2.1 dX0_init_4 rfl (lv_at hl 0 rfl) ?_
  refine lv_iload_n (pc := 5) S.1 S.2.1 dX0_init_5 rfl (lv_at hl 1 rfl) ?_
  refine hv_putF (pc := 6) (ty := .int) (C := RX0) (T := TX0) (N := 2) (ref := RX0) S uwX0 tyX0 tyX0_ok nmX0 hK hH hS f0 rfl 0 (by decide) tw_726 (fun _ h9 => h9) rfl hnm rfl (by decide +kernel) rfl rfl (Nat.le_of_ble_eq_true rfl) dX0_init_6 (fun H locs hH hS => ?_)
  obtain ⟨φ_1, hφ_1, fa_φ_1, fr_φ_1, hH⟩ := nup (e := .inr (4, [.int (nI a), .int (nI 0)])) hH
  refine lv_aload_n (pc := 9) S.1 S.2.1 dX0_init_9 rfl (lv_at hl 0 rfl) ?_
  refine lv_iload_n (pc := 10) S.1 S.2.1 dX0_init_10 rfl (lv_at hl 2 rfl) ?_
  refine hv_putF (pc := 11) (ty := .int) (C := RX0) (T := TX0) (N := 2) (ref := RX0) S uwX0 tyX0 tyX0_ok nmX0 hK hH hS fa_φ_1 rfl 1 (by decide) tw_727 (fun _ h9 => h9) rfl hnm rfl (by decide +kernel) rfl rfl (Nat.le_of_ble_eq_true rfl) dX0_init_11 (fun H locs hH hS => ?_)
  obtain ⟨φ_2, hφ_2, fa_φ_2, fr_φ_2, hH⟩ := nup (e := .inr (4, [.int (nI a), .int (nI d)])) hH
  exact hv_vret (pc := 14) S hr hlocks hH hS (⟨rfl, by rw [hφ_2, hφ_1, ups_ups]⟩) (Nat.le_of_ble_eq_true rfl) (Nat.le_of_ble_eq_true rfl) dX0_init_14

set_option maxHeartbeats 4000000 in
set_option maxRecDepth 100000 in
/-- Block.widthFor(band) -/
theorem c_X0_widthFor (l : Launch) (D : va_G) (cA : Nat → ClassId) (ga : Nat → Nat → Nat) (φ : hpM) (sz : Nat) (h0 a d b : Nat) (f0 : φ h0 = some (.inr (4, [.int (nI a), .int (nI d)]))) (ha : a ≤ 700) (hd : d ≤ 6) (hb : b < 6) : hM l yX0_widthFor cX0_widthFor 3 (some .int) { frames := 8, cells := 0, slots := 0, locals := 200 } [.ref h0, .int (nI b)] D cA ga φ sz (fun v φ' => v = some (.int (nI (bW a d b))) ∧ φ' = φ) 0 0 := by
  refine hM.of (by decide) (Nat.le_of_ble_eq_true rfl) rfl ?_
  intro p e s m args below meth c ls H locs S hr hlocks hnm hsz hHz hH hK hX hS hA hl
  have hbm := bW_mul (a := a) (d := d) hb
  refine lv_iconst (pc := 0) (v := nI 0) S.1 S.2.1 dX0_widthFor_0 (by decide) ?_
  refine lv_iload_n (pc := 1) S.1 S.2.1 dX0_widthFor_1 rfl (lv_at hl 1 rfl) ?_
  refine lv_aload_n (pc := 2) S.1 S.2.1 dX0_widthFor_2 rfl (lv_at hl 0 rfl) ?_
  refine hv_get (pc := 3) (C := RX0) (T := TX0) (N := 2) (ref := RX0) S uwX0 hK hH f0 rfl 1 (by decide) tw_727 (fun _ h9 => h9) rfl dX0_widthFor_3 ?_
  refine lv_isub (pc := 6) S.1 S.2.1 dX0_widthFor_6 ?_
  refine lv_iconst (pc := 7) (v := nI 1) S.1 S.2.1 dX0_widthFor_7 (by decide) ?_
  refine lv_iadd (pc := 8) S.1 S.2.1 dX0_widthFor_8 ?_
  refine va_mmax (pc := 9) S.1 S.2.1 (by rw [S.2.2.1]; exact hl.1.symm) S.2.2.2.1 (S.2.2.2.2 _ tw_767) (S.2.2.2.2 _ tw_250) (S.2.2.2.2 _ tw_14) (S.2.2.2.2 _ tw_251) (Nat.le_of_ble_eq_true rfl) (Nat.le_of_ble_eq_true rfl) (Nat.le_of_ble_eq_true rfl) (Nat.le_of_ble_eq_true rfl) dX0_widthFor_9 ?_
  refine hv_ti (y := nI (b + 1 - d)) (hv_maxsub (by omega) (by omega)) ?_
  refine lv_istore_n (pc := 12) (lv' := [(2, .int (nI (b + 1 - d))), (0, .ref h0), (1, .int (nI b))]) S.1 S.2.1 dX0_widthFor_12 rfl hl (by decide) rfl (fun ls hl => ?_)
  refine lv_bipush (pc := 13) (v := nI 50) S.1 S.2.1 dX0_widthFor_13 (by decide) ?_
  refine lv_aload_n (pc := 15) S.1 S.2.1 dX0_widthFor_15 rfl (lv_at hl 1 rfl) ?_
  refine hv_get (pc := 16) (C := RX0) (T := TX0) (N := 2) (ref := RX0) S uwX0 hK hH f0 rfl 0 (by decide) tw_726 (fun _ h9 => h9) rfl dX0_widthFor_16 ?_
  refine lv_aload_n (pc := 19) S.1 S.2.1 dX0_widthFor_19 rfl (lv_at hl 1 rfl) ?_
  refine hv_get (pc := 20) (C := RX0) (T := TX0) (N := 2) (ref := RX0) S uwX0 hK hH f0 rfl 0 (by decide) tw_726 (fun _ h9 => h9) rfl dX0_widthFor_20 ?_
  refine lv_bipush (pc := 23) (v := nI 10) S.1 S.2.1 dX0_widthFor_23 (by decide) ?_
  refine lv_idiv (pc := 25) S.1 S.2.1 dX0_widthFor_25 (by decide) ?_
  refine hv_ti (y := nI (a / 10)) (pk_div (by omega) (by omega) (by omega)) ?_
  refine lv_iload_n (pc := 26) S.1 S.2.1 dX0_widthFor_26 rfl (lv_at hl 0 rfl) ?_
  refine lv_imul (pc := 27) S.1 S.2.1 dX0_widthFor_27 ?_
  refine hv_ti (y := nI ((a / 10) * (b + 1 - d))) (pk_mul _ _) ?_
  refine lv_isub (pc := 28) S.1 S.2.1 dX0_widthFor_28 ?_
  refine hv_ti (y := nI (a - ((a / 10) * (b + 1 - d)))) (pk_sub (by omega)) ?_
  refine va_mmax (pc := 29) S.1 S.2.1 (by rw [S.2.2.1]; exact hl.1.symm) S.2.2.2.1 (S.2.2.2.2 _ tw_767) (S.2.2.2.2 _ tw_250) (S.2.2.2.2 _ tw_14) (S.2.2.2.2 _ tw_251) (Nat.le_of_ble_eq_true rfl) (Nat.le_of_ble_eq_true rfl) (Nat.le_of_ble_eq_true rfl) (Nat.le_of_ble_eq_true rfl) dX0_widthFor_29 ?_
  refine hv_ti (y := nI (bW a d b)) (hv_bw ha hb) ?_
  exact hv_ret (pc := 32) (v := nI (bW a d b)) S hr rfl hlocks hH hS (⟨rfl, rfl⟩) (Nat.le_of_ble_eq_true rfl) (Nat.le_of_ble_eq_true rfl) dX0_widthFor_32

theorem fAcr_le (k : Nat) : fAcr k ≤ 10 := by
  match k with
  | 0 | 1 | 2 | 3 => decide
  | k + 4 => exact Nat.zero_le _
theorem fAlo_le (k : Nat) : fAlo k ≤ 9 := by
  match k with
  | 0 | 1 | 2 | 3 => decide
  | k + 4 => exact Nat.zero_le _
theorem fStr_le (k : Nat) : fStr k ≤ 35 := by
  match k with
  | 0 | 1 | 2 | 3 => decide
  | k + 4 => exact Nat.zero_le _
theorem fAir_le (k : Nat) : fAir k ≤ 12 := by
  match k with
  | 0 | 1 | 2 | 3 => decide
  | k + 4 => exact Nat.zero_le _
theorem fPro_le (k : Nat) : fPro k ≤ 2147483647 := by
  match k with
  | 0 | 1 | 2 => decide
  | k + 3 => exact Nat.zero_le _
/-- what is left of a width, of a height, behind a cycle -/
def shA (k w : Nat) : Nat := w * (100 - fAcr k) / 100
def shL (k w : Nat) : Nat := w * (100 - fAlo k) / 100
set_option maxHeartbeats 4000000 in
set_option maxRecDepth 100000 in
/-- Fur.shrunkAcross(width) -/
theorem c_X3_shrunkAcross (l : Launch) (D : va_G) (cA : Nat → ClassId) (ga : Nat → Nat → Nat) (φ : hpM) (sz : Nat) (k w : Nat) (hk : k < 4) (hw : w ≤ 1200) : hN l yX3_shrunkAcross cX3_shrunkAcross 2 (some .int) { frames := 8, cells := 0, slots := 0, locals := 200 } [.ref (ga 0 k), .int (nI w)] D cA ga φ sz (fun v φ' => v = some (.int (nI (shA k w))) ∧ φ' = φ) 0 0 := by
  refine hN.of (by decide) (Nat.le_of_ble_eq_true rfl) rfl ?_
  intro p e s m args below meth c ls H locs S hr hlocks hnm hsz hHz hH hK hX hS hA hl
  have hf := fAcr_le k
  have hm : w * (100 - fAcr k) ≤ 1200 * 100 := Nat.mul_le_mul hw (by omega)
  refine lv_iload_n (pc := 0) S.1 S.2.1 dX3_shrunkAcross_0 rfl (lv_at hl 1 rfl) ?_
  refine lv_bipush (pc := 1) (v := nI 100) S.1 S.2.1 dX3_shrunkAcross_1 (by decide) ?_
  refine lv_aload_n (pc := 3) S.1 S.2.1 dX3_shrunkAcross_3 rfl (lv_at hl 0 rfl) ?_
  refine va_getX (pc := 4) (i := k) (ref := RX3) (index := 39) S.1 S.2.1 hX.fur_lessAcross hk hS S.2.2.2.1 (S.2.2.2.2 _ tw_1207) (fun _ h9 => h9) dX3_shrunkAcross_4 ?_
  refine lv_isub (pc := 7) S.1 S.2.1 dX3_shrunkAcross_7 ?_
  refine hv_ti (y := nI (100 - (fAcr k))) (pk_sub (by omega)) ?_
  refine lv_imul (pc := 8) S.1 S.2.1 dX3_shrunkAcross_8 ?_
  refine hv_ti (y := nI (w * (100 - (fAcr k)))) (pk_mul _ _) ?_
  refine lv_bipush (pc := 9) (v := nI 100) S.1 S.2.1 dX3_shrunkAcross_9 (by decide) ?_
  refine lv_idiv (pc := 11) S.1 S.2.1 dX3_shrunkAcross_11 (by decide) ?_
  refine hv_ti (y := nI ((w * (100 - (fAcr k))) / 100)) (pk_div (by omega) (by omega) (by omega)) ?_
  exact hv_ret (pc := 12) (v := nI ((w * (100 - (fAcr k))) / 100)) S hr rfl hlocks hH hS (⟨rfl, rfl⟩) (Nat.le_of_ble_eq_true rfl) (Nat.le_of_ble_eq_true rfl) dX3_shrunkAcross_12

set_option maxHeartbeats 4000000 in
set_option maxRecDepth 100000 in
/-- Fur.shrunkAlong(width) -/
theorem c_X3_shrunkAlong (l : Launch) (D : va_G) (cA : Nat → ClassId) (ga : Nat → Nat → Nat) (φ : hpM) (sz : Nat) (k w : Nat) (hk : k < 4) (hw : w ≤ 1200) : hN l yX3_shrunkAlong cX3_shrunkAlong 2 (some .int) { frames := 8, cells := 0, slots := 0, locals := 200 } [.ref (ga 0 k), .int (nI w)] D cA ga φ sz (fun v φ' => v = some (.int (nI (shL k w))) ∧ φ' = φ) 0 0 := by
  refine hN.of (by decide) (Nat.le_of_ble_eq_true rfl) rfl ?_
  intro p e s m args below meth c ls H locs S hr hlocks hnm hsz hHz hH hK hX hS hA hl
  have hf := fAlo_le k
  have hm : w * (100 - fAlo k) ≤ 1200 * 100 := Nat.mul_le_mul hw (by omega)
  refine lv_iload_n (pc := 0) S.1 S.2.1 dX3_shrunkAlong_0 rfl (lv_at hl 1 rfl) ?_
  refine lv_bipush (pc := 1) (v := nI 100) S.1 S.2.1 dX3_shrunkAlong_1 (by decide) ?_
  refine lv_aload_n (pc := 3) S.1 S.2.1 dX3_shrunkAlong_3 rfl (lv_at hl 0 rfl) ?_
  refine va_getX (pc := 4) (i := k) (ref := RX3) (index := 43) S.1 S.2.1 hX.fur_lessAlong hk hS S.2.2.2.1 (S.2.2.2.2 _ tw_1208) (fun _ h9 => h9) dX3_shrunkAlong_4 ?_
  refine lv_isub (pc := 7) S.1 S.2.1 dX3_shrunkAlong_7 ?_
  refine hv_ti (y := nI (100 - (fAlo k))) (pk_sub (by omega)) ?_
  refine lv_imul (pc := 8) S.1 S.2.1 dX3_shrunkAlong_8 ?_
  refine hv_ti (y := nI (w * (100 - (fAlo k)))) (pk_mul _ _) ?_
  refine lv_bipush (pc := 9) (v := nI 100) S.1 S.2.1 dX3_shrunkAlong_9 (by decide) ?_
  refine lv_idiv (pc := 11) S.1 S.2.1 dX3_shrunkAlong_11 (by decide) ?_
  refine hv_ti (y := nI ((w * (100 - (fAlo k))) / 100)) (pk_div (by omega) (by omega) (by omega)) ?_
  exact hv_ret (pc := 12) (v := nI ((w * (100 - (fAlo k))) / 100)) S hr rfl hlocks hH hS (⟨rfl, rfl⟩) (Nat.le_of_ble_eq_true rfl) (Nat.le_of_ble_eq_true rfl) dX3_shrunkAlong_12

set_option maxHeartbeats 4000000 in
set_option maxRecDepth 100000 in
/-- Feather.isAllowedIn(year) -/
theorem c_X2_isAllowedIn (l : Launch) (D : va_G) (cA : Nat → ClassId) (ga : Nat → Nat → Nat) (φ : hpM) (sz : Nat) (k y : Nat) (hk : k < 3) (hy : y < 2 ^ 30) : hN l yX2_isAllowedIn cX2_isAllowedIn 2 (some .boolean) { frames := 8, cells := 0, slots := 0, locals := 200 } [.ref (ga 1 k), .int (nI y)] D cA ga φ sz (fun v φ' => v = some (.int (nI (if y < fPro k then 1 else 0))) ∧ φ' = φ) 0 0 := by
  refine hN.of (by decide) (Nat.le_of_ble_eq_true rfl) rfl ?_
  intro p e s m args below meth c ls H locs S hr hlocks hnm hsz hHz hH hK hX hS hA hl
  have hf := fPro_le k
  refine lv_iload_n (pc := 0) S.1 S.2.1 dX2_isAllowedIn_0 rfl (lv_at hl 1 rfl) ?_
  refine lv_aload_n (pc := 1) S.1 S.2.1 dX2_isAllowedIn_1 rfl (lv_at hl 0 rfl) ?_
  refine va_getX (pc := 2) (i := k) (ref := RX2) (index := 36) S.1 S.2.1 hX.fea_pro hk hS S.2.2.2.1 (S.2.2.2.2 _ tw_1211) (fun _ h9 => h9) dX2_isAllowedIn_2 ?_
  refine hv_icmp_ge (pc := 5) (tgt := 12) (a := y) (b := fPro k) S.1 S.2.1 (by omega) (by omega) dX2_isAllowedIn_5 (by decide) (fun c_1 => ?_) (fun c_1 => ?_)
  · skip
    refine lv_iconst (pc := 12) (v := nI 0) S.1 S.2.1 dX2_isAllowedIn_12 (by decide) ?_
    exact hv_ret (pc := 13) (v := nI 0) S hr rfl hlocks hH hS (⟨by rw [if_neg (by omega)], rfl⟩) (Nat.le_of_ble_eq_true rfl) (Nat.le_of_ble_eq_true rfl) dX2_isAllowedIn_13
  · skip
    refine lv_iconst (pc := 8) (v := nI 1) S.1 S.2.1 dX2_isAllowedIn_8 (by decide) ?_
    refine lv_goto (pc := 9) (tgt := 13) S.1 S.2.1 dX2_isAllowedIn_9 (by decide) ?_
    exact hv_ret (pc := 13) (v := nI 1) S hr rfl hlocks hH hS (⟨by rw [if_pos (by omega)], rfl⟩) (Nat.le_of_ble_eq_true rfl) (Nat.le_of_ble_eq_true rfl) dX2_isAllowedIn_13

set_option maxHeartbeats 4000000 in
set_option maxRecDepth 100000 in
/-- Hand() -/
theorem c_X4_init (l : Launch) (D : va_G) (cA : Nat → ClassId) (ga : Nat → Nat → Nat) (φ : hpM) (sz : Nat) (h0 : Nat) (f0 : φ h0 = some (.inr (8, [.int (nI 0), .int (nI 0)]))) : hM l yX4_init cX4_init 1 none { frames := 8, cells := 0, slots := 0, locals := 200 } [.ref h0] D cA ga φ sz (fun v φ' => v = none ∧ φ' = ups φ h0 (.inr (8, [.int (nI 0), .int (nI 0)]))) 0 0 := by
  refine hM.of (by decide) (Nat.le_of_ble_eq_true rfl) rfl ?_
  intro p e s m args below meth c ls H locs S hr hlocks hnm hsz hHz hH hK hX hS hA hl
  refine lv_aload_n (pc := 0) S.1 S.2.1 dX4_init_0 rfl (lv_at hl 0 rfl) ?_
  refine W.objInit S.1 S.2.1 S.2.2.2.1 (S.2.2.2.2 _ tw_664) (S.2.2.2.2 _ tw_36) (S.2.2.2.2 _ tw_37) rfl (by rw [S.2.2.1]; exact hl.1) rfl dX4_init_1 (Nat.le_of_ble_eq_true rfl) (Nat.le_of_ble_eq_true rfl) ?_
  refine W.eq (g2 := F0 m 4 ls []) rfl ?_
  refine lv_aload_n (pc := 4) S.1 S.2.1 dX4_init_4 rfl (lv_at hl 0 rfl) ?_
  refine lv_iconst (pc := 5) (v := nI 0) S.1 S.2.1 dX4_init_5 (by decide) ?_
  refine hv_put (pc := 6) (ty := .int) (C := RX4) (T := TX4) (N := 2) (ref := RX4) S uwX4 tyX4 tyX4_ok nmX4 hK hH hS f0 rfl 0 (by decide) tw_665 (fun _ h9 => h9) rfl (by decide +kernel) rfl rfl (Nat.le_of_ble_eq_true rfl) dX4_init_6 (fun H locs hH hS => ?_)
  obtain ⟨φ_1, hφ_1, fa_φ_1, fr_φ_1, hH⟩ := nup (e := .inr (8, [.int (nI 0), .int (nI 0)])) hH
  refine lv_aload_n (pc := 9) S.1 S.2.1 dX4_init_9 rfl (lv_at hl 0 rfl) ?_
  refine lv_iconst (pc := 10) (v := nI 0) S.1 S.2.1 dX4_init_10 (by decide) ?_
  refine hv_put (pc := 11) (ty := .int) (C := RX4) (T := TX4) (N := 2) (ref := RX4) S uwX4 tyX4 tyX4_ok nmX4 hK hH hS fa_φ_1 rfl 1 (by decide) tw_667 (fun _ h9 => h9) rfl (by decide +kernel) rfl rfl (Nat.le_of_ble_eq_true rfl) dX4_init_11 (fun H locs hH hS => ?_)
  obtain ⟨φ_2, hφ_2, fa_φ_2, fr_φ_2, hH⟩ := nup (e := .inr (8, [.int (nI 0), .int (nI 0)])) hH
  exact hv_vret (pc := 14) S hr hlocks hH hS (⟨rfl, by rw [hφ_2, hφ_1, ups_ups]⟩) (Nat.le_of_ble_eq_true rfl) (Nat.le_of_ble_eq_true rfl) dX4_init_14

set_option maxHeartbeats 4000000 in
set_option maxRecDepth 100000 in
/-- Hand.breathe(air) -/
theorem c_X4_breathe (l : Launch) (D : va_G) (cA : Nat → ClassId) (ga : Nat → Nat → Nat) (φ : hpM) (sz : Nat) (h0 a b k : Nat) (f0 : φ h0 = some (.inr (8, [.int (nI a), .int (nI b)]))) : hM l yX4_breathe cX4_breathe 2 none { frames := 8, cells := 0, slots := 0, locals := 200 } [.ref h0, .int (nI k)] D cA ga φ sz (fun v φ' => v = none ∧ φ' = ups φ h0 (.inr (8, [.int (nI (a + k)), .int (nI (b + k))]))) 0 0 := by
  refine hM.of (by decide) (Nat.le_of_ble_eq_true rfl) rfl ?_
  intro p e s m args below meth c ls H locs S hr hlocks hnm hsz hHz hH hK hX hS hA hl
  refine lv_aload_n (pc := 0) S.1 S.2.1 dX4_breathe_0 rfl (lv_at hl 0 rfl) ?_
  refine lv_dup (pc := 1) S.1 S.2.1 dX4_breathe_1 rfl ?_
  refine hv_get (pc := 2) (C := RX4) (T := TX4) (N := 2) (ref := RX4) S uwX4 hK hH f0 rfl 0 (by decide) tw_665 (fun _ h9 => h9) rfl dX4_breathe_2 ?_
  refine lv_iload_n (pc := 5) S.1 S.2.1 dX4_breathe_5 rfl (lv_at hl 1 rfl) ?_
  refine lv_iadd (pc := 6) S.1 S.2.1 dX4_breathe_6 ?_
  refine hv_ti (y := nI (a + k)) (nI_add _ _) ?_
  refine hv_put (pc := 7) (ty := .int) (C := RX4) (T := TX4) (N := 2) (ref := RX4) S uwX4 tyX4 tyX4_ok nmX4 hK hH hS f0 rfl 0 (by decide) tw_665 (fun _ h9 => h9) rfl (by decide +kernel) rfl rfl (Nat.le_of_ble_eq_true rfl) dX4_breathe_7 (fun H locs hH hS => ?_)
  obtain ⟨φ_1, hφ_1, fa_φ_1, fr_φ_1, hH⟩ := nup (e := .inr (8, [.int (nI (a + k)), .int (nI b)])) hH
  refine lv_aload_n (pc := 10) S.1 S.2.1 dX4_breathe_10 rfl (lv_at hl 0 rfl) ?_
  refine lv_dup (pc := 11) S.1 S.2.1 dX4_breathe_11 rfl ?_
  refine hv_get (pc := 12) (C := RX4) (T := TX4) (N := 2) (ref := RX4) S uwX4 hK hH fa_φ_1 rfl 1 (by decide) tw_667 (fun _ h9 => h9) rfl dX4_breathe_12 ?_
  refine lv_iload_n (pc := 15) S.1 S.2.1 dX4_breathe_15 rfl (lv_at hl 1 rfl) ?_
  refine lv_iadd (pc := 16) S.1 S.2.1 dX4_breathe_16 ?_
  refine hv_ti (y := nI (b + k)) (nI_add _ _) ?_
  refine hv_put (pc := 17) (ty := .int) (C := RX4) (T := TX4) (N := 2) (ref := RX4) S uwX4 tyX4 tyX4_ok nmX4 hK hH hS fa_φ_1 rfl 1 (by decide) tw_667 (fun _ h9 => h9) rfl (by decide +kernel) rfl rfl (Nat.le_of_ble_eq_true rfl) dX4_breathe_17 (fun H locs hH hS => ?_)
  obtain ⟨φ_2, hφ_2, fa_φ_2, fr_φ_2, hH⟩ := nup (e := .inr (8, [.int (nI (a + k)), .int (nI (b + k))])) hH
  exact hv_vret (pc := 20) S hr hlocks hH hS (⟨rfl, by rw [hφ_2, hφ_1, ups_ups]⟩) (Nat.le_of_ble_eq_true rfl) (Nat.le_of_ble_eq_true rfl) dX4_breathe_20

set_option maxHeartbeats 4000000 in
set_option maxRecDepth 100000 in
/-- Lot(fur, grams) -/
theorem c_X6_init (l : Launch) (D : va_G) (cA : Nat → ClassId) (ga : Nat → Nat → Nat) (φ : hpM) (sz : Nat) (h0 k g : Nat) (f0 : φ h0 = some (.inr (10, [.null, .int (nI 0)]))) : hM l yX6_init cX6_init 3 none { frames := 8, cells := 0, slots := 0, locals := 200 } [.ref h0, .ref (ga 0 k), .int (nI g)] D cA ga φ sz (fun v φ' => v = none ∧ φ' = ups φ h0 (.inr (10, [.ref (ga 0 k), .int (nI g)]))) 0 0 := by
  refine hM.of (by decide) (Nat.le_of_ble_eq_true rfl) rfl ?_
  intro p e s m args below meth c ls H locs S hr hlocks hnm hsz hHz hH hK hX hS hA hl
  refine lv_aload_n (pc := 0) S.1 S.2.1 dX6_init_0 rfl (lv_at hl 0 rfl) ?_
  refine W.objInit S.1 S.2.1 S.2.2.2.1 (S.2.2.2.2 _ tw_575) (S.2.2.2.2 _ tw_36) (S.2.2.2.2 _ tw_37) rfl (by rw [S.2.2.1]; exact hl.1) rfl dX6_init_1 (Nat.le_of_ble_eq_true rfl) (Nat.le_of_ble_eq_true rfl) ?_
  refine W.eq (g2 := F0 m 4 ls []) rfl ?_
  refine lv_aload_n (pc := 4) S.1 S.2.1 dX6_init_4 rfl (lv_at hl 0 rfl) ?_
  refine lv_aload_n (pc := 5) S.1 S.2.1 dX6_init_5 rfl (lv_at hl 1 rfl) ?_
  refine hv_putF (pc := 6) (ty := .object "HatbandYard$Fur") (C := RX6) (T := TX6) (N := 2) (ref := RX6) S uwX6 tyX6 tyX6_ok nmX6 hK hH hS f0 rfl 0 (by decide) tw_576 (fun _ h9 => h9) rfl hnm rfl (by decide +kernel) rfl rfl (Nat.le_of_ble_eq_true rfl) dX6_init_6 (fun H locs hH hS => ?_)
  obtain ⟨φ_1, hφ_1, fa_φ_1, fr_φ_1, hH⟩ := nup (e := .inr (10, [.ref (ga 0 k), .int (nI 0)])) hH
  refine lv_aload_n (pc := 9) S.1 S.2.1 dX6_init_9 rfl (lv_at hl 0 rfl) ?_
  refine lv_iload_n (pc := 10) S.1 S.2.1 dX6_init_10 rfl (lv_at hl 2 rfl) ?_
  refine hv_put (pc := 11) (ty := .int) (C := RX6) (T := TX6) (N := 2) (ref := RX6) S uwX6 tyX6 tyX6_ok nmX6 hK hH hS fa_φ_1 rfl 1 (by decide) tw_578 (fun _ h9 => h9) rfl (by decide +kernel) rfl rfl (Nat.le_of_ble_eq_true rfl) dX6_init_11 (fun H locs hH hS => ?_)
  obtain ⟨φ_2, hφ_2, fa_φ_2, fr_φ_2, hH⟩ := nup (e := .inr (10, [.ref (ga 0 k), .int (nI g)])) hH
  exact hv_vret (pc := 14) S hr hlocks hH hS (⟨rfl, by rw [hφ_2, hφ_1, ups_ups]⟩) (Nat.le_of_ble_eq_true rfl) (Nat.le_of_ble_eq_true rfl) dX6_init_14
end
section
set_option maxHeartbeats 4000000 in
set_option maxRecDepth 100000 in
/-- Head() -/
theorem c_X5_init (l : Launch) (D : va_G) (cA : Nat → ClassId) (ga : Nat → Nat → Nat) (φ : hpM) (sz : Nat) (h0 : Nat) (f0 : φ h0 = some (.inr (9, [.null]))) : hM l yX5_init cX5_init 1 none { frames := 8, cells := 1, slots := 8, locals := 200 } [.ref h0] D cA ga φ sz (fun v φ' => v = none ∧ ∃ q, φ q = none ∧ φ' = ups (ups φ q (.inl (cA 1, 8, .inl (fun j => nI (zr j))))) h0 (.inr (9, [.ref q]))) 1 8 := by
  refine hM.of (by decide) (Nat.le_of_ble_eq_true rfl) rfl ?_
  intro p e s m args below meth c ls H locs S hr hlocks hnm hsz hHz hH hK hX hS hA hl
  refine lv_aload_n (pc := 0) S.1 S.2.1 dX5_init_0 rfl (lv_at hl 0 rfl) ?_
  refine W.objInit S.1 S.2.1 S.2.2.2.1 (S.2.2.2.2 _ tw_84) (S.2.2.2.2 _ tw_36) (S.2.2.2.2 _ tw_37) rfl (by rw [S.2.2.1]; exact hl.1) rfl dX5_init_1 (Nat.le_of_ble_eq_true rfl) (Nat.le_of_ble_eq_true rfl) ?_
  refine W.eq (g2 := F0 m 4 ls []) rfl ?_
  refine lv_aload_n (pc := 4) S.1 S.2.1 dX5_init_4 rfl (lv_at hl 0 rfl) ?_
  refine lv_bipush (pc := 5) (v := nI 8) S.1 S.2.1 dX5_init_5 (by decide) ?_
  refine hv_newa (pc := 7) (atype := .int) (a0 := (8, .inl (fun j => nI (zr j)))) (N' := 8) S tw_89 (ty := .int) rfl hK 1 rfl hH hS hA (fun _ => rfl) (by decide) (by decide) (Nat.le_of_ble_eq_true rfl) (Nat.le_of_ble_eq_true rfl) (Nat.le_of_ble_eq_true rfl) dX5_init_7 (fun q_1 H hq_q_1 hH hS => ?_)
  obtain ⟨φ_2, hφ_2, fa_φ_2, fr_φ_2, hH⟩ := nup (e := .inl (cA 1, 8, .inl (fun j => nI (zr j)))) hH
  have f_3 := fr_φ_2 _ _ (hp_nf f0 hq_q_1) f0
  refine hv_putF (pc := 9) (ty := .array (.int)) (C := RX5) (T := TX5) (N := 1) (ref := RX5) S uwX5 tyX5 tyX5_ok nmX5 hK hH hS f_3 rfl 0 (by decide) tw_85 (fun _ h9 => h9) rfl hnm rfl (by decide +kernel) rfl rfl (Nat.le_of_ble_eq_true rfl) dX5_init_9 (fun H locs hH hS => ?_)
  obtain ⟨φ_4, hφ_4, fa_φ_4, fr_φ_4, hH⟩ := nup (e := .inr (9, [.ref q_1])) hH
  have f_5 := fr_φ_4 _ _ (hp_ne fa_φ_2 f_3 (by intro h; cases h)) fa_φ_2
  exact hv_vret (pc := 12) S hr hlocks hH hS (⟨rfl, q_1, hq_q_1, by rw [hφ_4, hφ_2]⟩) (Nat.le_of_ble_eq_true rfl) (Nat.le_of_ble_eq_true rfl) dX5_init_12

set_option maxHeartbeats 4000000 in
set_option maxRecDepth 100000 in
/-- Head.setRadius(radius, length) -/
theorem c_X5_setRadius (l : Launch) (D : va_G) (cA : Nat → ClassId) (ga : Nat → Nat → Nat) (φ : hpM) (sz : Nat) (h0 q i len : Nat) (g : Nat → Nat) (f0 : φ h0 = some (.inr (9, [.ref q]))) (f1 : φ q = some (.inl (cA 1, 8, .inl (fun j => nI (g j))))) (hi : i < 8) : hM l yX5_setRadius cX5_setRadius 3 none { frames := 8, cells := 0, slots := 0, locals := 200 } [.ref h0, .int (nI i), .int (nI len)] D cA ga φ sz (fun v φ' => v = none ∧ φ' = ups φ q (.inl (cA 1, 8, .inl (fun j => nI ((va_up g i len) j))))) 0 0 := by
  refine hM.of (by decide) (Nat.le_of_ble_eq_true rfl) rfl ?_
  intro p e s m args below meth c ls H locs S hr hlocks hnm hsz hHz hH hK hX hS hA hl
  refine lv_iload_n (pc := 0) S.1 S.2.1 dX5_setRadius_0 rfl (lv_at hl 1 rfl) ?_
  refine hv_if_lt (pc := 1) (tgt := 20) (a := i) S.1 S.2.1 (by omega) dX5_setRadius_1 (by decide) (fun c_1 => ?_) (fun c_1 => ?_)
  · skip
    exact c_1.elim
  · skip
    refine lv_iload_n (pc := 4) S.1 S.2.1 dX5_setRadius_4 rfl (lv_at hl 1 rfl) ?_
    refine lv_aload_n (pc := 5) S.1 S.2.1 dX5_setRadius_5 rfl (lv_at hl 0 rfl) ?_
    refine hv_get (pc := 6) (C := RX5) (T := TX5) (N := 1) (ref := RX5) S uwX5 hK hH f0 rfl 0 (by decide) tw_85 (fun _ h9 => h9) rfl dX5_setRadius_6 ?_
    refine hv_alen (pc := 9) (v := nI 8) S hK hH 1 f1 rfl rfl dX5_setRadius_9 ?_
    refine hv_icmp_ge (pc := 10) (tgt := 20) (a := i) (b := 8) S.1 S.2.1 (by omega) (by omega) dX5_setRadius_10 (by decide) (fun c_2 => ?_) (fun c_2 => ?_)
    · skip
      exact absurd c_2 (by omega)
    · skip
      refine lv_aload_n (pc := 13) S.1 S.2.1 dX5_setRadius_13 rfl (lv_at hl 0 rfl) ?_
      refine hv_get (pc := 14) (C := RX5) (T := TX5) (N := 1) (ref := RX5) S uwX5 hK hH f0 rfl 0 (by decide) tw_85 (fun _ h9 => h9) rfl dX5_setRadius_14 ?_
      refine lv_iload_n (pc := 17) S.1 S.2.1 dX5_setRadius_17 rfl (lv_at hl 1 rfl) ?_
      refine lv_iload_n (pc := 18) S.1 S.2.1 dX5_setRadius_18 rfl (lv_at hl 2 rfl) ?_
      refine hv_iast (pc := 19) S hK hH hS 1 f1 rfl (vp_in_nI (by omega) (by omega)) dX5_setRadius_19 (fun H locs hH hS => ?_)
      rw [hv_upd (by omega)] at hH
      obtain ⟨φ_3, hφ_3, fa_φ_3, fr_φ_3, hH⟩ := nup (e := .inl (cA 1, 8, .inl (fun j => nI ((va_up g i len) j)))) hH
      have f_4 := fr_φ_3 _ _ (hp_ne f0 f1 (by intro h; cases h)) f0
      exact hv_vret (pc := 20) S hr hlocks hH hS (⟨rfl, by rw [hφ_3]⟩) (Nat.le_of_ble_eq_true rfl) (Nat.le_of_ble_eq_true rfl) dX5_setRadius_20

set_option maxHeartbeats 4000000 in
set_option maxRecDepth 100000 in
/-- Head.around() -/
theorem c_X5_around (l : Launch) (D : va_G) (cA : Nat → ClassId) (ga : Nat → Nat → Nat) (φ : hpM) (sz : Nat) (h0 q : Nat) (g : Nat → Nat) (f0 : φ h0 = some (.inr (9, [.ref q]))) (f1 : φ q = some (.inl (cA 1, 8, .inl (fun j => nI (g j))))) (hg8 : smN g 8 ≤ 1600) : hM l yX5_around cX5_around 6 (some .int) { frames := 8, cells := 0, slots := 0, locals := 200 } [.ref h0] D cA ga φ sz (fun v φ' => v = some (.int (nI (smN g 8 * 785 / 1000))) ∧ φ' = φ) 0 0 := by
  refine hM.of (by decide) (Nat.le_of_ble_eq_true rfl) rfl ?_
  intro p e s m args below meth c ls H locs S hr hlocks hnm hsz hHz hH hK hX hS hA hl
  refine lv_iconst (pc := 0) (v := nI 0) S.1 S.2.1 dX5_around_0 (by decide) ?_
  refine lv_istore_n (pc := 1) (lv' := [(1, .int (nI 0)), (0, .ref h0)]) S.1 S.2.1 dX5_around_1 rfl hl (by decide) rfl (fun ls hl => ?_)
  refine lv_aload_n (pc := 2) S.1 S.2.1 dX5_around_2 rfl (lv_at hl 1 rfl) ?_
  refine hv_get (pc := 3) (C := RX5) (T := TX5) (N := 1) (ref := RX5) S uwX5 hK hH f0 rfl 0 (by decide) tw_85 (fun _ h9 => h9) rfl dX5_around_3 ?_
  refine lv_astore_n (pc := 6) (lv' := [(2, .ref q), (1, .int (nI 0)), (0, .ref h0)]) S.1 S.2.1 dX5_around_6 rfl hl (by decide) rfl (fun ls hl => ?_)
  refine lv_aload_n (pc := 7) S.1 S.2.1 dX5_around_7 rfl (lv_at hl 0 rfl) ?_
  refine hv_alen (pc := 8) (v := nI 8) S hK hH 1 f1 rfl rfl dX5_around_8 ?_
  refine lv_istore_n (pc := 9) (lv' := [(3, .int (nI 8)), (2, .ref q), (1, .int (nI 0)), (0, .ref h0)]) S.1 S.2.1 dX5_around_9 rfl hl (by decide) rfl (fun ls hl => ?_)
  refine lv_iconst (pc := 10) (v := nI 0) S.1 S.2.1 dX5_around_10 (by decide) ?_
  refine lv_istore (pc := 11) (lv' := [(4, .int (nI 0)), (3, .int (nI 8)), (2, .ref q), (1, .int (nI 0)), (0, .ref h0)]) S.1 S.2.1 dX5_around_11 hl (by decide) rfl (fun ls hl => ?_)
  have hg : ∃ (n i : Nat), (i + n = 8) ∧ lv_has ls 6 [(0, .ref h0), (1, .int (nI (smN g i))), (2, .ref q), (3, .int (nI 8)), (4, .int (nI i))] := ⟨8, 0, rfl, lv_sub hl [4, 3, 2, 1, 0] rfl⟩
  clear hl
  try clear hHz
  obtain ⟨n, i, hi, hl⟩ := hg
  induction n generalizing ls H locs i with
  | zero =>
    obtain rfl : i = 8 := by omega
    refine lv_iload (pc := 13) S.1 S.2.1 dX5_around_13 (lv_at hl 4 rfl) ?_
    refine lv_iload_n (pc := 15) S.1 S.2.1 dX5_around_15 rfl (lv_at hl 3 rfl) ?_
    refine hv_icmp_ge (pc := 16) (tgt := 36) (a := 8) (b := 8) S.1 S.2.1 (by omega) (by omega) dX5_around_16 (by decide) (fun c_1 => ?_) (fun c_1 => ?_)
    · skip
      refine lv_iload_n (pc := 36) S.1 S.2.1 dX5_around_36 rfl (lv_at hl 1 rfl) ?_
      refine lv_sipush (pc := 37) (v := nI 785) S.1 S.2.1 dX5_around_37 (by decide) ?_
      refine lv_imul (pc := 40) S.1 S.2.1 dX5_around_40 ?_
      refine hv_ti (y := nI ((smN g 8) * 785)) (pk_mul _ _) ?_
      refine lv_sipush (pc := 41) (v := nI 1000) S.1 S.2.1 dX5_around_41 (by decide) ?_
      refine lv_idiv (pc := 44) S.1 S.2.1 dX5_around_44 (by decide) ?_
      refine hv_ti (y := nI (((smN g 8) * 785) / 1000)) (pk_div (by omega) (by omega) (by omega)) ?_
      exact hv_ret (pc := 45) (v := nI (((smN g 8) * 785) / 1000)) S hr rfl hlocks hH hS (⟨rfl, rfl⟩) (Nat.le_of_ble_eq_true rfl) (Nat.le_of_ble_eq_true rfl) dX5_around_45
    · skip
      exact absurd c_1 (by omega)
  | succ n ih =>
    refine lv_iload (pc := 13) S.1 S.2.1 dX5_around_13 (lv_at hl 4 rfl) ?_
    refine lv_iload_n (pc := 15) S.1 S.2.1 dX5_around_15 rfl (lv_at hl 3 rfl) ?_
    refine hv_icmp_ge (pc := 16) (tgt := 36) (a := i) (b := 8) S.1 S.2.1 (by omega) (by omega) dX5_around_16 (by decide) (fun c_2 => ?_) (fun c_2 => ?_)
    · skip
      exact absurd c_2 (by omega)
    · skip
      refine lv_aload_n (pc := 19) S.1 S.2.1 dX5_around_19 rfl (lv_at hl 2 rfl) ?_
      refine lv_iload (pc := 20) S.1 S.2.1 dX5_around_20 (lv_at hl 4 rfl) ?_
      refine hv_iald (pc := 22) S hK hH 1 f1 rfl (vp_in_nI (by omega) (by omega)) dX5_around_22 ?_
      refine hv_ti (y := nI (g i)) (hv_ld (by omega)) ?_
      refine lv_istore (pc := 23) (lv' := [(5, .int (nI (g i))), (0, .ref h0), (1, .int (nI (smN g i))), (2, .ref q), (3, .int (nI 8)), (4, .int (nI i))]) S.1 S.2.1 dX5_around_23 hl (by decide) rfl (fun ls hl => ?_)
      refine lv_iload_n (pc := 25) S.1 S.2.1 dX5_around_25 rfl (lv_at hl 2 rfl) ?_
      refine lv_iload (pc := 26) S.1 S.2.1 dX5_around_26 (lv_at hl 0 rfl) ?_
      refine lv_iadd (pc := 28) S.1 S.2.1 dX5_around_28 ?_
      refine hv_ti (y := nI ((smN g i) + (g i))) (nI_add _ _) ?_
      refine lv_istore_n (pc := 29) (lv' := [(1, .int (nI ((smN g i) + (g i)))), (5, .int (nI (g i))), (0, .ref h0), (2, .ref q), (3, .int (nI 8)), (4, .int (nI i))]) S.1 S.2.1 dX5_around_29 rfl hl (by decide) rfl (fun ls hl => ?_)
      refine lv_iinc (pc := 30) (v := nI (i + 1)) (lv' := [(4, .int (nI (i + 1))), (1, .int (nI ((smN g i) + (g i)))), (5, .int (nI (g i))), (0, .ref h0), (2, .ref q), (3, .int (nI 8))]) S.1 S.2.1 dX5_around_30 hl (k := 5) rfl (by first | rfl | exact nI_add _ _) (by decide) rfl (fun ls hl => ?_)
      refine lv_goto (pc := 33) (tgt := 13) S.1 S.2.1 dX5_around_33 (by decide) ?_
      have hi2 : (i + 1) + n = 8 := by omega
      have hl2 : lv_has ls 6 [(0, .ref h0), (1, .int (nI (smN g (i + 1)))), (2, .ref q), (3, .int (nI 8)), (4, .int (nI (i + 1)))] := lv_sub hl [3, 1, 4, 5, 0] rfl
      apply ih (i := i + 1) <;> assumption

/-- the gain of a row; the stitches of row j + 1, and of all rows up to it -/
def gN (k r : Nat) : Nat := if sLes k = 0 then sGai k else sGai k - r / 3
def sN (k : Nat) : Nat → Nat
  | 0 => 6
  | j + 1 => sN k j + gN k (j + 2)
def tN (k : Nat) : Nat → Nat
  | 0 => 6
  | j + 1 => tN k j + sN k (j + 1)
theorem sGai_le (k : Nat) : sGai k ≤ 9 := by
  match k with
  | 0 | 1 | 2 | 3 => decide
  | k + 4 => exact Nat.zero_le _
theorem sLes_le (k : Nat) : sLes k ≤ 1 := by
  match k with
  | 0 | 1 | 2 | 3 => decide
  | k + 4 => exact Nat.zero_le _
theorem gN_le (k r : Nat) : gN k r ≤ 9 := by
  have := sGai_le k
  unfold gN
  split <;> omega
theorem sN_le (k : Nat) : ∀ j, sN k j ≤ 6 + 9 * j
  | 0 => Nat.le_refl _
  | j + 1 => by have := sN_le k j; have := gN_le k (j + 2); simp only [sN]; omega
theorem hv_max0 {a b : Nat} (ha : a < 2 ^ 30) (hb : b < 2 ^ 30) : (if nI 0 < nI a - nI b then nI a - nI b else nI 0) = nI (a - b) := by
  by_cases h : b ≤ a
  · rw [pk_sub h]
    by_cases h2 : a = b
    · subst h2; rw [Nat.sub_self]; rfl
    · rw [if_pos (nI_lt (by omega) (by omega))]
  · have hn : nI a - nI b < 0 := pk_sneg (by omega) (by omega)
    rw [if_neg (fun z => by have z2 : (0 : Int32) < nI a - nI b := z; rw [Int32.lt_iff_toInt_lt] at hn z2; omega), show a - b = 0 by omega]
set_option maxHeartbeats 4000000 in
set_option maxRecDepth 100000 in
/-- Spiral.gainOf(row) -/
theorem c_X7_gainOf (l : Launch) (D : va_G) (cA : Nat → ClassId) (ga : Nat → Nat → Nat) (φ : hpM) (sz : Nat) (k x : Nat) (hk : k < 4) (hx : x < 2 ^ 30) : hM l yX7_gainOf cX7_gainOf 2 (some .int) { frames := 8, cells := 0, slots := 0, locals := 200 } [.ref (ga 2 k), .int (nI x)] D cA ga φ sz (fun v φ' => v = some (.int (nI (gN k x))) ∧ φ' = φ) 0 0 := by
  refine hM.of (by decide) (Nat.le_of_ble_eq_true rfl) rfl ?_
  intro p e s m args below meth c ls H locs S hr hlocks hnm hsz hHz hH hK hX hS hA hl
  have hl1 := sLes_le k
  have hg1 := sGai_le k
  refine lv_aload_n (pc := 0) S.1 S.2.1 dX7_gainOf_0 rfl (lv_at hl 0 rfl) ?_
  refine va_getX (pc := 1) (i := k) (ref := RX7) (index := 45) S.1 S.2.1 hX.spi_less hk hS S.2.2.2.1 (S.2.2.2.2 _ tw_1213) (fun _ h9 => h9) dX7_gainOf_1 ?_
  refine hv_if_eq (pc := 4) (tgt := 22) (a := sLes k) S.1 S.2.1 (by omega) dX7_gainOf_4 (by decide) (fun c_1 => ?_) (fun c_1 => ?_)
  · skip
    refine lv_aload_n (pc := 22) S.1 S.2.1 dX7_gainOf_22 rfl (lv_at hl 0 rfl) ?_
    refine va_getX (pc := 23) (i := k) (ref := RX7) (index := 41) S.1 S.2.1 hX.spi_gain hk hS S.2.2.2.1 (S.2.2.2.2 _ tw_1214) (fun _ h9 => h9) dX7_gainOf_23 ?_
    exact hv_ret (pc := 26) (v := nI (sGai k)) S hr rfl hlocks hH hS (⟨by rw [gN, if_pos c_1], rfl⟩) (Nat.le_of_ble_eq_true rfl) (Nat.le_of_ble_eq_true rfl) dX7_gainOf_26
  · skip
    refine lv_iconst (pc := 7) (v := nI 0) S.1 S.2.1 dX7_gainOf_7 (by decide) ?_
    refine lv_aload_n (pc := 8) S.1 S.2.1 dX7_gainOf_8 rfl (lv_at hl 0 rfl) ?_
    refine va_getX (pc := 9) (i := k) (ref := RX7) (index := 41) S.1 S.2.1 hX.spi_gain hk hS S.2.2.2.1 (S.2.2.2.2 _ tw_1214) (fun _ h9 => h9) dX7_gainOf_9 ?_
    refine lv_iload_n (pc := 12) S.1 S.2.1 dX7_gainOf_12 rfl (lv_at hl 1 rfl) ?_
    refine lv_iconst (pc := 13) (v := nI 3) S.1 S.2.1 dX7_gainOf_13 (by decide) ?_
    refine lv_idiv (pc := 14) S.1 S.2.1 dX7_gainOf_14 (by decide) ?_
    refine hv_ti (y := nI (x / 3)) (pk_div (by omega) (by omega) (by omega)) ?_
    refine lv_isub (pc := 15) S.1 S.2.1 dX7_gainOf_15 ?_
    refine va_mmax (pc := 16) S.1 S.2.1 (by rw [S.2.2.1]; exact hl.1.symm) S.2.2.2.1 (S.2.2.2.2 _ tw_860) (S.2.2.2.2 _ tw_250) (S.2.2.2.2 _ tw_14) (S.2.2.2.2 _ tw_251) (Nat.le_of_ble_eq_true rfl) (Nat.le_of_ble_eq_true rfl) (Nat.le_of_ble_eq_true rfl) (Nat.le_of_ble_eq_true rfl) dX7_gainOf_16 ?_
    refine hv_ti (y := nI (sGai k - x / 3)) (hv_max0 (by omega) (by omega)) ?_
    refine lv_goto (pc := 19) (tgt := 26) S.1 S.2.1 dX7_gainOf_19 (by decide) ?_
    exact hv_ret (pc := 26) (v := nI (sGai k - x / 3)) S hr rfl hlocks hH hS (⟨by rw [gN, if_neg c_1], rfl⟩) (Nat.le_of_ble_eq_true rfl) (Nat.le_of_ble_eq_true rfl) dX7_gainOf_26

set_option maxHeartbeats 4000000 in
set_option maxRecDepth 100000 in
/-- Spiral.stitchesRowByRow(rows) -/
theorem c_X7_stitchesRowByRow (l : Launch) (D : va_G) (cA : Nat → ClassId) (ga : Nat → Nat → Nat) (φ : hpM) (sz : Nat) (k x : Nat) (hk : k < 4) (hx : x ≤ 100) (hx1 : 1 ≤ x) : hM l yX7_stitchesRowByRow cX7_stitchesRowByRow 5 (some .int) { frames := 9, cells := 0, slots := 0, locals := 260 } [.ref (ga 2 k), .int (nI x)] D cA ga φ sz (fun v φ' => v = some (.int (nI (tN k (x - 1)))) ∧ φ' = φ) 0 0 := by
  refine hM.of (by decide) (Nat.le_of_ble_eq_true rfl) rfl ?_
  intro p e s m args below meth c ls H locs S hr hlocks hnm hsz hHz hH hK hX hS hA hl
  refine lv_bipush (pc := 0) (v := nI 6) S.1 S.2.1 dX7_stitchesRowByRow_0 (by decide) ?_
  refine lv_istore_n (pc := 2) (lv' := [(2, .int (nI 6)), (0, .ref (ga 2 k)), (1, .int (nI x))]) S.1 S.2.1 dX7_stitchesRowByRow_2 rfl hl (by decide) rfl (fun ls hl => ?_)
  refine lv_bipush (pc := 3) (v := nI 6) S.1 S.2.1 dX7_stitchesRowByRow_3 (by decide) ?_
  refine lv_istore_n (pc := 5) (lv' := [(3, .int (nI 6)), (2, .int (nI 6)), (0, .ref (ga 2 k)), (1, .int (nI x))]) S.1 S.2.1 dX7_stitchesRowByRow_5 rfl hl (by decide) rfl (fun ls hl => ?_)
  refine lv_iconst (pc := 6) (v := nI 2) S.1 S.2.1 dX7_stitchesRowByRow_6 (by decide) ?_
  refine lv_istore (pc := 7) (lv' := [(4, .int (nI 2)), (3, .int (nI 6)), (2, .int (nI 6)), (0, .ref (ga 2 k)), (1, .int (nI x))]) S.1 S.2.1 dX7_stitchesRowByRow_7 hl (by decide) rfl (fun ls hl => ?_)
  have hg : ∃ (n i : Nat), (i + 1 + n = x) ∧ lv_has ls 5 [(0, .ref (ga 2 k)), (1, .int (nI x)), (2, .int (nI (sN k i))), (3, .int (nI (tN k i))), (4, .int (nI (i + 2)))] := ⟨x - 1, 0, by omega, lv_sub hl [3, 4, 2, 1, 0] rfl⟩
  clear hl
  try clear hHz
  obtain ⟨n, i, hi, hl⟩ := hg
  induction n generalizing ls H locs i with
  | zero =>
    obtain rfl : x = i + 1 := by omega
    refine lv_iload (pc := 9) S.1 S.2.1 dX7_stitchesRowByRow_9 (lv_at hl 4 rfl) ?_
    refine lv_iload_n (pc := 11) S.1 S.2.1 dX7_stitchesRowByRow_11 rfl (lv_at hl 1 rfl) ?_
    refine hv_icmp_gt (pc := 12) (tgt := 34) (a := i + 2) (b := i + 1) S.1 S.2.1 (by omega) (by omega) dX7_stitchesRowByRow_12 (by decide) (fun c_1 => ?_) (fun c_1 => ?_)
    · skip
      refine lv_iload_n (pc := 34) S.1 S.2.1 dX7_stitchesRowByRow_34 rfl (lv_at hl 3 rfl) ?_
      exact hv_ret (pc := 35) (v := nI (tN k i)) S hr rfl hlocks hH hS (⟨by rw [Nat.add_sub_cancel], rfl⟩) (Nat.le_of_ble_eq_true rfl) (Nat.le_of_ble_eq_true rfl) dX7_stitchesRowByRow_35
    · skip
      exact absurd c_1 (by omega)
  | succ n ih =>
    refine lv_iload (pc := 9) S.1 S.2.1 dX7_stitchesRowByRow_9 (lv_at hl 4 rfl) ?_
    refine lv_iload_n (pc := 11) S.1 S.2.1 dX7_stitchesRowByRow_11 rfl (lv_at hl 1 rfl) ?_
    refine hv_icmp_gt (pc := 12) (tgt := 34) (a := i + 2) (b := x) S.1 S.2.1 (by omega) (by omega) dX7_stitchesRowByRow_12 (by decide) (fun c_2 => ?_) (fun c_2 => ?_)
    · skip
      exact absurd c_2 (by omega)
    · skip
      refine lv_iload_n (pc := 15) S.1 S.2.1 dX7_stitchesRowByRow_15 rfl (lv_at hl 2 rfl) ?_
      refine lv_aload_n (pc := 16) S.1 S.2.1 dX7_stitchesRowByRow_16 rfl (lv_at hl 0 rfl) ?_
      refine lv_iload (pc := 17) S.1 S.2.1 dX7_stitchesRowByRow_17 (lv_at hl 4 rfl) ?_
      refine hv_call (pc := 19) (va_runV (As := [.int (nI (i + 2))]) (rest := [.int (nI (sN k i))]) S (c_X7_gainOf l D cA ga φ H.size k (i + 2) hk (by omega)) (cwV 1 S.2.2.2.2 (gV tw_856 tw_858 sw_26 tw_29 tw_859) rfl rfl rfl (by decide +kernel) ⟨Nat.le_of_ble_eq_true rfl, Nat.le_of_ble_eq_true rfl⟩) (pre0_V hH hK hX hS hA (o_recv (hX.spiO k hk) hS)) rfl rfl hl.1 rfl (lv_room (Nat.le_of_ble_eq_true rfl)) dX7_stitchesRowByRow_19 ⟨Nat.le_of_ble_eq_true rfl, Nat.le_of_ble_eq_true rfl⟩) hS (af_le hH hS hA) (fun v_3 φ_4 H locs hw_v_3 hH hS => ?_)
      obtain ⟨rfl, rfl⟩ := hw_v_3
      refine lv_iadd (pc := 22) S.1 S.2.1 dX7_stitchesRowByRow_22 ?_
      refine hv_ti (y := nI ((sN k i) + (gN k (i + 2)))) (nI_add _ _) ?_
      refine lv_istore_n (pc := 23) (lv' := [(2, .int (nI ((sN k i) + (gN k (i + 2))))), (0, .ref (ga 2 k)), (1, .int (nI x)), (3, .int (nI (tN k i))), (4, .int (nI (i + 2)))]) S.1 S.2.1 dX7_stitchesRowByRow_23 rfl hl (by decide) rfl (fun ls hl => ?_)
      refine lv_iload_n (pc := 24) S.1 S.2.1 dX7_stitchesRowByRow_24 rfl (lv_at hl 3 rfl) ?_
      refine lv_iload_n (pc := 25) S.1 S.2.1 dX7_stitchesRowByRow_25 rfl (lv_at hl 0 rfl) ?_
      refine lv_iadd (pc := 26) S.1 S.2.1 dX7_stitchesRowByRow_26 ?_
      refine hv_ti (y := nI ((tN k i) + ((sN k i) + (gN k (i + 2))))) (nI_add _ _) ?_
      refine lv_istore_n (pc := 27) (lv' := [(3, .int (nI ((tN k i) + ((sN k i) + (gN k (i + 2)))))), (2, .int (nI ((sN k i) + (gN k (i + 2))))), (0, .ref (ga 2 k)), (1, .int (nI x)), (4, .int (nI (i + 2)))]) S.1 S.2.1 dX7_stitchesRowByRow_27 rfl hl (by decide) rfl (fun ls hl => ?_)
      refine lv_iinc (pc := 28) (v := nI (i + 2 + 1)) (lv' := [(4, .int (nI (i + 2 + 1))), (3, .int (nI ((tN k i) + ((sN k i) + (gN k (i + 2)))))), (2, .int (nI ((sN k i) + (gN k (i + 2))))), (0, .ref (ga 2 k)), (1, .int (nI x))]) S.1 S.2.1 dX7_stitchesRowByRow_28 hl (k := 4) rfl (by first | rfl | exact nI_add _ _) (by decide) rfl (fun ls hl => ?_)
      refine lv_goto (pc := 31) (tgt := 9) S.1 S.2.1 dX7_stitchesRowByRow_31 (by decide) ?_
      have hi2 : (i + 1) + 1 + n = x := by omega
      have hl2 : lv_has ls 5 [(0, .ref (ga 2 k)), (1, .int (nI x)), (2, .int (nI (sN k (i + 1)))), (3, .int (nI (tN k (i + 1)))), (4, .int (nI ((i + 1) + 2)))] := lv_sub hl [3, 4, 2, 1, 0] rfl
      apply ih (i := i + 1) <;> assumption

def adN (a b : Nat) : Nat := (b - 1) * (2 * a - b) / 2
def aoN (x : Nat) : Nat → Nat
  | 0 => 6 * x
  | j + 1 => aoN x j + adN x (min x (3 * (j + 1) - 1))
/-- at once is what row by row is -/
theorem ao_eq : ∀ k, k < 4 → ∀ x, x < 101 → 1 ≤ x → (if sLes k = 0 then 6 * x + sGai k * adN x x else aoN x (sGai k)) = tN k (x - 1) := by decide +kernel
set_option maxHeartbeats 4000000 in
set_option maxRecDepth 100000 in
/-- Spiral.addedByOneEach(rows, last) -/
theorem c_X7_addedByOneEach (l : Launch) (D : va_G) (cA : Nat → ClassId) (ga : Nat → Nat → Nat) (φ : hpM) (sz : Nat) (a b : Nat) (ha : a ≤ 100) (hb1 : 1 ≤ b) (hb : b ≤ a) : hM l yX7_addedByOneEach cX7_addedByOneEach 2 (some .int) { frames := 8, cells := 0, slots := 0, locals := 200 } [.int (nI a), .int (nI b)] D cA ga φ sz (fun v φ' => v = some (.int (nI (adN a b))) ∧ φ' = φ) 0 0 := by
  refine hM.of (by decide) (Nat.le_of_ble_eq_true rfl) rfl ?_
  intro p e s m args below meth c ls H locs S hr hlocks hnm hsz hHz hH hK hX hS hA hl
  have hm : (b - 1) * (2 * a - b) ≤ 100 * 200 := Nat.mul_le_mul (by omega) (by omega)
  refine lv_iload_n (pc := 0) S.1 S.2.1 dX7_addedByOneEach_0 rfl (lv_at hl 1 rfl) ?_
  refine lv_iconst (pc := 1) (v := nI 1) S.1 S.2.1 dX7_addedByOneEach_1 (by decide) ?_
  refine lv_isub (pc := 2) S.1 S.2.1 dX7_addedByOneEach_2 ?_
  refine hv_ti (y := nI (b - 1)) (pk_sub (by omega)) ?_
  refine lv_iconst (pc := 3) (v := nI 2) S.1 S.2.1 dX7_addedByOneEach_3 (by decide) ?_
  refine lv_iload_n (pc := 4) S.1 S.2.1 dX7_addedByOneEach_4 rfl (lv_at hl 0 rfl) ?_
  refine lv_imul (pc := 5) S.1 S.2.1 dX7_addedByOneEach_5 ?_
  refine hv_ti (y := nI (2 * a)) (pk_mul _ _) ?_
  refine lv_iload_n (pc := 6) S.1 S.2.1 dX7_addedByOneEach_6 rfl (lv_at hl 1 rfl) ?_
  refine lv_isub (pc := 7) S.1 S.2.1 dX7_addedByOneEach_7 ?_
  refine hv_ti (y := nI ((2 * a) - b)) (pk_sub (by omega)) ?_
  refine lv_imul (pc := 8) S.1 S.2.1 dX7_addedByOneEach_8 ?_
  refine hv_ti (y := nI ((b - 1) * ((2 * a) - b))) (pk_mul _ _) ?_
  refine lv_iconst (pc := 9) (v := nI 2) S.1 S.2.1 dX7_addedByOneEach_9 (by decide) ?_
  refine lv_idiv (pc := 10) S.1 S.2.1 dX7_addedByOneEach_10 (by decide) ?_
  refine hv_ti (y := nI (((b - 1) * ((2 * a) - b)) / 2)) (pk_div (by omega) (by omega) (by omega)) ?_
  exact hv_ret (pc := 11) (v := nI (((b - 1) * ((2 * a) - b)) / 2)) S hr rfl hlocks hH hS (⟨rfl, rfl⟩) (Nat.le_of_ble_eq_true rfl) (Nat.le_of_ble_eq_true rfl) dX7_addedByOneEach_11

theorem hv_min {a b : Nat} (ha : a < 2 ^ 31) (hb : b < 2 ^ 31) : (if nI b < nI a then nI b else nI a) = nI (min a b) := by
  by_cases h : b < a
  · rw [if_pos (nI_lt h ha), Nat.min_eq_right (by omega)]
  · rw [if_neg (nI_nlt (by omega) hb), Nat.min_eq_left (by omega)]
set_option maxHeartbeats 4000000 in
set_option maxRecDepth 100000 in
/-- Spiral.stitchesAtOnce(rows) -/
theorem c_X7_stitchesAtOnce (l : Launch) (D : va_G) (cA : Nat → ClassId) (ga : Nat → Nat → Nat) (φ : hpM) (sz : Nat) (k x : Nat) (hk : k < 4) (hx : x ≤ 100) (hx1 : 1 ≤ x) : hM l yX7_stitchesAtOnce cX7_stitchesAtOnce 4 (some .int) { frames := 9, cells := 0, slots := 0, locals := 260 } [.ref (ga 2 k), .int (nI x)] D cA ga φ sz (fun v φ' => v = some (.int (nI (tN k (x - 1)))) ∧ φ' = φ) 0 0 := by
  refine hM.of (by decide) (Nat.le_of_ble_eq_true rfl) rfl ?_
  intro p e s m args below meth c ls H locs S hr hlocks hnm hsz hHz hH hK hX hS hA hl
  have hl1 := sLes_le k
  have hg1 := sGai_le k
  have hao := ao_eq k hk x (by omega) hx1
  refine lv_aload_n (pc := 0) S.1 S.2.1 dX7_stitchesAtOnce_0 rfl (lv_at hl 0 rfl) ?_
  refine va_getX (pc := 1) (i := k) (ref := RX7) (index := 45) S.1 S.2.1 hX.spi_less hk hS S.2.2.2.1 (S.2.2.2.2 _ tw_1213) (fun _ h9 => h9) dX7_stitchesAtOnce_1 ?_
  refine hv_if_ne (pc := 4) (tgt := 23) (a := sLes k) S.1 S.2.1 (by omega) dX7_stitchesAtOnce_4 (by decide) (fun c_1 => ?_) (fun c_1 => ?_)
  · skip
    refine lv_bipush (pc := 23) (v := nI 6) S.1 S.2.1 dX7_stitchesAtOnce_23 (by decide) ?_
    refine lv_iload_n (pc := 25) S.1 S.2.1 dX7_stitchesAtOnce_25 rfl (lv_at hl 1 rfl) ?_
    refine lv_imul (pc := 26) S.1 S.2.1 dX7_stitchesAtOnce_26 ?_
    refine hv_ti (y := nI (6 * x)) (pk_mul _ _) ?_
    refine lv_istore_n (pc := 27) (lv' := [(2, .int (nI (6 * x))), (0, .ref (ga 2 k)), (1, .int (nI x))]) S.1 S.2.1 dX7_stitchesAtOnce_27 rfl hl (by decide) rfl (fun ls hl => ?_)
    refine lv_iconst (pc := 28) (v := nI 1) S.1 S.2.1 dX7_stitchesAtOnce_28 (by decide) ?_
    refine lv_istore_n (pc := 29) (lv' := [(3, .int (nI 1)), (2, .int (nI (6 * x))), (0, .ref (ga 2 k)), (1, .int (nI x))]) S.1 S.2.1 dX7_stitchesAtOnce_29 rfl hl (by decide) rfl (fun ls hl => ?_)
    have hg : ∃ (n i : Nat), (i + n = sGai k) ∧ lv_has ls 4 [(0, .ref (ga 2 k)), (1, .int (nI x)), (2, .int (nI (aoN x i))), (3, .int (nI (i + 1)))] := ⟨sGai k, 0, by omega, lv_sub hl [2, 3, 1, 0] rfl⟩
    clear hl
    try clear hHz
    obtain ⟨n, i, hi, hl⟩ := hg
    induction n generalizing ls H locs i with
    | zero =>
      refine lv_iload_n (pc := 30) S.1 S.2.1 dX7_stitchesAtOnce_30 rfl (lv_at hl 3 rfl) ?_
      refine lv_aload_n (pc := 31) S.1 S.2.1 dX7_stitchesAtOnce_31 rfl (lv_at hl 0 rfl) ?_
      refine va_getX (pc := 32) (i := k) (ref := RX7) (index := 41) S.1 S.2.1 hX.spi_gain hk hS S.2.2.2.1 (S.2.2.2.2 _ tw_1214) (fun _ h9 => h9) dX7_stitchesAtOnce_32 ?_
      refine hv_icmp_gt (pc := 35) (tgt := 60) (a := i + 1) (b := sGai k) S.1 S.2.1 (by omega) (by omega) dX7_stitchesAtOnce_35 (by decide) (fun c_2 => ?_) (fun c_2 => ?_)
      · skip
        refine lv_iload_n (pc := 60) S.1 S.2.1 dX7_stitchesAtOnce_60 rfl (lv_at hl 2 rfl) ?_
        exact hv_ret (pc := 61) (v := nI (aoN x i)) S hr rfl hlocks hH hS (⟨by rw [if_neg c_1] at hao; rw [← hao, show i = sGai k by omega], rfl⟩) (Nat.le_of_ble_eq_true rfl) (Nat.le_of_ble_eq_true rfl) dX7_stitchesAtOnce_61
      · skip
        exact absurd c_2 (by omega)
    | succ n ih =>
      refine lv_iload_n (pc := 30) S.1 S.2.1 dX7_stitchesAtOnce_30 rfl (lv_at hl 3 rfl) ?_
      refine lv_aload_n (pc := 31) S.1 S.2.1 dX7_stitchesAtOnce_31 rfl (lv_at hl 0 rfl) ?_
      refine va_getX (pc := 32) (i := k) (ref := RX7) (index := 41) S.1 S.2.1 hX.spi_gain hk hS S.2.2.2.1 (S.2.2.2.2 _ tw_1214) (fun _ h9 => h9) dX7_stitchesAtOnce_32 ?_
      refine hv_icmp_gt (pc := 35) (tgt := 60) (a := i + 1) (b := sGai k) S.1 S.2.1 (by omega) (by omega) dX7_stitchesAtOnce_35 (by decide) (fun c_3 => ?_) (fun c_3 => ?_)
      · skip
        exact absurd c_3 (by omega)
      · skip
        refine lv_iload_n (pc := 38) S.1 S.2.1 dX7_stitchesAtOnce_38 rfl (lv_at hl 2 rfl) ?_
        refine lv_iload_n (pc := 39) S.1 S.2.1 dX7_stitchesAtOnce_39 rfl (lv_at hl 1 rfl) ?_
        refine lv_iload_n (pc := 40) S.1 S.2.1 dX7_stitchesAtOnce_40 rfl (lv_at hl 1 rfl) ?_
        refine lv_iconst (pc := 41) (v := nI 3) S.1 S.2.1 dX7_stitchesAtOnce_41 (by decide) ?_
        refine lv_iload_n (pc := 42) S.1 S.2.1 dX7_stitchesAtOnce_42 rfl (lv_at hl 3 rfl) ?_
        refine lv_imul (pc := 43) S.1 S.2.1 dX7_stitchesAtOnce_43 ?_
        refine hv_ti (y := nI (3 * (i + 1))) (pk_mul _ _) ?_
        refine lv_iconst (pc := 44) (v := nI 1) S.1 S.2.1 dX7_stitchesAtOnce_44 (by decide) ?_
        refine lv_isub (pc := 45) S.1 S.2.1 dX7_stitchesAtOnce_45 ?_
        refine hv_ti (y := nI ((3 * (i + 1)) - 1)) (pk_sub (by omega)) ?_
        refine va_mmin (pc := 46) S.1 S.2.1 (by rw [S.2.2.1]; exact hl.1.symm) S.2.2.2.1 (S.2.2.2.2 _ tw_875) (S.2.2.2.2 _ tw_268) (S.2.2.2.2 _ tw_14) (S.2.2.2.2 _ tw_269) (Nat.le_of_ble_eq_true rfl) (Nat.le_of_ble_eq_true rfl) (Nat.le_of_ble_eq_true rfl) (Nat.le_of_ble_eq_true rfl) dX7_stitchesAtOnce_46 ?_
        refine hv_ti (y := nI (min x (3 * (i + 1) - 1))) (hv_min (by omega) (by omega)) ?_
        refine hv_call (pc := 49) (va_runS (As := [.int (nI x), .int (nI (min x (3 * (i + 1) - 1)))]) (rest := [.int (nI (aoN x i))]) S (c_X7_addedByOneEach l D cA ga φ H.size x (min x (3 * (i + 1) - 1)) hx (by omega) (by omega)) (va_cwS 2 S.2.2.2.2 (gS tw_872 tw_873 tw_29 tw_874) rfl rfl rfl (by decide +kernel) ⟨Nat.le_of_ble_eq_true rfl, Nat.le_of_ble_eq_true rfl⟩) (pre0_S hH hK hX hS hA) rfl rfl hl.1 rfl (lv_room (Nat.le_of_ble_eq_true rfl)) dX7_stitchesAtOnce_49 ⟨Nat.le_of_ble_eq_true rfl, Nat.le_of_ble_eq_true rfl⟩) hS (af_le hH hS hA) (fun v_4 φ_5 H locs hw_v_4 hH hS => ?_)
        obtain ⟨rfl, rfl⟩ := hw_v_4
        refine lv_iadd (pc := 52) S.1 S.2.1 dX7_stitchesAtOnce_52 ?_
        refine hv_ti (y := nI ((aoN x i) + (adN x (min x (3 * (i + 1) - 1))))) (nI_add _ _) ?_
        refine lv_istore_n (pc := 53) (lv' := [(2, .int (nI ((aoN x i) + (adN x (min x (3 * (i + 1) - 1)))))), (0, .ref (ga 2 k)), (1, .int (nI x)), (3, .int (nI (i + 1)))]) S.1 S.2.1 dX7_stitchesAtOnce_53 rfl hl (by decide) rfl (fun ls hl => ?_)
        refine lv_iinc (pc := 54) (v := nI (i + 1 + 1)) (lv' := [(3, .int (nI (i + 1 + 1))), (2, .int (nI ((aoN x i) + (adN x (min x (3 * (i + 1) - 1)))))), (0, .ref (ga 2 k)), (1, .int (nI x))]) S.1 S.2.1 dX7_stitchesAtOnce_54 hl (k := 3) rfl (by first | rfl | exact nI_add _ _) (by decide) rfl (fun ls hl => ?_)
        refine lv_goto (pc := 57) (tgt := 30) S.1 S.2.1 dX7_stitchesAtOnce_57 (by decide) ?_
        have hi2 : (i + 1) + n = sGai k := by omega
        have hl2 : lv_has ls 4 [(0, .ref (ga 2 k)), (1, .int (nI x)), (2, .int (nI (aoN x (i + 1)))), (3, .int (nI ((i + 1) + 1)))] := lv_sub hl [2, 3, 1, 0] rfl
        apply ih (i := i + 1) <;> assumption
  · skip
    refine lv_bipush (pc := 7) (v := nI 6) S.1 S.2.1 dX7_stitchesAtOnce_7 (by decide) ?_
    refine lv_iload_n (pc := 9) S.1 S.2.1 dX7_stitchesAtOnce_9 rfl (lv_at hl 1 rfl) ?_
    refine lv_imul (pc := 10) S.1 S.2.1 dX7_stitchesAtOnce_10 ?_
    refine hv_ti (y := nI (6 * x)) (pk_mul _ _) ?_
    refine lv_aload_n (pc := 11) S.1 S.2.1 dX7_stitchesAtOnce_11 rfl (lv_at hl 0 rfl) ?_
    refine va_getX (pc := 12) (i := k) (ref := RX7) (index := 41) S.1 S.2.1 hX.spi_gain hk hS S.2.2.2.1 (S.2.2.2.2 _ tw_1214) (fun _ h9 => h9) dX7_stitchesAtOnce_12 ?_
    refine lv_iload_n (pc := 15) S.1 S.2.1 dX7_stitchesAtOnce_15 rfl (lv_at hl 1 rfl) ?_
    refine lv_iload_n (pc := 16) S.1 S.2.1 dX7_stitchesAtOnce_16 rfl (lv_at hl 1 rfl) ?_
    refine hv_call (pc := 17) (va_runS (As := [.int (nI x), .int (nI x)]) (rest := [.int (nI (sGai k)), .int (nI (6 * x))]) S (c_X7_addedByOneEach l D cA ga φ H.size x x hx hx1 (Nat.le_refl _)) (va_cwS 2 S.2.2.2.2 (gS tw_872 tw_873 tw_29 tw_874) rfl rfl rfl (by decide +kernel) ⟨Nat.le_of_ble_eq_true rfl, Nat.le_of_ble_eq_true rfl⟩) (pre0_S hH hK hX hS hA) rfl rfl hl.1 rfl (lv_room (Nat.le_of_ble_eq_true rfl)) dX7_stitchesAtOnce_17 ⟨Nat.le_of_ble_eq_true rfl, Nat.le_of_ble_eq_true rfl⟩) hS (af_le hH hS hA) (fun v_6 φ_7 H locs hw_v_6 hH hS => ?_)
    obtain ⟨rfl, rfl⟩ := hw_v_6
    refine lv_imul (pc := 20) S.1 S.2.1 dX7_stitchesAtOnce_20 ?_
    refine hv_ti (y := nI ((sGai k) * (adN x x))) (pk_mul _ _) ?_
    refine lv_iadd (pc := 21) S.1 S.2.1 dX7_stitchesAtOnce_21 ?_
    refine hv_ti (y := nI ((6 * x) + ((sGai k) * (adN x x)))) (nI_add _ _) ?_
    exact hv_ret (pc := 22) (v := nI ((6 * x) + ((sGai k) * (adN x x)))) S hr rfl hlocks hH hS (⟨by rw [if_pos c_1] at hao; rw [← hao], rfl⟩) (Nat.le_of_ble_eq_true rfl) (Nat.le_of_ble_eq_true rfl) dX7_stitchesAtOnce_22

/-- how many rows are needed: the first from j on with enough stitches -/
def rcF (k st : Nat) : Nat → Nat → Option Nat
  | 0, _ => none
  | n + 1, j => if st ≤ sN k j then some (j + 1) else rcF k st n (j + 1)
def rcI (o : Option Nat) : Int32 := match o with
  | some r => nI r
  | none => -1
set_option maxHeartbeats 4000000 in
set_option maxRecDepth 100000 in
/-- Spiral.rowsToClose(stitches) -/
theorem c_X7_rowsToClose (l : Launch) (D : va_G) (cA : Nat → ClassId) (ga : Nat → Nat → Nat) (φ : hpM) (sz : Nat) (k x : Nat) (hk : k < 4) (hx : x ≤ 2000) : hM l yX7_rowsToClose cX7_rowsToClose 4 (some .int) { frames := 9, cells := 0, slots := 0, locals := 260 } [.ref (ga 2 k), .int (nI x)] D cA ga φ sz (fun v φ' => v = some (.int (rcI (rcF k x 1000 0))) ∧ φ' = φ) 0 0 := by
  refine hM.of (by decide) (Nat.le_of_ble_eq_true rfl) rfl ?_
  intro p e s m args below meth c ls H locs S hr hlocks hnm hsz hHz hH hK hX hS hA hl
  refine lv_bipush (pc := 0) (v := nI 6) S.1 S.2.1 dX7_rowsToClose_0 (by decide) ?_
  refine lv_istore_n (pc := 2) (lv' := [(2, .int (nI 6)), (0, .ref (ga 2 k)), (1, .int (nI x))]) S.1 S.2.1 dX7_rowsToClose_2 rfl hl (by decide) rfl (fun ls hl => ?_)
  refine lv_iconst (pc := 3) (v := nI 1) S.1 S.2.1 dX7_rowsToClose_3 (by decide) ?_
  refine lv_istore_n (pc := 4) (lv' := [(3, .int (nI 1)), (2, .int (nI 6)), (0, .ref (ga 2 k)), (1, .int (nI x))]) S.1 S.2.1 dX7_rowsToClose_4 rfl hl (by decide) rfl (fun ls hl => ?_)
  have hg : ∃ (n i : Nat), (i + n = 1000 ∧ rcF k x 1000 0 = rcF k x n i) ∧ lv_has ls 4 [(0, .ref (ga 2 k)), (1, .int (nI x)), (2, .int (nI (sN k i))), (3, .int (nI (i + 1)))] := ⟨1000, 0, ⟨rfl, rfl⟩, lv_sub hl [2, 3, 1, 0] rfl⟩
  clear hl
  try clear hHz
  obtain ⟨n, i, hi, hl⟩ := hg
  induction n generalizing ls H locs i with
  | zero =>
    obtain ⟨hi, hrc⟩ := hi
    refine lv_iload_n (pc := 5) S.1 S.2.1 dX7_rowsToClose_5 rfl (lv_at hl 3 rfl) ?_
    refine lv_sipush (pc := 6) (v := nI 1000) S.1 S.2.1 dX7_rowsToClose_6 (by decide) ?_
    refine hv_icmp_gt (pc := 9) (tgt := 35) (a := i + 1) (b := 1000) S.1 S.2.1 (by omega) (by omega) dX7_rowsToClose_9 (by decide) (fun c_1 => ?_) (fun c_1 => ?_)
    · skip
      refine lv_iconst (pc := 35) (v := -1) S.1 S.2.1 dX7_rowsToClose_35 (by decide) ?_
      exact hv_ret (pc := 36) (v := (-1 : Int32)) S hr rfl hlocks hH hS (⟨by rw [hrc]; rfl, rfl⟩) (Nat.le_of_ble_eq_true rfl) (Nat.le_of_ble_eq_true rfl) dX7_rowsToClose_36
    · skip
      exact absurd c_1 (by omega)
  | succ n ih =>
    obtain ⟨hi, hrc⟩ := hi
    have hsn := sN_le k i
    refine lv_iload_n (pc := 5) S.1 S.2.1 dX7_rowsToClose_5 rfl (lv_at hl 3 rfl) ?_
    refine lv_sipush (pc := 6) (v := nI 1000) S.1 S.2.1 dX7_rowsToClose_6 (by decide) ?_
    refine hv_icmp_gt (pc := 9) (tgt := 35) (a := i + 1) (b := 1000) S.1 S.2.1 (by omega) (by omega) dX7_rowsToClose_9 (by decide) (fun c_2 => ?_) (fun c_2 => ?_)
    · skip
      exact absurd c_2 (by omega)
    · skip
      refine lv_iload_n (pc := 12) S.1 S.2.1 dX7_rowsToClose_12 rfl (lv_at hl 2 rfl) ?_
      refine lv_iload_n (pc := 13) S.1 S.2.1 dX7_rowsToClose_13 rfl (lv_at hl 1 rfl) ?_
      refine hv_icmp_lt (pc := 14) (tgt := 19) (a := sN k i) (b := x) S.1 S.2.1 (by omega) (by omega) dX7_rowsToClose_14 (by decide) (fun c_3 => ?_) (fun c_3 => ?_)
      · skip
        refine lv_iload_n (pc := 19) S.1 S.2.1 dX7_rowsToClose_19 rfl (lv_at hl 2 rfl) ?_
        refine lv_aload_n (pc := 20) S.1 S.2.1 dX7_rowsToClose_20 rfl (lv_at hl 0 rfl) ?_
        refine lv_iload_n (pc := 21) S.1 S.2.1 dX7_rowsToClose_21 rfl (lv_at hl 3 rfl) ?_
        refine lv_iconst (pc := 22) (v := nI 1) S.1 S.2.1 dX7_rowsToClose_22 (by decide) ?_
        refine lv_iadd (pc := 23) S.1 S.2.1 dX7_rowsToClose_23 ?_
        refine hv_ti (y := nI ((i + 1) + 1)) (nI_add _ _) ?_
        refine hv_call (pc := 24) (va_runV (As := [.int (nI ((i + 1) + 1))]) (rest := [.int (nI (sN k i))]) S (c_X7_gainOf l D cA ga φ H.size k (i + 1 + 1) hk (by omega)) (cwV 1 S.2.2.2.2 (gV tw_856 tw_858 sw_26 tw_29 tw_859) rfl rfl rfl (by decide +kernel) ⟨Nat.le_of_ble_eq_true rfl, Nat.le_of_ble_eq_true rfl⟩) (pre0_V hH hK hX hS hA (o_recv (hX.spiO k hk) hS)) rfl rfl hl.1 rfl (lv_room (Nat.le_of_ble_eq_true rfl)) dX7_rowsToClose_24 ⟨Nat.le_of_ble_eq_true rfl, Nat.le_of_ble_eq_true rfl⟩) hS (af_le hH hS hA) (fun v_4 φ_5 H locs hw_v_4 hH hS => ?_)
        obtain ⟨rfl, rfl⟩ := hw_v_4
        refine lv_iadd (pc := 27) S.1 S.2.1 dX7_rowsToClose_27 ?_
        refine hv_ti (y := nI ((sN k i) + (gN k (i + 1 + 1)))) (nI_add _ _) ?_
        refine lv_istore_n (pc := 28) (lv' := [(2, .int (nI ((sN k i) + (gN k (i + 1 + 1))))), (0, .ref (ga 2 k)), (1, .int (nI x)), (3, .int (nI (i + 1)))]) S.1 S.2.1 dX7_rowsToClose_28 rfl hl (by decide) rfl (fun ls hl => ?_)
        refine lv_iinc (pc := 29) (v := nI (i + 1 + 1)) (lv' := [(3, .int (nI (i + 1 + 1))), (2, .int (nI ((sN k i) + (gN k (i + 1 + 1))))), (0, .ref (ga 2 k)), (1, .int (nI x))]) S.1 S.2.1 dX7_rowsToClose_29 hl (k := 3) rfl (by first | rfl | exact nI_add _ _) (by decide) rfl (fun ls hl => ?_)
        refine lv_goto (pc := 32) (tgt := 5) S.1 S.2.1 dX7_rowsToClose_32 (by decide) ?_
        have hi2 : (i + 1) + n = 1000 ∧ rcF k x 1000 0 = rcF k x n (i + 1) := ⟨by omega, by rw [hrc, rcF, if_neg (by omega)]⟩
        have hl2 : lv_has ls 4 [(0, .ref (ga 2 k)), (1, .int (nI x)), (2, .int (nI (sN k (i + 1)))), (3, .int (nI ((i + 1) + 1)))] := lv_sub hl [2, 3, 1, 0] rfl
        apply ih (i := i + 1) <;> assumption
      · skip
        refine lv_iload_n (pc := 17) S.1 S.2.1 dX7_rowsToClose_17 rfl (lv_at hl 3 rfl) ?_
        exact hv_ret (pc := 18) (v := nI (i + 1)) S hr rfl hlocks hH hS (⟨by rw [hrc, rcF, if_pos (by omega)]; rfl, rfl⟩) (Nat.le_of_ble_eq_true rfl) (Nat.le_of_ble_eq_true rfl) dX7_rowsToClose_18
end
section
set_option maxHeartbeats 4000000 in
set_option maxRecDepth 100000 in
/-- Cone.partOf(band, taper) -/
theorem c_X1_partOf (l : Launch) (D : va_G) (cA : Nat → ClassId) (ga : Nat → Nat → Nat) (φ : hpM) (sz : Nat) (b t : Nat) : hM l yX1_partOf cX1_partOf 2 (some .int) { frames := 8, cells := 0, slots := 0, locals := 200 } [.int (nI b), .int (nI t)] D cA ga φ sz (fun v φ' => v = some (.int (nI (10 + t * b))) ∧ φ' = φ) 0 0 := by
  refine hM.of (by decide) (Nat.le_of_ble_eq_true rfl) rfl ?_
  intro p e s m args below meth c ls H locs S hr hlocks hnm hsz hHz hH hK hX hS hA hl
  refine lv_bipush (pc := 0) (v := nI 10) S.1 S.2.1 dX1_partOf_0 (by decide) ?_
  refine lv_iload_n (pc := 2) S.1 S.2.1 dX1_partOf_2 rfl (lv_at hl 1 rfl) ?_
  refine lv_iload_n (pc := 3) S.1 S.2.1 dX1_partOf_3 rfl (lv_at hl 0 rfl) ?_
  refine lv_imul (pc := 4) S.1 S.2.1 dX1_partOf_4 ?_
  refine hv_ti (y := nI (t * b)) (pk_mul _ _) ?_
  refine lv_iadd (pc := 5) S.1 S.2.1 dX1_partOf_5 ?_
  refine hv_ti (y := nI (10 + (t * b))) (nI_add _ _) ?_
  exact hv_ret (pc := 6) (v := nI (10 + (t * b))) S hr rfl hlocks hH hS (⟨rfl, rfl⟩) (Nat.le_of_ble_eq_true rfl) (Nat.le_of_ble_eq_true rfl) dX1_partOf_6

set_option maxHeartbeats 4000000 in
set_option maxRecDepth 100000 in
/-- Cone.widthFormed(band) -/
theorem c_X1_widthFormed (l : Launch) (D : va_G) (cA : Nat → ClassId) (ga : Nat → Nat → Nat) (φ : hpM) (sz : Nat) (b : Nat) (hb : b < 6) : hM l yX1_widthFormed cX1_widthFormed 1 (some .int) { frames := 8, cells := 0, slots := 0, locals := 200 } [.int (nI b)] D cA ga φ sz (fun v φ' => v = some (.int (nI (1200 - 150 * b))) ∧ φ' = φ) 0 0 := by
  refine hM.of (by decide) (Nat.le_of_ble_eq_true rfl) rfl ?_
  intro p e s m args below meth c ls H locs S hr hlocks hnm hsz hHz hH hK hX hS hA hl
  refine lv_sipush (pc := 0) (v := nI 1200) S.1 S.2.1 dX1_widthFormed_0 (by decide) ?_
  refine lv_sipush (pc := 3) (v := nI 150) S.1 S.2.1 dX1_widthFormed_3 (by decide) ?_
  refine lv_iload_n (pc := 6) S.1 S.2.1 dX1_widthFormed_6 rfl (lv_at hl 0 rfl) ?_
  refine lv_imul (pc := 7) S.1 S.2.1 dX1_widthFormed_7 ?_
  refine hv_ti (y := nI (150 * b)) (pk_mul _ _) ?_
  refine lv_isub (pc := 8) S.1 S.2.1 dX1_widthFormed_8 ?_
  refine hv_ti (y := nI (1200 - (150 * b))) (pk_sub (by omega)) ?_
  exact hv_ret (pc := 9) (v := nI (1200 - (150 * b))) S hr rfl hlocks hH hS (⟨rfl, rfl⟩) (Nat.le_of_ble_eq_true rfl) (Nat.le_of_ble_eq_true rfl) dX1_widthFormed_9

set_option maxHeartbeats 4000000 in
set_option maxRecDepth 100000 in
/-- Cone.widthOf(band) -/
theorem c_X1_widthOf (l : Launch) (D : va_G) (cA : Nat → ClassId) (ga : Nat → Nat → Nat) (φ : hpM) (sz : Nat) (h0 wq gq k ht cy tr : Nat) (lb : Value) (wf mf : Nat → Nat) (b : Nat) (f0 : φ h0 = some (.inr (5, [.ref (ga 0 k), .ref wq, .ref gq, .int (nI ht), .int (nI cy), lb, .int (nI tr)]))) (f1 : φ wq = some (.inl (cA 1, 6, .inl (fun j => nI (wf j))))) (f2 : φ gq = some (.inl (cA 1, 6, .inl (fun j => nI (mf j))))) (hb : b < 6) : hM l yX1_widthOf cX1_widthOf 2 (some .int) { frames := 8, cells := 0, slots := 0, locals := 200 } [.ref h0, .int (nI b)] D cA ga φ sz (fun v φ' => v = some (.int (nI (wf b))) ∧ φ' = φ) 0 0 := by
  refine hM.of (by decide) (Nat.le_of_ble_eq_true rfl) rfl ?_
  intro p e s m args below meth c ls H locs S hr hlocks hnm hsz hHz hH hK hX hS hA hl
  refine lv_iload_n (pc := 0) S.1 S.2.1 dX1_widthOf_0 rfl (lv_at hl 1 rfl) ?_
  refine hv_if_lt (pc := 1) (tgt := 13) (a := b) S.1 S.2.1 (by omega) dX1_widthOf_1 (by decide) (fun c_1 => ?_) (fun c_1 => ?_)
  · skip
    exact c_1.elim
  · skip
    refine lv_iload_n (pc := 4) S.1 S.2.1 dX1_widthOf_4 rfl (lv_at hl 1 rfl) ?_
    refine lv_aload_n (pc := 5) S.1 S.2.1 dX1_widthOf_5 rfl (lv_at hl 0 rfl) ?_
    refine hv_get (pc := 6) (C := RX1) (T := TX1) (N := 7) (ref := RX1) S uwX1 hK hH f0 rfl 1 (by decide) tw_628 (fun _ h9 => h9) rfl dX1_widthOf_6 ?_
    refine hv_alen (pc := 9) (v := nI 6) S hK hH 1 f1 rfl rfl dX1_widthOf_9 ?_
    refine hv_icmp_lt (pc := 10) (tgt := 17) (a := b) (b := 6) S.1 S.2.1 (by omega) (by omega) dX1_widthOf_10 (by decide) (fun c_2 => ?_) (fun c_2 => ?_)
    · skip
      refine lv_aload_n (pc := 17) S.1 S.2.1 dX1_widthOf_17 rfl (lv_at hl 0 rfl) ?_
      refine hv_get (pc := 18) (C := RX1) (T := TX1) (N := 7) (ref := RX1) S uwX1 hK hH f0 rfl 1 (by decide) tw_628 (fun _ h9 => h9) rfl dX1_widthOf_18 ?_
      refine lv_iload_n (pc := 21) S.1 S.2.1 dX1_widthOf_21 rfl (lv_at hl 1 rfl) ?_
      refine hv_iald (pc := 22) S hK hH 1 f1 rfl (vp_in_nI (by omega) (by omega)) dX1_widthOf_22 ?_
      refine hv_ti (y := nI (wf b)) (hv_ld (by omega)) ?_
      exact hv_ret (pc := 23) (v := nI (wf b)) S hr rfl hlocks hH hS (⟨rfl, rfl⟩) (Nat.le_of_ble_eq_true rfl) (Nat.le_of_ble_eq_true rfl) dX1_widthOf_23
    · skip
      exact absurd c_2 (by omega)

set_option maxHeartbeats 4000000 in
set_option maxRecDepth 100000 in
/-- Cone.gramsOf(band) -/
theorem c_X1_gramsOf (l : Launch) (D : va_G) (cA : Nat → ClassId) (ga : Nat → Nat → Nat) (φ : hpM) (sz : Nat) (h0 wq gq k ht cy tr : Nat) (lb : Value) (wf mf : Nat → Nat) (b : Nat) (f0 : φ h0 = some (.inr (5, [.ref (ga 0 k), .ref wq, .ref gq, .int (nI ht), .int (nI cy), lb, .int (nI tr)]))) (f1 : φ wq = some (.inl (cA 1, 6, .inl (fun j => nI (wf j))))) (f2 : φ gq = some (.inl (cA 1, 6, .inl (fun j => nI (mf j))))) (hb : b < 6) : hM l yX1_gramsOf cX1_gramsOf 2 (some .int) { frames := 8, cells := 0, slots := 0, locals := 200 } [.ref h0, .int (nI b)] D cA ga φ sz (fun v φ' => v = some (.int (nI (mf b))) ∧ φ' = φ) 0 0 := by
  refine hM.of (by decide) (Nat.le_of_ble_eq_true rfl) rfl ?_
  intro p e s m args below meth c ls H locs S hr hlocks hnm hsz hHz hH hK hX hS hA hl
  refine lv_iload_n (pc := 0) S.1 S.2.1 dX1_gramsOf_0 rfl (lv_at hl 1 rfl) ?_
  refine hv_if_lt (pc := 1) (tgt := 13) (a := b) S.1 S.2.1 (by omega) dX1_gramsOf_1 (by decide) (fun c_1 => ?_) (fun c_1 => ?_)
  · skip
    exact c_1.elim
  · skip
    refine lv_iload_n (pc := 4) S.1 S.2.1 dX1_gramsOf_4 rfl (lv_at hl 1 rfl) ?_
    refine lv_aload_n (pc := 5) S.1 S.2.1 dX1_gramsOf_5 rfl (lv_at hl 0 rfl) ?_
    refine hv_get (pc := 6) (C := RX1) (T := TX1) (N := 7) (ref := RX1) S uwX1 hK hH f0 rfl 2 (by decide) tw_629 (fun _ h9 => h9) rfl dX1_gramsOf_6 ?_
    refine hv_alen (pc := 9) (v := nI 6) S hK hH 1 f2 rfl rfl dX1_gramsOf_9 ?_
    refine hv_icmp_lt (pc := 10) (tgt := 17) (a := b) (b := 6) S.1 S.2.1 (by omega) (by omega) dX1_gramsOf_10 (by decide) (fun c_2 => ?_) (fun c_2 => ?_)
    · skip
      refine lv_aload_n (pc := 17) S.1 S.2.1 dX1_gramsOf_17 rfl (lv_at hl 0 rfl) ?_
      refine hv_get (pc := 18) (C := RX1) (T := TX1) (N := 7) (ref := RX1) S uwX1 hK hH f0 rfl 2 (by decide) tw_629 (fun _ h9 => h9) rfl dX1_gramsOf_18 ?_
      refine lv_iload_n (pc := 21) S.1 S.2.1 dX1_gramsOf_21 rfl (lv_at hl 1 rfl) ?_
      refine hv_iald (pc := 22) S hK hH 1 f2 rfl (vp_in_nI (by omega) (by omega)) dX1_gramsOf_22 ?_
      refine hv_ti (y := nI (mf b)) (hv_ld (by omega)) ?_
      exact hv_ret (pc := 23) (v := nI (mf b)) S hr rfl hlocks hH hS (⟨rfl, rfl⟩) (Nat.le_of_ble_eq_true rfl) (Nat.le_of_ble_eq_true rfl) dX1_gramsOf_23
    · skip
      exact absurd c_2 (by omega)

set_option maxHeartbeats 4000000 in
set_option maxRecDepth 100000 in
/-- Cone.thicknessOf(band) -/
theorem c_X1_thicknessOf (l : Launch) (D : va_G) (cA : Nat → ClassId) (ga : Nat → Nat → Nat) (φ : hpM) (sz : Nat) (h0 wq gq k ht cy tr : Nat) (lb : Value) (wf mf : Nat → Nat) (b : Nat) (f0 : φ h0 = some (.inr (5, [.ref (ga 0 k), .ref wq, .ref gq, .int (nI ht), .int (nI cy), lb, .int (nI tr)]))) (f1 : φ wq = some (.inl (cA 1, 6, .inl (fun j => nI (wf j))))) (f2 : φ gq = some (.inl (cA 1, 6, .inl (fun j => nI (mf j))))) (hk : k < 4) (hw : ∀ j, wf j ≤ 1200) (hh : ht ≤ 60) (hg : ∀ j, mf j ≤ 500) (hb : b < 6) : hM l yX1_thicknessOf cX1_thicknessOf 3 (some .int) { frames := 9, cells := 0, slots := 0, locals := 260 } [.ref h0, .int (nI b)] D cA ga φ sz (fun v φ' => v = some (.int (nI (mf b * 100000 / (wf b * ht)))) ∧ φ' = φ) 0 0 := by
  refine hM.of (by decide) (Nat.le_of_ble_eq_true rfl) rfl ?_
  intro p e s m args below meth c ls H locs S hr hlocks hnm hsz hHz hH hK hX hS hA hl
  have hw1 := hw b
  have hg1 := hg b
  have hm : wf b * ht ≤ 1200 * 60 := Nat.mul_le_mul hw1 hh
  refine lv_aload_n (pc := 0) S.1 S.2.1 dX1_thicknessOf_0 rfl (lv_at hl 0 rfl) ?_
  refine lv_iload_n (pc := 1) S.1 S.2.1 dX1_thicknessOf_1 rfl (lv_at hl 1 rfl) ?_
  refine hv_call (pc := 2) (va_runV (As := [.int (nI b)]) (rest := []) S (c_X1_widthOf l D cA ga φ H.size h0 wq gq k ht cy tr lb wf mf b f0 f1 f2 hb) (cwV 1 S.2.2.2.2 (gV tw_757 tw_712 sw_11 tw_24 tw_713) rfl rfl rfl (by decide +kernel) ⟨Nat.le_of_ble_eq_true rfl, Nat.le_of_ble_eq_true rfl⟩) (pre0_V hH hK hX hS hA (hH.recv hK f0 rfl)) rfl rfl hl.1 rfl (lv_room (Nat.le_of_ble_eq_true rfl)) dX1_thicknessOf_2 ⟨Nat.le_of_ble_eq_true rfl, Nat.le_of_ble_eq_true rfl⟩) hS (af_le hH hS hA) (fun v_1 φ_2 H locs hw_v_1 hH hS => ?_)
  obtain ⟨rfl, hqv_1⟩ := hw_v_1
  rw [hqv_1] at hH
  refine lv_aload_n (pc := 5) S.1 S.2.1 dX1_thicknessOf_5 rfl (lv_at hl 0 rfl) ?_
  refine hv_get (pc := 6) (C := RX1) (T := TX1) (N := 7) (ref := RX1) S uwX1 hK hH f0 rfl 3 (by decide) tw_630 (fun _ h9 => h9) rfl dX1_thicknessOf_6 ?_
  refine lv_imul (pc := 9) S.1 S.2.1 dX1_thicknessOf_9 ?_
  refine hv_ti (y := nI ((wf b) * ht)) (pk_mul _ _) ?_
  refine lv_istore_n (pc := 10) (lv' := [(2, .int (nI ((wf b) * ht))), (0, .ref h0), (1, .int (nI b))]) S.1 S.2.1 dX1_thicknessOf_10 rfl hl (by decide) rfl (fun ls hl => ?_)
  refine lv_iload_n (pc := 11) S.1 S.2.1 dX1_thicknessOf_11 rfl (lv_at hl 0 rfl) ?_
  refine hv_if_gt (pc := 12) (tgt := 19) (a := (wf b) * ht) S.1 S.2.1 (by omega) dX1_thicknessOf_12 (by decide) (fun c_3 => ?_) (fun c_3 => ?_)
  · skip
    refine lv_aload_n (pc := 19) S.1 S.2.1 dX1_thicknessOf_19 rfl (lv_at hl 1 rfl) ?_
    refine lv_iload_n (pc := 20) S.1 S.2.1 dX1_thicknessOf_20 rfl (lv_at hl 2 rfl) ?_
    refine hv_call (pc := 21) (va_runV (As := [.int (nI b)]) (rest := []) S (c_X1_gramsOf l D cA ga φ H.size h0 wq gq k ht cy tr lb wf mf b f0 f1 f2 hb) (cwV 1 S.2.2.2.2 (gV tw_758 tw_760 sw_16 tw_24 tw_761) rfl rfl rfl (by decide +kernel) ⟨Nat.le_of_ble_eq_true rfl, Nat.le_of_ble_eq_true rfl⟩) (pre0_V hH hK hX hS hA (hH.recv hK f0 rfl)) rfl rfl hl.1 rfl (lv_room (Nat.le_of_ble_eq_true rfl)) dX1_thicknessOf_21 ⟨Nat.le_of_ble_eq_true rfl, Nat.le_of_ble_eq_true rfl⟩) hS (af_le hH hS hA) (fun v_4 φ_5 H locs hw_v_4 hH hS => ?_)
    obtain ⟨rfl, hqv_4⟩ := hw_v_4
    rw [hqv_4] at hH
    have hne : ¬ nI (wf b * ht) = 0 := nI_ne0 c_3 (by omega)
    refine lv_ldc (pc := 24) (v := nI 100000) S.1 S.2.1 S.2.2.2.1 (S.2.2.2.2 _ tw_762) dX1_thicknessOf_24 ?_
    refine lv_imul (pc := 26) S.1 S.2.1 dX1_thicknessOf_26 ?_
    refine hv_ti (y := nI ((mf b) * 100000)) (pk_mul _ _) ?_
    refine lv_iload_n (pc := 27) S.1 S.2.1 dX1_thicknessOf_27 rfl (lv_at hl 0 rfl) ?_
    refine lv_idiv (pc := 28) S.1 S.2.1 dX1_thicknessOf_28 (by assumption) ?_
    refine hv_ti (y := nI (mf b * 100000 / (wf b * ht))) (pk_div (by omega) c_3 (by omega)) ?_
    exact hv_ret (pc := 29) (v := nI (mf b * 100000 / (wf b * ht))) S hr rfl hlocks hH hS (⟨rfl, rfl⟩) (Nat.le_of_ble_eq_true rfl) (Nat.le_of_ble_eq_true rfl) dX1_thicknessOf_29
  · skip
    refine lv_iconst (pc := 15) (v := nI 0) S.1 S.2.1 dX1_thicknessOf_15 (by decide) ?_
    refine lv_goto (pc := 16) (tgt := 29) S.1 S.2.1 dX1_thicknessOf_16 (by decide) ?_
    exact hv_ret (pc := 29) (v := nI 0) S hr rfl hlocks hH hS (⟨by rw [c_3, Nat.div_zero], rfl⟩) (Nat.le_of_ble_eq_true rfl) (Nat.le_of_ble_eq_true rfl) dX1_thicknessOf_29

/-- is a band from j on, of n bands, thinner than 40? -/
def hoF (wf mf : Nat → Nat) (ht : Nat) : Nat → Nat → Nat
  | 0, _ => 0
  | n + 1, j => if mf j * 100000 / (wf j * ht) < 40 then 1 else hoF wf mf ht n (j + 1)
set_option maxHeartbeats 4000000 in
set_option maxRecDepth 100000 in
/-- Cone.hasHole() -/
theorem c_X1_hasHole (l : Launch) (D : va_G) (cA : Nat → ClassId) (ga : Nat → Nat → Nat) (φ : hpM) (sz : Nat) (h0 wq gq k ht cy tr : Nat) (lb : Value) (wf mf : Nat → Nat) (f0 : φ h0 = some (.inr (5, [.ref (ga 0 k), .ref wq, .ref gq, .int (nI ht), .int (nI cy), lb, .int (nI tr)]))) (f1 : φ wq = some (.inl (cA 1, 6, .inl (fun j => nI (wf j))))) (f2 : φ gq = some (.inl (cA 1, 6, .inl (fun j => nI (mf j))))) (hk : k < 4) (hw : ∀ j, wf j ≤ 1200) (hh : ht ≤ 60) (hg : ∀ j, mf j ≤ 500) : hM l yX1_hasHole cX1_hasHole 2 (some .boolean) { frames := 10, cells := 0, slots := 0, locals := 320 } [.ref h0] D cA ga φ sz (fun v φ' => v = some (.int (nI (hoF wf mf ht 6 0))) ∧ φ' = φ) 0 0 := by
  refine hM.of (by decide) (Nat.le_of_ble_eq_true rfl) rfl ?_
  intro p e s m args below meth c ls H locs S hr hlocks hnm hsz hHz hH hK hX hS hA hl
  refine lv_iconst (pc := 0) (v := nI 0) S.1 S.2.1 dX1_hasHole_0 (by decide) ?_
  refine lv_istore_n (pc := 1) (lv' := [(1, .int (nI 0)), (0, .ref h0)]) S.1 S.2.1 dX1_hasHole_1 rfl hl (by decide) rfl (fun ls hl => ?_)
  have hg : ∃ (n i : Nat), (i + n = 6 ∧ hoF wf mf ht 6 0 = hoF wf mf ht n i) ∧ lv_has ls 2 [(0, .ref h0), (1, .int (nI i))] := ⟨6, 0, ⟨rfl, rfl⟩, lv_sub hl [1, 0] rfl⟩
  clear hl
  try clear hHz
  obtain ⟨n, i, hi, hl⟩ := hg
  induction n generalizing ls H locs i with
  | zero =>
    obtain ⟨hi, hrc⟩ := hi
    refine lv_iload_n (pc := 2) S.1 S.2.1 dX1_hasHole_2 rfl (lv_at hl 1 rfl) ?_
    refine lv_bipush (pc := 3) (v := nI 6) S.1 S.2.1 dX1_hasHole_3 (by decide) ?_
    refine hv_icmp_ge (pc := 5) (tgt := 26) (a := i) (b := 6) S.1 S.2.1 (by omega) (by omega) dX1_hasHole_5 (by decide) (fun c_1 => ?_) (fun c_1 => ?_)
    · skip
      refine lv_iconst (pc := 26) (v := nI 0) S.1 S.2.1 dX1_hasHole_26 (by decide) ?_
      exact hv_ret (pc := 27) (v := nI 0) S hr rfl hlocks hH hS (⟨by rw [hrc]; rfl, rfl⟩) (Nat.le_of_ble_eq_true rfl) (Nat.le_of_ble_eq_true rfl) dX1_hasHole_27
    · skip
      exact absurd c_1 (by omega)
  | succ n ih =>
    obtain ⟨hi, hrc⟩ := hi
    have hdv : mf i * 100000 / (wf i * ht) ≤ mf i * 100000 := Nat.div_le_self _ _
    have hg1 := hg i
    refine lv_iload_n (pc := 2) S.1 S.2.1 dX1_hasHole_2 rfl (lv_at hl 1 rfl) ?_
    refine lv_bipush (pc := 3) (v := nI 6) S.1 S.2.1 dX1_hasHole_3 (by decide) ?_
    refine hv_icmp_ge (pc := 5) (tgt := 26) (a := i) (b := 6) S.1 S.2.1 (by omega) (by omega) dX1_hasHole_5 (by decide) (fun c_2 => ?_) (fun c_2 => ?_)
    · skip
      exact absurd c_2 (by omega)
    · skip
      refine lv_aload_n (pc := 8) S.1 S.2.1 dX1_hasHole_8 rfl (lv_at hl 0 rfl) ?_
      refine lv_iload_n (pc := 9) S.1 S.2.1 dX1_hasHole_9 rfl (lv_at hl 1 rfl) ?_
      refine hv_call (pc := 10) (va_runV (As := [.int (nI i)]) (rest := []) S (c_X1_thicknessOf l D cA ga φ H.size h0 wq gq k ht cy tr lb wf mf i f0 f1 f2 hk hw hh hg (by omega)) (cwV 1 S.2.2.2.2 (gV tw_753 tw_755 sw_15 tw_24 tw_756) rfl rfl rfl (by decide +kernel) ⟨Nat.le_of_ble_eq_true rfl, Nat.le_of_ble_eq_true rfl⟩) (pre0_V hH hK hX hS hA (hH.recv hK f0 rfl)) rfl rfl hl.1 rfl (lv_room (Nat.le_of_ble_eq_true rfl)) dX1_hasHole_10 ⟨Nat.le_of_ble_eq_true rfl, Nat.le_of_ble_eq_true rfl⟩) hS (af_le hH hS hA) (fun v_3 φ_4 H locs hw_v_3 hH hS => ?_)
      obtain ⟨rfl, hqv_3⟩ := hw_v_3
      rw [hqv_3] at hH
      refine lv_bipush (pc := 13) (v := nI 40) S.1 S.2.1 dX1_hasHole_13 (by decide) ?_
      refine hv_icmp_ge (pc := 15) (tgt := 20) (a := mf i * 100000 / (wf i * ht)) (b := 40) S.1 S.2.1 (by omega) (by omega) dX1_hasHole_15 (by decide) (fun c_5 => ?_) (fun c_5 => ?_)
      · skip
        refine lv_iinc (pc := 20) (v := nI (i + 1)) (lv' := [(1, .int (nI (i + 1))), (0, .ref h0)]) S.1 S.2.1 dX1_hasHole_20 hl (k := 1) rfl (by first | rfl | exact nI_add _ _) (by decide) rfl (fun ls hl => ?_)
        refine lv_goto (pc := 23) (tgt := 2) S.1 S.2.1 dX1_hasHole_23 (by decide) ?_
        have hi2 : (i + 1) + n = 6 ∧ hoF wf mf ht 6 0 = hoF wf mf ht n (i + 1) := ⟨by omega, by rw [hrc, hoF, if_neg (by omega)]⟩
        have hl2 : lv_has ls 2 [(0, .ref h0), (1, .int (nI (i + 1)))] := lv_sub hl [1, 0] rfl
        apply ih (i := i + 1) <;> assumption
      · skip
        refine lv_iconst (pc := 18) (v := nI 1) S.1 S.2.1 dX1_hasHole_18 (by decide) ?_
        exact hv_ret (pc := 19) (v := nI 1) S hr rfl hlocks hH hS (⟨by rw [hrc, hoF, if_pos (by omega)], rfl⟩) (Nat.le_of_ble_eq_true rfl) (Nat.le_of_ble_eq_true rfl) dX1_hasHole_19

/-- does a band bear it? -/
def toN (k mo w : Nat) : Nat := if w = 0 then 1 else if fStr k < 100 * mo / w then 1 else 0
set_option maxHeartbeats 4000000 in
set_option maxRecDepth 100000 in
/-- Cone.isTornBy(more, width) -/
theorem c_X1_isTornBy (l : Launch) (D : va_G) (cA : Nat → ClassId) (ga : Nat → Nat → Nat) (φ : hpM) (sz : Nat) (h0 wq gq k ht cy tr : Nat) (lb : Value) (wf mf : Nat → Nat) (mo w : Nat) (f0 : φ h0 = some (.inr (5, [.ref (ga 0 k), .ref wq, .ref gq, .int (nI ht), .int (nI cy), lb, .int (nI tr)]))) (hk : k < 4) (hm : mo ≤ 700) (hw : w ≤ 1200) : hM l yX1_isTornBy cX1_isTornBy 3 (some .boolean) { frames := 8, cells := 0, slots := 0, locals := 200 } [.ref h0, .int (nI mo), .int (nI w)] D cA ga φ sz (fun v φ' => v = some (.int (nI (toN k mo w))) ∧ φ' = φ) 0 0 := by
  refine hM.of (by decide) (Nat.le_of_ble_eq_true rfl) rfl ?_
  intro p e s m args below meth c ls H locs S hr hlocks hnm hsz hHz hH hK hX hS hA hl
  have hdv : 100 * mo / w ≤ 100 * mo := Nat.div_le_self _ _
  have hs1 := fStr_le k
  refine lv_iload_n (pc := 0) S.1 S.2.1 dX1_isTornBy_0 rfl (lv_at hl 2 rfl) ?_
  refine hv_if_le (pc := 1) (tgt := 20) (a := w) S.1 S.2.1 (by omega) dX1_isTornBy_1 (by decide) (fun c_1 => ?_) (fun c_1 => ?_)
  · skip
    refine lv_iconst (pc := 20) (v := nI 1) S.1 S.2.1 dX1_isTornBy_20 (by decide) ?_
    refine lv_goto (pc := 21) (tgt := 25) S.1 S.2.1 dX1_isTornBy_21 (by decide) ?_
    exact hv_ret (pc := 25) (v := nI 1) S hr rfl hlocks hH hS (⟨by rw [toN, if_pos c_1], rfl⟩) (Nat.le_of_ble_eq_true rfl) (Nat.le_of_ble_eq_true rfl) dX1_isTornBy_25
  · skip
    have hne : ¬ nI w = 0 := nI_ne0 c_1 (by omega)
    refine lv_bipush (pc := 4) (v := nI 100) S.1 S.2.1 dX1_isTornBy_4 (by decide) ?_
    refine lv_iload_n (pc := 6) S.1 S.2.1 dX1_isTornBy_6 rfl (lv_at hl 1 rfl) ?_
    refine lv_imul (pc := 7) S.1 S.2.1 dX1_isTornBy_7 ?_
    refine hv_ti (y := nI (100 * mo)) (pk_mul _ _) ?_
    refine lv_iload_n (pc := 8) S.1 S.2.1 dX1_isTornBy_8 rfl (lv_at hl 2 rfl) ?_
    refine lv_idiv (pc := 9) S.1 S.2.1 dX1_isTornBy_9 (by assumption) ?_
    refine hv_ti (y := nI (100 * mo / w)) (pk_div (by omega) c_1 (by omega)) ?_
    refine lv_aload_n (pc := 10) S.1 S.2.1 dX1_isTornBy_10 rfl (lv_at hl 0 rfl) ?_
    refine hv_get (pc := 11) (C := RX1) (T := TX1) (N := 7) (ref := RX1) S uwX1 hK hH f0 rfl 0 (by decide) tw_626 (fun _ h9 => h9) rfl dX1_isTornBy_11 ?_
    refine hv_getXN (pc := 14) (i := k) (ref := RX3) (index := 76) (host := "HatbandYard") S hX.fur_strain hk hS (hX.nest _ (by decide +kernel)) (fun _ h9 => h9) dX1_isTornBy_14 ?_
    refine hv_icmp_le (pc := 17) (tgt := 24) (a := 100 * mo / w) (b := fStr k) S.1 S.2.1 (by omega) (by omega) dX1_isTornBy_17 (by decide) (fun c_2 => ?_) (fun c_2 => ?_)
    · skip
      refine lv_iconst (pc := 24) (v := nI 0) S.1 S.2.1 dX1_isTornBy_24 (by decide) ?_
      exact hv_ret (pc := 25) (v := nI 0) S hr rfl hlocks hH hS (⟨by rw [toN, if_neg (by omega), if_neg (by omega)], rfl⟩) (Nat.le_of_ble_eq_true rfl) (Nat.le_of_ble_eq_true rfl) dX1_isTornBy_25
    · skip
      refine lv_iconst (pc := 20) (v := nI 1) S.1 S.2.1 dX1_isTornBy_20 (by decide) ?_
      refine lv_goto (pc := 21) (tgt := 25) S.1 S.2.1 dX1_isTornBy_21 (by decide) ?_
      exact hv_ret (pc := 25) (v := nI 1) S hr rfl hlocks hH hS (⟨by rw [toN, if_neg (by omega), if_pos (by omega)], rfl⟩) (Nat.le_of_ble_eq_true rfl) (Nat.le_of_ble_eq_true rfl) dX1_isTornBy_25

/-- the widths of which the first i have had a cycle -/
def shP (k : Nat) (wf : Nat → Nat) (i : Nat) : Nat → Nat := fun j => if j < i then shA k (wf j) else wf j
theorem shP_0 (k : Nat) (wf : Nat → Nat) : shP k wf 0 = wf := by funext j; simp [shP]
theorem shP_at (k : Nat) (wf : Nat → Nat) (i : Nat) : shP k wf i i = wf i := by simp [shP]
theorem shP_up (k : Nat) (wf : Nat → Nat) (i : Nat) : va_up (shP k wf i) i (shA k (wf i)) = shP k wf (i + 1) := by
  funext j
  by_cases h : j = i
  · subst h; simp [va_up, shP]
  · by_cases h2 : j < i
    · simp [va_up, shP, h, h2, show j < i + 1 by omega]
    · simp [va_up, shP, h, h2, show ¬ j < i + 1 by omega]
set_option maxHeartbeats 4000000 in
set_option maxRecDepth 100000 in
/-- Cone.shrink() -/
theorem c_X1_shrink (l : Launch) (D : va_G) (cA : Nat → ClassId) (ga : Nat → Nat → Nat) (φ : hpM) (sz : Nat) (h0 wq gq k ht cy tr : Nat) (lb : Value) (wf mf : Nat → Nat) (f0 : φ h0 = some (.inr (5, [.ref (ga 0 k), .ref wq, .ref gq, .int (nI ht), .int (nI cy), lb, .int (nI tr)]))) (f1 : φ wq = some (.inl (cA 1, 6, .inl (fun j => nI (wf j))))) (f2 : φ gq = some (.inl (cA 1, 6, .inl (fun j => nI (mf j))))) (hk : k < 4) (hw : ∀ j, wf j ≤ 1200) (hh : ht ≤ 60) (hg : ∀ j, mf j ≤ 500) : hM l yX1_shrink cX1_shrink 2 none { frames := 9, cells := 0, slots := 0, locals := 260 } [.ref h0] D cA ga φ sz (fun v φ' => v = none ∧ φ' = ups (ups φ wq (.inl (cA 1, 6, .inl (fun j => nI ((shP k wf 6) j))))) h0 (.inr (5, [.ref (ga 0 k), .ref wq, .ref gq, .int (nI (shL k ht)), .int (nI (cy + 1)), lb, .int (nI tr)]))) 0 0 := by
  refine hM.of (by decide) (Nat.le_of_ble_eq_true rfl) rfl ?_
  intro p e s m args below meth c ls H locs S hr hlocks hnm hsz hHz hH hK hX hS hA hl
  refine lv_iconst (pc := 0) (v := nI 0) S.1 S.2.1 dX1_shrink_0 (by decide) ?_
  refine lv_istore_n (pc := 1) (lv' := [(1, .int (nI 0)), (0, .ref h0)]) S.1 S.2.1 dX1_shrink_1 rfl hl (by decide) rfl (fun ls hl => ?_)
  have hg : ∃ (n i : Nat) (φk_1 : hpM), ((i + n = 6) ∧ φk_1 = ups φ wq (.inl (cA 1, 6, .inl (fun j => nI ((shP k wf i) j)))) ∧ hp D (Af φ sz) φk_1 H) ∧ lv_has ls 2 [(0, .ref h0), (1, .int (nI i))] := ⟨6, 0, φ, ⟨rfl, by rw [shP_0]; exact ups_id f1, hH⟩, lv_sub hl [1, 0] rfl⟩
  clear hl hH
  try clear hHz
  obtain ⟨n, i, φk_1, hi, hl⟩ := hg
  induction n generalizing ls H locs i φk_1 with
  | zero =>
    obtain ⟨hi, hφk_1, hH⟩ := hi
    have f_2 : φk_1 h0 = some (.inr (5, [.ref (ga 0 k), .ref wq, .ref gq, .int (nI ht), .int (nI cy), lb, .int (nI tr)])) := by rw [hφk_1]; exact ups_n (hp_ne f0 f1 (by intro h; cases h)) f0
    have f_3 : φk_1 wq = some (.inl (cA 1, 6, .inl (fun j => nI ((shP k wf i) j)))) := by rw [hφk_1]; exact ups_s _ _ _
    obtain rfl : i = 6 := by omega
    refine lv_iload_n (pc := 2) S.1 S.2.1 dX1_shrink_2 rfl (lv_at hl 1 rfl) ?_
    refine lv_aload_n (pc := 3) S.1 S.2.1 dX1_shrink_3 rfl (lv_at hl 0 rfl) ?_
    refine hv_get (pc := 4) (C := RX1) (T := TX1) (N := 7) (ref := RX1) S uwX1 hK hH f_2 rfl 1 (by decide) tw_628 (fun _ h9 => h9) rfl dX1_shrink_4 ?_
    refine hv_alen (pc := 7) (v := nI 6) S hK hH 1 f_3 rfl rfl dX1_shrink_7 ?_
    refine hv_icmp_ge (pc := 8) (tgt := 36) (a := 6) (b := 6) S.1 S.2.1 (by omega) (by omega) dX1_shrink_8 (by decide) (fun c_4 => ?_) (fun c_4 => ?_)
    · skip
      refine lv_aload_n (pc := 36) S.1 S.2.1 dX1_shrink_36 rfl (lv_at hl 0 rfl) ?_
      refine lv_aload_n (pc := 37) S.1 S.2.1 dX1_shrink_37 rfl (lv_at hl 0 rfl) ?_
      refine hv_get (pc := 38) (C := RX1) (T := TX1) (N := 7) (ref := RX1) S uwX1 hK hH f_2 rfl 0 (by decide) tw_626 (fun _ h9 => h9) rfl dX1_shrink_38 ?_
      refine lv_aload_n (pc := 41) S.1 S.2.1 dX1_shrink_41 rfl (lv_at hl 0 rfl) ?_
      refine hv_get (pc := 42) (C := RX1) (T := TX1) (N := 7) (ref := RX1) S uwX1 hK hH f_2 rfl 3 (by decide) tw_630 (fun _ h9 => h9) rfl dX1_shrink_42 ?_
      refine hv_call (pc := 45) (va_runVNn (As := [.int (nI ht)]) (rest := [.ref h0]) S (c_X3_shrunkAlong l D cA ga φk_1 H.size k ht hk (by omega)) ⟨va_cnBn (host := "HatbandYard") 1 S.2.2.2.2 (gw tw_709) rfl rfl rfl (hX.nest _ (by decide +kernel)) (by decide +kernel) ⟨Nat.le_of_ble_eq_true rfl, Nat.le_of_ble_eq_true rfl⟩, S.2.2.2.2 _ tw_708, S.2.2.2.2 _ sw_10⟩ (pre0_V hH hK hX hS hA (o_recv (hX.furO k hk) hS)) rfl rfl hl.1 rfl (lv_room (Nat.le_of_ble_eq_true rfl)) dX1_shrink_45 ⟨Nat.le_of_ble_eq_true rfl, Nat.le_of_ble_eq_true rfl⟩) hS (af_le hH hS hA) (fun v_5 φ_6 H locs hw_v_5 hH hS => ?_)
      obtain ⟨rfl, hqv_5⟩ := hw_v_5
      rw [hqv_5] at hH
      refine hv_put (pc := 48) (ty := .int) (C := RX1) (T := TX1) (N := 7) (ref := RX1) S uwX1 tyX1 tyX1_ok nmX1 hK hH hS f_2 rfl 3 (by decide) tw_630 (fun _ h9 => h9) rfl (by decide +kernel) rfl rfl (Nat.le_of_ble_eq_true rfl) dX1_shrink_48 (fun H locs hH hS => ?_)
      replace hH := nup (e := .inr (5, [.ref (ga 0 k), .ref wq, .ref gq, .int (nI (shL k ht)), .int (nI cy), lb, .int (nI tr)])) hH
      obtain ⟨φ_7, hφ_7, fa_φ_7, fr_φ_7, hH⟩ := hH
      have f_8 := fr_φ_7 _ _ (hp_ne f_3 f_2 (by intro h; cases h)) f_3
      refine lv_aload_n (pc := 51) S.1 S.2.1 dX1_shrink_51 rfl (lv_at hl 0 rfl) ?_
      refine lv_dup (pc := 52) S.1 S.2.1 dX1_shrink_52 rfl ?_
      refine hv_get (pc := 53) (C := RX1) (T := TX1) (N := 7) (ref := RX1) S uwX1 hK hH fa_φ_7 rfl 4 (by decide) tw_632 (fun _ h9 => h9) rfl dX1_shrink_53 ?_
      refine lv_iconst (pc := 56) (v := nI 1) S.1 S.2.1 dX1_shrink_56 (by decide) ?_
      refine lv_iadd (pc := 57) S.1 S.2.1 dX1_shrink_57 ?_
      refine hv_ti (y := nI (cy + 1)) (nI_add _ _) ?_
      refine hv_put (pc := 58) (ty := .int) (C := RX1) (T := TX1) (N := 7) (ref := RX1) S uwX1 tyX1 tyX1_ok nmX1 hK hH hS fa_φ_7 rfl 4 (by decide) tw_632 (fun _ h9 => h9) rfl (by decide +kernel) rfl rfl (Nat.le_of_ble_eq_true rfl) dX1_shrink_58 (fun H locs hH hS => ?_)
      replace hH := nup (e := .inr (5, [.ref (ga 0 k), .ref wq, .ref gq, .int (nI (shL k ht)), .int (nI (cy + 1)), lb, .int (nI tr)])) hH
      obtain ⟨φ_9, hφ_9, fa_φ_9, fr_φ_9, hH⟩ := hH
      have f_10 := fr_φ_9 _ _ (hp_ne f_8 fa_φ_7 (by intro h; cases h)) f_8
      exact hv_vret (pc := 61) S hr hlocks hH hS (⟨rfl, by rw [hφ_9, hφ_7, hφk_1, ups_ups]⟩) (Nat.le_of_ble_eq_true rfl) (Nat.le_of_ble_eq_true rfl) dX1_shrink_61
    · skip
      exact absurd c_4 (by omega)
  | succ n ih =>
    obtain ⟨hi, hφk_1, hH⟩ := hi
    have f_11 : φk_1 h0 = some (.inr (5, [.ref (ga 0 k), .ref wq, .ref gq, .int (nI ht), .int (nI cy), lb, .int (nI tr)])) := by rw [hφk_1]; exact ups_n (hp_ne f0 f1 (by intro h; cases h)) f0
    have f_12 : φk_1 wq = some (.inl (cA 1, 6, .inl (fun j => nI ((shP k wf i) j)))) := by rw [hφk_1]; exact ups_s _ _ _
    refine lv_iload_n (pc := 2) S.1 S.2.1 dX1_shrink_2 rfl (lv_at hl 1 rfl) ?_
    refine lv_aload_n (pc := 3) S.1 S.2.1 dX1_shrink_3 rfl (lv_at hl 0 rfl) ?_
    refine hv_get (pc := 4) (C := RX1) (T := TX1) (N := 7) (ref := RX1) S uwX1 hK hH f_11 rfl 1 (by decide) tw_628 (fun _ h9 => h9) rfl dX1_shrink_4 ?_
    refine hv_alen (pc := 7) (v := nI 6) S hK hH 1 f_12 rfl rfl dX1_shrink_7 ?_
    refine hv_icmp_ge (pc := 8) (tgt := 36) (a := i) (b := 6) S.1 S.2.1 (by omega) (by omega) dX1_shrink_8 (by decide) (fun c_13 => ?_) (fun c_13 => ?_)
    · skip
      exact absurd c_13 (by omega)
    · skip
      refine lv_aload_n (pc := 11) S.1 S.2.1 dX1_shrink_11 rfl (lv_at hl 0 rfl) ?_
      refine hv_get (pc := 12) (C := RX1) (T := TX1) (N := 7) (ref := RX1) S uwX1 hK hH f_11 rfl 1 (by decide) tw_628 (fun _ h9 => h9) rfl dX1_shrink_12 ?_
      refine lv_iload_n (pc := 15) S.1 S.2.1 dX1_shrink_15 rfl (lv_at hl 1 rfl) ?_
      refine lv_aload_n (pc := 16) S.1 S.2.1 dX1_shrink_16 rfl (lv_at hl 0 rfl) ?_
      refine hv_get (pc := 17) (C := RX1) (T := TX1) (N := 7) (ref := RX1) S uwX1 hK hH f_11 rfl 0 (by decide) tw_626 (fun _ h9 => h9) rfl dX1_shrink_17 ?_
      refine lv_aload_n (pc := 20) S.1 S.2.1 dX1_shrink_20 rfl (lv_at hl 0 rfl) ?_
      refine hv_get (pc := 21) (C := RX1) (T := TX1) (N := 7) (ref := RX1) S uwX1 hK hH f_11 rfl 1 (by decide) tw_628 (fun _ h9 => h9) rfl dX1_shrink_21 ?_
      refine lv_iload_n (pc := 24) S.1 S.2.1 dX1_shrink_24 rfl (lv_at hl 1 rfl) ?_
      refine hv_iald (pc := 25) S hK hH 1 f_12 rfl (vp_in_nI (by omega) (by omega)) dX1_shrink_25 ?_
      refine hv_ti (y := nI ((shP k wf i) i)) (hv_ld (by omega)) ?_
      refine hv_ti (y := nI (wf i)) (by rw [shP_at]) ?_
      have hw1 := hw i
      refine hv_call (pc := 26) (va_runVNn (As := [.int (nI (wf i))]) (rest := [.int (nI i), .ref wq]) S (c_X3_shrunkAcross l D cA ga φk_1 H.size k (wf i) hk hw1) ⟨va_cnBn (host := "HatbandYard") 1 S.2.2.2.2 (gw tw_705) rfl rfl rfl (hX.nest _ (by decide +kernel)) (by decide +kernel) ⟨Nat.le_of_ble_eq_true rfl, Nat.le_of_ble_eq_true rfl⟩, S.2.2.2.2 _ tw_703, S.2.2.2.2 _ sw_9⟩ (pre0_V hH hK hX hS hA (o_recv (hX.furO k hk) hS)) rfl rfl hl.1 rfl (lv_room (Nat.le_of_ble_eq_true rfl)) dX1_shrink_26 ⟨Nat.le_of_ble_eq_true rfl, Nat.le_of_ble_eq_true rfl⟩) hS (af_le hH hS hA) (fun v_14 φ_15 H locs hw_v_14 hH hS => ?_)
      obtain ⟨rfl, hqv_14⟩ := hw_v_14
      rw [hqv_14] at hH
      refine hv_iast (pc := 29) S hK hH hS 1 f_12 rfl (vp_in_nI (by omega) (by omega)) dX1_shrink_29 (fun H locs hH hS => ?_)
      rw [hv_upd (by omega), shP_up] at hH
      replace hH := nup (e := .inl (cA 1, 6, .inl (fun j => nI ((shP k wf (i + 1)) j)))) hH
      obtain ⟨φ_16, hφ_16, fa_φ_16, fr_φ_16, hH⟩ := hH
      have f_17 := fr_φ_16 _ _ (hp_ne f_11 f_12 (by intro h; cases h)) f_11
      refine lv_iinc (pc := 30) (v := nI (i + 1)) (lv' := [(1, .int (nI (i + 1))), (0, .ref h0)]) S.1 S.2.1 dX1_shrink_30 hl (k := 1) rfl (by first | rfl | exact nI_add _ _) (by decide) rfl (fun ls hl => ?_)
      refine lv_goto (pc := 33) (tgt := 2) S.1 S.2.1 dX1_shrink_33 (by decide) ?_
      have hi2 : ((i + 1) + n = 6) ∧ φ_16 = ups φ wq (.inl (cA 1, 6, .inl (fun j => nI ((shP k wf (i + 1)) j)))) ∧ hp D (Af φ sz) φ_16 H := ⟨by omega, by rw [hφ_16, hφk_1, ups_ups], hH⟩
      have hl2 : lv_has ls 2 [(0, .ref h0), (1, .int (nI (i + 1)))] := lv_sub hl [1, 0] rfl
      apply ih (i := i + 1) (φk_1 := φ_16) <;> assumption

/-- a width behind c cycles -/
def wS (k : Nat) : Nat → Nat → Nat
  | 0, w => w
  | c + 1, w => shA k (wS k c w)
theorem shA_le (k w : Nat) : shA k w ≤ w := by
  unfold shA
  have h : w * (100 - fAcr k) ≤ w * 100 := Nat.mul_le_mul_left _ (by omega)
  omega
theorem shL_le (k w : Nat) : shL k w ≤ w := by
  unfold shL
  have h : w * (100 - fAlo k) ≤ w * 100 := Nat.mul_le_mul_left _ (by omega)
  omega
theorem wS_le (k : Nat) : ∀ c w, wS k c w ≤ w
  | 0, w => Nat.le_refl _
  | c + 1, w => Nat.le_trans (shA_le k _) (wS_le k c w)
theorem bW_le {a d b : Nat} (ha : a ≤ 700) : bW a d b ≤ 700 := by
  unfold bW
  rw [Nat.max_def]
  split <;> omega
def pfx (f g : Nat → Nat) (i : Nat) : Nat → Nat := fun j => if j < i then f j else g j
theorem pfx_0 (f g : Nat → Nat) : pfx f g 0 = g := by funext j; simp [pfx]
theorem pfx_lt {f g : Nat → Nat} {i j : Nat} (h : j < i) : pfx f g i j = f j := by simp [pfx, h]
theorem pfx_up (f g : Nat → Nat) (i : Nat) : va_up (pfx f g i) i (f i) = pfx f g (i + 1) := by
  funext j
  by_cases h : j = i
  · subst h; simp [va_up, pfx]
  · by_cases h2 : j < i
    · simp [va_up, pfx, h, h2, show j < i + 1 by omega]
    · simp [va_up, pfx, h, h2, show ¬ j < i + 1 by omega]
theorem ups_none {φ : hpM} {a b : Nat} {e : va_E} (h : ups φ a e b = none) : φ b = none ∧ b ≠ a := by
  by_cases hb : b = a
  · rw [hb, ups_s] at h; cases h
  · exact ⟨(ups_n hb rfl).symm.trans h, hb⟩
set_option maxHeartbeats 4000000 in
set_option maxRecDepth 100000 in
/-- Cone.widthFollowed(band), never drawn -/
theorem c_X1_widthFollowed0 (l : Launch) (D : va_G) (cA : Nat → ClassId) (ga : Nat → Nat → Nat) (φ : hpM) (sz : Nat) (h0 wq gq k ht cy tr : Nat) (wf mf : Nat → Nat) (b : Nat) (f0 : φ h0 = some (.inr (5, [.ref (ga 0 k), .ref wq, .ref gq, .int (nI ht), .int (nI cy), .null, .int (nI tr)]))) (hk : k < 4) (hcy : cy ≤ 12) (hb : b < 6) : hM l yX1_widthFollowed cX1_widthFollowed 4 (some .int) { frames := 9, cells := 0, slots := 0, locals := 260 } [.ref h0, .int (nI b)] D cA ga φ sz (fun v φ' => v = some (.int (nI (wS k cy (1200 - 150 * b)))) ∧ φ' = φ) 0 0 := by
  refine hM.of (by decide) (Nat.le_of_ble_eq_true rfl) rfl ?_
  intro p e s m args below meth c ls H locs S hr hlocks hnm hsz hHz hH hK hX hS hA hl
  refine lv_aload_n (pc := 0) S.1 S.2.1 dX1_widthFollowed_0 rfl (lv_at hl 0 rfl) ?_
  refine hv_get (pc := 1) (C := RX1) (T := TX1) (N := 7) (ref := RX1) S uwX1 hK hH f0 rfl 5 (by decide) tw_634 (fun _ h9 => h9) rfl dX1_widthFollowed_1 ?_
  refine lv_ifnullN (pc := 4) (tgt := 16) S.1 S.2.1 dX1_widthFollowed_4 (by decide) ?_
  refine lv_iload_n (pc := 16) S.1 S.2.1 dX1_widthFollowed_16 rfl (lv_at hl 1 rfl) ?_
  refine hv_call (pc := 17) (va_runS (As := [.int (nI b)]) (rest := []) S (c_X1_widthFormed l D cA ga φ H.size b hb) (va_cwS 1 S.2.2.2.2 (gS tw_623 tw_624 tw_24 tw_625) rfl rfl rfl (by decide +kernel) ⟨Nat.le_of_ble_eq_true rfl, Nat.le_of_ble_eq_true rfl⟩) (pre0_S hH hK hX hS hA) rfl rfl hl.1 rfl (lv_room (Nat.le_of_ble_eq_true rfl)) dX1_widthFollowed_17 ⟨Nat.le_of_ble_eq_true rfl, Nat.le_of_ble_eq_true rfl⟩) hS (af_le hH hS hA) (fun v_1 φ_2 H locs hw_v_1 hH hS => ?_)
  obtain ⟨rfl, hqv_1⟩ := hw_v_1
  rw [hqv_1] at hH
  refine lv_istore_n (pc := 20) (lv' := [(2, .int (nI (1200 - 150 * b))), (0, .ref h0), (1, .int (nI b))]) S.1 S.2.1 dX1_widthFollowed_20 rfl hl (by decide) rfl (fun ls hl => ?_)
  refine lv_iconst (pc := 21) (v := nI 0) S.1 S.2.1 dX1_widthFollowed_21 (by decide) ?_
  refine lv_istore_n (pc := 22) (lv' := [(3, .int (nI 0)), (2, .int (nI (1200 - 150 * b))), (0, .ref h0), (1, .int (nI b))]) S.1 S.2.1 dX1_widthFollowed_22 rfl hl (by decide) rfl (fun ls hl => ?_)
  have hg : ∃ (n i : Nat), (i + n = cy) ∧ lv_has ls 4 [(0, .ref h0), (1, .int (nI b)), (2, .int (nI (wS k i (1200 - 150 * b)))), (3, .int (nI i))] := ⟨cy, 0, by omega, lv_sub hl [2, 3, 1, 0] rfl⟩
  clear hl
  try clear hHz
  obtain ⟨n, i, hi, hl⟩ := hg
  induction n generalizing ls H locs i with
  | zero =>
    obtain rfl : i = cy := by omega
    refine lv_iload_n (pc := 23) S.1 S.2.1 dX1_widthFollowed_23 rfl (lv_at hl 3 rfl) ?_
    refine lv_aload_n (pc := 24) S.1 S.2.1 dX1_widthFollowed_24 rfl (lv_at hl 0 rfl) ?_
    refine hv_get (pc := 25) (C := RX1) (T := TX1) (N := 7) (ref := RX1) S uwX1 hK hH f0 rfl 4 (by decide) tw_632 (fun _ h9 => h9) rfl dX1_widthFollowed_25 ?_
    refine hv_icmp_ge (pc := 28) (tgt := 52) (a := i) (b := i) S.1 S.2.1 (by omega) (by omega) dX1_widthFollowed_28 (by decide) (fun c_3 => ?_) (fun c_3 => ?_)
    · skip
      refine lv_iload_n (pc := 52) S.1 S.2.1 dX1_widthFollowed_52 rfl (lv_at hl 2 rfl) ?_
      exact hv_ret (pc := 53) (v := nI (wS k i (1200 - 150 * b))) S hr rfl hlocks hH hS (⟨rfl, rfl⟩) (Nat.le_of_ble_eq_true rfl) (Nat.le_of_ble_eq_true rfl) dX1_widthFollowed_53
    · skip
      exact absurd c_3 (by omega)
  | succ n ih =>
    refine lv_iload_n (pc := 23) S.1 S.2.1 dX1_widthFollowed_23 rfl (lv_at hl 3 rfl) ?_
    refine lv_aload_n (pc := 24) S.1 S.2.1 dX1_widthFollowed_24 rfl (lv_at hl 0 rfl) ?_
    refine hv_get (pc := 25) (C := RX1) (T := TX1) (N := 7) (ref := RX1) S uwX1 hK hH f0 rfl 4 (by decide) tw_632 (fun _ h9 => h9) rfl dX1_widthFollowed_25 ?_
    refine hv_icmp_ge (pc := 28) (tgt := 52) (a := i) (b := cy) S.1 S.2.1 (by omega) (by omega) dX1_widthFollowed_28 (by decide) (fun c_4 => ?_) (fun c_4 => ?_)
    · skip
      exact absurd c_4 (by omega)
    · skip
      refine lv_iload_n (pc := 31) S.1 S.2.1 dX1_widthFollowed_31 rfl (lv_at hl 3 rfl) ?_
      refine lv_bipush (pc := 32) (v := nI 12) S.1 S.2.1 dX1_widthFollowed_32 (by decide) ?_
      refine hv_icmp_ge (pc := 34) (tgt := 52) (a := i) (b := 12) S.1 S.2.1 (by omega) (by omega) dX1_widthFollowed_34 (by decide) (fun c_5 => ?_) (fun c_5 => ?_)
      · skip
        exact absurd c_5 (by omega)
      · skip
        refine lv_aload_n (pc := 37) S.1 S.2.1 dX1_widthFollowed_37 rfl (lv_at hl 0 rfl) ?_
        refine hv_get (pc := 38) (C := RX1) (T := TX1) (N := 7) (ref := RX1) S uwX1 hK hH f0 rfl 0 (by decide) tw_626 (fun _ h9 => h9) rfl dX1_widthFollowed_38 ?_
        refine lv_iload_n (pc := 41) S.1 S.2.1 dX1_widthFollowed_41 rfl (lv_at hl 2 rfl) ?_
        have hws := wS_le k i (1200 - 150 * b)
        refine hv_call (pc := 42) (va_runVNn (As := [.int (nI (wS k i (1200 - 150 * b)))]) (rest := []) S (c_X3_shrunkAcross l D cA ga φ H.size k (wS k i (1200 - 150 * b)) hk (by omega)) ⟨va_cnBn (host := "HatbandYard") 1 S.2.2.2.2 (gw tw_705) rfl rfl rfl (hX.nest _ (by decide +kernel)) (by decide +kernel) ⟨Nat.le_of_ble_eq_true rfl, Nat.le_of_ble_eq_true rfl⟩, S.2.2.2.2 _ tw_703, S.2.2.2.2 _ sw_9⟩ (pre0_V hH hK hX hS hA (o_recv (hX.furO k hk) hS)) rfl rfl hl.1 rfl (lv_room (Nat.le_of_ble_eq_true rfl)) dX1_widthFollowed_42 ⟨Nat.le_of_ble_eq_true rfl, Nat.le_of_ble_eq_true rfl⟩) hS (af_le hH hS hA) (fun v_6 φ_7 H locs hw_v_6 hH hS => ?_)
        obtain ⟨rfl, hqv_6⟩ := hw_v_6
        rw [hqv_6] at hH
        refine lv_istore_n (pc := 45) (lv' := [(2, .int (nI (wS k (i + 1) (1200 - 150 * b)))), (0, .ref h0), (1, .int (nI b)), (3, .int (nI i))]) S.1 S.2.1 dX1_widthFollowed_45 rfl hl (by decide) rfl (fun ls hl => ?_)
        refine lv_iinc (pc := 46) (v := nI (i + 1)) (lv' := [(3, .int (nI (i + 1))), (2, .int (nI (wS k (i + 1) (1200 - 150 * b)))), (0, .ref h0), (1, .int (nI b))]) S.1 S.2.1 dX1_widthFollowed_46 hl (k := 3) rfl (by first | rfl | exact nI_add _ _) (by decide) rfl (fun ls hl => ?_)
        refine lv_goto (pc := 49) (tgt := 23) S.1 S.2.1 dX1_widthFollowed_49 (by decide) ?_
        have hi2 : (i + 1) + n = cy := by omega
        have hl2 : lv_has ls 4 [(0, .ref h0), (1, .int (nI b)), (2, .int (nI (wS k (i + 1) (1200 - 150 * b)))), (3, .int (nI (i + 1)))] := lv_sub hl [2, 3, 1, 0] rfl
        apply ih (i := i + 1) <;> assumption

set_option maxHeartbeats 4000000 in
set_option maxRecDepth 100000 in
/-- Cone.widthFollowed(band), drawn -/
theorem c_X1_widthFollowed1 (l : Launch) (D : va_G) (cA : Nat → ClassId) (ga : Nat → Nat → Nat) (φ : hpM) (sz : Nat) (h0 wq gq k ht cy tr : Nat) (wf mf : Nat → Nat) (b bq a d : Nat) (f0 : φ h0 = some (.inr (5, [.ref (ga 0 k), .ref wq, .ref gq, .int (nI ht), .int (nI cy), .ref bq, .int (nI tr)]))) (f1 : φ bq = some (.inr (4, [.int (nI a), .int (nI d)]))) (ha : a ≤ 700) (hd : d ≤ 6) (hb : b < 6) : hM l yX1_widthFollowed cX1_widthFollowed 4 (some .int) { frames := 9, cells := 0, slots := 0, locals := 260 } [.ref h0, .int (nI b)] D cA ga φ sz (fun v φ' => v = some (.int (nI (bW a d b))) ∧ φ' = φ) 0 0 := by
  refine hM.of (by decide) (Nat.le_of_ble_eq_true rfl) rfl ?_
  intro p e s m args below meth c ls H locs S hr hlocks hnm hsz hHz hH hK hX hS hA hl
  refine lv_aload_n (pc := 0) S.1 S.2.1 dX1_widthFollowed_0 rfl (lv_at hl 0 rfl) ?_
  refine hv_get (pc := 1) (C := RX1) (T := TX1) (N := 7) (ref := RX1) S uwX1 hK hH f0 rfl 5 (by decide) tw_634 (fun _ h9 => h9) rfl dX1_widthFollowed_1 ?_
  refine lv_ifnull (pc := 4) S.1 S.2.1 dX1_widthFollowed_4 ?_
  refine lv_aload_n (pc := 7) S.1 S.2.1 dX1_widthFollowed_7 rfl (lv_at hl 0 rfl) ?_
  refine hv_get (pc := 8) (C := RX1) (T := TX1) (N := 7) (ref := RX1) S uwX1 hK hH f0 rfl 5 (by decide) tw_634 (fun _ h9 => h9) rfl dX1_widthFollowed_8 ?_
  refine lv_iload_n (pc := 11) S.1 S.2.1 dX1_widthFollowed_11 rfl (lv_at hl 1 rfl) ?_
  refine hv_call (pc := 12) (va_runVN (As := [.int (nI b)]) (rest := []) S (c_X0_widthFor l D cA ga φ H.size bq a d b f1 ha hd hb) ⟨va_cnB (host := "HatbandYard") 1 S.2.2.2.2 (gw tw_766) rfl rfl rfl (hX.nest _ (by decide +kernel)) (S.2.2.2.2 _ tw_26) (by decide +kernel) ⟨Nat.le_of_ble_eq_true rfl, Nat.le_of_ble_eq_true rfl⟩, S.2.2.2.2 _ tw_765, S.2.2.2.2 _ sw_17⟩ (pre0_V hH hK hX hS hA (hH.recv hK f1 rfl)) rfl rfl hl.1 rfl (lv_room (Nat.le_of_ble_eq_true rfl)) dX1_widthFollowed_12 ⟨Nat.le_of_ble_eq_true rfl, Nat.le_of_ble_eq_true rfl⟩) hS (af_le hH hS hA) (fun v_1 φ_2 H locs hw_v_1 hH hS => ?_)
  obtain ⟨rfl, hqv_1⟩ := hw_v_1
  rw [hqv_1] at hH
  exact hv_ret (pc := 15) (v := nI (bW a d b)) S hr rfl hlocks hH hS (⟨rfl, rfl⟩) (Nat.le_of_ble_eq_true rfl) (Nat.le_of_ble_eq_true rfl) dX1_widthFollowed_15

set_option maxHeartbeats 4000000 in
set_option maxRecDepth 100000 in
/-- Cone.stretchOver(block) -/
theorem c_X1_stretchOver (l : Launch) (D : va_G) (cA : Nat → ClassId) (ga : Nat → Nat → Nat) (φ : hpM) (sz : Nat) (h0 wq gq k ht cy tr : Nat) (lb : Value) (wf mf : Nat → Nat) (bq a d : Nat) (f0 : φ h0 = some (.inr (5, [.ref (ga 0 k), .ref wq, .ref gq, .int (nI ht), .int (nI cy), lb, .int (nI tr)]))) (f1 : φ wq = some (.inl (cA 1, 6, .inl (fun j => nI (wf j))))) (f2 : φ gq = some (.inl (cA 1, 6, .inl (fun j => nI (mf j))))) (f3 : φ bq = some (.inr (4, [.int (nI a), .int (nI d)]))) (ha : a ≤ 700) (hd : d ≤ 6) : hM l yX1_stretchOver cX1_stretchOver 3 none { frames := 9, cells := 0, slots := 0, locals := 260 } [.ref h0, .ref bq] D cA ga φ sz (fun v φ' => v = none ∧ φ' = ups (ups φ wq (.inl (cA 1, 6, .inl (fun j => nI ((pfx (bW a d) wf 6) j))))) h0 (.inr (5, [.ref (ga 0 k), .ref wq, .ref gq, .int (nI ht), .int (nI cy), .ref bq, .int (nI tr)]))) 0 0 := by
  refine hM.of (by decide) (Nat.le_of_ble_eq_true rfl) rfl ?_
  intro p e s m args below meth c ls H locs S hr hlocks hnm hsz hHz hH hK hX hS hA hl
  refine lv_iconst (pc := 0) (v := nI 0) S.1 S.2.1 dX1_stretchOver_0 (by decide) ?_
  refine lv_istore_n (pc := 1) (lv' := [(2, .int (nI 0)), (0, .ref h0), (1, .ref bq)]) S.1 S.2.1 dX1_stretchOver_1 rfl hl (by decide) rfl (fun ls hl => ?_)
  have hg : ∃ (n i : Nat) (φk_1 : hpM), ((i + n = 6) ∧ φk_1 = ups φ wq (.inl (cA 1, 6, .inl (fun j => nI ((pfx (bW a d) wf i) j)))) ∧ hp D (Af φ sz) φk_1 H) ∧ lv_has ls 3 [(0, .ref h0), (1, .ref bq), (2, .int (nI i))] := ⟨6, 0, φ, ⟨rfl, by rw [pfx_0]; exact ups_id f1, hH⟩, lv_sub hl [1, 2, 0] rfl⟩
  clear hl hH
  try clear hHz
  obtain ⟨n, i, φk_1, hi, hl⟩ := hg
  induction n generalizing ls H locs i φk_1 with
  | zero =>
    obtain ⟨hi, hφk_1, hH⟩ := hi
    have f_2 : φk_1 h0 = some (.inr (5, [.ref (ga 0 k), .ref wq, .ref gq, .int (nI ht), .int (nI cy), lb, .int (nI tr)])) := by rw [hφk_1]; exact ups_n (hp_ne f0 f1 (by intro h; cases h)) f0
    have f_3 : φk_1 wq = some (.inl (cA 1, 6, .inl (fun j => nI ((pfx (bW a d) wf i) j)))) := by rw [hφk_1]; exact ups_s _ _ _
    have f_4 : φk_1 bq = some (.inr (4, [.int (nI a), .int (nI d)])) := by rw [hφk_1]; exact ups_n (hp_ne f3 f1 (by intro h; cases h)) f3
    obtain rfl : i = 6 := by omega
    refine lv_iload_n (pc := 2) S.1 S.2.1 dX1_stretchOver_2 rfl (lv_at hl 2 rfl) ?_
    refine lv_aload_n (pc := 3) S.1 S.2.1 dX1_stretchOver_3 rfl (lv_at hl 0 rfl) ?_
    refine hv_get (pc := 4) (C := RX1) (T := TX1) (N := 7) (ref := RX1) S uwX1 hK hH f_2 rfl 1 (by decide) tw_628 (fun _ h9 => h9) rfl dX1_stretchOver_4 ?_
    refine hv_alen (pc := 7) (v := nI 6) S hK hH 1 f_3 rfl rfl dX1_stretchOver_7 ?_
    refine hv_icmp_ge (pc := 8) (tgt := 28) (a := 6) (b := 6) S.1 S.2.1 (by omega) (by omega) dX1_stretchOver_8 (by decide) (fun c_5 => ?_) (fun c_5 => ?_)
    · skip
      refine lv_aload_n (pc := 28) S.1 S.2.1 dX1_stretchOver_28 rfl (lv_at hl 0 rfl) ?_
      refine lv_aload_n (pc := 29) S.1 S.2.1 dX1_stretchOver_29 rfl (lv_at hl 1 rfl) ?_
      refine hv_put (pc := 30) (ty := .object "HatbandYard$Block") (C := RX1) (T := TX1) (N := 7) (ref := RX1) S uwX1 tyX1 tyX1_ok nmX1 hK hH hS f_2 rfl 5 (by decide) tw_634 (fun _ h9 => h9) rfl (by decide +kernel) rfl rfl (Nat.le_of_ble_eq_true rfl) dX1_stretchOver_30 (fun H locs hH hS => ?_)
      replace hH := nup (e := .inr (5, [.ref (ga 0 k), .ref wq, .ref gq, .int (nI ht), .int (nI cy), .ref bq, .int (nI tr)])) hH
      obtain ⟨φ_6, hφ_6, fa_φ_6, fr_φ_6, hH⟩ := hH
      have f_7 := fr_φ_6 _ _ (hp_ne f_3 f_2 (by intro h; cases h)) f_3
      have f_8 := fr_φ_6 _ _ (hp_ne f_4 f_2 (by intro h; cases h)) f_4
      exact hv_vret (pc := 33) S hr hlocks hH hS (⟨rfl, by rw [hφ_6, hφk_1]⟩) (Nat.le_of_ble_eq_true rfl) (Nat.le_of_ble_eq_true rfl) dX1_stretchOver_33
    · skip
      exact absurd c_5 (by omega)
  | succ n ih =>
    obtain ⟨hi, hφk_1, hH⟩ := hi
    have f_9 : φk_1 h0 = some (.inr (5, [.ref (ga 0 k), .ref wq, .ref gq, .int (nI ht), .int (nI cy), lb, .int (nI tr)])) := by rw [hφk_1]; exact ups_n (hp_ne f0 f1 (by intro h; cases h)) f0
    have f_10 : φk_1 wq = some (.inl (cA 1, 6, .inl (fun j => nI ((pfx (bW a d) wf i) j)))) := by rw [hφk_1]; exact ups_s _ _ _
    have f_11 : φk_1 bq = some (.inr (4, [.int (nI a), .int (nI d)])) := by rw [hφk_1]; exact ups_n (hp_ne f3 f1 (by intro h; cases h)) f3
    refine lv_iload_n (pc := 2) S.1 S.2.1 dX1_stretchOver_2 rfl (lv_at hl 2 rfl) ?_
    refine lv_aload_n (pc := 3) S.1 S.2.1 dX1_stretchOver_3 rfl (lv_at hl 0 rfl) ?_
    refine hv_get (pc := 4) (C := RX1) (T := TX1) (N := 7) (ref := RX1) S uwX1 hK hH f_9 rfl 1 (by decide) tw_628 (fun _ h9 => h9) rfl dX1_stretchOver_4 ?_
    refine hv_alen (pc := 7) (v := nI 6) S hK hH 1 f_10 rfl rfl dX1_stretchOver_7 ?_
    refine hv_icmp_ge (pc := 8) (tgt := 28) (a := i) (b := 6) S.1 S.2.1 (by omega) (by omega) dX1_stretchOver_8 (by decide) (fun c_12 => ?_) (fun c_12 => ?_)
    · skip
      exact absurd c_12 (by omega)
    · skip
      refine lv_aload_n (pc := 11) S.1 S.2.1 dX1_stretchOver_11 rfl (lv_at hl 0 rfl) ?_
      refine hv_get (pc := 12) (C := RX1) (T := TX1) (N := 7) (ref := RX1) S uwX1 hK hH f_9 rfl 1 (by decide) tw_628 (fun _ h9 => h9) rfl dX1_stretchOver_12 ?_
      refine lv_iload_n (pc := 15) S.1 S.2.1 dX1_stretchOver_15 rfl (lv_at hl 2 rfl) ?_
      refine lv_aload_n (pc := 16) S.1 S.2.1 dX1_stretchOver_16 rfl (lv_at hl 1 rfl) ?_
      refine lv_iload_n (pc := 17) S.1 S.2.1 dX1_stretchOver_17 rfl (lv_at hl 2 rfl) ?_
      refine hv_call (pc := 18) (va_runVN (As := [.int (nI i)]) (rest := [.int (nI i), .ref wq]) S (c_X0_widthFor l D cA ga φk_1 H.size bq a d i f_11 ha hd (by omega)) ⟨va_cnB (host := "HatbandYard") 1 S.2.2.2.2 (gw tw_766) rfl rfl rfl (hX.nest _ (by decide +kernel)) (S.2.2.2.2 _ tw_26) (by decide +kernel) ⟨Nat.le_of_ble_eq_true rfl, Nat.le_of_ble_eq_true rfl⟩, S.2.2.2.2 _ tw_765, S.2.2.2.2 _ sw_17⟩ (pre0_V hH hK hX hS hA (hH.recv hK f_11 rfl)) rfl rfl hl.1 rfl (lv_room (Nat.le_of_ble_eq_true rfl)) dX1_stretchOver_18 ⟨Nat.le_of_ble_eq_true rfl, Nat.le_of_ble_eq_true rfl⟩) hS (af_le hH hS hA) (fun v_13 φ_14 H locs hw_v_13 hH hS => ?_)
      obtain ⟨rfl, hqv_13⟩ := hw_v_13
      rw [hqv_13] at hH
      refine hv_iast (pc := 21) S hK hH hS 1 f_10 rfl (vp_in_nI (by omega) (by omega)) dX1_stretchOver_21 (fun H locs hH hS => ?_)
      rw [hv_upd (by omega), pfx_up] at hH
      replace hH := nup (e := .inl (cA 1, 6, .inl (fun j => nI ((pfx (bW a d) wf (i + 1)) j)))) hH
      obtain ⟨φ_15, hφ_15, fa_φ_15, fr_φ_15, hH⟩ := hH
      have f_16 := fr_φ_15 _ _ (hp_ne f_9 f_10 (by intro h; cases h)) f_9
      have f_17 := fr_φ_15 _ _ (hp_ne f_11 f_10 (by intro h; cases h)) f_11
      refine lv_iinc (pc := 22) (v := nI (i + 1)) (lv' := [(2, .int (nI (i + 1))), (0, .ref h0), (1, .ref bq)]) S.1 S.2.1 dX1_stretchOver_22 hl (k := 2) rfl (by first | rfl | exact nI_add _ _) (by decide) rfl (fun ls hl => ?_)
      refine lv_goto (pc := 25) (tgt := 2) S.1 S.2.1 dX1_stretchOver_25 (by decide) ?_
      have hi2 : ((i + 1) + n = 6) ∧ φ_15 = ups φ wq (.inl (cA 1, 6, .inl (fun j => nI ((pfx (bW a d) wf (i + 1)) j)))) ∧ hp D (Af φ sz) φ_15 H := ⟨by omega, by rw [hφ_15, hφk_1, ups_ups], hH⟩
      have hl2 : lv_has ls 3 [(0, .ref h0), (1, .ref bq), (2, .int (nI (i + 1)))] := lv_sub hl [1, 2, 0] rfl
      apply ih (i := i + 1) (φk_1 := φ_15) <;> assumption

/-- the refusal: band by band from j on, n of them, t: was a band too wide -/
def rfF (k : Nat) (wf bw : Nat → Nat) : Nat → Nat → Nat → Nat
  | 0, _, t => if t = 0 then 0 else 3
  | n + 1, j, t => if wf j < bw j ∧ toN k (bw j - wf j) (wf j) = 1 then 2 else rfF k wf bw n (j + 1) (if t = 0 ∧ ¬ (bw j < wf j ∧ bw j < shA k (wf j)) then 0 else 1)
theorem toN_le (k a b : Nat) : toN k a b ≤ 1 := by
  unfold toN
  split
  · exact Nat.le_refl _
  · split <;> omega
theorem hoF_le (wf mf : Nat → Nat) (ht : Nat) : ∀ n j, hoF wf mf ht n j ≤ 1
  | 0, _ => Nat.zero_le _
  | n + 1, j => by
    unfold hoF
    split
    · exact Nat.le_refl _
    · exact hoF_le wf mf ht n (j + 1)
set_option maxHeartbeats 4000000 in
set_option maxRecDepth 100000 in
/-- Cone.refusalOf(block) -/
theorem c_X1_refusalOf (l : Launch) (D : va_G) (cA : Nat → ClassId) (ga : Nat → Nat → Nat) (φ : hpM) (sz : Nat) (h0 wq gq k ht cy tr : Nat) (lb : Value) (wf mf : Nat → Nat) (bq a d : Nat) (f0 : φ h0 = some (.inr (5, [.ref (ga 0 k), .ref wq, .ref gq, .int (nI ht), .int (nI cy), lb, .int (nI tr)]))) (f1 : φ wq = some (.inl (cA 1, 6, .inl (fun j => nI (wf j))))) (f2 : φ gq = some (.inl (cA 1, 6, .inl (fun j => nI (mf j))))) (f3 : φ bq = some (.inr (4, [.int (nI a), .int (nI d)]))) (hk : k < 4) (hw : ∀ j, wf j ≤ 1200) (hh : ht ≤ 60) (hg : ∀ j, mf j ≤ 500) (ha : a ≤ 700) (hd : d ≤ 6) : hM l yX1_refusalOf cX1_refusalOf 6 (some .int) { frames := 11, cells := 0, slots := 0, locals := 380 } [.ref h0, .ref bq] D cA ga φ sz (fun v φ' => v = some (.int (nI (if hoF wf mf ht 6 0 = 0 then rfF k wf (bW a d) 6 0 0 else 1))) ∧ φ' = φ) 0 0 := by
  refine hM.of (by decide) (Nat.le_of_ble_eq_true rfl) rfl ?_
  intro p e s m args below meth c ls H locs S hr hlocks hnm hsz hHz hH hK hX hS hA hl
  have hho := hoF_le wf mf ht 6 0
  refine lv_aload_n (pc := 0) S.1 S.2.1 dX1_refusalOf_0 rfl (lv_at hl 0 rfl) ?_
  refine hv_call (pc := 1) (va_runV (As := []) (rest := []) S (c_X1_hasHole l D cA ga φ H.size h0 wq gq k ht cy tr lb wf mf f0 f1 f2 hk hw hh hg) (cwV 0 S.2.2.2.2 (gV tw_749 tw_751 sw_14 tw_24 tw_752) rfl rfl rfl (by decide +kernel) ⟨Nat.le_of_ble_eq_true rfl, Nat.le_of_ble_eq_true rfl⟩) (pre0_V hH hK hX hS hA (hH.recv hK f0 rfl)) rfl rfl hl.1 rfl (lv_room (Nat.le_of_ble_eq_true rfl)) dX1_refusalOf_1 ⟨Nat.le_of_ble_eq_true rfl, Nat.le_of_ble_eq_true rfl⟩) hS (af_le hH hS hA) (fun v_1 φ_2 H locs hw_v_1 hH hS => ?_)
  obtain ⟨rfl, hqv_1⟩ := hw_v_1
  rw [hqv_1] at hH
  refine hv_if_eq (pc := 4) (tgt := 9) (a := hoF wf mf ht 6 0) S.1 S.2.1 (by omega) dX1_refusalOf_4 (by decide) (fun c_3 => ?_) (fun c_3 => ?_)
  · skip
    refine lv_iconst (pc := 9) (v := nI 0) S.1 S.2.1 dX1_refusalOf_9 (by decide) ?_
    refine lv_istore_n (pc := 10) (lv' := [(2, .int (nI 0)), (0, .ref h0), (1, .ref bq)]) S.1 S.2.1 dX1_refusalOf_10 rfl hl (by decide) rfl (fun ls hl => ?_)
    refine lv_iconst (pc := 11) (v := nI 0) S.1 S.2.1 dX1_refusalOf_11 (by decide) ?_
    refine lv_istore_n (pc := 12) (lv' := [(3, .int (nI 0)), (2, .int (nI 0)), (0, .ref h0), (1, .ref bq)]) S.1 S.2.1 dX1_refusalOf_12 rfl hl (by decide) rfl (fun ls hl => ?_)
    have hg : ∃ (n i t : Nat), (i + n = 6 ∧ t ≤ 1 ∧ rfF k wf (bW a d) 6 0 0 = rfF k wf (bW a d) n i t) ∧ lv_has ls 6 [(0, .ref h0), (1, .ref bq), (2, .int (nI t)), (3, .int (nI i))] := ⟨6, 0, 0, ⟨rfl, by decide, rfl⟩, lv_sub hl [2, 3, 1, 0] rfl⟩
    clear hl
    try clear hHz
    obtain ⟨n, i, t, hi, hl⟩ := hg
    induction n generalizing ls H locs i t with
    | zero =>
      obtain ⟨hi, ht1, hrc⟩ := hi
      refine lv_iload_n (pc := 13) S.1 S.2.1 dX1_refusalOf_13 rfl (lv_at hl 3 rfl) ?_
      refine lv_bipush (pc := 14) (v := nI 6) S.1 S.2.1 dX1_refusalOf_14 (by decide) ?_
      refine hv_icmp_ge (pc := 16) (tgt := 93) (a := i) (b := 6) S.1 S.2.1 (by omega) (by omega) dX1_refusalOf_16 (by decide) (fun c_4 => ?_) (fun c_4 => ?_)
      · skip
        refine lv_iload_n (pc := 93) S.1 S.2.1 dX1_refusalOf_93 rfl (lv_at hl 2 rfl) ?_
        refine hv_if_eq (pc := 94) (tgt := 101) (a := t) S.1 S.2.1 (by omega) dX1_refusalOf_94 (by decide) (fun c_5 => ?_) (fun c_5 => ?_)
        · skip
          refine lv_iconst (pc := 101) (v := nI 0) S.1 S.2.1 dX1_refusalOf_101 (by decide) ?_
          exact hv_ret (pc := 102) (v := nI 0) S hr rfl hlocks hH hS (⟨by rw [if_pos c_3, hrc, rfF, if_pos (by omega)], rfl⟩) (Nat.le_of_ble_eq_true rfl) (Nat.le_of_ble_eq_true rfl) dX1_refusalOf_102
        · skip
          refine lv_iconst (pc := 97) (v := nI 3) S.1 S.2.1 dX1_refusalOf_97 (by decide) ?_
          refine lv_goto (pc := 98) (tgt := 102) S.1 S.2.1 dX1_refusalOf_98 (by decide) ?_
          exact hv_ret (pc := 102) (v := nI 3) S hr rfl hlocks hH hS (⟨by rw [if_pos c_3, hrc, rfF, if_neg (by omega)], rfl⟩) (Nat.le_of_ble_eq_true rfl) (Nat.le_of_ble_eq_true rfl) dX1_refusalOf_102
      · skip
        exact absurd c_4 (by omega)
    | succ n ih =>
      obtain ⟨hi, ht1, hrc⟩ := hi
      have hw1 := hw i
      have hb1 := bW_le (d := d) (b := i) ha
      have ha1 := shA_le k (wf i)
      refine lv_iload_n (pc := 13) S.1 S.2.1 dX1_refusalOf_13 rfl (lv_at hl 3 rfl) ?_
      refine lv_bipush (pc := 14) (v := nI 6) S.1 S.2.1 dX1_refusalOf_14 (by decide) ?_
      refine hv_icmp_ge (pc := 16) (tgt := 93) (a := i) (b := 6) S.1 S.2.1 (by omega) (by omega) dX1_refusalOf_16 (by decide) (fun c_6 => ?_) (fun c_6 => ?_)
      · skip
        exact absurd c_6 (by omega)
      · skip
        refine lv_aload_n (pc := 19) S.1 S.2.1 dX1_refusalOf_19 rfl (lv_at hl 0 rfl) ?_
        refine lv_iload_n (pc := 20) S.1 S.2.1 dX1_refusalOf_20 rfl (lv_at hl 3 rfl) ?_
        refine hv_call (pc := 21) (va_runV (As := [.int (nI i)]) (rest := []) S (c_X1_widthOf l D cA ga φ H.size h0 wq gq k ht cy tr lb wf mf i f0 f1 f2 (by omega)) (cwV 1 S.2.2.2.2 (gV tw_757 tw_712 sw_11 tw_24 tw_713) rfl rfl rfl (by decide +kernel) ⟨Nat.le_of_ble_eq_true rfl, Nat.le_of_ble_eq_true rfl⟩) (pre0_V hH hK hX hS hA (hH.recv hK f0 rfl)) rfl rfl hl.1 rfl (lv_room (Nat.le_of_ble_eq_true rfl)) dX1_refusalOf_21 ⟨Nat.le_of_ble_eq_true rfl, Nat.le_of_ble_eq_true rfl⟩) hS (af_le hH hS hA) (fun v_7 φ_8 H locs hw_v_7 hH hS => ?_)
        obtain ⟨rfl, hqv_7⟩ := hw_v_7
        rw [hqv_7] at hH
        refine lv_istore (pc := 24) (lv' := [(4, .int (nI (wf i))), (0, .ref h0), (1, .ref bq), (2, .int (nI t)), (3, .int (nI i))]) S.1 S.2.1 dX1_refusalOf_24 hl (by decide) rfl (fun ls hl => ?_)
        refine lv_aload_n (pc := 26) S.1 S.2.1 dX1_refusalOf_26 rfl (lv_at hl 2 rfl) ?_
        refine lv_iload_n (pc := 27) S.1 S.2.1 dX1_refusalOf_27 rfl (lv_at hl 4 rfl) ?_
        refine hv_call (pc := 28) (va_runVN (As := [.int (nI i)]) (rest := []) S (c_X0_widthFor l D cA ga φ H.size bq a d i f3 ha hd (by omega)) ⟨va_cnB (host := "HatbandYard") 1 S.2.2.2.2 (gw tw_766) rfl rfl rfl (hX.nest _ (by decide +kernel)) (S.2.2.2.2 _ tw_26) (by decide +kernel) ⟨Nat.le_of_ble_eq_true rfl, Nat.le_of_ble_eq_true rfl⟩, S.2.2.2.2 _ tw_765, S.2.2.2.2 _ sw_17⟩ (pre0_V hH hK hX hS hA (hH.recv hK f3 rfl)) rfl rfl hl.1 rfl (lv_room (Nat.le_of_ble_eq_true rfl)) dX1_refusalOf_28 ⟨Nat.le_of_ble_eq_true rfl, Nat.le_of_ble_eq_true rfl⟩) hS (af_le hH hS hA) (fun v_9 φ_10 H locs hw_v_9 hH hS => ?_)
        obtain ⟨rfl, hqv_9⟩ := hw_v_9
        rw [hqv_9] at hH
        refine lv_istore (pc := 31) (lv' := [(5, .int (nI (bW a d i))), (4, .int (nI (wf i))), (0, .ref h0), (1, .ref bq), (2, .int (nI t)), (3, .int (nI i))]) S.1 S.2.1 dX1_refusalOf_31 hl (by decide) rfl (fun ls hl => ?_)
        refine lv_iload (pc := 33) S.1 S.2.1 dX1_refusalOf_33 (lv_at hl 0 rfl) ?_
        refine lv_iload (pc := 35) S.1 S.2.1 dX1_refusalOf_35 (lv_at hl 1 rfl) ?_
        refine hv_icmp_le (pc := 37) (tgt := 56) (a := bW a d i) (b := wf i) S.1 S.2.1 (by omega) (by omega) dX1_refusalOf_37 (by decide) (fun c_11 => ?_) (fun c_11 => ?_)
        · skip
          have hnt : ¬ (wf i < bW a d i ∧ toN k (bW a d i - wf i) (wf i) = 1) := fun h => absurd h.1 (by omega)
          refine lv_iload_n (pc := 56) S.1 S.2.1 dX1_refusalOf_56 rfl (lv_at hl 4 rfl) ?_
          refine hv_if_ne (pc := 57) (tgt := 81) (a := t) S.1 S.2.1 (by omega) dX1_refusalOf_57 (by decide) (fun c_12 => ?_) (fun c_12 => ?_)
          · skip
            refine lv_iconst (pc := 81) (v := nI 1) S.1 S.2.1 dX1_refusalOf_81 (by decide) ?_
            refine lv_goto (pc := 82) (tgt := 86) S.1 S.2.1 dX1_refusalOf_82 (by decide) ?_
            refine lv_istore_n (pc := 86) (lv' := [(2, .int (nI 1)), (5, .int (nI (bW a d i))), (4, .int (nI (wf i))), (0, .ref h0), (1, .ref bq), (3, .int (nI i))]) S.1 S.2.1 dX1_refusalOf_86 rfl hl (by decide) rfl (fun ls hl => ?_)
            refine lv_iinc (pc := 87) (v := nI (i + 1)) (lv' := [(3, .int (nI (i + 1))), (2, .int (nI 1)), (5, .int (nI (bW a d i))), (4, .int (nI (wf i))), (0, .ref h0), (1, .ref bq)]) S.1 S.2.1 dX1_refusalOf_87 hl (k := 5) rfl (by first | rfl | exact nI_add _ _) (by decide) rfl (fun ls hl => ?_)
            refine lv_goto (pc := 90) (tgt := 13) S.1 S.2.1 dX1_refusalOf_90 (by decide) ?_
            have hi2 : (i + 1) + n = 6 ∧ (1) ≤ 1 ∧ rfF k wf (bW a d) 6 0 0 = rfF k wf (bW a d) n (i + 1) (1) := ⟨by omega, by omega, by rw [hrc, rfF, if_neg hnt, if_neg (by omega)]⟩
            have hl2 : lv_has ls 6 [(0, .ref h0), (1, .ref bq), (2, .int (nI (1))), (3, .int (nI (i + 1)))] := lv_sub hl [4, 5, 1, 0] rfl
            apply ih (i := i + 1) (t := 1) <;> assumption
          · skip
            refine lv_iload (pc := 60) S.1 S.2.1 dX1_refusalOf_60 (lv_at hl 0 rfl) ?_
            refine lv_iload (pc := 62) S.1 S.2.1 dX1_refusalOf_62 (lv_at hl 1 rfl) ?_
            refine hv_icmp_ge (pc := 64) (tgt := 85) (a := bW a d i) (b := wf i) S.1 S.2.1 (by omega) (by omega) dX1_refusalOf_64 (by decide) (fun c_13 => ?_) (fun c_13 => ?_)
            · skip
              refine lv_iconst (pc := 85) (v := nI 0) S.1 S.2.1 dX1_refusalOf_85 (by decide) ?_
              refine lv_istore_n (pc := 86) (lv' := [(2, .int (nI 0)), (5, .int (nI (bW a d i))), (4, .int (nI (wf i))), (0, .ref h0), (1, .ref bq), (3, .int (nI i))]) S.1 S.2.1 dX1_refusalOf_86 rfl hl (by decide) rfl (fun ls hl => ?_)
              refine lv_iinc (pc := 87) (v := nI (i + 1)) (lv' := [(3, .int (nI (i + 1))), (2, .int (nI 0)), (5, .int (nI (bW a d i))), (4, .int (nI (wf i))), (0, .ref h0), (1, .ref bq)]) S.1 S.2.1 dX1_refusalOf_87 hl (k := 5) rfl (by first | rfl | exact nI_add _ _) (by decide) rfl (fun ls hl => ?_)
              refine lv_goto (pc := 90) (tgt := 13) S.1 S.2.1 dX1_refusalOf_90 (by decide) ?_
              have hi2 : (i + 1) + n = 6 ∧ (0) ≤ 1 ∧ rfF k wf (bW a d) 6 0 0 = rfF k wf (bW a d) n (i + 1) (0) := ⟨by omega, by omega, by rw [hrc, rfF, if_neg hnt, if_pos (by omega)]⟩
              have hl2 : lv_has ls 6 [(0, .ref h0), (1, .ref bq), (2, .int (nI (0))), (3, .int (nI (i + 1)))] := lv_sub hl [4, 5, 1, 0] rfl
              apply ih (i := i + 1) (t := 0) <;> assumption
            · skip
              refine lv_aload_n (pc := 67) S.1 S.2.1 dX1_refusalOf_67 rfl (lv_at hl 2 rfl) ?_
              refine hv_get (pc := 68) (C := RX1) (T := TX1) (N := 7) (ref := RX1) S uwX1 hK hH f0 rfl 0 (by decide) tw_626 (fun _ h9 => h9) rfl dX1_refusalOf_68 ?_
              refine lv_iload (pc := 71) S.1 S.2.1 dX1_refusalOf_71 (lv_at hl 1 rfl) ?_
              refine hv_call (pc := 73) (va_runVNn (As := [.int (nI (wf i))]) (rest := []) S (c_X3_shrunkAcross l D cA ga φ H.size k (wf i) hk hw1) ⟨va_cnBn (host := "HatbandYard") 1 S.2.2.2.2 (gw tw_705) rfl rfl rfl (hX.nest _ (by decide +kernel)) (by decide +kernel) ⟨Nat.le_of_ble_eq_true rfl, Nat.le_of_ble_eq_true rfl⟩, S.2.2.2.2 _ tw_703, S.2.2.2.2 _ sw_9⟩ (pre0_V hH hK hX hS hA (o_recv (hX.furO k hk) hS)) rfl rfl hl.1 rfl (lv_room (Nat.le_of_ble_eq_true rfl)) dX1_refusalOf_73 ⟨Nat.le_of_ble_eq_true rfl, Nat.le_of_ble_eq_true rfl⟩) hS (af_le hH hS hA) (fun v_14 φ_15 H locs hw_v_14 hH hS => ?_)
              obtain ⟨rfl, hqv_14⟩ := hw_v_14
              rw [hqv_14] at hH
              refine lv_iload (pc := 76) S.1 S.2.1 dX1_refusalOf_76 (lv_at hl 0 rfl) ?_
              refine hv_icmp_le (pc := 78) (tgt := 85) (a := shA k (wf i)) (b := bW a d i) S.1 S.2.1 (by omega) (by omega) dX1_refusalOf_78 (by decide) (fun c_16 => ?_) (fun c_16 => ?_)
              · skip
                refine lv_iconst (pc := 85) (v := nI 0) S.1 S.2.1 dX1_refusalOf_85 (by decide) ?_
                refine lv_istore_n (pc := 86) (lv' := [(2, .int (nI 0)), (5, .int (nI (bW a d i))), (4, .int (nI (wf i))), (0, .ref h0), (1, .ref bq), (3, .int (nI i))]) S.1 S.2.1 dX1_refusalOf_86 rfl hl (by decide) rfl (fun ls hl => ?_)
                refine lv_iinc (pc := 87) (v := nI (i + 1)) (lv' := [(3, .int (nI (i + 1))), (2, .int (nI 0)), (5, .int (nI (bW a d i))), (4, .int (nI (wf i))), (0, .ref h0), (1, .ref bq)]) S.1 S.2.1 dX1_refusalOf_87 hl (k := 5) rfl (by first | rfl | exact nI_add _ _) (by decide) rfl (fun ls hl => ?_)
                refine lv_goto (pc := 90) (tgt := 13) S.1 S.2.1 dX1_refusalOf_90 (by decide) ?_
                have hi2 : (i + 1) + n = 6 ∧ (0) ≤ 1 ∧ rfF k wf (bW a d) 6 0 0 = rfF k wf (bW a d) n (i + 1) (0) := ⟨by omega, by omega, by rw [hrc, rfF, if_neg hnt, if_pos (by omega)]⟩
                have hl2 : lv_has ls 6 [(0, .ref h0), (1, .ref bq), (2, .int (nI (0))), (3, .int (nI (i + 1)))] := lv_sub hl [4, 5, 1, 0] rfl
                apply ih (i := i + 1) (t := 0) <;> assumption
              · skip
                refine lv_iconst (pc := 81) (v := nI 1) S.1 S.2.1 dX1_refusalOf_81 (by decide) ?_
                refine lv_goto (pc := 82) (tgt := 86) S.1 S.2.1 dX1_refusalOf_82 (by decide) ?_
                refine lv_istore_n (pc := 86) (lv' := [(2, .int (nI 1)), (5, .int (nI (bW a d i))), (4, .int (nI (wf i))), (0, .ref h0), (1, .ref bq), (3, .int (nI i))]) S.1 S.2.1 dX1_refusalOf_86 rfl hl (by decide) rfl (fun ls hl => ?_)
                refine lv_iinc (pc := 87) (v := nI (i + 1)) (lv' := [(3, .int (nI (i + 1))), (2, .int (nI 1)), (5, .int (nI (bW a d i))), (4, .int (nI (wf i))), (0, .ref h0), (1, .ref bq)]) S.1 S.2.1 dX1_refusalOf_87 hl (k := 5) rfl (by first | rfl | exact nI_add _ _) (by decide) rfl (fun ls hl => ?_)
                refine lv_goto (pc := 90) (tgt := 13) S.1 S.2.1 dX1_refusalOf_90 (by decide) ?_
                have hi2 : (i + 1) + n = 6 ∧ (1) ≤ 1 ∧ rfF k wf (bW a d) 6 0 0 = rfF k wf (bW a d) n (i + 1) (1) := ⟨by omega, by omega, by rw [hrc, rfF, if_neg hnt, if_neg (by omega)]⟩
                have hl2 : lv_has ls 6 [(0, .ref h0), (1, .ref bq), (2, .int (nI (1))), (3, .int (nI (i + 1)))] := lv_sub hl [4, 5, 1, 0] rfl
                apply ih (i := i + 1) (t := 1) <;> assumption
        · skip
          refine lv_aload_n (pc := 40) S.1 S.2.1 dX1_refusalOf_40 rfl (lv_at hl 2 rfl) ?_
          refine lv_iload (pc := 41) S.1 S.2.1 dX1_refusalOf_41 (lv_at hl 0 rfl) ?_
          refine lv_iload (pc := 43) S.1 S.2.1 dX1_refusalOf_43 (lv_at hl 1 rfl) ?_
          refine lv_isub (pc := 45) S.1 S.2.1 dX1_refusalOf_45 ?_
          refine hv_ti (y := nI ((bW a d i) - (wf i))) (pk_sub (by omega)) ?_
          refine lv_iload (pc := 46) S.1 S.2.1 dX1_refusalOf_46 (lv_at hl 1 rfl) ?_
          refine hv_call (pc := 48) (va_runV (As := [.int (nI ((bW a d i) - (wf i))), .int (nI (wf i))]) (rest := []) S (c_X1_isTornBy l D cA ga φ H.size h0 wq gq k ht cy tr lb wf mf (bW a d i - wf i) (wf i) f0 hk (by omega) hw1) (cwV 2 S.2.2.2.2 (gV tw_768 tw_770 sw_18 tw_24 tw_771) rfl rfl rfl (by decide +kernel) ⟨Nat.le_of_ble_eq_true rfl, Nat.le_of_ble_eq_true rfl⟩) (pre0_V hH hK hX hS hA (hH.recv hK f0 rfl)) rfl rfl hl.1 rfl (lv_room (Nat.le_of_ble_eq_true rfl)) dX1_refusalOf_48 ⟨Nat.le_of_ble_eq_true rfl, Nat.le_of_ble_eq_true rfl⟩) hS (af_le hH hS hA) (fun v_17 φ_18 H locs hw_v_17 hH hS => ?_)
          obtain ⟨rfl, hqv_17⟩ := hw_v_17
          rw [hqv_17] at hH
          have hto := toN_le k (bW a d i - wf i) (wf i)
          refine hv_if_eq (pc := 51) (tgt := 56) (a := toN k (bW a d i - wf i) (wf i)) S.1 S.2.1 (by omega) dX1_refusalOf_51 (by decide) (fun c_19 => ?_) (fun c_19 => ?_)
          · skip
            have hnt : ¬ (wf i < bW a d i ∧ toN k (bW a d i - wf i) (wf i) = 1) := fun h => absurd h.2 (by omega)
            refine lv_iload_n (pc := 56) S.1 S.2.1 dX1_refusalOf_56 rfl (lv_at hl 4 rfl) ?_
            refine hv_if_ne (pc := 57) (tgt := 81) (a := t) S.1 S.2.1 (by omega) dX1_refusalOf_57 (by decide) (fun c_20 => ?_) (fun c_20 => ?_)
            · skip
              refine lv_iconst (pc := 81) (v := nI 1) S.1 S.2.1 dX1_refusalOf_81 (by decide) ?_
              refine lv_goto (pc := 82) (tgt := 86) S.1 S.2.1 dX1_refusalOf_82 (by decide) ?_
              refine lv_istore_n (pc := 86) (lv' := [(2, .int (nI 1)), (5, .int (nI (bW a d i))), (4, .int (nI (wf i))), (0, .ref h0), (1, .ref bq), (3, .int (nI i))]) S.1 S.2.1 dX1_refusalOf_86 rfl hl (by decide) rfl (fun ls hl => ?_)
              refine lv_iinc (pc := 87) (v := nI (i + 1)) (lv' := [(3, .int (nI (i + 1))), (2, .int (nI 1)), (5, .int (nI (bW a d i))), (4, .int (nI (wf i))), (0, .ref h0), (1, .ref bq)]) S.1 S.2.1 dX1_refusalOf_87 hl (k := 5) rfl (by first | rfl | exact nI_add _ _) (by decide) rfl (fun ls hl => ?_)
              refine lv_goto (pc := 90) (tgt := 13) S.1 S.2.1 dX1_refusalOf_90 (by decide) ?_
              have hi2 : (i + 1) + n = 6 ∧ (1) ≤ 1 ∧ rfF k wf (bW a d) 6 0 0 = rfF k wf (bW a d) n (i + 1) (1) := ⟨by omega, by omega, by rw [hrc, rfF, if_neg hnt, if_neg (by omega)]⟩
              have hl2 : lv_has ls 6 [(0, .ref h0), (1, .ref bq), (2, .int (nI (1))), (3, .int (nI (i + 1)))] := lv_sub hl [4, 5, 1, 0] rfl
              apply ih (i := i + 1) (t := 1) <;> assumption
            · skip
              refine lv_iload (pc := 60) S.1 S.2.1 dX1_refusalOf_60 (lv_at hl 0 rfl) ?_
              refine lv_iload (pc := 62) S.1 S.2.1 dX1_refusalOf_62 (lv_at hl 1 rfl) ?_
              refine hv_icmp_ge (pc := 64) (tgt := 85) (a := bW a d i) (b := wf i) S.1 S.2.1 (by omega) (by omega) dX1_refusalOf_64 (by decide) (fun c_21 => ?_) (fun c_21 => ?_)
              · skip
                refine lv_iconst (pc := 85) (v := nI 0) S.1 S.2.1 dX1_refusalOf_85 (by decide) ?_
                refine lv_istore_n (pc := 86) (lv' := [(2, .int (nI 0)), (5, .int (nI (bW a d i))), (4, .int (nI (wf i))), (0, .ref h0), (1, .ref bq), (3, .int (nI i))]) S.1 S.2.1 dX1_refusalOf_86 rfl hl (by decide) rfl (fun ls hl => ?_)
                refine lv_iinc (pc := 87) (v := nI (i + 1)) (lv' := [(3, .int (nI (i + 1))), (2, .int (nI 0)), (5, .int (nI (bW a d i))), (4, .int (nI (wf i))), (0, .ref h0), (1, .ref bq)]) S.1 S.2.1 dX1_refusalOf_87 hl (k := 5) rfl (by first | rfl | exact nI_add _ _) (by decide) rfl (fun ls hl => ?_)
                refine lv_goto (pc := 90) (tgt := 13) S.1 S.2.1 dX1_refusalOf_90 (by decide) ?_
                have hi2 : (i + 1) + n = 6 ∧ (0) ≤ 1 ∧ rfF k wf (bW a d) 6 0 0 = rfF k wf (bW a d) n (i + 1) (0) := ⟨by omega, by omega, by rw [hrc, rfF, if_neg hnt, if_pos (by omega)]⟩
                have hl2 : lv_has ls 6 [(0, .ref h0), (1, .ref bq), (2, .int (nI (0))), (3, .int (nI (i + 1)))] := lv_sub hl [4, 5, 1, 0] rfl
                apply ih (i := i + 1) (t := 0) <;> assumption
              · skip
                refine lv_aload_n (pc := 67) S.1 S.2.1 dX1_refusalOf_67 rfl (lv_at hl 2 rfl) ?_
                refine hv_get (pc := 68) (C := RX1) (T := TX1) (N := 7) (ref := RX1) S uwX1 hK hH f0 rfl 0 (by decide) tw_626 (fun _ h9 => h9) rfl dX1_refusalOf_68 ?_
                refine lv_iload (pc := 71) S.1 S.2.1 dX1_refusalOf_71 (lv_at hl 1 rfl) ?_
                refine hv_call (pc := 73) (va_runVNn (As := [.int (nI (wf i))]) (rest := []) S (c_X3_shrunkAcross l D cA ga φ H.size k (wf i) hk hw1) ⟨va_cnBn (host := "HatbandYard") 1 S.2.2.2.2 (gw tw_705) rfl rfl rfl (hX.nest _ (by decide +kernel)) (by decide +kernel) ⟨Nat.le_of_ble_eq_true rfl, Nat.le_of_ble_eq_true rfl⟩, S.2.2.2.2 _ tw_703, S.2.2.2.2 _ sw_9⟩ (pre0_V hH hK hX hS hA (o_recv (hX.furO k hk) hS)) rfl rfl hl.1 rfl (lv_room (Nat.le_of_ble_eq_true rfl)) dX1_refusalOf_73 ⟨Nat.le_of_ble_eq_true rfl, Nat.le_of_ble_eq_true rfl⟩) hS (af_le hH hS hA) (fun v_22 φ_23 H locs hw_v_22 hH hS => ?_)
                obtain ⟨rfl, hqv_22⟩ := hw_v_22
                rw [hqv_22] at hH
                refine lv_iload (pc := 76) S.1 S.2.1 dX1_refusalOf_76 (lv_at hl 0 rfl) ?_
                refine hv_icmp_le (pc := 78) (tgt := 85) (a := shA k (wf i)) (b := bW a d i) S.1 S.2.1 (by omega) (by omega) dX1_refusalOf_78 (by decide) (fun c_24 => ?_) (fun c_24 => ?_)
                · skip
                  refine lv_iconst (pc := 85) (v := nI 0) S.1 S.2.1 dX1_refusalOf_85 (by decide) ?_
                  refine lv_istore_n (pc := 86) (lv' := [(2, .int (nI 0)), (5, .int (nI (bW a d i))), (4, .int (nI (wf i))), (0, .ref h0), (1, .ref bq), (3, .int (nI i))]) S.1 S.2.1 dX1_refusalOf_86 rfl hl (by decide) rfl (fun ls hl => ?_)
                  refine lv_iinc (pc := 87) (v := nI (i + 1)) (lv' := [(3, .int (nI (i + 1))), (2, .int (nI 0)), (5, .int (nI (bW a d i))), (4, .int (nI (wf i))), (0, .ref h0), (1, .ref bq)]) S.1 S.2.1 dX1_refusalOf_87 hl (k := 5) rfl (by first | rfl | exact nI_add _ _) (by decide) rfl (fun ls hl => ?_)
                  refine lv_goto (pc := 90) (tgt := 13) S.1 S.2.1 dX1_refusalOf_90 (by decide) ?_
                  have hi2 : (i + 1) + n = 6 ∧ (0) ≤ 1 ∧ rfF k wf (bW a d) 6 0 0 = rfF k wf (bW a d) n (i + 1) (0) := ⟨by omega, by omega, by rw [hrc, rfF, if_neg hnt, if_pos (by omega)]⟩
                  have hl2 : lv_has ls 6 [(0, .ref h0), (1, .ref bq), (2, .int (nI (0))), (3, .int (nI (i + 1)))] := lv_sub hl [4, 5, 1, 0] rfl
                  apply ih (i := i + 1) (t := 0) <;> assumption
                · skip
                  refine lv_iconst (pc := 81) (v := nI 1) S.1 S.2.1 dX1_refusalOf_81 (by decide) ?_
                  refine lv_goto (pc := 82) (tgt := 86) S.1 S.2.1 dX1_refusalOf_82 (by decide) ?_
                  refine lv_istore_n (pc := 86) (lv' := [(2, .int (nI 1)), (5, .int (nI (bW a d i))), (4, .int (nI (wf i))), (0, .ref h0), (1, .ref bq), (3, .int (nI i))]) S.1 S.2.1 dX1_refusalOf_86 rfl hl (by decide) rfl (fun ls hl => ?_)
                  refine lv_iinc (pc := 87) (v := nI (i + 1)) (lv' := [(3, .int (nI (i + 1))), (2, .int (nI 1)), (5, .int (nI (bW a d i))), (4, .int (nI (wf i))), (0, .ref h0), (1, .ref bq)]) S.1 S.2.1 dX1_refusalOf_87 hl (k := 5) rfl (by first | rfl | exact nI_add _ _) (by decide) rfl (fun ls hl => ?_)
                  refine lv_goto (pc := 90) (tgt := 13) S.1 S.2.1 dX1_refusalOf_90 (by decide) ?_
                  have hi2 : (i + 1) + n = 6 ∧ (1) ≤ 1 ∧ rfF k wf (bW a d) 6 0 0 = rfF k wf (bW a d) n (i + 1) (1) := ⟨by omega, by omega, by rw [hrc, rfF, if_neg hnt, if_neg (by omega)]⟩
                  have hl2 : lv_has ls 6 [(0, .ref h0), (1, .ref bq), (2, .int (nI (1))), (3, .int (nI (i + 1)))] := lv_sub hl [4, 5, 1, 0] rfl
                  apply ih (i := i + 1) (t := 1) <;> assumption
          · skip
            refine lv_iconst (pc := 54) (v := nI 2) S.1 S.2.1 dX1_refusalOf_54 (by decide) ?_
            exact hv_ret (pc := 55) (v := nI 2) S hr rfl hlocks hH hS (⟨by rw [if_pos c_3, hrc, rfF, if_pos ⟨by omega, by omega⟩], rfl⟩) (Nat.le_of_ble_eq_true rfl) (Nat.le_of_ble_eq_true rfl) dX1_refusalOf_55
  · skip
    refine lv_iconst (pc := 7) (v := nI 1) S.1 S.2.1 dX1_refusalOf_7 (by decide) ?_
    exact hv_ret (pc := 8) (v := nI 1) S hr rfl hlocks hH hS (⟨by rw [if_neg c_3], rfl⟩) (Nat.le_of_ble_eq_true rfl) (Nat.le_of_ble_eq_true rfl) dX1_refusalOf_8

def pF (t b : Nat) : Nat := 10 + t * b
/-- the grams of a band, before the rest is given -/
def gB (g t b : Nat) : Nat := g * pF t b / smN (pF t) 6
def gF (g t : Nat) : Nat → Nat := va_up (gB g t) 0 (gB g t 0 + (g - smN (gB g t) 6))
theorem pS6 (t : Nat) : smN (pF t) 6 = 60 + t * 15 := by
  simp only [smN, pF]
  omega
theorem gB_sum (g t : Nat) : ∀ i, smN (gB g t) i * smN (pF t) 6 ≤ g * smN (pF t) i
  | 0 => by simp [smN]
  | i + 1 => by
    have h := gB_sum g t i
    have h2 : gB g t i * smN (pF t) 6 ≤ g * pF t i := Nat.div_mul_le_self _ _
    show (smN (gB g t) i + gB g t i) * smN (pF t) 6 ≤ g * (smN (pF t) i + pF t i)
    rw [Nat.add_mul, Nat.mul_add]
    omega
theorem smN_mono (f : Nat → Nat) {i j : Nat} (h : i ≤ j) : smN f i ≤ smN f j := by
  induction h with
  | refl => exact Nat.le_refl _
  | step _ ih => exact Nat.le_trans ih (Nat.le_add_right _ _)
theorem gB_le (g t : Nat) {i : Nat} (h : i ≤ 6) : smN (gB g t) i ≤ g := by
  have h1 := gB_sum g t i
  have h2 : g * smN (pF t) i ≤ g * smN (pF t) 6 := Nat.mul_le_mul_left _ (smN_mono _ h)
  have h3 : 0 < smN (pF t) 6 := by rw [pS6]; omega
  exact Nat.le_of_mul_le_mul_right (Nat.le_trans h1 h2) h3
theorem pfx_up0 {f g : Nat → Nat} {v : Nat} : va_up (pfx f g 6) 0 v = fun j => if j < 6 then va_up f 0 v j else g j := by
  funext j
  by_cases h : j = 0
  · subst h; simp [va_up]
  · simp [va_up, pfx, h]
set_option maxHeartbeats 4000000 in
set_option maxRecDepth 100000 in
/-- Cone(fur, grams, taper) -/
theorem c_X1_init (l : Launch) (D : va_G) (cA : Nat → ClassId) (ga : Nat → Nat → Nat) (φ : hpM) (sz : Nat) (h0 k g t : Nat) (f0 : φ h0 = some (.inr (5, [.null, .null, .null, .int (nI 0), .int (nI 0), .null, .int (nI 0)]))) (hk : k < 4) (hg : g ≤ 500) (ht : t ≤ 5) : hM l yX1_init cX1_init 7 none { frames := 9, cells := 2, slots := 12, locals := 260 } [.ref h0, .ref (ga 0 k), .int (nI g), .int (nI t)] D cA ga φ sz (fun v φ' => v = none ∧ ∃ q1 q2 : Nat, φ q1 = none ∧ φ q2 = none ∧ q2 ≠ q1 ∧ φ' = ups (ups (ups φ q1 (.inl (cA 1, 6, .inl (fun j => nI ((pfx (fun b => 1200 - 150 * b) zr 6) j))))) q2 (.inl (cA 1, 6, .inl (fun j => nI ((va_up (pfx (gB g t) zr 6) 0 (gB g t 0 + (g - smN (gB g t) 6))) j))))) h0 (.inr (5, [.ref (ga 0 k), .ref q1, .ref q2, .int (nI 60), .int (nI 0), .null, .int (nI 0)]))) 2 12 := by
  refine hM.of (by decide) (Nat.le_of_ble_eq_true rfl) rfl ?_
  intro p e s m args below meth c ls H locs S hr hlocks hnm hsz hHz hH hK hX hS hA hl
  have hp6 := pS6 t
  refine lv_aload_n (pc := 0) S.1 S.2.1 dX1_init_0 rfl (lv_at hl 0 rfl) ?_
  refine W.objInit S.1 S.2.1 S.2.2.2.1 (S.2.2.2.2 _ tw_619) (S.2.2.2.2 _ tw_36) (S.2.2.2.2 _ tw_37) rfl (by rw [S.2.2.1]; exact hl.1) rfl dX1_init_1 (Nat.le_of_ble_eq_true rfl) (Nat.le_of_ble_eq_true rfl) ?_
  refine W.eq (g2 := F0 m 4 ls []) rfl ?_
  refine lv_aload_n (pc := 4) S.1 S.2.1 dX1_init_4 rfl (lv_at hl 0 rfl) ?_
  refine lv_bipush (pc := 5) (v := nI 6) S.1 S.2.1 dX1_init_5 (by decide) ?_
  refine hv_newa (pc := 7) (atype := .int) (a0 := (6, .inl (fun j => nI (zr j)))) (N' := 6) S tw_89 (ty := .int) rfl hK 1 rfl hH hS hA (fun _ => rfl) (by decide) (by decide) (Nat.le_of_ble_eq_true rfl) (Nat.le_of_ble_eq_true rfl) (Nat.le_of_ble_eq_true rfl) dX1_init_7 (fun q_1 H hq_q_1 hH hS => ?_)
  replace hH := nup (e := .inl (cA 1, 6, .inl (fun j => nI (zr j)))) hH
  obtain ⟨φ_2, hφ_2, fa_φ_2, fr_φ_2, hH⟩ := hH
  have f_3 := fr_φ_2 _ _ (hp_nf f0 hq_q_1) f0
  have hq1 : φ q_1 = none := hq_q_1
  refine hv_putF (pc := 9) (ty := .array (.int)) (C := RX1) (T := TX1) (N := 7) (ref := RX1) S uwX1 tyX1 tyX1_ok nmX1 hK hH hS f_3 rfl 1 (by decide) tw_628 (fun _ h9 => h9) rfl hnm rfl (by decide +kernel) rfl rfl (Nat.le_of_ble_eq_true rfl) dX1_init_9 (fun H locs hH hS => ?_)
  replace hH := nup (e := .inr (5, [.null, .ref q_1, .null, .int (nI 0), .int (nI 0), .null, .int (nI 0)])) hH
  obtain ⟨φ_4, hφ_4, fa_φ_4, fr_φ_4, hH⟩ := hH
  have f_5 := fr_φ_4 _ _ (hp_ne fa_φ_2 f_3 (by intro h; cases h)) fa_φ_2
  refine lv_aload_n (pc := 12) S.1 S.2.1 dX1_init_12 rfl (lv_at hl 0 rfl) ?_
  refine lv_bipush (pc := 13) (v := nI 6) S.1 S.2.1 dX1_init_13 (by decide) ?_
  refine hv_newa (pc := 15) (atype := .int) (a0 := (6, .inl (fun j => nI (zr j)))) (N' := 6) S tw_89 (ty := .int) rfl hK 1 rfl hH hS hA (fun _ => rfl) (by decide) (by decide) (Nat.le_of_ble_eq_true rfl) (Nat.le_of_ble_eq_true rfl) (Nat.le_of_ble_eq_true rfl) dX1_init_15 (fun q_6 H hq_q_6 hH hS => ?_)
  replace hH := nup (e := .inl (cA 1, 6, .inl (fun j => nI (zr j)))) hH
  obtain ⟨φ_7, hφ_7, fa_φ_7, fr_φ_7, hH⟩ := hH
  have f_8 := fr_φ_7 _ _ (hp_nf f_5 hq_q_6) f_5
  have f_9 := fr_φ_7 _ _ (hp_nf fa_φ_4 hq_q_6) fa_φ_4
  have hq2 : φ q_6 = none ∧ q_6 ≠ q_1 := by
    have z := hq_q_6
    rw [hφ_4, hφ_2] at z
    have z2 := ups_none (ups_none z).1
    exact z2
  refine hv_putF (pc := 17) (ty := .array (.int)) (C := RX1) (T := TX1) (N := 7) (ref := RX1) S uwX1 tyX1 tyX1_ok nmX1 hK hH hS f_9 rfl 2 (by decide) tw_629 (fun _ h9 => h9) rfl hnm rfl (by decide +kernel) rfl rfl (Nat.le_of_ble_eq_true rfl) dX1_init_17 (fun H locs hH hS => ?_)
  replace hH := nup (e := .inr (5, [.null, .ref q_1, .ref q_6, .int (nI 0), .int (nI 0), .null, .int (nI 0)])) hH
  obtain ⟨φ_10, hφ_10, fa_φ_10, fr_φ_10, hH⟩ := hH
  have f_11 := fr_φ_10 _ _ (hp_ne f_8 f_9 (by intro h; cases h)) f_8
  have f_12 := fr_φ_10 _ _ (hp_ne fa_φ_7 f_9 (by intro h; cases h)) fa_φ_7
  refine lv_aload_n (pc := 20) S.1 S.2.1 dX1_init_20 rfl (lv_at hl 0 rfl) ?_
  refine lv_bipush (pc := 21) (v := nI 60) S.1 S.2.1 dX1_init_21 (by decide) ?_
  refine hv_put (pc := 23) (ty := .int) (C := RX1) (T := TX1) (N := 7) (ref := RX1) S uwX1 tyX1 tyX1_ok nmX1 hK hH hS fa_φ_10 rfl 3 (by decide) tw_630 (fun _ h9 => h9) rfl (by decide +kernel) rfl rfl (Nat.le_of_ble_eq_true rfl) dX1_init_23 (fun H locs hH hS => ?_)
  replace hH := nup (e := .inr (5, [.null, .ref q_1, .ref q_6, .int (nI 60), .int (nI 0), .null, .int (nI 0)])) hH
  obtain ⟨φ_13, hφ_13, fa_φ_13, fr_φ_13, hH⟩ := hH
  have f_14 := fr_φ_13 _ _ (hp_ne f_11 fa_φ_10 (by intro h; cases h)) f_11
  have f_15 := fr_φ_13 _ _ (hp_ne f_12 fa_φ_10 (by intro h; cases h)) f_12
  refine lv_aload_n (pc := 26) S.1 S.2.1 dX1_init_26 rfl (lv_at hl 0 rfl) ?_
  refine lv_iconst (pc := 27) (v := nI 0) S.1 S.2.1 dX1_init_27 (by decide) ?_
  refine hv_put (pc := 28) (ty := .int) (C := RX1) (T := TX1) (N := 7) (ref := RX1) S uwX1 tyX1 tyX1_ok nmX1 hK hH hS fa_φ_13 rfl 4 (by decide) tw_632 (fun _ h9 => h9) rfl (by decide +kernel) rfl rfl (Nat.le_of_ble_eq_true rfl) dX1_init_28 (fun H locs hH hS => ?_)
  replace hH := nup (e := .inr (5, [.null, .ref q_1, .ref q_6, .int (nI 60), .int (nI 0), .null, .int (nI 0)])) hH
  obtain ⟨φ_16, hφ_16, fa_φ_16, fr_φ_16, hH⟩ := hH
  have f_17 := fr_φ_16 _ _ (hp_ne f_14 fa_φ_13 (by intro h; cases h)) f_14
  have f_18 := fr_φ_16 _ _ (hp_ne f_15 fa_φ_13 (by intro h; cases h)) f_15
  refine lv_aload_n (pc := 31) S.1 S.2.1 dX1_init_31 rfl (lv_at hl 0 rfl) ?_
  refine lv_null (pc := 32) S.1 S.2.1 dX1_init_32 ?_
  refine hv_put (pc := 33) (ty := .object "HatbandYard$Block") (C := RX1) (T := TX1) (N := 7) (ref := RX1) S uwX1 tyX1 tyX1_ok nmX1 hK hH hS fa_φ_16 rfl 5 (by decide) tw_634 (fun _ h9 => h9) rfl (by decide +kernel) rfl rfl (Nat.le_of_ble_eq_true rfl) dX1_init_33 (fun H locs hH hS => ?_)
  replace hH := nup (e := .inr (5, [.null, .ref q_1, .ref q_6, .int (nI 60), .int (nI 0), .null, .int (nI 0)])) hH
  obtain ⟨φ_19, hφ_19, fa_φ_19, fr_φ_19, hH⟩ := hH
  have f_20 := fr_φ_19 _ _ (hp_ne f_17 fa_φ_16 (by intro h; cases h)) f_17
  have f_21 := fr_φ_19 _ _ (hp_ne f_18 fa_φ_16 (by intro h; cases h)) f_18
  refine lv_aload_n (pc := 36) S.1 S.2.1 dX1_init_36 rfl (lv_at hl 0 rfl) ?_
  refine lv_iconst (pc := 37) (v := nI 0) S.1 S.2.1 dX1_init_37 (by decide) ?_
  refine hv_put (pc := 38) (ty := .boolean) (C := RX1) (T := TX1) (N := 7) (ref := RX1) S uwX1 tyX1 tyX1_ok nmX1 hK hH hS fa_φ_19 rfl 6 (by decide) tw_636 (fun _ h9 => h9) rfl (by decide +kernel) rfl rfl (Nat.le_of_ble_eq_true rfl) dX1_init_38 (fun H locs hH hS => ?_)
  replace hH := nup (e := .inr (5, [.null, .ref q_1, .ref q_6, .int (nI 60), .int (nI 0), .null, .int (nI 0)])) hH
  obtain ⟨φ_22, hφ_22, fa_φ_22, fr_φ_22, hH⟩ := hH
  have f_23 := fr_φ_22 _ _ (hp_ne f_20 fa_φ_19 (by intro h; cases h)) f_20
  have f_24 := fr_φ_22 _ _ (hp_ne f_21 fa_φ_19 (by intro h; cases h)) f_21
  refine lv_aload_n (pc := 41) S.1 S.2.1 dX1_init_41 rfl (lv_at hl 0 rfl) ?_
  refine lv_aload_n (pc := 42) S.1 S.2.1 dX1_init_42 rfl (lv_at hl 1 rfl) ?_
  refine hv_putF (pc := 43) (ty := .object "HatbandYard$Fur") (C := RX1) (T := TX1) (N := 7) (ref := RX1) S uwX1 tyX1 tyX1_ok nmX1 hK hH hS fa_φ_22 rfl 0 (by decide) tw_626 (fun _ h9 => h9) rfl hnm rfl (by decide +kernel) rfl rfl (Nat.le_of_ble_eq_true rfl) dX1_init_43 (fun H locs hH hS => ?_)
  replace hH := nup (e := .inr (5, [.ref (ga 0 k), .ref q_1, .ref q_6, .int (nI 60), .int (nI 0), .null, .int (nI 0)])) hH
  obtain ⟨φ_25, hφ_25, fa_φ_25, fr_φ_25, hH⟩ := hH
  have f_26 := fr_φ_25 _ _ (hp_ne f_23 fa_φ_22 (by intro h; cases h)) f_23
  have f_27 := fr_φ_25 _ _ (hp_ne f_24 fa_φ_22 (by intro h; cases h)) f_24
  refine lv_iconst (pc := 46) (v := nI 0) S.1 S.2.1 dX1_init_46 (by decide) ?_
  refine lv_istore (pc := 47) (lv' := [(4, .int (nI 0)), (0, .ref h0), (1, .ref (ga 0 k)), (2, .int (nI g)), (3, .int (nI t))]) S.1 S.2.1 dX1_init_47 hl (by decide) rfl (fun ls hl => ?_)
  refine lv_iconst (pc := 49) (v := nI 0) S.1 S.2.1 dX1_init_49 (by decide) ?_
  refine lv_istore (pc := 50) (lv' := [(5, .int (nI 0)), (4, .int (nI 0)), (0, .ref h0), (1, .ref (ga 0 k)), (2, .int (nI g)), (3, .int (nI t))]) S.1 S.2.1 dX1_init_50 hl (by decide) rfl (fun ls hl => ?_)
  have hg : ∃ (n i : Nat), (i + n = 6) ∧ lv_has ls 7 [(0, .ref h0), (1, .ref (ga 0 k)), (2, .int (nI g)), (3, .int (nI t)), (4, .int (nI (smN (pF t) i))), (5, .int (nI i))] := ⟨6, 0, by omega, lv_sub hl [2, 3, 4, 5, 1, 0] rfl⟩
  clear hl
  try clear hHz
  obtain ⟨n, i, hi, hl⟩ := hg
  induction n generalizing ls H locs i with
  | succ n ih =>
    have hp1 : pF t i ≤ 10 + 5 * 6 := Nat.add_le_add_left (Nat.mul_le_mul ht (by omega)) 10
    refine lv_iload (pc := 52) S.1 S.2.1 dX1_init_52 (lv_at hl 5 rfl) ?_
    refine lv_bipush (pc := 54) (v := nI 6) S.1 S.2.1 dX1_init_54 (by decide) ?_
    refine hv_icmp_ge (pc := 56) (tgt := 76) (a := i) (b := 6) S.1 S.2.1 (by omega) (by omega) dX1_init_56 (by decide) (fun c_28 => ?_) (fun c_28 => ?_)
    · skip
      exact absurd c_28 (by omega)
    · skip
      refine lv_iload (pc := 59) S.1 S.2.1 dX1_init_59 (lv_at hl 4 rfl) ?_
      refine lv_iload (pc := 61) S.1 S.2.1 dX1_init_61 (lv_at hl 5 rfl) ?_
      refine lv_iload_n (pc := 63) S.1 S.2.1 dX1_init_63 rfl (lv_at hl 3 rfl) ?_
      refine hv_call (pc := 64) (va_runS (As := [.int (nI i), .int (nI t)]) (rest := [.int (nI (smN (pF t) i))]) S (c_X1_partOf l D cA ga φ_25 H.size i t) (va_cwS 2 S.2.2.2.2 (gS tw_620 tw_621 tw_24 tw_622) rfl rfl rfl (by decide +kernel) ⟨Nat.le_of_ble_eq_true rfl, Nat.le_of_ble_eq_true rfl⟩) (pre0_S hH hK hX hS hA) rfl rfl hl.1 rfl (lv_room (Nat.le_of_ble_eq_true rfl)) dX1_init_64 ⟨Nat.le_of_ble_eq_true rfl, Nat.le_of_ble_eq_true rfl⟩) hS (af_le hH hS hA) (fun v_29 φ_30 H locs hw_v_29 hH hS => ?_)
      obtain ⟨rfl, hqv_29⟩ := hw_v_29
      rw [hqv_29] at hH
      refine lv_iadd (pc := 67) S.1 S.2.1 dX1_init_67 ?_
      refine hv_ti (y := nI ((smN (pF t) i) + (pF t i))) (nI_add _ _) ?_
      refine lv_istore (pc := 68) (lv' := [(4, .int (nI ((smN (pF t) i) + (pF t i)))), (0, .ref h0), (1, .ref (ga 0 k)), (2, .int (nI g)), (3, .int (nI t)), (5, .int (nI i))]) S.1 S.2.1 dX1_init_68 hl (by decide) rfl (fun ls hl => ?_)
      refine lv_iinc (pc := 70) (v := nI (i + 1)) (lv' := [(5, .int (nI (i + 1))), (4, .int (nI ((smN (pF t) i) + (pF t i)))), (0, .ref h0), (1, .ref (ga 0 k)), (2, .int (nI g)), (3, .int (nI t))]) S.1 S.2.1 dX1_init_70 hl (k := 5) rfl (by first | rfl | exact nI_add _ _) (by decide) rfl (fun ls hl => ?_)
      refine lv_goto (pc := 73) (tgt := 52) S.1 S.2.1 dX1_init_73 (by decide) ?_
      have hi2 : (i + 1) + n = 6 := by omega
      have hl2 : lv_has ls 7 [(0, .ref h0), (1, .ref (ga 0 k)), (2, .int (nI g)), (3, .int (nI t)), (4, .int (nI (smN (pF t) (i + 1)))), (5, .int (nI (i + 1)))] := lv_sub hl [2, 3, 4, 5, 1, 0] rfl
      apply ih (i := i + 1) <;> assumption
  | zero =>
    obtain rfl : i = 6 := by omega
    refine lv_iload (pc := 52) S.1 S.2.1 dX1_init_52 (lv_at hl 5 rfl) ?_
    refine lv_bipush (pc := 54) (v := nI 6) S.1 S.2.1 dX1_init_54 (by decide) ?_
    refine hv_icmp_ge (pc := 56) (tgt := 76) (a := 6) (b := 6) S.1 S.2.1 (by omega) (by omega) dX1_init_56 (by decide) (fun c_31 => ?_) (fun c_31 => ?_)
    · skip
      refine lv_iload_n (pc := 76) S.1 S.2.1 dX1_init_76 rfl (lv_at hl 2 rfl) ?_
      refine lv_istore (pc := 77) (lv' := [(5, .int (nI g)), (0, .ref h0), (1, .ref (ga 0 k)), (2, .int (nI g)), (3, .int (nI t)), (4, .int (nI (smN (pF t) 6)))]) S.1 S.2.1 dX1_init_77 hl (by decide) rfl (fun ls hl => ?_)
      refine lv_iconst (pc := 79) (v := nI 0) S.1 S.2.1 dX1_init_79 (by decide) ?_
      refine lv_istore (pc := 80) (lv' := [(6, .int (nI 0)), (5, .int (nI g)), (0, .ref h0), (1, .ref (ga 0 k)), (2, .int (nI g)), (3, .int (nI t)), (4, .int (nI (smN (pF t) 6)))]) S.1 S.2.1 dX1_init_80 hl (by decide) rfl (fun ls hl => ?_)
      have hg : ∃ (n i : Nat) (φk_32 : hpM), ((i + n = 6) ∧ φk_32 = ups (ups φ_25 q_1 (.inl (cA 1, 6, .inl (fun j => nI ((pfx (fun b => 1200 - 150 * b) zr i) j))))) q_6 (.inl (cA 1, 6, .inl (fun j => nI ((pfx (gB g t) zr i) j)))) ∧ hp D (Af φ sz) φk_32 H) ∧ lv_has ls 7 [(0, .ref h0), (1, .ref (ga 0 k)), (2, .int (nI g)), (3, .int (nI t)), (4, .int (nI (smN (pF t) 6))), (5, .int (nI (g - smN (gB g t) i))), (6, .int (nI i))] := ⟨6, 0, φ_25, ⟨rfl, by rw [pfx_0, pfx_0, ← ups_id f_26]; exact ups_id f_27, hH⟩, lv_sub hl [2, 3, 4, 5, 6, 1, 0] rfl⟩
      clear hl hH
      try clear hHz
      obtain ⟨n, i, φk_32, hi, hl⟩ := hg
      induction n generalizing ls H locs i φk_32 with
      | succ n ih =>
        obtain ⟨hi, hφk_32, hH⟩ := hi
        have f_33 : φk_32 h0 = some (.inr (5, [.ref (ga 0 k), .ref q_1, .ref q_6, .int (nI 60), .int (nI 0), .null, .int (nI 0)])) := by rw [hφk_32]; exact ups_n (fun h => by rw [h, f_27] at fa_φ_25; cases fa_φ_25) (ups_n (fun h => by rw [h, f_26] at fa_φ_25; cases fa_φ_25) fa_φ_25)
        have f_34 : φk_32 q_1 = some (.inl (cA 1, 6, .inl (fun j => nI ((pfx (fun b => 1200 - 150 * b) zr i) j)))) := by rw [hφk_32]; exact ups_n (fun h => hq2.2 h.symm) (ups_s _ _ _)
        have f_35 : φk_32 q_6 = some (.inl (cA 1, 6, .inl (fun j => nI ((pfx (gB g t) zr i) j)))) := by rw [hφk_32]; exact ups_s _ _ _
        have n_q_6_q_1 : q_6 ≠ q_1 := hq2.2
        have n_q_1_q_6 : q_1 ≠ q_6 := fun h => hq2.2 h.symm
        have hp1 : pF t i ≤ 10 + 5 * 6 := Nat.add_le_add_left (Nat.mul_le_mul ht (by omega)) 10
        have hgp : g * pF t i ≤ 500 * 40 := Nat.mul_le_mul hg (by omega)
        have hsi := gB_le g t (i := i + 1) (by omega)
        have hs2 : smN (gB g t) (i + 1) = smN (gB g t) i + gB g t i := rfl
        have hgb : g * pF t i / smN (pF t) 6 = gB g t i := rfl
        refine lv_iload (pc := 82) S.1 S.2.1 dX1_init_82 (lv_at hl 6 rfl) ?_
        refine lv_bipush (pc := 84) (v := nI 6) S.1 S.2.1 dX1_init_84 (by decide) ?_
        refine hv_icmp_ge (pc := 86) (tgt := 146) (a := i) (b := 6) S.1 S.2.1 (by omega) (by omega) dX1_init_86 (by decide) (fun c_36 => ?_) (fun c_36 => ?_)
        · skip
          exact absurd c_36 (by omega)
        · skip
          refine lv_aload_n (pc := 89) S.1 S.2.1 dX1_init_89 rfl (lv_at hl 0 rfl) ?_
          refine hv_get (pc := 90) (C := RX1) (T := TX1) (N := 7) (ref := RX1) S uwX1 hK hH f_33 rfl 1 (by decide) tw_628 (fun _ h9 => h9) rfl dX1_init_90 ?_
          refine lv_iload (pc := 93) S.1 S.2.1 dX1_init_93 (lv_at hl 6 rfl) ?_
          refine lv_iload (pc := 95) S.1 S.2.1 dX1_init_95 (lv_at hl 6 rfl) ?_
          refine hv_call (pc := 97) (va_runS (As := [.int (nI i)]) (rest := [.int (nI i), .ref q_1]) S (c_X1_widthFormed l D cA ga φk_32 H.size i (by omega)) (va_cwS 1 S.2.2.2.2 (gS tw_623 tw_624 tw_24 tw_625) rfl rfl rfl (by decide +kernel) ⟨Nat.le_of_ble_eq_true rfl, Nat.le_of_ble_eq_true rfl⟩) (pre0_S hH hK hX hS hA) rfl rfl hl.1 rfl (lv_room (Nat.le_of_ble_eq_true rfl)) dX1_init_97 ⟨Nat.le_of_ble_eq_true rfl, Nat.le_of_ble_eq_true rfl⟩) hS (af_le hH hS hA) (fun v_37 φ_38 H locs hw_v_37 hH hS => ?_)
          obtain ⟨rfl, hqv_37⟩ := hw_v_37
          rw [hqv_37] at hH
          refine hv_iast (pc := 100) S hK hH hS 1 f_34 rfl (vp_in_nI (by omega) (by omega)) dX1_init_100 (fun H locs hH hS => ?_)
          rw [hv_upd (by omega), show va_up (pfx (fun b => 1200 - 150 * b) zr i) i (1200 - 150 * i) = pfx (fun b => 1200 - 150 * b) zr (i + 1) from pfx_up (fun b => 1200 - 150 * b) zr i] at hH
          replace hH := nup (e := .inl (cA 1, 6, .inl (fun j => nI ((pfx (fun b => 1200 - 150 * b) zr (i + 1)) j)))) hH
          obtain ⟨φ_39, hφ_39, fa_φ_39, fr_φ_39, hH⟩ := hH
          have f_40 := fr_φ_39 _ _ (hp_ne f_33 f_34 (by intro h; cases h)) f_33
          have f_41 := fr_φ_39 _ _ n_q_6_q_1 f_35
          refine lv_aload_n (pc := 101) S.1 S.2.1 dX1_init_101 rfl (lv_at hl 0 rfl) ?_
          refine hv_get (pc := 102) (C := RX1) (T := TX1) (N := 7) (ref := RX1) S uwX1 hK hH f_40 rfl 2 (by decide) tw_629 (fun _ h9 => h9) rfl dX1_init_102 ?_
          refine lv_iload (pc := 105) S.1 S.2.1 dX1_init_105 (lv_at hl 6 rfl) ?_
          refine lv_iload (pc := 107) S.1 S.2.1 dX1_init_107 (lv_at hl 4 rfl) ?_
          refine hv_if_gt (pc := 109) (tgt := 116) (a := smN (pF t) 6) S.1 S.2.1 (by omega) dX1_init_109 (by decide) (fun c_42 => ?_) (fun c_42 => ?_)
          · skip
            refine lv_iload_n (pc := 116) S.1 S.2.1 dX1_init_116 rfl (lv_at hl 2 rfl) ?_
            refine lv_iload (pc := 117) S.1 S.2.1 dX1_init_117 (lv_at hl 6 rfl) ?_
            refine lv_iload_n (pc := 119) S.1 S.2.1 dX1_init_119 rfl (lv_at hl 3 rfl) ?_
            refine hv_call (pc := 120) (va_runS (As := [.int (nI i), .int (nI t)]) (rest := [.int (nI g), .int (nI i), .ref q_6]) S (c_X1_partOf l D cA ga φ_39 H.size i t) (va_cwS 2 S.2.2.2.2 (gS tw_620 tw_621 tw_24 tw_622) rfl rfl rfl (by decide +kernel) ⟨Nat.le_of_ble_eq_true rfl, Nat.le_of_ble_eq_true rfl⟩) (pre0_S hH hK hX hS hA) rfl rfl hl.1 rfl (lv_room (Nat.le_of_ble_eq_true rfl)) dX1_init_120 ⟨Nat.le_of_ble_eq_true rfl, Nat.le_of_ble_eq_true rfl⟩) hS (af_le hH hS hA) (fun v_43 φ_44 H locs hw_v_43 hH hS => ?_)
            obtain ⟨rfl, hqv_43⟩ := hw_v_43
            rw [hqv_43] at hH
            have hne : ¬ nI (smN (pF t) 6) = 0 := nI_ne0 (by omega) (by omega)
            refine lv_imul (pc := 123) S.1 S.2.1 dX1_init_123 ?_
            refine hv_ti (y := nI (g * (pF t i))) (pk_mul _ _) ?_
            refine lv_iload (pc := 124) S.1 S.2.1 dX1_init_124 (lv_at hl 4 rfl) ?_
            refine lv_idiv (pc := 126) S.1 S.2.1 dX1_init_126 (by assumption) ?_
            refine hv_ti (y := nI (gB g t i)) (pk_div (by omega) (by omega) (by omega)) ?_
            refine hv_iast (pc := 127) S hK hH hS 1 f_41 rfl (vp_in_nI (by omega) (by omega)) dX1_init_127 (fun H locs hH hS => ?_)
            rw [hv_upd (by omega), pfx_up] at hH
            replace hH := nup (e := .inl (cA 1, 6, .inl (fun j => nI ((pfx (gB g t) zr (i + 1)) j)))) hH
            obtain ⟨φ_45, hφ_45, fa_φ_45, fr_φ_45, hH⟩ := hH
            have f_46 := fr_φ_45 _ _ (hp_ne f_40 f_41 (by intro h; cases h)) f_40
            have f_47 := fr_φ_45 _ _ n_q_1_q_6 fa_φ_39
            refine lv_iload (pc := 128) S.1 S.2.1 dX1_init_128 (lv_at hl 5 rfl) ?_
            refine lv_aload_n (pc := 130) S.1 S.2.1 dX1_init_130 rfl (lv_at hl 0 rfl) ?_
            refine hv_get (pc := 131) (C := RX1) (T := TX1) (N := 7) (ref := RX1) S uwX1 hK hH f_46 rfl 2 (by decide) tw_629 (fun _ h9 => h9) rfl dX1_init_131 ?_
            refine lv_iload (pc := 134) S.1 S.2.1 dX1_init_134 (lv_at hl 6 rfl) ?_
            refine hv_iald (pc := 136) S hK hH 1 fa_φ_45 rfl (vp_in_nI (by omega) (by omega)) dX1_init_136 ?_
            refine hv_ti (y := nI ((pfx (gB g t) zr (i + 1)) i)) (hv_ld (by omega)) ?_
            refine hv_ti (y := nI (gB g t i)) (by rw [pfx_lt (by omega)]) ?_
            refine lv_isub (pc := 137) S.1 S.2.1 dX1_init_137 ?_
            refine hv_ti (y := nI (g - smN (gB g t) (i + 1))) (by rw [pk_sub (by omega)]; congr 1; omega) ?_
            refine lv_istore (pc := 138) (lv' := [(5, .int (nI (g - smN (gB g t) (i + 1)))), (0, .ref h0), (1, .ref (ga 0 k)), (2, .int (nI g)), (3, .int (nI t)), (4, .int (nI (smN (pF t) 6))), (6, .int (nI i))]) S.1 S.2.1 dX1_init_138 hl (by decide) rfl (fun ls hl => ?_)
            refine lv_iinc (pc := 140) (v := nI (i + 1)) (lv' := [(6, .int (nI (i + 1))), (5, .int (nI (g - smN (gB g t) (i + 1)))), (0, .ref h0), (1, .ref (ga 0 k)), (2, .int (nI g)), (3, .int (nI t)), (4, .int (nI (smN (pF t) 6)))]) S.1 S.2.1 dX1_init_140 hl (k := 6) rfl (by first | rfl | exact nI_add _ _) (by decide) rfl (fun ls hl => ?_)
            refine lv_goto (pc := 143) (tgt := 82) S.1 S.2.1 dX1_init_143 (by decide) ?_
            have hi2 : ((i + 1) + n = 6) ∧ φ_45 = ups (ups φ_25 q_1 (.inl (cA 1, 6, .inl (fun j => nI ((pfx (fun b => 1200 - 150 * b) zr (i + 1)) j))))) q_6 (.inl (cA 1, 6, .inl (fun j => nI ((pfx (gB g t) zr (i + 1)) j)))) ∧ hp D (Af φ sz) φ_45 H := ⟨by omega, by rw [hφ_45, hφ_39, hφk_32]; funext x; by_cases e2 : x = q_6 <;> by_cases e1 : x = q_1 <;> simp [ups, e1, e2], hH⟩
            have hl2 : lv_has ls 7 [(0, .ref h0), (1, .ref (ga 0 k)), (2, .int (nI g)), (3, .int (nI t)), (4, .int (nI (smN (pF t) 6))), (5, .int (nI (g - smN (gB g t) (i + 1)))), (6, .int (nI (i + 1)))] := lv_sub hl [2, 3, 4, 5, 6, 1, 0] rfl
            apply ih (i := i + 1) (φk_32 := φ_45) <;> assumption
          · skip
            exact absurd c_42 (by omega)
      | zero =>
        obtain ⟨hi, hφk_32, hH⟩ := hi
        have f_48 : φk_32 h0 = some (.inr (5, [.ref (ga 0 k), .ref q_1, .ref q_6, .int (nI 60), .int (nI 0), .null, .int (nI 0)])) := by rw [hφk_32]; exact ups_n (fun h => by rw [h, f_27] at fa_φ_25; cases fa_φ_25) (ups_n (fun h => by rw [h, f_26] at fa_φ_25; cases fa_φ_25) fa_φ_25)
        have f_49 : φk_32 q_1 = some (.inl (cA 1, 6, .inl (fun j => nI ((pfx (fun b => 1200 - 150 * b) zr i) j)))) := by rw [hφk_32]; exact ups_n (fun h => hq2.2 h.symm) (ups_s _ _ _)
        have f_50 : φk_32 q_6 = some (.inl (cA 1, 6, .inl (fun j => nI ((pfx (gB g t) zr i) j)))) := by rw [hφk_32]; exact ups_s _ _ _
        obtain rfl : i = 6 := by omega
        have n_q_6_q_1 : q_6 ≠ q_1 := hq2.2
        have n_q_1_q_6 : q_1 ≠ q_6 := fun h => hq2.2 h.symm
        have hs6 := gB_le g t (i := 6) (Nat.le_refl _)
        have hs6 := gB_le g t (i := 6) (Nat.le_refl _)
        refine lv_iload (pc := 82) S.1 S.2.1 dX1_init_82 (lv_at hl 6 rfl) ?_
        refine lv_bipush (pc := 84) (v := nI 6) S.1 S.2.1 dX1_init_84 (by decide) ?_
        refine hv_icmp_ge (pc := 86) (tgt := 146) (a := 6) (b := 6) S.1 S.2.1 (by omega) (by omega) dX1_init_86 (by decide) (fun c_51 => ?_) (fun c_51 => ?_)
        · skip
          refine lv_aload_n (pc := 146) S.1 S.2.1 dX1_init_146 rfl (lv_at hl 0 rfl) ?_
          refine hv_get (pc := 147) (C := RX1) (T := TX1) (N := 7) (ref := RX1) S uwX1 hK hH f_48 rfl 2 (by decide) tw_629 (fun _ h9 => h9) rfl dX1_init_147 ?_
          refine lv_iconst (pc := 150) (v := nI 0) S.1 S.2.1 dX1_init_150 (by decide) ?_
          refine lv_dup2_11 (pc := 151) S.1 S.2.1 dX1_init_151 rfl rfl ?_
          refine hv_iald (pc := 152) S hK hH 1 f_50 rfl (vp_in_nI (by omega) (by omega)) dX1_init_152 ?_
          refine hv_ti (y := nI ((pfx (gB g t) zr 6) 0)) (hv_ld (by omega)) ?_
          refine lv_iload (pc := 153) S.1 S.2.1 dX1_init_153 (lv_at hl 5 rfl) ?_
          refine lv_iadd (pc := 155) S.1 S.2.1 dX1_init_155 ?_
          refine hv_ti (y := nI (((pfx (gB g t) zr 6) 0) + (g - smN (gB g t) 6))) (nI_add _ _) ?_
          refine hv_ti (y := nI (gB g t 0 + (g - smN (gB g t) 6))) (by rw [pfx_lt (by omega)]) ?_
          refine hv_iast (pc := 156) S hK hH hS 1 f_50 rfl (vp_in_nI (by omega) (by omega)) dX1_init_156 (fun H locs hH hS => ?_)
          rw [hv_upd (by omega)] at hH
          replace hH := nup (e := .inl (cA 1, 6, .inl (fun j => nI ((va_up (pfx (gB g t) zr 6) 0 (gB g t 0 + (g - smN (gB g t) 6))) j)))) hH
          obtain ⟨φ_52, hφ_52, fa_φ_52, fr_φ_52, hH⟩ := hH
          have f_53 := fr_φ_52 _ _ (hp_ne f_48 f_50 (by intro h; cases h)) f_48
          have f_54 := fr_φ_52 _ _ n_q_1_q_6 f_49
          exact hv_vret (pc := 157) S hr hlocks hH hS (⟨rfl, q_1, q_6, hq1, hq2.1, hq2.2, by rw [hφ_52, hφk_32, hφ_25, hφ_22, hφ_19, hφ_16, hφ_13, hφ_10, hφ_7, hφ_4, hφ_2]; have n01 := hp_nf f0 hq1; have n02 := hp_nf f0 hq2.1; funext x; by_cases e0 : x = h0 <;> by_cases e2 : x = q_6 <;> by_cases e1 : x = q_1 <;> simp_all [ups]⟩) (Nat.le_of_ble_eq_true rfl) (Nat.le_of_ble_eq_true rfl) dX1_init_157
        · skip
          exact absurd c_51 (by omega)
    · skip
      exact absurd c_31 (by omega)
end
