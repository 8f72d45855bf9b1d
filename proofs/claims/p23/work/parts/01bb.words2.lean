set_option maxRecDepth 100000 in
theorem tw_258 : (Jvm.Cond.code ({ cls := "HatbandYardLaw", name := "dice", desc := "([II)I" } : Jvm.MethodName) method_2_code (2 : Nat) (Option.some Jvm.ClassFile.FieldType.int)) ∈ Wc := Wc_t 258 (by rfl) (by decide +kernel)
set_option maxRecDepth 100000 in
theorem tw_263 : (Jvm.Cond.codeWith ({ cls := "HatbandYardLaw", name := "act", desc := "(LHatbandYard;IIII)I" } : Jvm.MethodName) method_3_code (6 : Nat) (Option.some Jvm.ClassFile.FieldType.int) [((0 : Nat), (302 : Nat), (303 : Nat), (78 : Nat)), ((0 : Nat), (302 : Nat), (308 : Nat), (81 : Nat)), ((0 : Nat), (302 : Nat), (313 : Nat), (84 : Nat))]) ∈ Wc := Wc_t 263 (by rfl) (by decide +kernel)
set_option maxRecDepth 100000 in
theorem tw_890 : (Jvm.Cond.code ({ cls := "HatbandYardLaw", name := "isRefused", desc := "(LHatbandYard;[I[II)Z" } : Jvm.MethodName) method_5_code (16 : Nat) (Option.some Jvm.ClassFile.FieldType.boolean)) ∈ Wc := Wc_t 890 (by rfl) (by decide +kernel)
set_option maxRecDepth 100000 in
theorem tw_893 : (Jvm.Cond.code ({ cls := "HatbandYardLaw", name := "all", desc := "(LHatbandYard;[I)J" } : Jvm.MethodName) method_4_code (5 : Nat) (Option.some Jvm.ClassFile.FieldType.long)) ∈ Wc := Wc_t 893 (by rfl) (by decide +kernel)
set_option maxRecDepth 100000 in
theorem tw_898 : (Jvm.Cond.code ({ cls := "HatbandYardLaw", name := "areSound", desc := "(LHatbandYard;[I[I[I[II)Z" } : Jvm.MethodName) method_6_code (16 : Nat) (Option.some Jvm.ClassFile.FieldType.boolean)) ∈ Wc := Wc_t 898 (by rfl) (by decide +kernel)
set_option maxRecDepth 100000 in
theorem tw_902 : (Jvm.Cond.code ({ cls := "HatbandYardLaw", name := "types", desc := "(LHatbandYard;[IJ)Z" } : Jvm.MethodName) method_7_code (7 : Nat) (Option.some Jvm.ClassFile.FieldType.boolean)) ∈ Wc := Wc_t 902 (by rfl) (by decide +kernel)
set_option maxRecDepth 100000 in
theorem tw_906 : (Jvm.Cond.code ({ cls := "HatbandYardLaw", name := "isCounted", desc := "(LHatbandYard;[II)Z" } : Jvm.MethodName) method_8_code (14 : Nat) (Option.some Jvm.ClassFile.FieldType.boolean)) ∈ Wc := Wc_t 906 (by rfl) (by decide +kernel)
