/-! The JDK's methods: names, rows, links (printed by wip/gen/jdk.py). -/
def LSU (own : String) (idx n : Nat) (mi2 : MI) : Prop := hd0 mi2 n ∧ mi2.2.2.2.2 = [] ∧ mi2.1.name ≠ "<init>" ∧ Cond.methodLink own idx mi2.1 ∈ lw_good ∧ Cond.sameMethod mi2.1.cls mi2.1.cls mi2.1.name mi2.1.desc ∈ lw_good ∧ Cond.superclass own mi2.1.cls ∈ lw_good ∧ Cond.instanceMethod mi2.1 ∈ lw_good ∧ Cond.initialized mi2.1.cls ∈ lw_good
def LO (own : String) (idx ci n : Nat) (mi2 : MI) : Prop := hd0 mi2 n ∧ mi2.2.2.2.2 = [] ∧ ∃ (r9 : vw_C) (x : MethodName) (owner : String) (b0 : ByteArray) (m0 : Nat) (r0 : Option FieldType), vwCl[ci]? = some r9 ∧ Cond.methodLink own idx x ∈ lw_good ∧ Cond.sameMethod x.cls owner x.name x.desc ∈ lw_good ∧ Cond.instanceMethod ⟨owner, x.name, x.desc⟩ ∈ lw_good ∧ Cond.selects r9.1 x mi2.1 ∈ lw_good ∧ Cond.instanceMethod mi2.1 ∈ lw_good ∧ Cond.initialized mi2.1.cls ∈ lw_good ∧ Cond.code ⟨owner, x.name, x.desc⟩ b0 m0 r0 ∈ lw_good ∧ owner ≠ "java/lang/invoke/MethodHandle" ∧ owner ≠ "java/lang/invoke/VarHandle" ∧ (parseMethodDescriptor x.desc).map (fun d => d.parameters.length) = some n
theorem wx_4 : rSel.get ⟨4, by decide⟩ ∈ lw_good := lw_g (List.mem_append_right _ (List.get_mem _ _)) (by decide +kernel)
theorem wx_5 : rSel.get ⟨5, by decide⟩ ∈ lw_good := lw_g (List.mem_append_right _ (List.get_mem _ _)) (by decide +kernel)
theorem wg_1044 : (Jvm.Cond.classLink "ProphecyShop" (327 : Nat) "java/lang/StringBuilder") ∈ lw_good := lw_g (List.mem_append_left _ (List.mem_append_right _ (List.mem_of_getElem? (i := 1044) (by decide +kernel)))) (by decide +kernel)
theorem wg_1045 : (Jvm.Cond.instantiable "java/lang/StringBuilder" (4 : Nat)) ∈ lw_good := lw_g (List.mem_append_left _ (List.mem_append_right _ (List.mem_of_getElem? (i := 1045) (by decide +kernel)))) (by decide +kernel)
theorem wg_1046 : (Jvm.Cond.methodLink "ProphecyShop" (329 : Nat) ({ cls := "java/lang/StringBuilder", name := "<init>", desc := "()V" } : Jvm.MethodName)) ∈ lw_good := lw_g (List.mem_append_left _ (List.mem_append_right _ (List.mem_of_getElem? (i := 1046) (by decide +kernel)))) (by decide +kernel)
theorem wg_1047 : (Jvm.Cond.instanceMethod ({ cls := "java/lang/StringBuilder", name := "<init>", desc := "()V" } : Jvm.MethodName)) ∈ lw_good := lw_g (List.mem_append_left _ (List.mem_append_right _ (List.mem_of_getElem? (i := 1047) (by decide +kernel)))) (by decide +kernel)
theorem wg_1048 : (Jvm.Cond.code ({ cls := "java/lang/StringBuilder", name := "<init>", desc := "()V" } : Jvm.MethodName) prog_30_method_1_code (1 : Nat) (Option.none : Option Jvm.ClassFile.FieldType)) ∈ lw_good := lw_g (List.mem_append_left _ (List.mem_append_right _ (List.mem_of_getElem? (i := 1048) (by decide +kernel)))) (by decide +kernel)
theorem wg_1049 : (Jvm.Cond.methodLink "java/lang/StringBuilder" (1 : Nat) ({ cls := "java/lang/AbstractStringBuilder", name := "<init>", desc := "(I)V" } : Jvm.MethodName)) ∈ lw_good := lw_g (List.mem_append_left _ (List.mem_append_right _ (List.mem_of_getElem? (i := 1049) (by decide +kernel)))) (by decide +kernel)
theorem wg_1050 : (Jvm.Cond.instanceMethod ({ cls := "java/lang/AbstractStringBuilder", name := "<init>", desc := "(I)V" } : Jvm.MethodName)) ∈ lw_good := lw_g (List.mem_append_left _ (List.mem_append_right _ (List.mem_of_getElem? (i := 1050) (by decide +kernel)))) (by decide +kernel)
theorem wg_1051 : (Jvm.Cond.code ({ cls := "java/lang/AbstractStringBuilder", name := "<init>", desc := "(I)V" } : Jvm.MethodName) prog_16_method_2_code (2 : Nat) (Option.none : Option Jvm.ClassFile.FieldType)) ∈ lw_good := lw_g (List.mem_append_left _ (List.mem_append_right _ (List.mem_of_getElem? (i := 1051) (by decide +kernel)))) (by decide +kernel)
theorem wg_1052 : (Jvm.Cond.methodLink "java/lang/AbstractStringBuilder" (3 : Nat) ({ cls := "java/lang/Object", name := "<init>", desc := "()V" } : Jvm.MethodName)) ∈ lw_good := lw_g (List.mem_append_left _ (List.mem_append_right _ (List.mem_of_getElem? (i := 1052) (by decide +kernel)))) (by decide +kernel)
theorem wg_1053 : (Jvm.Cond.fieldLink "java/lang/AbstractStringBuilder" (18 : Nat) "java/lang/String" "COMPACT_STRINGS" "Z") ∈ lw_good := lw_g (List.mem_append_left _ (List.mem_append_right _ (List.mem_of_getElem? (i := 1053) (by decide +kernel)))) (by decide +kernel)
theorem wg_1061 : (Jvm.Cond.fieldLink "java/lang/AbstractStringBuilder" (15 : Nat) "java/lang/AbstractStringBuilder" "value" "[B") ∈ lw_good := lw_g (List.mem_append_left _ (List.mem_append_right _ (List.mem_of_getElem? (i := 1061) (by decide +kernel)))) (by decide +kernel)
theorem wg_1062 : (Jvm.Cond.fieldLink "java/lang/AbstractStringBuilder" (22 : Nat) "java/lang/AbstractStringBuilder" "coder" "B") ∈ lw_good := lw_g (List.mem_append_left _ (List.mem_append_right _ (List.mem_of_getElem? (i := 1062) (by decide +kernel)))) (by decide +kernel)
theorem wg_1063 : (Jvm.Cond.fieldLink "java/lang/String" (1048 : Nat) "java/lang/AbstractStringBuilder" "maybeLatin1" "Z") ∈ lw_good := lw_g (List.mem_append_left _ (List.mem_append_right _ (List.mem_of_getElem? (i := 1063) (by decide +kernel)))) (by decide +kernel)
theorem wg_1064 : (Jvm.Cond.fieldLink "java/lang/AbstractStringBuilder" (79 : Nat) "java/lang/AbstractStringBuilder" "count" "I") ∈ lw_good := lw_g (List.mem_append_left _ (List.mem_append_right _ (List.mem_of_getElem? (i := 1064) (by decide +kernel)))) (by decide +kernel)
theorem wg_1073 : (Jvm.Cond.superclass "java/lang/StringBuilder" "java/lang/AbstractStringBuilder") ∈ lw_good := lw_g (List.mem_append_left _ (List.mem_append_right _ (List.mem_of_getElem? (i := 1073) (by decide +kernel)))) (by decide +kernel)
theorem wg_1074 : (Jvm.Cond.methodLink "ProphecyShop" (334 : Nat) ({ cls := "java/lang/StringBuilder", name := "append", desc := "(C)Ljava/lang/StringBuilder;" } : Jvm.MethodName)) ∈ lw_good := lw_g (List.mem_append_left _ (List.mem_append_right _ (List.mem_of_getElem? (i := 1074) (by decide +kernel)))) (by decide +kernel)
theorem wg_1075 : (Jvm.Cond.instanceMethod ({ cls := "java/lang/StringBuilder", name := "append", desc := "(C)Ljava/lang/StringBuilder;" } : Jvm.MethodName)) ∈ lw_good := lw_g (List.mem_append_left _ (List.mem_append_right _ (List.mem_of_getElem? (i := 1075) (by decide +kernel)))) (by decide +kernel)
theorem wg_1076 : (Jvm.Cond.selects "java/lang/StringBuilder" ({ cls := "java/lang/StringBuilder", name := "append", desc := "(C)Ljava/lang/StringBuilder;" } : Jvm.MethodName) ({ cls := "java/lang/StringBuilder", name := "append", desc := "(C)Ljava/lang/StringBuilder;" } : Jvm.MethodName)) ∈ lw_good := lw_g (List.mem_append_left _ (List.mem_append_right _ (List.mem_of_getElem? (i := 1076) (by decide +kernel)))) (by decide +kernel)
theorem wg_1077 : (Jvm.Cond.code ({ cls := "java/lang/StringBuilder", name := "append", desc := "(C)Ljava/lang/StringBuilder;" } : Jvm.MethodName) prog_30_method_14_code (2 : Nat) (Option.some (Jvm.ClassFile.FieldType.object "java/lang/StringBuilder"))) ∈ lw_good := lw_g (List.mem_append_left _ (List.mem_append_right _ (List.mem_of_getElem? (i := 1077) (by decide +kernel)))) (by decide +kernel)
theorem wg_1078 : (Jvm.Cond.methodLink "java/lang/StringBuilder" (50 : Nat) ({ cls := "java/lang/AbstractStringBuilder", name := "append", desc := "(C)Ljava/lang/AbstractStringBuilder;" } : Jvm.MethodName)) ∈ lw_good := lw_g (List.mem_append_left _ (List.mem_append_right _ (List.mem_of_getElem? (i := 1078) (by decide +kernel)))) (by decide +kernel)
theorem wg_1079 : (Jvm.Cond.instanceMethod ({ cls := "java/lang/AbstractStringBuilder", name := "append", desc := "(C)Ljava/lang/AbstractStringBuilder;" } : Jvm.MethodName)) ∈ lw_good := lw_g (List.mem_append_left _ (List.mem_append_right _ (List.mem_of_getElem? (i := 1079) (by decide +kernel)))) (by decide +kernel)
theorem wg_1080 : (Jvm.Cond.code ({ cls := "java/lang/AbstractStringBuilder", name := "append", desc := "(C)Ljava/lang/AbstractStringBuilder;" } : Jvm.MethodName) prog_16_method_31_code (2 : Nat) (Option.some (Jvm.ClassFile.FieldType.object "java/lang/AbstractStringBuilder"))) ∈ lw_good := lw_g (List.mem_append_left _ (List.mem_append_right _ (List.mem_of_getElem? (i := 1080) (by decide +kernel)))) (by decide +kernel)
theorem wg_1081 : (Jvm.Cond.methodLink "java/lang/AbstractStringBuilder" (100 : Nat) ({ cls := "java/lang/AbstractStringBuilder", name := "ensureCapacityInternal", desc := "(I)V" } : Jvm.MethodName)) ∈ lw_good := lw_g (List.mem_append_left _ (List.mem_append_right _ (List.mem_of_getElem? (i := 1081) (by decide +kernel)))) (by decide +kernel)
theorem wg_1083 : (Jvm.Cond.instanceMethod ({ cls := "java/lang/AbstractStringBuilder", name := "ensureCapacityInternal", desc := "(I)V" } : Jvm.MethodName)) ∈ lw_good := lw_g (List.mem_append_left _ (List.mem_append_right _ (List.mem_of_getElem? (i := 1083) (by decide +kernel)))) (by decide +kernel)
theorem wg_1084 : (Jvm.Cond.code ({ cls := "java/lang/AbstractStringBuilder", name := "ensureCapacityInternal", desc := "(I)V" } : Jvm.MethodName) prog_16_method_9_code (3 : Nat) (Option.none : Option Jvm.ClassFile.FieldType)) ∈ lw_good := lw_g (List.mem_append_left _ (List.mem_append_right _ (List.mem_of_getElem? (i := 1084) (by decide +kernel)))) (by decide +kernel)
theorem wg_1085 : (Jvm.Cond.methodLink "java/lang/AbstractStringBuilder" (104 : Nat) ({ cls := "java/lang/AbstractStringBuilder", name := "newCapacity", desc := "(I)I" } : Jvm.MethodName)) ∈ lw_good := lw_g (List.mem_append_left _ (List.mem_append_right _ (List.mem_of_getElem? (i := 1085) (by decide +kernel)))) (by decide +kernel)
theorem wg_1087 : (Jvm.Cond.instanceMethod ({ cls := "java/lang/AbstractStringBuilder", name := "newCapacity", desc := "(I)I" } : Jvm.MethodName)) ∈ lw_good := lw_g (List.mem_append_left _ (List.mem_append_right _ (List.mem_of_getElem? (i := 1087) (by decide +kernel)))) (by decide +kernel)
theorem wg_1088 : (Jvm.Cond.code ({ cls := "java/lang/AbstractStringBuilder", name := "newCapacity", desc := "(I)I" } : Jvm.MethodName) prog_16_method_10_code (6 : Nat) (Option.some Jvm.ClassFile.FieldType.int)) ∈ lw_good := lw_g (List.mem_append_left _ (List.mem_append_right _ (List.mem_of_getElem? (i := 1088) (by decide +kernel)))) (by decide +kernel)
theorem wg_1089 : (Jvm.Cond.methodLink "java/lang/AbstractStringBuilder" (114 : Nat) ({ cls := "jdk/internal/util/ArraysSupport", name := "newLength", desc := "(III)I" } : Jvm.MethodName)) ∈ lw_good := lw_g (List.mem_append_left _ (List.mem_append_right _ (List.mem_of_getElem? (i := 1089) (by decide +kernel)))) (by decide +kernel)
theorem wg_1090 : (Jvm.Cond.static ({ cls := "jdk/internal/util/ArraysSupport", name := "newLength", desc := "(III)I" } : Jvm.MethodName)) ∈ lw_good := lw_g (List.mem_append_left _ (List.mem_append_right _ (List.mem_of_getElem? (i := 1090) (by decide +kernel)))) (by decide +kernel)
theorem wg_1091 : (Jvm.Cond.code ({ cls := "jdk/internal/util/ArraysSupport", name := "newLength", desc := "(III)I" } : Jvm.MethodName) prog_39_method_27_code (4 : Nat) (Option.some Jvm.ClassFile.FieldType.int)) ∈ lw_good := lw_g (List.mem_append_left _ (List.mem_append_right _ (List.mem_of_getElem? (i := 1091) (by decide +kernel)))) (by decide +kernel)
theorem wg_1092 : (Jvm.Cond.methodLink "jdk/internal/util/ArraysSupport" (194 : Nat) ({ cls := "java/lang/Math", name := "max", desc := "(II)I" } : Jvm.MethodName)) ∈ lw_good := lw_g (List.mem_append_left _ (List.mem_append_right _ (List.mem_of_getElem? (i := 1092) (by decide +kernel)))) (by decide +kernel)
theorem wg_1093 : (Jvm.Cond.static ({ cls := "java/lang/Math", name := "max", desc := "(II)I" } : Jvm.MethodName)) ∈ lw_good := lw_g (List.mem_append_left _ (List.mem_append_right _ (List.mem_of_getElem? (i := 1093) (by decide +kernel)))) (by decide +kernel)
theorem wg_1094 : (Jvm.Cond.code ({ cls := "java/lang/Math", name := "max", desc := "(II)I" } : Jvm.MethodName) prog_26_method_65_code (2 : Nat) (Option.some Jvm.ClassFile.FieldType.int)) ∈ lw_good := lw_g (List.mem_append_left _ (List.mem_append_right _ (List.mem_of_getElem? (i := 1094) (by decide +kernel)))) (by decide +kernel)
theorem wg_1096 : (Jvm.Cond.methodLink "jdk/internal/util/ArraysSupport" (201 : Nat) ({ cls := "jdk/internal/util/ArraysSupport", name := "hugeLength", desc := "(II)I" } : Jvm.MethodName)) ∈ lw_good := lw_g (List.mem_append_left _ (List.mem_append_right _ (List.mem_of_getElem? (i := 1096) (by decide +kernel)))) (by decide +kernel)
theorem wg_1097 : (Jvm.Cond.static ({ cls := "jdk/internal/util/ArraysSupport", name := "hugeLength", desc := "(II)I" } : Jvm.MethodName)) ∈ lw_good := lw_g (List.mem_append_left _ (List.mem_append_right _ (List.mem_of_getElem? (i := 1097) (by decide +kernel)))) (by decide +kernel)
theorem wg_1098 : (Jvm.Cond.code ({ cls := "jdk/internal/util/ArraysSupport", name := "hugeLength", desc := "(II)I" } : Jvm.MethodName) prog_39_method_28_code (3 : Nat) (Option.some Jvm.ClassFile.FieldType.int)) ∈ lw_good := lw_g (List.mem_append_left _ (List.mem_append_right _ (List.mem_of_getElem? (i := 1098) (by decide +kernel)))) (by decide +kernel)
theorem wg_1100 : (Jvm.Cond.methodLink "java/lang/AbstractStringBuilder" (108 : Nat) ({ cls := "java/util/Arrays", name := "copyOf", desc := "([BI)[B" } : Jvm.MethodName)) ∈ lw_good := lw_g (List.mem_append_left _ (List.mem_append_right _ (List.mem_of_getElem? (i := 1100) (by decide +kernel)))) (by decide +kernel)
theorem wg_1101 : (Jvm.Cond.static ({ cls := "java/util/Arrays", name := "copyOf", desc := "([BI)[B" } : Jvm.MethodName)) ∈ lw_good := lw_g (List.mem_append_left _ (List.mem_append_right _ (List.mem_of_getElem? (i := 1101) (by decide +kernel)))) (by decide +kernel)
theorem wg_1102 : (Jvm.Cond.code ({ cls := "java/util/Arrays", name := "copyOf", desc := "([BI)[B" } : Jvm.MethodName) prog_37_method_121_code (3 : Nat) (Option.some (Jvm.ClassFile.FieldType.array Jvm.ClassFile.FieldType.byte))) ∈ lw_good := lw_g (List.mem_append_left _ (List.mem_append_right _ (List.mem_of_getElem? (i := 1102) (by decide +kernel)))) (by decide +kernel)
theorem wg_1103 : (Jvm.Cond.methodLink "java/util/Arrays" (310 : Nat) ({ cls := "[B", name := "clone", desc := "()Ljava/lang/Object;" } : Jvm.MethodName)) ∈ lw_good := lw_g (List.mem_append_left _ (List.mem_append_right _ (List.mem_of_getElem? (i := 1103) (by decide +kernel)))) (by decide +kernel)
theorem wg_1104 : (Jvm.Cond.sameMethod "[B" "java/lang/Object" "clone" "()Ljava/lang/Object;") ∈ lw_good := lw_g (List.mem_append_left _ (List.mem_append_right _ (List.mem_of_getElem? (i := 1104) (by decide +kernel)))) (by decide +kernel)
theorem wg_1105 : (Jvm.Cond.native ({ cls := "java/lang/Object", name := "clone", desc := "()Ljava/lang/Object;" } : Jvm.MethodName)) ∈ lw_good := lw_g (List.mem_append_left _ (List.mem_append_right _ (List.mem_of_getElem? (i := 1105) (by decide +kernel)))) (by decide +kernel)
theorem wg_1106 : (Jvm.Cond.instanceMethod ({ cls := "java/lang/Object", name := "clone", desc := "()Ljava/lang/Object;" } : Jvm.MethodName)) ∈ lw_good := lw_g (List.mem_append_left _ (List.mem_append_right _ (List.mem_of_getElem? (i := 1106) (by decide +kernel)))) (by decide +kernel)
theorem wg_1107 : (Jvm.Cond.selects "[B" ({ cls := "[B", name := "clone", desc := "()Ljava/lang/Object;" } : Jvm.MethodName) ({ cls := "java/lang/Object", name := "clone", desc := "()Ljava/lang/Object;" } : Jvm.MethodName)) ∈ lw_good := lw_g (List.mem_append_left _ (List.mem_append_right _ (List.mem_of_getElem? (i := 1107) (by decide +kernel)))) (by decide +kernel)
theorem wt_1108 : (Jvm.Cond.castable "[B" "java/lang/Cloneable") ∈ lw_T := List.mem_append_left _ (List.mem_append_right _ (List.mem_of_getElem? (i := 1108) (by decide +kernel)))
theorem wg_1109 : (Jvm.Cond.classLink "java/util/Arrays" (311 : Nat) "[B") ∈ lw_good := lw_g (List.mem_append_left _ (List.mem_append_right _ (List.mem_of_getElem? (i := 1109) (by decide +kernel)))) (by decide +kernel)
theorem wg_1110 : (Jvm.Cond.methodLink "java/util/Arrays" (304 : Nat) ({ cls := "java/lang/Math", name := "min", desc := "(II)I" } : Jvm.MethodName)) ∈ lw_good := lw_g (List.mem_append_left _ (List.mem_append_right _ (List.mem_of_getElem? (i := 1110) (by decide +kernel)))) (by decide +kernel)
theorem wg_1111 : (Jvm.Cond.methodLink "java/util/Arrays" (150 : Nat) ({ cls := "java/lang/System", name := "arraycopy", desc := "(Ljava/lang/Object;ILjava/lang/Object;II)V" } : Jvm.MethodName)) ∈ lw_good := lw_g (List.mem_append_left _ (List.mem_append_right _ (List.mem_of_getElem? (i := 1111) (by decide +kernel)))) (by decide +kernel)
theorem wg_1112 : (Jvm.Cond.methodLink "java/lang/AbstractStringBuilder" (83 : Nat) ({ cls := "java/lang/AbstractStringBuilder", name := "isLatin1", desc := "()Z" } : Jvm.MethodName)) ∈ lw_good := lw_g (List.mem_append_left _ (List.mem_append_right _ (List.mem_of_getElem? (i := 1112) (by decide +kernel)))) (by decide +kernel)
theorem wg_1113 : (Jvm.Cond.instanceMethod ({ cls := "java/lang/AbstractStringBuilder", name := "isLatin1", desc := "()Z" } : Jvm.MethodName)) ∈ lw_good := lw_g (List.mem_append_left _ (List.mem_append_right _ (List.mem_of_getElem? (i := 1113) (by decide +kernel)))) (by decide +kernel)
theorem wg_1114 : (Jvm.Cond.sameMethod "java/lang/AbstractStringBuilder" "java/lang/AbstractStringBuilder" "isLatin1" "()Z") ∈ lw_good := lw_g (List.mem_append_left _ (List.mem_append_right _ (List.mem_of_getElem? (i := 1114) (by decide +kernel)))) (by decide +kernel)
theorem wg_1115 : (Jvm.Cond.selects "java/lang/StringBuilder" ({ cls := "java/lang/AbstractStringBuilder", name := "isLatin1", desc := "()Z" } : Jvm.MethodName) ({ cls := "java/lang/AbstractStringBuilder", name := "isLatin1", desc := "()Z" } : Jvm.MethodName)) ∈ lw_good := lw_g (List.mem_append_left _ (List.mem_append_right _ (List.mem_of_getElem? (i := 1115) (by decide +kernel)))) (by decide +kernel)
theorem wg_1116 : (Jvm.Cond.code ({ cls := "java/lang/AbstractStringBuilder", name := "isLatin1", desc := "()Z" } : Jvm.MethodName) prog_16_method_68_code (1 : Nat) (Option.some Jvm.ClassFile.FieldType.boolean)) ∈ lw_good := lw_g (List.mem_append_left _ (List.mem_append_right _ (List.mem_of_getElem? (i := 1116) (by decide +kernel)))) (by decide +kernel)
theorem wg_1117 : (Jvm.Cond.methodLink "java/lang/AbstractStringBuilder" (191 : Nat) ({ cls := "java/lang/StringLatin1", name := "canEncode", desc := "(C)Z" } : Jvm.MethodName)) ∈ lw_good := lw_g (List.mem_append_left _ (List.mem_append_right _ (List.mem_of_getElem? (i := 1117) (by decide +kernel)))) (by decide +kernel)
theorem wg_1118 : (Jvm.Cond.static ({ cls := "java/lang/StringLatin1", name := "canEncode", desc := "(C)Z" } : Jvm.MethodName)) ∈ lw_good := lw_g (List.mem_append_left _ (List.mem_append_right _ (List.mem_of_getElem? (i := 1118) (by decide +kernel)))) (by decide +kernel)
theorem wg_1119 : (Jvm.Cond.code ({ cls := "java/lang/StringLatin1", name := "canEncode", desc := "(C)Z" } : Jvm.MethodName) prog_31_method_3_code (1 : Nat) (Option.some Jvm.ClassFile.FieldType.boolean)) ∈ lw_good := lw_g (List.mem_append_left _ (List.mem_append_right _ (List.mem_of_getElem? (i := 1119) (by decide +kernel)))) (by decide +kernel)
theorem wg_1122 : (Jvm.Cond.instanceMethod ({ cls := "java/lang/AbstractStringBuilder", name := "inflate", desc := "()V" } : Jvm.MethodName)) ∈ lw_good := lw_g (List.mem_append_left _ (List.mem_append_right _ (List.mem_of_getElem? (i := 1122) (by decide +kernel)))) (by decide +kernel)
theorem wg_1123 : (Jvm.Cond.code ({ cls := "java/lang/AbstractStringBuilder", name := "inflate", desc := "()V" } : Jvm.MethodName) prog_16_method_11_code (2 : Nat) (Option.none : Option Jvm.ClassFile.FieldType)) ∈ lw_good := lw_g (List.mem_append_left _ (List.mem_append_right _ (List.mem_of_getElem? (i := 1123) (by decide +kernel)))) (by decide +kernel)
theorem wg_1146 : (Jvm.Cond.methodLink "ProphecyShop" (338 : Nat) ({ cls := "java/lang/StringBuilder", name := "append", desc := "(I)Ljava/lang/StringBuilder;" } : Jvm.MethodName)) ∈ lw_good := lw_g (List.mem_append_left _ (List.mem_append_right _ (List.mem_of_getElem? (i := 1146) (by decide +kernel)))) (by decide +kernel)
theorem wg_1147 : (Jvm.Cond.instanceMethod ({ cls := "java/lang/StringBuilder", name := "append", desc := "(I)Ljava/lang/StringBuilder;" } : Jvm.MethodName)) ∈ lw_good := lw_g (List.mem_append_left _ (List.mem_append_right _ (List.mem_of_getElem? (i := 1147) (by decide +kernel)))) (by decide +kernel)
theorem wg_1148 : (Jvm.Cond.selects "java/lang/StringBuilder" ({ cls := "java/lang/StringBuilder", name := "append", desc := "(I)Ljava/lang/StringBuilder;" } : Jvm.MethodName) ({ cls := "java/lang/StringBuilder", name := "append", desc := "(I)Ljava/lang/StringBuilder;" } : Jvm.MethodName)) ∈ lw_good := lw_g (List.mem_append_left _ (List.mem_append_right _ (List.mem_of_getElem? (i := 1148) (by decide +kernel)))) (by decide +kernel)
theorem wg_1149 : (Jvm.Cond.code ({ cls := "java/lang/StringBuilder", name := "append", desc := "(I)Ljava/lang/StringBuilder;" } : Jvm.MethodName) prog_30_method_15_code (2 : Nat) (Option.some (Jvm.ClassFile.FieldType.object "java/lang/StringBuilder"))) ∈ lw_good := lw_g (List.mem_append_left _ (List.mem_append_right _ (List.mem_of_getElem? (i := 1149) (by decide +kernel)))) (by decide +kernel)
theorem wg_1150 : (Jvm.Cond.methodLink "java/lang/StringBuilder" (53 : Nat) ({ cls := "java/lang/AbstractStringBuilder", name := "append", desc := "(I)Ljava/lang/AbstractStringBuilder;" } : Jvm.MethodName)) ∈ lw_good := lw_g (List.mem_append_left _ (List.mem_append_right _ (List.mem_of_getElem? (i := 1150) (by decide +kernel)))) (by decide +kernel)
theorem wg_1151 : (Jvm.Cond.instanceMethod ({ cls := "java/lang/AbstractStringBuilder", name := "append", desc := "(I)Ljava/lang/AbstractStringBuilder;" } : Jvm.MethodName)) ∈ lw_good := lw_g (List.mem_append_left _ (List.mem_append_right _ (List.mem_of_getElem? (i := 1151) (by decide +kernel)))) (by decide +kernel)
theorem wg_1152 : (Jvm.Cond.code ({ cls := "java/lang/AbstractStringBuilder", name := "append", desc := "(I)Ljava/lang/AbstractStringBuilder;" } : Jvm.MethodName) prog_16_method_32_code (4 : Nat) (Option.some (Jvm.ClassFile.FieldType.object "java/lang/AbstractStringBuilder"))) ∈ lw_good := lw_g (List.mem_append_left _ (List.mem_append_right _ (List.mem_of_getElem? (i := 1152) (by decide +kernel)))) (by decide +kernel)
theorem wg_1153 : (Jvm.Cond.methodLink "java/lang/AbstractStringBuilder" (245 : Nat) ({ cls := "java/lang/Integer", name := "stringSize", desc := "(I)I" } : Jvm.MethodName)) ∈ lw_good := lw_g (List.mem_append_left _ (List.mem_append_right _ (List.mem_of_getElem? (i := 1153) (by decide +kernel)))) (by decide +kernel)
theorem wg_1154 : (Jvm.Cond.static ({ cls := "java/lang/Integer", name := "stringSize", desc := "(I)I" } : Jvm.MethodName)) ∈ lw_good := lw_g (List.mem_append_left _ (List.mem_append_right _ (List.mem_of_getElem? (i := 1154) (by decide +kernel)))) (by decide +kernel)
theorem wg_1155 : (Jvm.Cond.code ({ cls := "java/lang/Integer", name := "stringSize", desc := "(I)I" } : Jvm.MethodName) prog_25_method_13_code (4 : Nat) (Option.some Jvm.ClassFile.FieldType.int)) ∈ lw_good := lw_g (List.mem_append_left _ (List.mem_append_right _ (List.mem_of_getElem? (i := 1155) (by decide +kernel)))) (by decide +kernel)
theorem wg_1156 : (Jvm.Cond.methodLink "java/lang/AbstractStringBuilder" (248 : Nat) ({ cls := "java/lang/Integer", name := "getChars", desc := "(II[B)I" } : Jvm.MethodName)) ∈ lw_good := lw_g (List.mem_append_left _ (List.mem_append_right _ (List.mem_of_getElem? (i := 1156) (by decide +kernel)))) (by decide +kernel)
theorem wg_1157 : (Jvm.Cond.static ({ cls := "java/lang/Integer", name := "getChars", desc := "(II[B)I" } : Jvm.MethodName)) ∈ lw_good := lw_g (List.mem_append_left _ (List.mem_append_right _ (List.mem_of_getElem? (i := 1157) (by decide +kernel)))) (by decide +kernel)
theorem wg_1158 : (Jvm.Cond.code ({ cls := "java/lang/Integer", name := "getChars", desc := "(II[B)I" } : Jvm.MethodName) prog_25_method_12_code (7 : Nat) (Option.some Jvm.ClassFile.FieldType.int)) ∈ lw_good := lw_g (List.mem_append_left _ (List.mem_append_right _ (List.mem_of_getElem? (i := 1158) (by decide +kernel)))) (by decide +kernel)
theorem wg_1159 : (Jvm.Cond.fieldLink "java/lang/Integer" (83 : Nat) "java/lang/Integer" "DigitOnes" "[B") ∈ lw_good := lw_g (List.mem_append_left _ (List.mem_append_right _ (List.mem_of_getElem? (i := 1159) (by decide +kernel)))) (by decide +kernel)
theorem wg_1161 : (Jvm.Cond.fieldLink "java/lang/Integer" (87 : Nat) "java/lang/Integer" "DigitTens" "[B") ∈ lw_good := lw_g (List.mem_append_left _ (List.mem_append_right _ (List.mem_of_getElem? (i := 1161) (by decide +kernel)))) (by decide +kernel)
theorem wg_1180 : (Jvm.Cond.methodLink "ProphecyShop" (341 : Nat) ({ cls := "java/lang/StringBuilder", name := "toString", desc := "()Ljava/lang/String;" } : Jvm.MethodName)) ∈ lw_good := lw_g (List.mem_append_left _ (List.mem_append_right _ (List.mem_of_getElem? (i := 1180) (by decide +kernel)))) (by decide +kernel)
theorem wg_1181 : (Jvm.Cond.instanceMethod ({ cls := "java/lang/StringBuilder", name := "toString", desc := "()Ljava/lang/String;" } : Jvm.MethodName)) ∈ lw_good := lw_g (List.mem_append_left _ (List.mem_append_right _ (List.mem_of_getElem? (i := 1181) (by decide +kernel)))) (by decide +kernel)
theorem wg_1182 : (Jvm.Cond.selects "java/lang/StringBuilder" ({ cls := "java/lang/StringBuilder", name := "toString", desc := "()Ljava/lang/String;" } : Jvm.MethodName) ({ cls := "java/lang/StringBuilder", name := "toString", desc := "()Ljava/lang/String;" } : Jvm.MethodName)) ∈ lw_good := lw_g (List.mem_append_left _ (List.mem_append_right _ (List.mem_of_getElem? (i := 1182) (by decide +kernel)))) (by decide +kernel)
theorem wg_1183 : (Jvm.Cond.code ({ cls := "java/lang/StringBuilder", name := "toString", desc := "()Ljava/lang/String;" } : Jvm.MethodName) prog_30_method_42_code (1 : Nat) (Option.some (Jvm.ClassFile.FieldType.object "java/lang/String"))) ∈ lw_good := lw_g (List.mem_append_left _ (List.mem_append_right _ (List.mem_of_getElem? (i := 1183) (by decide +kernel)))) (by decide +kernel)
theorem wg_1184 : (Jvm.Cond.classLink "java/lang/StringBuilder" (18 : Nat) "java/lang/String") ∈ lw_good := lw_g (List.mem_append_left _ (List.mem_append_right _ (List.mem_of_getElem? (i := 1184) (by decide +kernel)))) (by decide +kernel)
theorem wg_1185 : (Jvm.Cond.instantiable "java/lang/String" (4 : Nat)) ∈ lw_good := lw_g (List.mem_append_left _ (List.mem_append_right _ (List.mem_of_getElem? (i := 1185) (by decide +kernel)))) (by decide +kernel)
theorem wg_1186 : (Jvm.Cond.methodLink "java/lang/StringBuilder" (137 : Nat) ({ cls := "java/lang/String", name := "<init>", desc := "(Ljava/lang/StringBuilder;)V" } : Jvm.MethodName)) ∈ lw_good := lw_g (List.mem_append_left _ (List.mem_append_right _ (List.mem_of_getElem? (i := 1186) (by decide +kernel)))) (by decide +kernel)
theorem wg_1187 : (Jvm.Cond.instanceMethod ({ cls := "java/lang/String", name := "<init>", desc := "(Ljava/lang/StringBuilder;)V" } : Jvm.MethodName)) ∈ lw_good := lw_g (List.mem_append_left _ (List.mem_append_right _ (List.mem_of_getElem? (i := 1187) (by decide +kernel)))) (by decide +kernel)
theorem wg_1188 : (Jvm.Cond.code ({ cls := "java/lang/String", name := "<init>", desc := "(Ljava/lang/StringBuilder;)V" } : Jvm.MethodName) prog_29_method_53_code (2 : Nat) (Option.none : Option Jvm.ClassFile.FieldType)) ∈ lw_good := lw_g (List.mem_append_left _ (List.mem_append_right _ (List.mem_of_getElem? (i := 1188) (by decide +kernel)))) (by decide +kernel)
theorem wg_1189 : (Jvm.Cond.methodLink "java/lang/String" (489 : Nat) ({ cls := "java/lang/String", name := "<init>", desc := "(Ljava/lang/AbstractStringBuilder;Ljava/lang/Void;)V" } : Jvm.MethodName)) ∈ lw_good := lw_g (List.mem_append_left _ (List.mem_append_right _ (List.mem_of_getElem? (i := 1189) (by decide +kernel)))) (by decide +kernel)
theorem wg_1190 : (Jvm.Cond.instanceMethod ({ cls := "java/lang/String", name := "<init>", desc := "(Ljava/lang/AbstractStringBuilder;Ljava/lang/Void;)V" } : Jvm.MethodName)) ∈ lw_good := lw_g (List.mem_append_left _ (List.mem_append_right _ (List.mem_of_getElem? (i := 1190) (by decide +kernel)))) (by decide +kernel)
theorem wg_1191 : (Jvm.Cond.code ({ cls := "java/lang/String", name := "<init>", desc := "(Ljava/lang/AbstractStringBuilder;Ljava/lang/Void;)V" } : Jvm.MethodName) prog_29_method_150_code (5 : Nat) (Option.none : Option Jvm.ClassFile.FieldType)) ∈ lw_good := lw_g (List.mem_append_left _ (List.mem_append_right _ (List.mem_of_getElem? (i := 1191) (by decide +kernel)))) (by decide +kernel)
theorem wg_1192 : (Jvm.Cond.methodLink "java/lang/String" (1 : Nat) ({ cls := "java/lang/Object", name := "<init>", desc := "()V" } : Jvm.MethodName)) ∈ lw_good := lw_g (List.mem_append_left _ (List.mem_append_right _ (List.mem_of_getElem? (i := 1192) (by decide +kernel)))) (by decide +kernel)
theorem wg_1193 : (Jvm.Cond.methodLink "java/lang/String" (552 : Nat) ({ cls := "java/lang/AbstractStringBuilder", name := "getValue", desc := "()[B" } : Jvm.MethodName)) ∈ lw_good := lw_g (List.mem_append_left _ (List.mem_append_right _ (List.mem_of_getElem? (i := 1193) (by decide +kernel)))) (by decide +kernel)
theorem wg_1194 : (Jvm.Cond.instanceMethod ({ cls := "java/lang/AbstractStringBuilder", name := "getValue", desc := "()[B" } : Jvm.MethodName)) ∈ lw_good := lw_g (List.mem_append_left _ (List.mem_append_right _ (List.mem_of_getElem? (i := 1194) (by decide +kernel)))) (by decide +kernel)
theorem wg_1195 : (Jvm.Cond.sameMethod "java/lang/AbstractStringBuilder" "java/lang/AbstractStringBuilder" "getValue" "()[B") ∈ lw_good := lw_g (List.mem_append_left _ (List.mem_append_right _ (List.mem_of_getElem? (i := 1195) (by decide +kernel)))) (by decide +kernel)
theorem wg_1196 : (Jvm.Cond.selects "java/lang/StringBuilder" ({ cls := "java/lang/AbstractStringBuilder", name := "getValue", desc := "()[B" } : Jvm.MethodName) ({ cls := "java/lang/AbstractStringBuilder", name := "getValue", desc := "()[B" } : Jvm.MethodName)) ∈ lw_good := lw_g (List.mem_append_left _ (List.mem_append_right _ (List.mem_of_getElem? (i := 1196) (by decide +kernel)))) (by decide +kernel)
theorem wg_1197 : (Jvm.Cond.code ({ cls := "java/lang/AbstractStringBuilder", name := "getValue", desc := "()[B" } : Jvm.MethodName) prog_16_method_64_code (1 : Nat) (Option.some (Jvm.ClassFile.FieldType.array Jvm.ClassFile.FieldType.byte))) ∈ lw_good := lw_g (List.mem_append_left _ (List.mem_append_right _ (List.mem_of_getElem? (i := 1197) (by decide +kernel)))) (by decide +kernel)
theorem wg_1198 : (Jvm.Cond.methodLink "java/lang/String" (549 : Nat) ({ cls := "java/lang/AbstractStringBuilder", name := "length", desc := "()I" } : Jvm.MethodName)) ∈ lw_good := lw_g (List.mem_append_left _ (List.mem_append_right _ (List.mem_of_getElem? (i := 1198) (by decide +kernel)))) (by decide +kernel)
theorem wg_1199 : (Jvm.Cond.instanceMethod ({ cls := "java/lang/AbstractStringBuilder", name := "length", desc := "()I" } : Jvm.MethodName)) ∈ lw_good := lw_g (List.mem_append_left _ (List.mem_append_right _ (List.mem_of_getElem? (i := 1199) (by decide +kernel)))) (by decide +kernel)
theorem wg_1200 : (Jvm.Cond.sameMethod "java/lang/AbstractStringBuilder" "java/lang/AbstractStringBuilder" "length" "()I") ∈ lw_good := lw_g (List.mem_append_left _ (List.mem_append_right _ (List.mem_of_getElem? (i := 1200) (by decide +kernel)))) (by decide +kernel)
theorem wg_1201 : (Jvm.Cond.selects "java/lang/StringBuilder" ({ cls := "java/lang/AbstractStringBuilder", name := "length", desc := "()I" } : Jvm.MethodName) ({ cls := "java/lang/StringBuilder", name := "length", desc := "()I" } : Jvm.MethodName)) ∈ lw_good := lw_g (List.mem_append_left _ (List.mem_append_right _ (List.mem_of_getElem? (i := 1201) (by decide +kernel)))) (by decide +kernel)
theorem wg_1202 : (Jvm.Cond.instanceMethod ({ cls := "java/lang/StringBuilder", name := "length", desc := "()I" } : Jvm.MethodName)) ∈ lw_good := lw_g (List.mem_append_left _ (List.mem_append_right _ (List.mem_of_getElem? (i := 1202) (by decide +kernel)))) (by decide +kernel)
theorem wg_1203 : (Jvm.Cond.code ({ cls := "java/lang/StringBuilder", name := "length", desc := "()I" } : Jvm.MethodName) prog_30_method_93_code (1 : Nat) (Option.some Jvm.ClassFile.FieldType.int)) ∈ lw_good := lw_g (List.mem_append_left _ (List.mem_append_right _ (List.mem_of_getElem? (i := 1203) (by decide +kernel)))) (by decide +kernel)
theorem wg_1204 : (Jvm.Cond.methodLink "java/lang/StringBuilder" (343 : Nat) ({ cls := "java/lang/AbstractStringBuilder", name := "length", desc := "()I" } : Jvm.MethodName)) ∈ lw_good := lw_g (List.mem_append_left _ (List.mem_append_right _ (List.mem_of_getElem? (i := 1204) (by decide +kernel)))) (by decide +kernel)
theorem wg_1205 : (Jvm.Cond.code ({ cls := "java/lang/AbstractStringBuilder", name := "length", desc := "()I" } : Jvm.MethodName) prog_16_method_6_code (1 : Nat) (Option.some Jvm.ClassFile.FieldType.int)) ∈ lw_good := lw_g (List.mem_append_left _ (List.mem_append_right _ (List.mem_of_getElem? (i := 1205) (by decide +kernel)))) (by decide +kernel)
theorem wg_1206 : (Jvm.Cond.methodLink "java/lang/String" (1047 : Nat) ({ cls := "java/lang/AbstractStringBuilder", name := "isLatin1", desc := "()Z" } : Jvm.MethodName)) ∈ lw_good := lw_g (List.mem_append_left _ (List.mem_append_right _ (List.mem_of_getElem? (i := 1206) (by decide +kernel)))) (by decide +kernel)
theorem wg_1207 : (Jvm.Cond.methodLink "java/lang/String" (54 : Nat) ({ cls := "java/util/Arrays", name := "copyOfRange", desc := "([BII)[B" } : Jvm.MethodName)) ∈ lw_good := lw_g (List.mem_append_left _ (List.mem_append_right _ (List.mem_of_getElem? (i := 1207) (by decide +kernel)))) (by decide +kernel)
theorem wg_1208 : (Jvm.Cond.static ({ cls := "java/util/Arrays", name := "copyOfRange", desc := "([BII)[B" } : Jvm.MethodName)) ∈ lw_good := lw_g (List.mem_append_left _ (List.mem_append_right _ (List.mem_of_getElem? (i := 1208) (by decide +kernel)))) (by decide +kernel)
theorem wg_1209 : (Jvm.Cond.code ({ cls := "java/util/Arrays", name := "copyOfRange", desc := "([BII)[B" } : Jvm.MethodName) prog_37_method_132_code (3 : Nat) (Option.some (Jvm.ClassFile.FieldType.array Jvm.ClassFile.FieldType.byte))) ∈ lw_good := lw_g (List.mem_append_left _ (List.mem_append_right _ (List.mem_of_getElem? (i := 1209) (by decide +kernel)))) (by decide +kernel)
theorem wg_1210 : (Jvm.Cond.methodLink "java/util/Arrays" (339 : Nat) ({ cls := "java/util/Arrays", name := "copyOfRangeByte", desc := "([BII)[B" } : Jvm.MethodName)) ∈ lw_good := lw_g (List.mem_append_left _ (List.mem_append_right _ (List.mem_of_getElem? (i := 1210) (by decide +kernel)))) (by decide +kernel)
theorem wg_1211 : (Jvm.Cond.static ({ cls := "java/util/Arrays", name := "copyOfRangeByte", desc := "([BII)[B" } : Jvm.MethodName)) ∈ lw_good := lw_g (List.mem_append_left _ (List.mem_append_right _ (List.mem_of_getElem? (i := 1211) (by decide +kernel)))) (by decide +kernel)
theorem wg_1212 : (Jvm.Cond.code ({ cls := "java/util/Arrays", name := "copyOfRangeByte", desc := "([BII)[B" } : Jvm.MethodName) prog_37_method_133_code (5 : Nat) (Option.some (Jvm.ClassFile.FieldType.array Jvm.ClassFile.FieldType.byte))) ∈ lw_good := lw_g (List.mem_append_left _ (List.mem_append_right _ (List.mem_of_getElem? (i := 1212) (by decide +kernel)))) (by decide +kernel)
theorem wg_1213 : (Jvm.Cond.methodLink "java/util/Arrays" (343 : Nat) ({ cls := "java/util/Arrays", name := "checkLength", desc := "(II)V" } : Jvm.MethodName)) ∈ lw_good := lw_g (List.mem_append_left _ (List.mem_append_right _ (List.mem_of_getElem? (i := 1213) (by decide +kernel)))) (by decide +kernel)
theorem wg_1214 : (Jvm.Cond.static ({ cls := "java/util/Arrays", name := "checkLength", desc := "(II)V" } : Jvm.MethodName)) ∈ lw_good := lw_g (List.mem_append_left _ (List.mem_append_right _ (List.mem_of_getElem? (i := 1214) (by decide +kernel)))) (by decide +kernel)
theorem wg_1215 : (Jvm.Cond.code ({ cls := "java/util/Arrays", name := "checkLength", desc := "(II)V" } : Jvm.MethodName) prog_37_method_131_code (2 : Nat) (Option.none : Option Jvm.ClassFile.FieldType)) ∈ lw_good := lw_g (List.mem_append_left _ (List.mem_append_right _ (List.mem_of_getElem? (i := 1215) (by decide +kernel)))) (by decide +kernel)
theorem wt_1218 : (Jvm.Cond.castable "java/lang/IllegalArgumentException" "java/lang/IllegalArgumentException") ∈ lw_T := List.mem_append_left _ (List.mem_append_right _ (List.mem_of_getElem? (i := 1218) (by decide +kernel)))
theorem wg_1258 : (Jvm.Cond.classLink "java/util/Arrays" (45 : Nat) "java/lang/StringBuilder") ∈ lw_good := lw_g (List.mem_append_left _ (List.mem_append_right _ (List.mem_of_getElem? (i := 1258) (by decide +kernel)))) (by decide +kernel)
theorem wg_1259 : (Jvm.Cond.methodLink "java/util/Arrays" (47 : Nat) ({ cls := "java/lang/StringBuilder", name := "<init>", desc := "()V" } : Jvm.MethodName)) ∈ lw_good := lw_g (List.mem_append_left _ (List.mem_append_right _ (List.mem_of_getElem? (i := 1259) (by decide +kernel)))) (by decide +kernel)
theorem wg_1260 : (Jvm.Cond.methodLink "java/util/Arrays" (54 : Nat) ({ cls := "java/lang/StringBuilder", name := "append", desc := "(I)Ljava/lang/StringBuilder;" } : Jvm.MethodName)) ∈ lw_good := lw_g (List.mem_append_left _ (List.mem_append_right _ (List.mem_of_getElem? (i := 1260) (by decide +kernel)))) (by decide +kernel)
theorem wg_1262 : (Jvm.Cond.methodLink "java/util/Arrays" (50 : Nat) ({ cls := "java/lang/StringBuilder", name := "append", desc := "(Ljava/lang/String;)Ljava/lang/StringBuilder;" } : Jvm.MethodName)) ∈ lw_good := lw_g (List.mem_append_left _ (List.mem_append_right _ (List.mem_of_getElem? (i := 1262) (by decide +kernel)))) (by decide +kernel)
theorem wg_1263 : (Jvm.Cond.instanceMethod ({ cls := "java/lang/StringBuilder", name := "append", desc := "(Ljava/lang/String;)Ljava/lang/StringBuilder;" } : Jvm.MethodName)) ∈ lw_good := lw_g (List.mem_append_left _ (List.mem_append_right _ (List.mem_of_getElem? (i := 1263) (by decide +kernel)))) (by decide +kernel)
theorem wg_1264 : (Jvm.Cond.selects "java/lang/StringBuilder" ({ cls := "java/lang/StringBuilder", name := "append", desc := "(Ljava/lang/String;)Ljava/lang/StringBuilder;" } : Jvm.MethodName) ({ cls := "java/lang/StringBuilder", name := "append", desc := "(Ljava/lang/String;)Ljava/lang/StringBuilder;" } : Jvm.MethodName)) ∈ lw_good := lw_g (List.mem_append_left _ (List.mem_append_right _ (List.mem_of_getElem? (i := 1264) (by decide +kernel)))) (by decide +kernel)
theorem wg_1265 : (Jvm.Cond.code ({ cls := "java/lang/StringBuilder", name := "append", desc := "(Ljava/lang/String;)Ljava/lang/StringBuilder;" } : Jvm.MethodName) prog_30_method_7_code (2 : Nat) (Option.some (Jvm.ClassFile.FieldType.object "java/lang/StringBuilder"))) ∈ lw_good := lw_g (List.mem_append_left _ (List.mem_append_right _ (List.mem_of_getElem? (i := 1265) (by decide +kernel)))) (by decide +kernel)
theorem wg_1292 : (Jvm.Cond.methodLink "java/util/Arrays" (61 : Nat) ({ cls := "java/lang/StringBuilder", name := "toString", desc := "()Ljava/lang/String;" } : Jvm.MethodName)) ∈ lw_good := lw_g (List.mem_append_left _ (List.mem_append_right _ (List.mem_of_getElem? (i := 1292) (by decide +kernel)))) (by decide +kernel)
theorem wg_1328 : (Jvm.Cond.fieldLink "java/lang/String" (9 : Nat) "java/lang/String" "value" "[B") ∈ lw_good := lw_g (List.mem_append_left _ (List.mem_append_right _ (List.mem_of_getElem? (i := 1328) (by decide +kernel)))) (by decide +kernel)
theorem wg_1329 : (Jvm.Cond.fieldLink "java/lang/String" (15 : Nat) "java/lang/String" "coder" "B") ∈ lw_good := lw_g (List.mem_append_left _ (List.mem_append_right _ (List.mem_of_getElem? (i := 1329) (by decide +kernel)))) (by decide +kernel)
theorem wt_1360 : (Jvm.Cond.castable "java/lang/IllegalStateException" "java/lang/IllegalStateException") ∈ lw_T := List.mem_append_left _ (List.mem_append_right _ (List.mem_of_getElem? (i := 1360) (by decide +kernel)))
theorem wg_14 : (Jvm.Cond.initialized "java/lang/StringLatin1") ∈ lw_good := lw_g (List.mem_append_left _ (List.mem_append_right _ (List.mem_of_getElem? (i := 14) (by decide +kernel)))) (by decide +kernel)
theorem wt_1405 : (Jvm.Cond.castable "java/lang/IndexOutOfBoundsException" "java/lang/IndexOutOfBoundsException") ∈ lw_T := List.mem_append_left _ (List.mem_append_right _ (List.mem_of_getElem? (i := 1405) (by decide +kernel)))
theorem wg_15 : (Jvm.Cond.initialized "jdk/internal/util/Preconditions") ∈ lw_good := lw_g (List.mem_append_left _ (List.mem_append_right _ (List.mem_of_getElem? (i := 15) (by decide +kernel)))) (by decide +kernel)
theorem wt_1501 : (Jvm.Cond.castable "java/util/NoSuchElementException" "java/util/NoSuchElementException") ∈ lw_T := List.mem_append_left _ (List.mem_append_right _ (List.mem_of_getElem? (i := 1501) (by decide +kernel)))
theorem wg_1662 : (Jvm.Cond.methodLink "ProphecyShop$Names" (29 : Nat) ({ cls := "java/lang/StringBuilder", name := "append", desc := "(C)Ljava/lang/StringBuilder;" } : Jvm.MethodName)) ∈ lw_good := lw_g (List.mem_append_left _ (List.mem_append_right _ (List.mem_of_getElem? (i := 1662) (by decide +kernel)))) (by decide +kernel)
theorem wg_2343 : (Jvm.Cond.arrayClass Jvm.ClassFile.FieldType.long) ∈ lw_good := lw_g (List.mem_append_left _ (List.mem_append_right _ (List.mem_of_getElem? (i := 2343) (by decide +kernel)))) (by decide +kernel)
theorem wg_2346 : (Jvm.Cond.sameMethod "java/lang/AbstractStringBuilder" "java/lang/AbstractStringBuilder" "append" "(C)Ljava/lang/AbstractStringBuilder;") ∈ lw_good := lw_g (List.mem_append_left _ (List.mem_append_right _ (List.mem_of_getElem? (i := 2346) (by decide +kernel)))) (by decide +kernel)
theorem wg_2347 : (Jvm.Cond.sameMethod "java/lang/AbstractStringBuilder" "java/lang/AbstractStringBuilder" "ensureCapacityInternal" "(I)V") ∈ lw_good := lw_g (List.mem_append_left _ (List.mem_append_right _ (List.mem_of_getElem? (i := 2347) (by decide +kernel)))) (by decide +kernel)
theorem wg_2348 : (Jvm.Cond.sameMethod "java/lang/AbstractStringBuilder" "java/lang/AbstractStringBuilder" "newCapacity" "(I)I") ∈ lw_good := lw_g (List.mem_append_left _ (List.mem_append_right _ (List.mem_of_getElem? (i := 2348) (by decide +kernel)))) (by decide +kernel)
theorem wg_2349 : (Jvm.Cond.sameMethod "java/lang/AbstractStringBuilder" "java/lang/AbstractStringBuilder" "inflate" "()V") ∈ lw_good := lw_g (List.mem_append_left _ (List.mem_append_right _ (List.mem_of_getElem? (i := 2349) (by decide +kernel)))) (by decide +kernel)
theorem wg_2350 : (Jvm.Cond.sameMethod "java/lang/AbstractStringBuilder" "java/lang/AbstractStringBuilder" "append" "(I)Ljava/lang/AbstractStringBuilder;") ∈ lw_good := lw_g (List.mem_append_left _ (List.mem_append_right _ (List.mem_of_getElem? (i := 2350) (by decide +kernel)))) (by decide +kernel)
theorem wt_2356 : (Jvm.Cond.castable "ProphecyShop" "java/lang/Object") ∈ lw_T := List.mem_append_left _ (List.mem_append_right _ (List.mem_of_getElem? (i := 2356) (by decide +kernel)))
theorem wt_2357 : (Jvm.Cond.castable "ProphecyShop$Text" "java/lang/Object") ∈ lw_T := List.mem_append_left _ (List.mem_append_right _ (List.mem_of_getElem? (i := 2357) (by decide +kernel)))
theorem wt_2358 : (Jvm.Cond.castable "ProphecyShop$SetupReader" "java/lang/Object") ∈ lw_T := List.mem_append_left _ (List.mem_append_right _ (List.mem_of_getElem? (i := 2358) (by decide +kernel)))
theorem wt_2359 : (Jvm.Cond.castable "ProphecyShop$Script" "java/lang/Object") ∈ lw_T := List.mem_append_left _ (List.mem_append_right _ (List.mem_of_getElem? (i := 2359) (by decide +kernel)))
theorem wt_2360 : (Jvm.Cond.castable "ProphecyShop$Step" "java/lang/Object") ∈ lw_T := List.mem_append_left _ (List.mem_append_right _ (List.mem_of_getElem? (i := 2360) (by decide +kernel)))
theorem wt_2361 : (Jvm.Cond.castable "ProphecyShop$Setup" "java/lang/Object") ∈ lw_T := List.mem_append_left _ (List.mem_append_right _ (List.mem_of_getElem? (i := 2361) (by decide +kernel)))
theorem wt_2362 : (Jvm.Cond.castable "ProphecyShop$Names" "java/lang/Object") ∈ lw_T := List.mem_append_left _ (List.mem_append_right _ (List.mem_of_getElem? (i := 2362) (by decide +kernel)))
theorem wt_2363 : (Jvm.Cond.castable "ProphecyShop$Shop" "java/lang/Object") ∈ lw_T := List.mem_append_left _ (List.mem_append_right _ (List.mem_of_getElem? (i := 2363) (by decide +kernel)))
theorem wt_2364 : (Jvm.Cond.castable "ProphecyShop$Prophecy" "java/lang/Object") ∈ lw_T := List.mem_append_left _ (List.mem_append_right _ (List.mem_of_getElem? (i := 2364) (by decide +kernel)))
theorem wt_2365 : (Jvm.Cond.castable "ProphecyShop$Owl" "java/lang/Object") ∈ lw_T := List.mem_append_left _ (List.mem_append_right _ (List.mem_of_getElem? (i := 2365) (by decide +kernel)))
theorem wt_2366 : (Jvm.Cond.castable "ProphecyShop$History" "java/lang/Object") ∈ lw_T := List.mem_append_left _ (List.mem_append_right _ (List.mem_of_getElem? (i := 2366) (by decide +kernel)))
theorem wt_2367 : (Jvm.Cond.castable "ProphecyShopModel" "java/lang/Object") ∈ lw_T := List.mem_append_left _ (List.mem_append_right _ (List.mem_of_getElem? (i := 2367) (by decide +kernel)))
theorem wt_2368 : (Jvm.Cond.castable "java/lang/IllegalStateException" "java/lang/Object") ∈ lw_T := List.mem_append_left _ (List.mem_append_right _ (List.mem_of_getElem? (i := 2368) (by decide +kernel)))
theorem wt_2369 : (Jvm.Cond.castable "java/lang/IllegalArgumentException" "java/lang/Object") ∈ lw_T := List.mem_append_left _ (List.mem_append_right _ (List.mem_of_getElem? (i := 2369) (by decide +kernel)))
theorem wt_2370 : (Jvm.Cond.castable "java/lang/IndexOutOfBoundsException" "java/lang/Object") ∈ lw_T := List.mem_append_left _ (List.mem_append_right _ (List.mem_of_getElem? (i := 2370) (by decide +kernel)))
theorem wt_2371 : (Jvm.Cond.castable "java/util/NoSuchElementException" "java/lang/Object") ∈ lw_T := List.mem_append_left _ (List.mem_append_right _ (List.mem_of_getElem? (i := 2371) (by decide +kernel)))
theorem wt_2372 : (Jvm.Cond.castable "java/lang/StringBuilder" "java/lang/Object") ∈ lw_T := List.mem_append_left _ (List.mem_append_right _ (List.mem_of_getElem? (i := 2372) (by decide +kernel)))
theorem wt_2373 : (Jvm.Cond.castable "java/lang/String" "java/lang/Object") ∈ lw_T := List.mem_append_left _ (List.mem_append_right _ (List.mem_of_getElem? (i := 2373) (by decide +kernel)))
theorem wt_2374 : (Jvm.Cond.castable "java/lang/Throwable" "java/lang/Object") ∈ lw_T := List.mem_append_left _ (List.mem_append_right _ (List.mem_of_getElem? (i := 2374) (by decide +kernel)))
theorem wg_27 : (Jvm.Cond.initialized "java/lang/AbstractStringBuilder") ∈ lw_good := lw_g (List.mem_append_left _ (List.mem_append_right _ (List.mem_of_getElem? (i := 27) (by decide +kernel)))) (by decide +kernel)
theorem wg_28 : (Jvm.Cond.initialized "java/lang/StringBuilder") ∈ lw_good := lw_g (List.mem_append_left _ (List.mem_append_right _ (List.mem_of_getElem? (i := 28) (by decide +kernel)))) (by decide +kernel)
theorem wg_29 : (Jvm.Cond.initialized "jdk/internal/util/ArraysSupport") ∈ lw_good := lw_g (List.mem_append_left _ (List.mem_append_right _ (List.mem_of_getElem? (i := 29) (by decide +kernel)))) (by decide +kernel)
theorem wg_30 : (Jvm.Cond.initialized "java/util/Arrays") ∈ lw_good := lw_g (List.mem_append_left _ (List.mem_append_right _ (List.mem_of_getElem? (i := 30) (by decide +kernel)))) (by decide +kernel)
theorem wg_32 : (Jvm.Cond.initialized "java/lang/Integer") ∈ lw_good := lw_g (List.mem_append_left _ (List.mem_append_right _ (List.mem_of_getElem? (i := 32) (by decide +kernel)))) (by decide +kernel)
theorem wg_39 : (Jvm.Cond.instanceMethod ({ cls := "java/lang/Object", name := "<init>", desc := "()V" } : Jvm.MethodName)) ∈ lw_good := lw_g (List.mem_append_left _ (List.mem_append_right _ (List.mem_of_getElem? (i := 39) (by decide +kernel)))) (by decide +kernel)
theorem wg_40 : (Jvm.Cond.code ({ cls := "java/lang/Object", name := "<init>", desc := "()V" } : Jvm.MethodName) object_method_1_code (1 : Nat) (Option.none : Option Jvm.ClassFile.FieldType)) ∈ lw_good := lw_g (List.mem_append_left _ (List.mem_append_right _ (List.mem_of_getElem? (i := 40) (by decide +kernel)))) (by decide +kernel)
theorem wg_414 : (Jvm.Cond.methodLink "ProphecyShop" (84 : Nat) ({ cls := "java/lang/String", name := "length", desc := "()I" } : Jvm.MethodName)) ∈ lw_good := lw_g (List.mem_append_left _ (List.mem_append_right _ (List.mem_of_getElem? (i := 414) (by decide +kernel)))) (by decide +kernel)
theorem wg_418 : (Jvm.Cond.methodLink "java/lang/String" (335 : Nat) ({ cls := "java/lang/String", name := "coder", desc := "()B" } : Jvm.MethodName)) ∈ lw_good := lw_g (List.mem_append_left _ (List.mem_append_right _ (List.mem_of_getElem? (i := 418) (by decide +kernel)))) (by decide +kernel)
theorem wg_419 : (Jvm.Cond.instanceMethod ({ cls := "java/lang/String", name := "coder", desc := "()B" } : Jvm.MethodName)) ∈ lw_good := lw_g (List.mem_append_left _ (List.mem_append_right _ (List.mem_of_getElem? (i := 419) (by decide +kernel)))) (by decide +kernel)
theorem wg_420 : (Jvm.Cond.selects "java/lang/String" ({ cls := "java/lang/String", name := "coder", desc := "()B" } : Jvm.MethodName) ({ cls := "java/lang/String", name := "coder", desc := "()B" } : Jvm.MethodName)) ∈ lw_good := lw_g (List.mem_append_left _ (List.mem_append_right _ (List.mem_of_getElem? (i := 420) (by decide +kernel)))) (by decide +kernel)
theorem wg_421 : (Jvm.Cond.code ({ cls := "java/lang/String", name := "coder", desc := "()B" } : Jvm.MethodName) prog_29_method_152_code (1 : Nat) (Option.some Jvm.ClassFile.FieldType.byte)) ∈ lw_good := lw_g (List.mem_append_left _ (List.mem_append_right _ (List.mem_of_getElem? (i := 421) (by decide +kernel)))) (by decide +kernel)
theorem wg_422 : (Jvm.Cond.fieldLink "java/lang/String" (38 : Nat) "java/lang/String" "COMPACT_STRINGS" "Z") ∈ lw_good := lw_g (List.mem_append_left _ (List.mem_append_right _ (List.mem_of_getElem? (i := 422) (by decide +kernel)))) (by decide +kernel)
theorem wg_424 : (Jvm.Cond.methodLink "ProphecyShop" (90 : Nat) ({ cls := "java/lang/String", name := "charAt", desc := "(I)C" } : Jvm.MethodName)) ∈ lw_good := lw_g (List.mem_append_left _ (List.mem_append_right _ (List.mem_of_getElem? (i := 424) (by decide +kernel)))) (by decide +kernel)
theorem wg_428 : (Jvm.Cond.methodLink "java/lang/String" (492 : Nat) ({ cls := "java/lang/String", name := "isLatin1", desc := "()Z" } : Jvm.MethodName)) ∈ lw_good := lw_g (List.mem_append_left _ (List.mem_append_right _ (List.mem_of_getElem? (i := 428) (by decide +kernel)))) (by decide +kernel)
theorem wg_429 : (Jvm.Cond.instanceMethod ({ cls := "java/lang/String", name := "isLatin1", desc := "()Z" } : Jvm.MethodName)) ∈ lw_good := lw_g (List.mem_append_left _ (List.mem_append_right _ (List.mem_of_getElem? (i := 429) (by decide +kernel)))) (by decide +kernel)
theorem wg_430 : (Jvm.Cond.selects "java/lang/String" ({ cls := "java/lang/String", name := "isLatin1", desc := "()Z" } : Jvm.MethodName) ({ cls := "java/lang/String", name := "isLatin1", desc := "()Z" } : Jvm.MethodName)) ∈ lw_good := lw_g (List.mem_append_left _ (List.mem_append_right _ (List.mem_of_getElem? (i := 430) (by decide +kernel)))) (by decide +kernel)
theorem wg_431 : (Jvm.Cond.code ({ cls := "java/lang/String", name := "isLatin1", desc := "()Z" } : Jvm.MethodName) prog_29_method_154_code (1 : Nat) (Option.some Jvm.ClassFile.FieldType.boolean)) ∈ lw_good := lw_g (List.mem_append_left _ (List.mem_append_right _ (List.mem_of_getElem? (i := 431) (by decide +kernel)))) (by decide +kernel)
theorem wg_432 : (Jvm.Cond.methodLink "java/lang/String" (495 : Nat) ({ cls := "java/lang/StringLatin1", name := "charAt", desc := "([BI)C" } : Jvm.MethodName)) ∈ lw_good := lw_g (List.mem_append_left _ (List.mem_append_right _ (List.mem_of_getElem? (i := 432) (by decide +kernel)))) (by decide +kernel)
theorem wg_433 : (Jvm.Cond.static ({ cls := "java/lang/StringLatin1", name := "charAt", desc := "([BI)C" } : Jvm.MethodName)) ∈ lw_good := lw_g (List.mem_append_left _ (List.mem_append_right _ (List.mem_of_getElem? (i := 433) (by decide +kernel)))) (by decide +kernel)
theorem wg_434 : (Jvm.Cond.code ({ cls := "java/lang/StringLatin1", name := "charAt", desc := "([BI)C" } : Jvm.MethodName) prog_31_method_2_code (2 : Nat) (Option.some Jvm.ClassFile.FieldType.char)) ∈ lw_good := lw_g (List.mem_append_left _ (List.mem_append_right _ (List.mem_of_getElem? (i := 434) (by decide +kernel)))) (by decide +kernel)
theorem wg_435 : (Jvm.Cond.methodLink "java/lang/StringLatin1" (9 : Nat) ({ cls := "java/lang/String", name := "checkIndex", desc := "(II)V" } : Jvm.MethodName)) ∈ lw_good := lw_g (List.mem_append_left _ (List.mem_append_right _ (List.mem_of_getElem? (i := 435) (by decide +kernel)))) (by decide +kernel)
theorem wg_436 : (Jvm.Cond.static ({ cls := "java/lang/String", name := "checkIndex", desc := "(II)V" } : Jvm.MethodName)) ∈ lw_good := lw_g (List.mem_append_left _ (List.mem_append_right _ (List.mem_of_getElem? (i := 436) (by decide +kernel)))) (by decide +kernel)
theorem wg_437 : (Jvm.Cond.code ({ cls := "java/lang/String", name := "checkIndex", desc := "(II)V" } : Jvm.MethodName) prog_29_method_155_code (2 : Nat) (Option.none : Option Jvm.ClassFile.FieldType)) ∈ lw_good := lw_g (List.mem_append_left _ (List.mem_append_right _ (List.mem_of_getElem? (i := 437) (by decide +kernel)))) (by decide +kernel)
theorem wg_438 : (Jvm.Cond.fieldLink "java/lang/String" (1053 : Nat) "jdk/internal/util/Preconditions" "SIOOBE_FORMATTER" "Ljava/util/function/BiFunction;") ∈ lw_good := lw_g (List.mem_append_left _ (List.mem_append_right _ (List.mem_of_getElem? (i := 438) (by decide +kernel)))) (by decide +kernel)
theorem wg_440 : (Jvm.Cond.methodLink "java/lang/String" (1059 : Nat) ({ cls := "jdk/internal/util/Preconditions", name := "checkIndex", desc := "(IILjava/util/function/BiFunction;)I" } : Jvm.MethodName)) ∈ lw_good := lw_g (List.mem_append_left _ (List.mem_append_right _ (List.mem_of_getElem? (i := 440) (by decide +kernel)))) (by decide +kernel)
theorem wg_441 : (Jvm.Cond.static ({ cls := "jdk/internal/util/Preconditions", name := "checkIndex", desc := "(IILjava/util/function/BiFunction;)I" } : Jvm.MethodName)) ∈ lw_good := lw_g (List.mem_append_left _ (List.mem_append_right _ (List.mem_of_getElem? (i := 441) (by decide +kernel)))) (by decide +kernel)
theorem wg_442 : (Jvm.Cond.code ({ cls := "jdk/internal/util/Preconditions", name := "checkIndex", desc := "(IILjava/util/function/BiFunction;)I" } : Jvm.MethodName) prog_40_method_11_code (3 : Nat) (Option.some Jvm.ClassFile.FieldType.int)) ∈ lw_good := lw_g (List.mem_append_left _ (List.mem_append_right _ (List.mem_of_getElem? (i := 442) (by decide +kernel)))) (by decide +kernel)
theorem wg_54 : (Jvm.Cond.arrayClass Jvm.ClassFile.FieldType.int) ∈ lw_good := lw_g (List.mem_append_left _ (List.mem_append_right _ (List.mem_of_getElem? (i := 54) (by decide +kernel)))) (by decide +kernel)
theorem wg_680 : (Jvm.Cond.arrayClass Jvm.ClassFile.FieldType.boolean) ∈ lw_good := lw_g (List.mem_append_left _ (List.mem_append_right _ (List.mem_of_getElem? (i := 680) (by decide +kernel)))) (by decide +kernel)
theorem wg_681 : (Jvm.Cond.arrayClass Jvm.ClassFile.FieldType.byte) ∈ lw_good := lw_g (List.mem_append_left _ (List.mem_append_right _ (List.mem_of_getElem? (i := 681) (by decide +kernel)))) (by decide +kernel)
theorem coC_14 : CO 14 RJ0 TJ0 2 tyJ0 := ⟨rfl, fun w h => lw_g (List.mem_append_left _ (iwTJ0 w (List.mem_of_mem_take (i := 2) h))) (List.all_eq_true.mp (show (u_ws RJ0 TJ0 2).all goodWord = true by decide +kernel) w h), fun k hk => tyJ0_ok k (by omega), fun a ha b hb h => nmJ0 a (by omega) b (by omega) h⟩
theorem hd_String_coder_7d493 : hd0 m_String_coder_7d493 0 := hd0_of (by decide +kernel) (by decide +kernel) (by decide +kernel) rfl rfl wg_421
theorem hd_String_isLatin1_aae02 : hd0 m_String_isLatin1_aae02 0 := hd0_of (by decide +kernel) (by decide +kernel) (by decide +kernel) rfl rfl wg_431
theorem hd_StringLatin1_charAt_3b067 : hd0 m_StringLatin1_charAt_3b067 2 := hd0_of (by decide +kernel) (by decide +kernel) (by decide +kernel) rfl rfl wg_434
abbrev m_String_checkIndex_df160 : MI := (⟨"java/lang/String", "checkIndex", "(II)V"⟩, prog_29_method_155_code, 2, (Option.none : Option Jvm.ClassFile.FieldType), [])
theorem hd_String_checkIndex_df160 : hd0 m_String_checkIndex_df160 2 := hd0_of (by decide +kernel) (by decide +kernel) (by decide +kernel) rfl rfl wg_437
abbrev m_Preconditions_checkIndex_8e157 : MI := (⟨"jdk/internal/util/Preconditions", "checkIndex", "(IILjava/util/function/BiFunction;)I"⟩, prog_40_method_11_code, 3, (Option.some Jvm.ClassFile.FieldType.int), [])
theorem hd_Preconditions_checkIndex_8e157 : hd0 m_Preconditions_checkIndex_8e157 3 := hd0_of (by decide +kernel) (by decide +kernel) (by decide +kernel) rfl rfl wg_442
abbrev m_StringBuilder_init_da8c8 : MI := (⟨"java/lang/StringBuilder", "<init>", "()V"⟩, prog_30_method_1_code, 1, (Option.none : Option Jvm.ClassFile.FieldType), [])
theorem hd_StringBuilder_init_da8c8 : hd0 m_StringBuilder_init_da8c8 0 := hd0_of (by decide +kernel) (by decide +kernel) (by decide +kernel) rfl rfl wg_1048
abbrev m_AbstractStringBuilder_init_d00df : MI := (⟨"java/lang/AbstractStringBuilder", "<init>", "(I)V"⟩, prog_16_method_2_code, 2, (Option.none : Option Jvm.ClassFile.FieldType), [])
theorem hd_AbstractStringBuilder_init_d00df : hd0 m_AbstractStringBuilder_init_d00df 1 := hd0_of (by decide +kernel) (by decide +kernel) (by decide +kernel) rfl rfl wg_1051
abbrev m_StringBuilder_append_cf468 : MI := (⟨"java/lang/StringBuilder", "append", "(C)Ljava/lang/StringBuilder;"⟩, prog_30_method_14_code, 2, (Option.some (Jvm.ClassFile.FieldType.object "java/lang/StringBuilder")), [])
theorem hd_StringBuilder_append_cf468 : hd0 m_StringBuilder_append_cf468 1 := hd0_of (by decide +kernel) (by decide +kernel) (by decide +kernel) rfl rfl wg_1077
abbrev m_AbstractStringBuilder_append_3fe6f : MI := (⟨"java/lang/AbstractStringBuilder", "append", "(C)Ljava/lang/AbstractStringBuilder;"⟩, prog_16_method_31_code, 2, (Option.some (Jvm.ClassFile.FieldType.object "java/lang/AbstractStringBuilder")), [])
theorem hd_AbstractStringBuilder_append_3fe6f : hd0 m_AbstractStringBuilder_append_3fe6f 1 := hd0_of (by decide +kernel) (by decide +kernel) (by decide +kernel) rfl rfl wg_1080
abbrev m_AbstractStringBuilder_ensureCapacityInternal_d00df : MI := (⟨"java/lang/AbstractStringBuilder", "ensureCapacityInternal", "(I)V"⟩, prog_16_method_9_code, 3, (Option.none : Option Jvm.ClassFile.FieldType), [])
theorem hd_AbstractStringBuilder_ensureCapacityInternal_d00df : hd0 m_AbstractStringBuilder_ensureCapacityInternal_d00df 1 := hd0_of (by decide +kernel) (by decide +kernel) (by decide +kernel) rfl rfl wg_1084
abbrev m_AbstractStringBuilder_newCapacity_0f7a4 : MI := (⟨"java/lang/AbstractStringBuilder", "newCapacity", "(I)I"⟩, prog_16_method_10_code, 6, (Option.some Jvm.ClassFile.FieldType.int), [])
theorem hd_AbstractStringBuilder_newCapacity_0f7a4 : hd0 m_AbstractStringBuilder_newCapacity_0f7a4 1 := hd0_of (by decide +kernel) (by decide +kernel) (by decide +kernel) rfl rfl wg_1088
abbrev m_ArraysSupport_newLength_cabcc : MI := (⟨"jdk/internal/util/ArraysSupport", "newLength", "(III)I"⟩, prog_39_method_27_code, 4, (Option.some Jvm.ClassFile.FieldType.int), [])
theorem hd_ArraysSupport_newLength_cabcc : hd0 m_ArraysSupport_newLength_cabcc 3 := hd0_of (by decide +kernel) (by decide +kernel) (by decide +kernel) rfl rfl wg_1091
abbrev m_Arrays_copyOf_9075b : MI := (⟨"java/util/Arrays", "copyOf", "([BI)[B"⟩, prog_37_method_121_code, 3, (Option.some (Jvm.ClassFile.FieldType.array Jvm.ClassFile.FieldType.byte)), [])
theorem hd_Arrays_copyOf_9075b : hd0 m_Arrays_copyOf_9075b 2 := hd0_of (by decide +kernel) (by decide +kernel) (by decide +kernel) rfl rfl wg_1102
abbrev m_AbstractStringBuilder_isLatin1_aae02 : MI := (⟨"java/lang/AbstractStringBuilder", "isLatin1", "()Z"⟩, prog_16_method_68_code, 1, (Option.some Jvm.ClassFile.FieldType.boolean), [])
theorem hd_AbstractStringBuilder_isLatin1_aae02 : hd0 m_AbstractStringBuilder_isLatin1_aae02 0 := hd0_of (by decide +kernel) (by decide +kernel) (by decide +kernel) rfl rfl wg_1116
abbrev m_StringLatin1_canEncode_fc78d : MI := (⟨"java/lang/StringLatin1", "canEncode", "(C)Z"⟩, prog_31_method_3_code, 1, (Option.some Jvm.ClassFile.FieldType.boolean), [])
theorem hd_StringLatin1_canEncode_fc78d : hd0 m_StringLatin1_canEncode_fc78d 1 := hd0_of (by decide +kernel) (by decide +kernel) (by decide +kernel) rfl rfl wg_1119
abbrev m_StringBuilder_append_bf812 : MI := (⟨"java/lang/StringBuilder", "append", "(I)Ljava/lang/StringBuilder;"⟩, prog_30_method_15_code, 2, (Option.some (Jvm.ClassFile.FieldType.object "java/lang/StringBuilder")), [])
theorem hd_StringBuilder_append_bf812 : hd0 m_StringBuilder_append_bf812 1 := hd0_of (by decide +kernel) (by decide +kernel) (by decide +kernel) rfl rfl wg_1149
abbrev m_AbstractStringBuilder_append_c97b9 : MI := (⟨"java/lang/AbstractStringBuilder", "append", "(I)Ljava/lang/AbstractStringBuilder;"⟩, prog_16_method_32_code, 4, (Option.some (Jvm.ClassFile.FieldType.object "java/lang/AbstractStringBuilder")), [])
theorem hd_AbstractStringBuilder_append_c97b9 : hd0 m_AbstractStringBuilder_append_c97b9 1 := hd0_of (by decide +kernel) (by decide +kernel) (by decide +kernel) rfl rfl wg_1152
abbrev m_Integer_stringSize_0f7a4 : MI := (⟨"java/lang/Integer", "stringSize", "(I)I"⟩, prog_25_method_13_code, 4, (Option.some Jvm.ClassFile.FieldType.int), [])
theorem hd_Integer_stringSize_0f7a4 : hd0 m_Integer_stringSize_0f7a4 1 := hd0_of (by decide +kernel) (by decide +kernel) (by decide +kernel) rfl rfl wg_1155
abbrev m_Integer_getChars_ba4f3 : MI := (⟨"java/lang/Integer", "getChars", "(II[B)I"⟩, prog_25_method_12_code, 7, (Option.some Jvm.ClassFile.FieldType.int), [])
theorem hd_Integer_getChars_ba4f3 : hd0 m_Integer_getChars_ba4f3 3 := hd0_of (by decide +kernel) (by decide +kernel) (by decide +kernel) rfl rfl wg_1158
abbrev m_StringBuilder_toString_0e30d : MI := (⟨"java/lang/StringBuilder", "toString", "()Ljava/lang/String;"⟩, prog_30_method_42_code, 1, (Option.some (Jvm.ClassFile.FieldType.object "java/lang/String")), [])
theorem hd_StringBuilder_toString_0e30d : hd0 m_StringBuilder_toString_0e30d 0 := hd0_of (by decide +kernel) (by decide +kernel) (by decide +kernel) rfl rfl wg_1183
abbrev m_String_init_81219 : MI := (⟨"java/lang/String", "<init>", "(Ljava/lang/StringBuilder;)V"⟩, prog_29_method_53_code, 2, (Option.none : Option Jvm.ClassFile.FieldType), [])
theorem hd_String_init_81219 : hd0 m_String_init_81219 1 := hd0_of (by decide +kernel) (by decide +kernel) (by decide +kernel) rfl rfl wg_1188
abbrev m_String_init_db425 : MI := (⟨"java/lang/String", "<init>", "(Ljava/lang/AbstractStringBuilder;Ljava/lang/Void;)V"⟩, prog_29_method_150_code, 5, (Option.none : Option Jvm.ClassFile.FieldType), [])
theorem hd_String_init_db425 : hd0 m_String_init_db425 2 := hd0_of (by decide +kernel) (by decide +kernel) (by decide +kernel) rfl rfl wg_1191
abbrev m_AbstractStringBuilder_getValue_6d5f1 : MI := (⟨"java/lang/AbstractStringBuilder", "getValue", "()[B"⟩, prog_16_method_64_code, 1, (Option.some (Jvm.ClassFile.FieldType.array Jvm.ClassFile.FieldType.byte)), [])
theorem hd_AbstractStringBuilder_getValue_6d5f1 : hd0 m_AbstractStringBuilder_getValue_6d5f1 0 := hd0_of (by decide +kernel) (by decide +kernel) (by decide +kernel) rfl rfl wg_1197
abbrev m_AbstractStringBuilder_length_8abf5 : MI := (⟨"java/lang/AbstractStringBuilder", "length", "()I"⟩, prog_16_method_6_code, 1, (Option.some Jvm.ClassFile.FieldType.int), [])
theorem hd_AbstractStringBuilder_length_8abf5 : hd0 m_AbstractStringBuilder_length_8abf5 0 := hd0_of (by decide +kernel) (by decide +kernel) (by decide +kernel) rfl rfl wg_1205
abbrev m_StringBuilder_length_8abf5 : MI := (⟨"java/lang/StringBuilder", "length", "()I"⟩, prog_30_method_93_code, 1, (Option.some Jvm.ClassFile.FieldType.int), [])
theorem hd_StringBuilder_length_8abf5 : hd0 m_StringBuilder_length_8abf5 0 := hd0_of (by decide +kernel) (by decide +kernel) (by decide +kernel) rfl rfl wg_1203
abbrev m_Arrays_copyOfRange_39247 : MI := (⟨"java/util/Arrays", "copyOfRange", "([BII)[B"⟩, prog_37_method_132_code, 3, (Option.some (Jvm.ClassFile.FieldType.array Jvm.ClassFile.FieldType.byte)), [])
theorem hd_Arrays_copyOfRange_39247 : hd0 m_Arrays_copyOfRange_39247 3 := hd0_of (by decide +kernel) (by decide +kernel) (by decide +kernel) rfl rfl wg_1209
abbrev m_Arrays_copyOfRangeByte_39247 : MI := (⟨"java/util/Arrays", "copyOfRangeByte", "([BII)[B"⟩, prog_37_method_133_code, 5, (Option.some (Jvm.ClassFile.FieldType.array Jvm.ClassFile.FieldType.byte)), [])
theorem hd_Arrays_copyOfRangeByte_39247 : hd0 m_Arrays_copyOfRangeByte_39247 3 := hd0_of (by decide +kernel) (by decide +kernel) (by decide +kernel) rfl rfl wg_1212
abbrev m_Arrays_checkLength_df160 : MI := (⟨"java/util/Arrays", "checkLength", "(II)V"⟩, prog_37_method_131_code, 2, (Option.none : Option Jvm.ClassFile.FieldType), [])
theorem hd_Arrays_checkLength_df160 : hd0 m_Arrays_checkLength_df160 2 := hd0_of (by decide +kernel) (by decide +kernel) (by decide +kernel) rfl rfl wg_1215
theorem gj_String_9_0 : FLg "java/lang/String" 9 0 0 := ⟨_, _, _, _, "java/lang/String", coC_0, by decide, wg_1328, Or.inl rfl⟩
theorem gj_String_9_14 : FLg "java/lang/String" 9 14 0 := ⟨_, _, _, _, "java/lang/String", coC_14, by decide, wg_1328, Or.inl rfl⟩
theorem lj_String_335_0 : LV "java/lang/String" 335 0 0 m_String_coder_7d493 := ⟨hd_String_coder_7d493, rfl, ⟨_, rfl, rfl⟩, wg_418, wg_419, wg_420, wg_13⟩
theorem lj_String_335_14 : LV "java/lang/String" 335 14 0 m_String_coder_7d493 := ⟨hd_String_coder_7d493, rfl, ⟨_, rfl, rfl⟩, wg_418, wg_419, wg_420, wg_13⟩
theorem lj_String_492_0 : LV "java/lang/String" 492 0 0 m_String_isLatin1_aae02 := ⟨hd_String_isLatin1_aae02, rfl, ⟨_, rfl, rfl⟩, wg_428, wg_429, wg_430, wg_13⟩
theorem lj_String_492_14 : LV "java/lang/String" 492 14 0 m_String_isLatin1_aae02 := ⟨hd_String_isLatin1_aae02, rfl, ⟨_, rfl, rfl⟩, wg_428, wg_429, wg_430, wg_13⟩
theorem lj_String_495 : m_StringLatin1_charAt_3b067.2.2.2.2 = [] ∧ LST "java/lang/String" 495 2 m_StringLatin1_charAt_3b067 := ⟨rfl, hd_StringLatin1_charAt_3b067, wg_432, wg_433, wg_14⟩
theorem gj_String_15_0 : FLg "java/lang/String" 15 0 1 := ⟨_, _, _, _, "java/lang/String", coC_0, by decide, wg_1329, Or.inl rfl⟩
theorem gj_String_15_14 : FLg "java/lang/String" 15 14 1 := ⟨_, _, _, _, "java/lang/String", coC_14, by decide, wg_1329, Or.inl rfl⟩
theorem lj_StringLatin1_9 : m_String_checkIndex_df160.2.2.2.2 = [] ∧ LST "java/lang/StringLatin1" 9 2 m_String_checkIndex_df160 := ⟨rfl, hd_String_checkIndex_df160, wg_435, wg_436, wg_13⟩
theorem d_String_checkIndex_df160_0 : decode prog_29_method_155_code 0 = .ok (.iload_n 0, 1) := by decide +kernel
theorem d_String_checkIndex_df160_1 : decode prog_29_method_155_code 1 = .ok (.iload_n 1, 1) := by decide +kernel
theorem d_String_checkIndex_df160_2 : decode prog_29_method_155_code 2 = .ok (.getstatic 1053, 3) := by decide +kernel
theorem d_String_checkIndex_df160_5 : decode prog_29_method_155_code 5 = .ok (.invokestatic 1059, 3) := by decide +kernel
theorem d_String_checkIndex_df160_8 : decode prog_29_method_155_code 8 = .ok (.pop, 1) := by decide +kernel
theorem d_String_checkIndex_df160_9 : decode prog_29_method_155_code 9 = .ok (.return_, 1) := by decide +kernel
theorem lj_String_1059 : m_Preconditions_checkIndex_8e157.2.2.2.2 = [] ∧ LST "java/lang/String" 1059 3 m_Preconditions_checkIndex_8e157 := ⟨rfl, hd_Preconditions_checkIndex_8e157, wg_440, wg_441, wg_15⟩
theorem d_Preconditions_checkIndex_8e157_0 : decode prog_40_method_11_code 0 = .ok (.iload_n 0, 1) := by decide +kernel
theorem d_Preconditions_checkIndex_8e157_1 : decode prog_40_method_11_code 1 = .ok (.ifCond .lt 8, 3) := by decide +kernel
theorem d_Preconditions_checkIndex_8e157_4 : decode prog_40_method_11_code 4 = .ok (.iload_n 0, 1) := by decide +kernel
theorem d_Preconditions_checkIndex_8e157_5 : decode prog_40_method_11_code 5 = .ok (.iload_n 1, 1) := by decide +kernel
theorem d_Preconditions_checkIndex_8e157_6 : decode prog_40_method_11_code 6 = .ok (.if_icmp .lt 10, 3) := by decide +kernel
theorem d_Preconditions_checkIndex_8e157_9 : decode prog_40_method_11_code 9 = .ok (.aload_n 2, 1) := by decide +kernel
theorem d_Preconditions_checkIndex_8e157_10 : decode prog_40_method_11_code 10 = .ok (.iload_n 0, 1) := by decide +kernel
theorem d_Preconditions_checkIndex_8e157_11 : decode prog_40_method_11_code 11 = .ok (.iload_n 1, 1) := by decide +kernel
theorem d_Preconditions_checkIndex_8e157_12 : decode prog_40_method_11_code 12 = .ok (.invokestatic 95, 3) := by decide +kernel
theorem d_Preconditions_checkIndex_8e157_15 : decode prog_40_method_11_code 15 = .ok (.athrow, 1) := by decide +kernel
theorem d_Preconditions_checkIndex_8e157_16 : decode prog_40_method_11_code 16 = .ok (.iload_n 0, 1) := by decide +kernel
theorem d_Preconditions_checkIndex_8e157_17 : decode prog_40_method_11_code 17 = .ok (.ireturn, 1) := by decide +kernel
theorem d_StringBuilder_init_da8c8_0 : decode prog_30_method_1_code 0 = .ok (.aload_n 0, 1) := by decide +kernel
theorem d_StringBuilder_init_da8c8_1 : decode prog_30_method_1_code 1 = .ok (.bipush 16, 2) := by decide +kernel
theorem d_StringBuilder_init_da8c8_3 : decode prog_30_method_1_code 3 = .ok (.invokespecial 1, 3) := by decide +kernel
theorem d_StringBuilder_init_da8c8_6 : decode prog_30_method_1_code 6 = .ok (.return_, 1) := by decide +kernel
theorem lj_StringBuilder_1 : LI "java/lang/StringBuilder" 1 1 m_AbstractStringBuilder_init_d00df := ⟨hd_AbstractStringBuilder_init_d00df, rfl, rfl, rfl, wg_1049, wg_1050, wg_27⟩
theorem d_AbstractStringBuilder_init_d00df_0 : decode prog_16_method_2_code 0 = .ok (.aload_n 0, 1) := by decide +kernel
theorem d_AbstractStringBuilder_init_d00df_1 : decode prog_16_method_2_code 1 = .ok (.invokespecial 3, 3) := by decide +kernel
theorem d_AbstractStringBuilder_init_d00df_4 : decode prog_16_method_2_code 4 = .ok (.getstatic 18, 3) := by decide +kernel
theorem d_AbstractStringBuilder_init_d00df_7 : decode prog_16_method_2_code 7 = .ok (.ifCond .eq 18, 3) := by decide +kernel
theorem d_AbstractStringBuilder_init_d00df_10 : decode prog_16_method_2_code 10 = .ok (.aload_n 0, 1) := by decide +kernel
theorem d_AbstractStringBuilder_init_d00df_11 : decode prog_16_method_2_code 11 = .ok (.iload_n 1, 1) := by decide +kernel
theorem d_AbstractStringBuilder_init_d00df_12 : decode prog_16_method_2_code 12 = .ok (.newarray .byte, 2) := by decide +kernel
theorem d_AbstractStringBuilder_init_d00df_14 : decode prog_16_method_2_code 14 = .ok (.putfield 15, 3) := by decide +kernel
theorem d_AbstractStringBuilder_init_d00df_17 : decode prog_16_method_2_code 17 = .ok (.aload_n 0, 1) := by decide +kernel
theorem d_AbstractStringBuilder_init_d00df_18 : decode prog_16_method_2_code 18 = .ok (.iconst 0, 1) := by decide +kernel
theorem d_AbstractStringBuilder_init_d00df_19 : decode prog_16_method_2_code 19 = .ok (.putfield 22, 3) := by decide +kernel
theorem d_AbstractStringBuilder_init_d00df_22 : decode prog_16_method_2_code 22 = .ok (.goto 16, 3) := by decide +kernel
theorem d_AbstractStringBuilder_init_d00df_25 : decode prog_16_method_2_code 25 = .ok (.aload_n 0, 1) := by decide +kernel
theorem d_AbstractStringBuilder_init_d00df_26 : decode prog_16_method_2_code 26 = .ok (.iload_n 1, 1) := by decide +kernel
theorem d_AbstractStringBuilder_init_d00df_27 : decode prog_16_method_2_code 27 = .ok (.invokestatic 26, 3) := by decide +kernel
theorem d_AbstractStringBuilder_init_d00df_30 : decode prog_16_method_2_code 30 = .ok (.putfield 15, 3) := by decide +kernel
theorem d_AbstractStringBuilder_init_d00df_33 : decode prog_16_method_2_code 33 = .ok (.aload_n 0, 1) := by decide +kernel
theorem d_AbstractStringBuilder_init_d00df_34 : decode prog_16_method_2_code 34 = .ok (.iconst 1, 1) := by decide +kernel
theorem d_AbstractStringBuilder_init_d00df_35 : decode prog_16_method_2_code 35 = .ok (.putfield 22, 3) := by decide +kernel
theorem d_AbstractStringBuilder_init_d00df_38 : decode prog_16_method_2_code 38 = .ok (.return_, 1) := by decide +kernel
theorem gj_AbstractStringBuilder_15_1 : FLg "java/lang/AbstractStringBuilder" 15 1 0 := ⟨_, _, _, _, "java/lang/AbstractStringBuilder", coC_1, by decide, wg_1061, Or.inl rfl⟩
theorem fj_AbstractStringBuilder_15_1 : FL "java/lang/AbstractStringBuilder" 15 1 0 false (tyJ4 0) := ⟨_, _, _, _, "java/lang/AbstractStringBuilder", coC_1, by decide, wg_1061, Or.inl rfl, rfl, (fun h => by cases h), rfl⟩
theorem gj_AbstractStringBuilder_22_1 : FLg "java/lang/AbstractStringBuilder" 22 1 1 := ⟨_, _, _, _, "java/lang/AbstractStringBuilder", coC_1, by decide, wg_1062, Or.inl rfl⟩
theorem fj_AbstractStringBuilder_22_1 : FL "java/lang/AbstractStringBuilder" 22 1 1 false (tyJ4 1) := ⟨_, _, _, _, "java/lang/AbstractStringBuilder", coC_1, by decide, wg_1062, Or.inl rfl, rfl, (fun h => by cases h), rfl⟩
theorem oj_AbstractStringBuilder_3 : Cond.methodLink "java/lang/AbstractStringBuilder" 3 objectInit ∈ lw_good := wg_1052
theorem d_StringBuilder_append_cf468_0 : decode prog_30_method_14_code 0 = .ok (.aload_n 0, 1) := by decide +kernel
theorem d_StringBuilder_append_cf468_1 : decode prog_30_method_14_code 1 = .ok (.iload_n 1, 1) := by decide +kernel
theorem d_StringBuilder_append_cf468_2 : decode prog_30_method_14_code 2 = .ok (.invokespecial 50, 3) := by decide +kernel
theorem d_StringBuilder_append_cf468_5 : decode prog_30_method_14_code 5 = .ok (.pop, 1) := by decide +kernel
theorem d_StringBuilder_append_cf468_6 : decode prog_30_method_14_code 6 = .ok (.aload_n 0, 1) := by decide +kernel
theorem d_StringBuilder_append_cf468_7 : decode prog_30_method_14_code 7 = .ok (.areturn, 1) := by decide +kernel
theorem lj_StringBuilder_50 : LSU "java/lang/StringBuilder" 50 1 m_AbstractStringBuilder_append_3fe6f := ⟨hd_AbstractStringBuilder_append_3fe6f, rfl, by decide, wg_1078, wg_2346, wg_1073, wg_1079, wg_27⟩
theorem d_AbstractStringBuilder_append_3fe6f_0 : decode prog_16_method_31_code 0 = .ok (.aload_n 0, 1) := by decide +kernel
theorem d_AbstractStringBuilder_append_3fe6f_1 : decode prog_16_method_31_code 1 = .ok (.aload_n 0, 1) := by decide +kernel
theorem d_AbstractStringBuilder_append_3fe6f_2 : decode prog_16_method_31_code 2 = .ok (.getfield 79, 3) := by decide +kernel
theorem d_AbstractStringBuilder_append_3fe6f_5 : decode prog_16_method_31_code 5 = .ok (.iconst 1, 1) := by decide +kernel
theorem d_AbstractStringBuilder_append_3fe6f_6 : decode prog_16_method_31_code 6 = .ok (.iadd, 1) := by decide +kernel
theorem d_AbstractStringBuilder_append_3fe6f_7 : decode prog_16_method_31_code 7 = .ok (.invokevirtual 100, 3) := by decide +kernel
theorem d_AbstractStringBuilder_append_3fe6f_10 : decode prog_16_method_31_code 10 = .ok (.aload_n 0, 1) := by decide +kernel
theorem d_AbstractStringBuilder_append_3fe6f_11 : decode prog_16_method_31_code 11 = .ok (.invokevirtual 83, 3) := by decide +kernel
theorem d_AbstractStringBuilder_append_3fe6f_14 : decode prog_16_method_31_code 14 = .ok (.ifCond .eq 31, 3) := by decide +kernel
theorem d_AbstractStringBuilder_append_3fe6f_17 : decode prog_16_method_31_code 17 = .ok (.iload_n 1, 1) := by decide +kernel
theorem d_AbstractStringBuilder_append_3fe6f_18 : decode prog_16_method_31_code 18 = .ok (.invokestatic 191, 3) := by decide +kernel
theorem d_AbstractStringBuilder_append_3fe6f_21 : decode prog_16_method_31_code 21 = .ok (.ifCond .eq 24, 3) := by decide +kernel
theorem d_AbstractStringBuilder_append_3fe6f_24 : decode prog_16_method_31_code 24 = .ok (.aload_n 0, 1) := by decide +kernel
theorem d_AbstractStringBuilder_append_3fe6f_25 : decode prog_16_method_31_code 25 = .ok (.getfield 15, 3) := by decide +kernel
theorem d_AbstractStringBuilder_append_3fe6f_28 : decode prog_16_method_31_code 28 = .ok (.aload_n 0, 1) := by decide +kernel
theorem d_AbstractStringBuilder_append_3fe6f_29 : decode prog_16_method_31_code 29 = .ok (.dup, 1) := by decide +kernel
theorem d_AbstractStringBuilder_append_3fe6f_30 : decode prog_16_method_31_code 30 = .ok (.getfield 79, 3) := by decide +kernel
theorem d_AbstractStringBuilder_append_3fe6f_33 : decode prog_16_method_31_code 33 = .ok (.dup_x1, 1) := by decide +kernel
theorem d_AbstractStringBuilder_append_3fe6f_34 : decode prog_16_method_31_code 34 = .ok (.iconst 1, 1) := by decide +kernel
theorem d_AbstractStringBuilder_append_3fe6f_35 : decode prog_16_method_31_code 35 = .ok (.iadd, 1) := by decide +kernel
theorem d_AbstractStringBuilder_append_3fe6f_36 : decode prog_16_method_31_code 36 = .ok (.putfield 79, 3) := by decide +kernel
theorem d_AbstractStringBuilder_append_3fe6f_39 : decode prog_16_method_31_code 39 = .ok (.iload_n 1, 1) := by decide +kernel
theorem d_AbstractStringBuilder_append_3fe6f_40 : decode prog_16_method_31_code 40 = .ok (.i2b, 1) := by decide +kernel
theorem d_AbstractStringBuilder_append_3fe6f_41 : decode prog_16_method_31_code 41 = .ok (.bastore, 1) := by decide +kernel
theorem d_AbstractStringBuilder_append_3fe6f_42 : decode prog_16_method_31_code 42 = .ok (.goto 33, 3) := by decide +kernel
theorem d_AbstractStringBuilder_append_3fe6f_45 : decode prog_16_method_31_code 45 = .ok (.aload_n 0, 1) := by decide +kernel
theorem d_AbstractStringBuilder_append_3fe6f_46 : decode prog_16_method_31_code 46 = .ok (.invokevirtual 83, 3) := by decide +kernel
theorem d_AbstractStringBuilder_append_3fe6f_49 : decode prog_16_method_31_code 49 = .ok (.ifCond .eq 7, 3) := by decide +kernel
theorem d_AbstractStringBuilder_append_3fe6f_52 : decode prog_16_method_31_code 52 = .ok (.aload_n 0, 1) := by decide +kernel
theorem d_AbstractStringBuilder_append_3fe6f_53 : decode prog_16_method_31_code 53 = .ok (.invokevirtual 195, 3) := by decide +kernel
theorem d_AbstractStringBuilder_append_3fe6f_56 : decode prog_16_method_31_code 56 = .ok (.aload_n 0, 1) := by decide +kernel
theorem d_AbstractStringBuilder_append_3fe6f_57 : decode prog_16_method_31_code 57 = .ok (.getfield 15, 3) := by decide +kernel
theorem d_AbstractStringBuilder_append_3fe6f_60 : decode prog_16_method_31_code 60 = .ok (.aload_n 0, 1) := by decide +kernel
theorem d_AbstractStringBuilder_append_3fe6f_61 : decode prog_16_method_31_code 61 = .ok (.dup, 1) := by decide +kernel
theorem d_AbstractStringBuilder_append_3fe6f_62 : decode prog_16_method_31_code 62 = .ok (.getfield 79, 3) := by decide +kernel
theorem d_AbstractStringBuilder_append_3fe6f_65 : decode prog_16_method_31_code 65 = .ok (.dup_x1, 1) := by decide +kernel
theorem d_AbstractStringBuilder_append_3fe6f_66 : decode prog_16_method_31_code 66 = .ok (.iconst 1, 1) := by decide +kernel
theorem d_AbstractStringBuilder_append_3fe6f_67 : decode prog_16_method_31_code 67 = .ok (.iadd, 1) := by decide +kernel
theorem d_AbstractStringBuilder_append_3fe6f_68 : decode prog_16_method_31_code 68 = .ok (.putfield 79, 3) := by decide +kernel
theorem d_AbstractStringBuilder_append_3fe6f_71 : decode prog_16_method_31_code 71 = .ok (.iload_n 1, 1) := by decide +kernel
theorem d_AbstractStringBuilder_append_3fe6f_72 : decode prog_16_method_31_code 72 = .ok (.invokestatic 197, 3) := by decide +kernel
theorem d_AbstractStringBuilder_append_3fe6f_75 : decode prog_16_method_31_code 75 = .ok (.aload_n 0, 1) := by decide +kernel
theorem d_AbstractStringBuilder_append_3fe6f_76 : decode prog_16_method_31_code 76 = .ok (.areturn, 1) := by decide +kernel
theorem gj_AbstractStringBuilder_79_1 : FLg "java/lang/AbstractStringBuilder" 79 1 3 := ⟨_, _, _, _, "java/lang/AbstractStringBuilder", coC_1, by decide, wg_1064, Or.inl rfl⟩
theorem fj_AbstractStringBuilder_79_1 : FL "java/lang/AbstractStringBuilder" 79 1 3 false (tyJ4 3) := ⟨_, _, _, _, "java/lang/AbstractStringBuilder", coC_1, by decide, wg_1064, Or.inl rfl, rfl, (fun h => by cases h), rfl⟩
theorem lj_AbstractStringBuilder_100_1 : LU "java/lang/AbstractStringBuilder" 100 1 1 m_AbstractStringBuilder_ensureCapacityInternal_d00df := ⟨hd_AbstractStringBuilder_ensureCapacityInternal_d00df, rfl, _, ⟨"java/lang/AbstractStringBuilder", "ensureCapacityInternal", "(I)V"⟩, rfl, rfl, wg_1081, wg_2347, wx_4, wg_1083, wg_27, by decide +kernel⟩
theorem lj_AbstractStringBuilder_83_1 : LU "java/lang/AbstractStringBuilder" 83 1 0 m_AbstractStringBuilder_isLatin1_aae02 := ⟨hd_AbstractStringBuilder_isLatin1_aae02, rfl, _, ⟨"java/lang/AbstractStringBuilder", "isLatin1", "()Z"⟩, rfl, rfl, wg_1112, wg_1114, wg_1115, wg_1113, wg_27, by decide +kernel⟩
theorem lj_AbstractStringBuilder_191 : m_StringLatin1_canEncode_fc78d.2.2.2.2 = [] ∧ LST "java/lang/AbstractStringBuilder" 191 1 m_StringLatin1_canEncode_fc78d := ⟨rfl, hd_StringLatin1_canEncode_fc78d, wg_1117, wg_1118, wg_14⟩
abbrev m_AbstractStringBuilder_inflate_da8c8 : MI := (⟨"java/lang/AbstractStringBuilder", "inflate", "()V"⟩, prog_16_method_11_code, 2, (Option.none : Option Jvm.ClassFile.FieldType), [])
theorem hd_AbstractStringBuilder_inflate_da8c8 : hd0 m_AbstractStringBuilder_inflate_da8c8 0 := hd0_of (by decide +kernel) (by decide +kernel) (by decide +kernel) rfl rfl wg_1123
theorem d_AbstractStringBuilder_ensureCapacityInternal_d00df_0 : decode prog_16_method_9_code 0 = .ok (.aload_n 0, 1) := by decide +kernel
theorem d_AbstractStringBuilder_ensureCapacityInternal_d00df_1 : decode prog_16_method_9_code 1 = .ok (.getfield 15, 3) := by decide +kernel
theorem d_AbstractStringBuilder_ensureCapacityInternal_d00df_4 : decode prog_16_method_9_code 4 = .ok (.arraylength, 1) := by decide +kernel
theorem d_AbstractStringBuilder_ensureCapacityInternal_d00df_5 : decode prog_16_method_9_code 5 = .ok (.aload_n 0, 1) := by decide +kernel
theorem d_AbstractStringBuilder_ensureCapacityInternal_d00df_6 : decode prog_16_method_9_code 6 = .ok (.getfield 22, 3) := by decide +kernel
theorem d_AbstractStringBuilder_ensureCapacityInternal_d00df_9 : decode prog_16_method_9_code 9 = .ok (.ishr, 1) := by decide +kernel
theorem d_AbstractStringBuilder_ensureCapacityInternal_d00df_10 : decode prog_16_method_9_code 10 = .ok (.istore_n 2, 1) := by decide +kernel
theorem d_AbstractStringBuilder_ensureCapacityInternal_d00df_11 : decode prog_16_method_9_code 11 = .ok (.iload_n 1, 1) := by decide +kernel
theorem d_AbstractStringBuilder_ensureCapacityInternal_d00df_12 : decode prog_16_method_9_code 12 = .ok (.iload_n 2, 1) := by decide +kernel
theorem d_AbstractStringBuilder_ensureCapacityInternal_d00df_13 : decode prog_16_method_9_code 13 = .ok (.isub, 1) := by decide +kernel
theorem d_AbstractStringBuilder_ensureCapacityInternal_d00df_14 : decode prog_16_method_9_code 14 = .ok (.ifCond .le 24, 3) := by decide +kernel
theorem d_AbstractStringBuilder_ensureCapacityInternal_d00df_17 : decode prog_16_method_9_code 17 = .ok (.aload_n 0, 1) := by decide +kernel
theorem d_AbstractStringBuilder_ensureCapacityInternal_d00df_18 : decode prog_16_method_9_code 18 = .ok (.aload_n 0, 1) := by decide +kernel
theorem d_AbstractStringBuilder_ensureCapacityInternal_d00df_19 : decode prog_16_method_9_code 19 = .ok (.getfield 15, 3) := by decide +kernel
theorem d_AbstractStringBuilder_ensureCapacityInternal_d00df_22 : decode prog_16_method_9_code 22 = .ok (.aload_n 0, 1) := by decide +kernel
theorem d_AbstractStringBuilder_ensureCapacityInternal_d00df_23 : decode prog_16_method_9_code 23 = .ok (.iload_n 1, 1) := by decide +kernel
theorem d_AbstractStringBuilder_ensureCapacityInternal_d00df_24 : decode prog_16_method_9_code 24 = .ok (.invokevirtual 104, 3) := by decide +kernel
theorem d_AbstractStringBuilder_ensureCapacityInternal_d00df_27 : decode prog_16_method_9_code 27 = .ok (.aload_n 0, 1) := by decide +kernel
theorem d_AbstractStringBuilder_ensureCapacityInternal_d00df_28 : decode prog_16_method_9_code 28 = .ok (.getfield 22, 3) := by decide +kernel
theorem d_AbstractStringBuilder_ensureCapacityInternal_d00df_31 : decode prog_16_method_9_code 31 = .ok (.ishl, 1) := by decide +kernel
theorem d_AbstractStringBuilder_ensureCapacityInternal_d00df_32 : decode prog_16_method_9_code 32 = .ok (.invokestatic 108, 3) := by decide +kernel
theorem d_AbstractStringBuilder_ensureCapacityInternal_d00df_35 : decode prog_16_method_9_code 35 = .ok (.putfield 15, 3) := by decide +kernel
theorem d_AbstractStringBuilder_ensureCapacityInternal_d00df_38 : decode prog_16_method_9_code 38 = .ok (.return_, 1) := by decide +kernel
theorem lj_AbstractStringBuilder_104_1 : LU "java/lang/AbstractStringBuilder" 104 1 1 m_AbstractStringBuilder_newCapacity_0f7a4 := ⟨hd_AbstractStringBuilder_newCapacity_0f7a4, rfl, _, ⟨"java/lang/AbstractStringBuilder", "newCapacity", "(I)I"⟩, rfl, rfl, wg_1085, wg_2348, wx_5, wg_1087, wg_27, by decide +kernel⟩
theorem lj_AbstractStringBuilder_108 : m_Arrays_copyOf_9075b.2.2.2.2 = [] ∧ LST "java/lang/AbstractStringBuilder" 108 2 m_Arrays_copyOf_9075b := ⟨rfl, hd_Arrays_copyOf_9075b, wg_1100, wg_1101, wg_30⟩
theorem d_AbstractStringBuilder_newCapacity_0f7a4_0 : decode prog_16_method_10_code 0 = .ok (.aload_n 0, 1) := by decide +kernel
theorem d_AbstractStringBuilder_newCapacity_0f7a4_1 : decode prog_16_method_10_code 1 = .ok (.getfield 15, 3) := by decide +kernel
theorem d_AbstractStringBuilder_newCapacity_0f7a4_4 : decode prog_16_method_10_code 4 = .ok (.arraylength, 1) := by decide +kernel
theorem d_AbstractStringBuilder_newCapacity_0f7a4_5 : decode prog_16_method_10_code 5 = .ok (.istore_n 2, 1) := by decide +kernel
theorem d_AbstractStringBuilder_newCapacity_0f7a4_6 : decode prog_16_method_10_code 6 = .ok (.iload_n 1, 1) := by decide +kernel
theorem d_AbstractStringBuilder_newCapacity_0f7a4_7 : decode prog_16_method_10_code 7 = .ok (.aload_n 0, 1) := by decide +kernel
theorem d_AbstractStringBuilder_newCapacity_0f7a4_8 : decode prog_16_method_10_code 8 = .ok (.getfield 22, 3) := by decide +kernel
theorem d_AbstractStringBuilder_newCapacity_0f7a4_11 : decode prog_16_method_10_code 11 = .ok (.ishl, 1) := by decide +kernel
theorem d_AbstractStringBuilder_newCapacity_0f7a4_12 : decode prog_16_method_10_code 12 = .ok (.istore_n 3, 1) := by decide +kernel
theorem d_AbstractStringBuilder_newCapacity_0f7a4_13 : decode prog_16_method_10_code 13 = .ok (.iload_n 3, 1) := by decide +kernel
theorem d_AbstractStringBuilder_newCapacity_0f7a4_14 : decode prog_16_method_10_code 14 = .ok (.iload_n 2, 1) := by decide +kernel
theorem d_AbstractStringBuilder_newCapacity_0f7a4_15 : decode prog_16_method_10_code 15 = .ok (.isub, 1) := by decide +kernel
theorem d_AbstractStringBuilder_newCapacity_0f7a4_16 : decode prog_16_method_10_code 16 = .ok (.istore 4, 2) := by decide +kernel
theorem d_AbstractStringBuilder_newCapacity_0f7a4_18 : decode prog_16_method_10_code 18 = .ok (.iload_n 2, 1) := by decide +kernel
theorem d_AbstractStringBuilder_newCapacity_0f7a4_19 : decode prog_16_method_10_code 19 = .ok (.iload 4, 2) := by decide +kernel
theorem d_AbstractStringBuilder_newCapacity_0f7a4_21 : decode prog_16_method_10_code 21 = .ok (.iload_n 2, 1) := by decide +kernel
theorem d_AbstractStringBuilder_newCapacity_0f7a4_22 : decode prog_16_method_10_code 22 = .ok (.iconst 2, 1) := by decide +kernel
theorem d_AbstractStringBuilder_newCapacity_0f7a4_23 : decode prog_16_method_10_code 23 = .ok (.aload_n 0, 1) := by decide +kernel
theorem d_AbstractStringBuilder_newCapacity_0f7a4_24 : decode prog_16_method_10_code 24 = .ok (.getfield 22, 3) := by decide +kernel
theorem d_AbstractStringBuilder_newCapacity_0f7a4_27 : decode prog_16_method_10_code 27 = .ok (.ishl, 1) := by decide +kernel
theorem d_AbstractStringBuilder_newCapacity_0f7a4_28 : decode prog_16_method_10_code 28 = .ok (.iadd, 1) := by decide +kernel
theorem d_AbstractStringBuilder_newCapacity_0f7a4_29 : decode prog_16_method_10_code 29 = .ok (.invokestatic 114, 3) := by decide +kernel
theorem d_AbstractStringBuilder_newCapacity_0f7a4_32 : decode prog_16_method_10_code 32 = .ok (.istore 5, 2) := by decide +kernel
theorem d_AbstractStringBuilder_newCapacity_0f7a4_34 : decode prog_16_method_10_code 34 = .ok (.iload 5, 2) := by decide +kernel
theorem d_AbstractStringBuilder_newCapacity_0f7a4_36 : decode prog_16_method_10_code 36 = .ok (.ldc 39, 2) := by decide +kernel
theorem d_AbstractStringBuilder_newCapacity_0f7a4_38 : decode prog_16_method_10_code 38 = .ok (.if_icmp .ne 13, 3) := by decide +kernel
theorem d_AbstractStringBuilder_newCapacity_0f7a4_41 : decode prog_16_method_10_code 41 = .ok (.new 120, 3) := by decide +kernel
theorem d_AbstractStringBuilder_newCapacity_0f7a4_44 : decode prog_16_method_10_code 44 = .ok (.dup, 1) := by decide +kernel
theorem d_AbstractStringBuilder_newCapacity_0f7a4_45 : decode prog_16_method_10_code 45 = .ok (.ldc 122, 2) := by decide +kernel
theorem d_AbstractStringBuilder_newCapacity_0f7a4_47 : decode prog_16_method_10_code 47 = .ok (.invokespecial 124, 3) := by decide +kernel
theorem d_AbstractStringBuilder_newCapacity_0f7a4_50 : decode prog_16_method_10_code 50 = .ok (.athrow, 1) := by decide +kernel
theorem d_AbstractStringBuilder_newCapacity_0f7a4_51 : decode prog_16_method_10_code 51 = .ok (.iload 5, 2) := by decide +kernel
theorem d_AbstractStringBuilder_newCapacity_0f7a4_53 : decode prog_16_method_10_code 53 = .ok (.aload_n 0, 1) := by decide +kernel
theorem d_AbstractStringBuilder_newCapacity_0f7a4_54 : decode prog_16_method_10_code 54 = .ok (.getfield 22, 3) := by decide +kernel
theorem d_AbstractStringBuilder_newCapacity_0f7a4_57 : decode prog_16_method_10_code 57 = .ok (.ishr, 1) := by decide +kernel
theorem d_AbstractStringBuilder_newCapacity_0f7a4_58 : decode prog_16_method_10_code 58 = .ok (.ireturn, 1) := by decide +kernel
theorem lj_AbstractStringBuilder_114 : m_ArraysSupport_newLength_cabcc.2.2.2.2 = [] ∧ LST "java/lang/AbstractStringBuilder" 114 3 m_ArraysSupport_newLength_cabcc := ⟨rfl, hd_ArraysSupport_newLength_cabcc, wg_1089, wg_1090, wg_29⟩
theorem d_ArraysSupport_newLength_cabcc_0 : decode prog_39_method_27_code 0 = .ok (.iload_n 0, 1) := by decide +kernel
theorem d_ArraysSupport_newLength_cabcc_1 : decode prog_39_method_27_code 1 = .ok (.iload_n 1, 1) := by decide +kernel
theorem d_ArraysSupport_newLength_cabcc_2 : decode prog_39_method_27_code 2 = .ok (.iload_n 2, 1) := by decide +kernel
theorem d_ArraysSupport_newLength_cabcc_3 : decode prog_39_method_27_code 3 = .ok (.invokestatic 194, 3) := by decide +kernel
theorem d_ArraysSupport_newLength_cabcc_6 : decode prog_39_method_27_code 6 = .ok (.iadd, 1) := by decide +kernel
theorem d_ArraysSupport_newLength_cabcc_7 : decode prog_39_method_27_code 7 = .ok (.istore_n 3, 1) := by decide +kernel
theorem d_ArraysSupport_newLength_cabcc_8 : decode prog_39_method_27_code 8 = .ok (.iconst 0, 1) := by decide +kernel
theorem d_ArraysSupport_newLength_cabcc_9 : decode prog_39_method_27_code 9 = .ok (.iload_n 3, 1) := by decide +kernel
theorem d_ArraysSupport_newLength_cabcc_10 : decode prog_39_method_27_code 10 = .ok (.if_icmp .ge 11, 3) := by decide +kernel
theorem d_ArraysSupport_newLength_cabcc_13 : decode prog_39_method_27_code 13 = .ok (.iload_n 3, 1) := by decide +kernel
theorem d_ArraysSupport_newLength_cabcc_14 : decode prog_39_method_27_code 14 = .ok (.ldc 200, 2) := by decide +kernel
theorem d_ArraysSupport_newLength_cabcc_16 : decode prog_39_method_27_code 16 = .ok (.if_icmp .gt 5, 3) := by decide +kernel
theorem d_ArraysSupport_newLength_cabcc_19 : decode prog_39_method_27_code 19 = .ok (.iload_n 3, 1) := by decide +kernel
theorem d_ArraysSupport_newLength_cabcc_20 : decode prog_39_method_27_code 20 = .ok (.ireturn, 1) := by decide +kernel
theorem d_ArraysSupport_newLength_cabcc_21 : decode prog_39_method_27_code 21 = .ok (.iload_n 0, 1) := by decide +kernel
theorem d_ArraysSupport_newLength_cabcc_22 : decode prog_39_method_27_code 22 = .ok (.iload_n 1, 1) := by decide +kernel
theorem d_ArraysSupport_newLength_cabcc_23 : decode prog_39_method_27_code 23 = .ok (.invokestatic 201, 3) := by decide +kernel
theorem d_ArraysSupport_newLength_cabcc_26 : decode prog_39_method_27_code 26 = .ok (.ireturn, 1) := by decide +kernel
theorem lj_ArraysSupport_194 : Cond.methodLink "jdk/internal/util/ArraysSupport" 194 Lib.Math.max.name ∈ lw_good ∧ Cond.static Lib.Math.max.name ∈ lw_good ∧ Cond.initialized "java/lang/Math" ∈ lw_good ∧ Cond.code Lib.Math.max.name Lib.Math.max.code 2 (some .int) ∈ lw_good := ⟨wg_1092, wg_1093, wg_17, wg_1094⟩
abbrev m_ArraysSupport_hugeLength_7cf53 : MI := (⟨"jdk/internal/util/ArraysSupport", "hugeLength", "(II)I"⟩, prog_39_method_28_code, 3, (Option.some Jvm.ClassFile.FieldType.int), [])
theorem hd_ArraysSupport_hugeLength_7cf53 : hd0 m_ArraysSupport_hugeLength_7cf53 2 := hd0_of (by decide +kernel) (by decide +kernel) (by decide +kernel) rfl rfl wg_1098
theorem lj_ArraysSupport_201 : m_ArraysSupport_hugeLength_7cf53.2.2.2.2 = [] ∧ LST "jdk/internal/util/ArraysSupport" 201 2 m_ArraysSupport_hugeLength_7cf53 := ⟨rfl, hd_ArraysSupport_hugeLength_7cf53, wg_1096, wg_1097, wg_29⟩
theorem d_Arrays_copyOf_9075b_0 : decode prog_37_method_121_code 0 = .ok (.iload_n 1, 1) := by decide +kernel
theorem d_Arrays_copyOf_9075b_1 : decode prog_37_method_121_code 1 = .ok (.aload_n 0, 1) := by decide +kernel
theorem d_Arrays_copyOf_9075b_2 : decode prog_37_method_121_code 2 = .ok (.arraylength, 1) := by decide +kernel
theorem d_Arrays_copyOf_9075b_3 : decode prog_37_method_121_code 3 = .ok (.if_icmp .ne 11, 3) := by decide +kernel
theorem d_Arrays_copyOf_9075b_6 : decode prog_37_method_121_code 6 = .ok (.aload_n 0, 1) := by decide +kernel
theorem d_Arrays_copyOf_9075b_7 : decode prog_37_method_121_code 7 = .ok (.invokevirtual 310, 3) := by decide +kernel
theorem d_Arrays_copyOf_9075b_10 : decode prog_37_method_121_code 10 = .ok (.checkcast 311, 3) := by decide +kernel
theorem d_Arrays_copyOf_9075b_13 : decode prog_37_method_121_code 13 = .ok (.areturn, 1) := by decide +kernel
theorem d_Arrays_copyOf_9075b_14 : decode prog_37_method_121_code 14 = .ok (.iload_n 1, 1) := by decide +kernel
theorem d_Arrays_copyOf_9075b_15 : decode prog_37_method_121_code 15 = .ok (.newarray .byte, 2) := by decide +kernel
theorem d_Arrays_copyOf_9075b_17 : decode prog_37_method_121_code 17 = .ok (.astore_n 2, 1) := by decide +kernel
theorem d_Arrays_copyOf_9075b_18 : decode prog_37_method_121_code 18 = .ok (.aload_n 0, 1) := by decide +kernel
theorem d_Arrays_copyOf_9075b_19 : decode prog_37_method_121_code 19 = .ok (.iconst 0, 1) := by decide +kernel
theorem d_Arrays_copyOf_9075b_20 : decode prog_37_method_121_code 20 = .ok (.aload_n 2, 1) := by decide +kernel
theorem d_Arrays_copyOf_9075b_21 : decode prog_37_method_121_code 21 = .ok (.iconst 0, 1) := by decide +kernel
theorem d_Arrays_copyOf_9075b_22 : decode prog_37_method_121_code 22 = .ok (.aload_n 0, 1) := by decide +kernel
theorem d_Arrays_copyOf_9075b_23 : decode prog_37_method_121_code 23 = .ok (.arraylength, 1) := by decide +kernel
theorem d_Arrays_copyOf_9075b_24 : decode prog_37_method_121_code 24 = .ok (.iload_n 1, 1) := by decide +kernel
theorem d_Arrays_copyOf_9075b_25 : decode prog_37_method_121_code 25 = .ok (.invokestatic 304, 3) := by decide +kernel
theorem d_Arrays_copyOf_9075b_28 : decode prog_37_method_121_code 28 = .ok (.invokestatic 150, 3) := by decide +kernel
theorem d_Arrays_copyOf_9075b_31 : decode prog_37_method_121_code 31 = .ok (.aload_n 2, 1) := by decide +kernel
theorem d_Arrays_copyOf_9075b_32 : decode prog_37_method_121_code 32 = .ok (.areturn, 1) := by decide +kernel
theorem lj_Arrays_304 : Cond.methodLink "java/util/Arrays" 304 Lib.Math.min.name ∈ lw_good ∧ Cond.static Lib.Math.min.name ∈ lw_good ∧ Cond.initialized "java/lang/Math" ∈ lw_good ∧ Cond.code Lib.Math.min.name Lib.Math.min.code 2 (some .int) ∈ lw_good := ⟨wg_1110, wg_536, wg_17, wg_537⟩
theorem lj_Arrays_150 : Cond.methodLink "java/util/Arrays" 150 arraycopyName ∈ lw_good ∧ Cond.native arraycopyName ∈ lw_good ∧ Cond.static arraycopyName ∈ lw_good ∧ Cond.initialized "java/lang/System" ∈ lw_good := ⟨wg_1111, wg_786, wg_785, wg_24⟩
theorem d_AbstractStringBuilder_isLatin1_aae02_0 : decode prog_16_method_68_code 0 = .ok (.getstatic 18, 3) := by decide +kernel
theorem d_AbstractStringBuilder_isLatin1_aae02_3 : decode prog_16_method_68_code 3 = .ok (.ifCond .eq 14, 3) := by decide +kernel
theorem d_AbstractStringBuilder_isLatin1_aae02_6 : decode prog_16_method_68_code 6 = .ok (.aload_n 0, 1) := by decide +kernel
theorem d_AbstractStringBuilder_isLatin1_aae02_7 : decode prog_16_method_68_code 7 = .ok (.getfield 22, 3) := by decide +kernel
theorem d_AbstractStringBuilder_isLatin1_aae02_10 : decode prog_16_method_68_code 10 = .ok (.ifCond .ne 7, 3) := by decide +kernel
theorem d_AbstractStringBuilder_isLatin1_aae02_13 : decode prog_16_method_68_code 13 = .ok (.iconst 1, 1) := by decide +kernel
theorem d_AbstractStringBuilder_isLatin1_aae02_14 : decode prog_16_method_68_code 14 = .ok (.goto 4, 3) := by decide +kernel
theorem d_AbstractStringBuilder_isLatin1_aae02_17 : decode prog_16_method_68_code 17 = .ok (.iconst 0, 1) := by decide +kernel
theorem d_AbstractStringBuilder_isLatin1_aae02_18 : decode prog_16_method_68_code 18 = .ok (.ireturn, 1) := by decide +kernel
theorem d_StringLatin1_canEncode_fc78d_0 : decode prog_31_method_3_code 0 = .ok (.iload_n 0, 1) := by decide +kernel
theorem d_StringLatin1_canEncode_fc78d_1 : decode prog_31_method_3_code 1 = .ok (.sipush 255, 3) := by decide +kernel
theorem d_StringLatin1_canEncode_fc78d_4 : decode prog_31_method_3_code 4 = .ok (.if_icmp .gt 7, 3) := by decide +kernel
theorem d_StringLatin1_canEncode_fc78d_7 : decode prog_31_method_3_code 7 = .ok (.iconst 1, 1) := by decide +kernel
theorem d_StringLatin1_canEncode_fc78d_8 : decode prog_31_method_3_code 8 = .ok (.goto 4, 3) := by decide +kernel
theorem d_StringLatin1_canEncode_fc78d_11 : decode prog_31_method_3_code 11 = .ok (.iconst 0, 1) := by decide +kernel
theorem d_StringLatin1_canEncode_fc78d_12 : decode prog_31_method_3_code 12 = .ok (.ireturn, 1) := by decide +kernel
theorem d_StringBuilder_append_bf812_0 : decode prog_30_method_15_code 0 = .ok (.aload_n 0, 1) := by decide +kernel
theorem d_StringBuilder_append_bf812_1 : decode prog_30_method_15_code 1 = .ok (.iload_n 1, 1) := by decide +kernel
theorem d_StringBuilder_append_bf812_2 : decode prog_30_method_15_code 2 = .ok (.invokespecial 53, 3) := by decide +kernel
theorem d_StringBuilder_append_bf812_5 : decode prog_30_method_15_code 5 = .ok (.pop, 1) := by decide +kernel
theorem d_StringBuilder_append_bf812_6 : decode prog_30_method_15_code 6 = .ok (.aload_n 0, 1) := by decide +kernel
theorem d_StringBuilder_append_bf812_7 : decode prog_30_method_15_code 7 = .ok (.areturn, 1) := by decide +kernel
theorem lj_StringBuilder_53 : LSU "java/lang/StringBuilder" 53 1 m_AbstractStringBuilder_append_c97b9 := ⟨hd_AbstractStringBuilder_append_c97b9, rfl, by decide, wg_1150, wg_2350, wg_1073, wg_1151, wg_27⟩
theorem d_AbstractStringBuilder_append_c97b9_0 : decode prog_16_method_32_code 0 = .ok (.aload_n 0, 1) := by decide +kernel
theorem d_AbstractStringBuilder_append_c97b9_1 : decode prog_16_method_32_code 1 = .ok (.getfield 79, 3) := by decide +kernel
theorem d_AbstractStringBuilder_append_c97b9_4 : decode prog_16_method_32_code 4 = .ok (.istore_n 2, 1) := by decide +kernel
theorem d_AbstractStringBuilder_append_c97b9_5 : decode prog_16_method_32_code 5 = .ok (.iload_n 2, 1) := by decide +kernel
theorem d_AbstractStringBuilder_append_c97b9_6 : decode prog_16_method_32_code 6 = .ok (.iload_n 1, 1) := by decide +kernel
theorem d_AbstractStringBuilder_append_c97b9_7 : decode prog_16_method_32_code 7 = .ok (.invokestatic 245, 3) := by decide +kernel
theorem d_AbstractStringBuilder_append_c97b9_10 : decode prog_16_method_32_code 10 = .ok (.iadd, 1) := by decide +kernel
theorem d_AbstractStringBuilder_append_c97b9_11 : decode prog_16_method_32_code 11 = .ok (.istore_n 3, 1) := by decide +kernel
theorem d_AbstractStringBuilder_append_c97b9_12 : decode prog_16_method_32_code 12 = .ok (.aload_n 0, 1) := by decide +kernel
theorem d_AbstractStringBuilder_append_c97b9_13 : decode prog_16_method_32_code 13 = .ok (.iload_n 3, 1) := by decide +kernel
theorem d_AbstractStringBuilder_append_c97b9_14 : decode prog_16_method_32_code 14 = .ok (.invokevirtual 100, 3) := by decide +kernel
theorem d_AbstractStringBuilder_append_c97b9_17 : decode prog_16_method_32_code 17 = .ok (.aload_n 0, 1) := by decide +kernel
theorem d_AbstractStringBuilder_append_c97b9_18 : decode prog_16_method_32_code 18 = .ok (.invokevirtual 83, 3) := by decide +kernel
theorem d_AbstractStringBuilder_append_c97b9_21 : decode prog_16_method_32_code 21 = .ok (.ifCond .eq 16, 3) := by decide +kernel
theorem d_AbstractStringBuilder_append_c97b9_24 : decode prog_16_method_32_code 24 = .ok (.iload_n 1, 1) := by decide +kernel
theorem d_AbstractStringBuilder_append_c97b9_25 : decode prog_16_method_32_code 25 = .ok (.iload_n 3, 1) := by decide +kernel
theorem d_AbstractStringBuilder_append_c97b9_26 : decode prog_16_method_32_code 26 = .ok (.aload_n 0, 1) := by decide +kernel
theorem d_AbstractStringBuilder_append_c97b9_27 : decode prog_16_method_32_code 27 = .ok (.getfield 15, 3) := by decide +kernel
theorem d_AbstractStringBuilder_append_c97b9_30 : decode prog_16_method_32_code 30 = .ok (.invokestatic 248, 3) := by decide +kernel
theorem d_AbstractStringBuilder_append_c97b9_33 : decode prog_16_method_32_code 33 = .ok (.pop, 1) := by decide +kernel
theorem d_AbstractStringBuilder_append_c97b9_34 : decode prog_16_method_32_code 34 = .ok (.goto 14, 3) := by decide +kernel
theorem d_AbstractStringBuilder_append_c97b9_37 : decode prog_16_method_32_code 37 = .ok (.iload_n 1, 1) := by decide +kernel
theorem d_AbstractStringBuilder_append_c97b9_38 : decode prog_16_method_32_code 38 = .ok (.iload_n 2, 1) := by decide +kernel
theorem d_AbstractStringBuilder_append_c97b9_39 : decode prog_16_method_32_code 39 = .ok (.iload_n 3, 1) := by decide +kernel
theorem d_AbstractStringBuilder_append_c97b9_40 : decode prog_16_method_32_code 40 = .ok (.aload_n 0, 1) := by decide +kernel
theorem d_AbstractStringBuilder_append_c97b9_41 : decode prog_16_method_32_code 41 = .ok (.getfield 15, 3) := by decide +kernel
theorem d_AbstractStringBuilder_append_c97b9_44 : decode prog_16_method_32_code 44 = .ok (.invokestatic 251, 3) := by decide +kernel
theorem d_AbstractStringBuilder_append_c97b9_47 : decode prog_16_method_32_code 47 = .ok (.pop, 1) := by decide +kernel
theorem d_AbstractStringBuilder_append_c97b9_48 : decode prog_16_method_32_code 48 = .ok (.aload_n 0, 1) := by decide +kernel
theorem d_AbstractStringBuilder_append_c97b9_49 : decode prog_16_method_32_code 49 = .ok (.iload_n 3, 1) := by decide +kernel
theorem d_AbstractStringBuilder_append_c97b9_50 : decode prog_16_method_32_code 50 = .ok (.putfield 79, 3) := by decide +kernel
theorem d_AbstractStringBuilder_append_c97b9_53 : decode prog_16_method_32_code 53 = .ok (.aload_n 0, 1) := by decide +kernel
theorem d_AbstractStringBuilder_append_c97b9_54 : decode prog_16_method_32_code 54 = .ok (.areturn, 1) := by decide +kernel
theorem lj_AbstractStringBuilder_245 : m_Integer_stringSize_0f7a4.2.2.2.2 = [] ∧ LST "java/lang/AbstractStringBuilder" 245 1 m_Integer_stringSize_0f7a4 := ⟨rfl, hd_Integer_stringSize_0f7a4, wg_1153, wg_1154, wg_32⟩
theorem lj_AbstractStringBuilder_248 : m_Integer_getChars_ba4f3.2.2.2.2 = [] ∧ LST "java/lang/AbstractStringBuilder" 248 3 m_Integer_getChars_ba4f3 := ⟨rfl, hd_Integer_getChars_ba4f3, wg_1156, wg_1157, wg_32⟩
theorem d_Integer_stringSize_0f7a4_0 : decode prog_25_method_13_code 0 = .ok (.iconst 1, 1) := by decide +kernel
theorem d_Integer_stringSize_0f7a4_1 : decode prog_25_method_13_code 1 = .ok (.istore_n 1, 1) := by decide +kernel
theorem d_Integer_stringSize_0f7a4_2 : decode prog_25_method_13_code 2 = .ok (.iload_n 0, 1) := by decide +kernel
theorem d_Integer_stringSize_0f7a4_3 : decode prog_25_method_13_code 3 = .ok (.ifCond .lt 8, 3) := by decide +kernel
theorem d_Integer_stringSize_0f7a4_6 : decode prog_25_method_13_code 6 = .ok (.iconst 0, 1) := by decide +kernel
theorem d_Integer_stringSize_0f7a4_7 : decode prog_25_method_13_code 7 = .ok (.istore_n 1, 1) := by decide +kernel
theorem d_Integer_stringSize_0f7a4_8 : decode prog_25_method_13_code 8 = .ok (.iload_n 0, 1) := by decide +kernel
theorem d_Integer_stringSize_0f7a4_9 : decode prog_25_method_13_code 9 = .ok (.ineg, 1) := by decide +kernel
theorem d_Integer_stringSize_0f7a4_10 : decode prog_25_method_13_code 10 = .ok (.istore_n 0, 1) := by decide +kernel
theorem d_Integer_stringSize_0f7a4_11 : decode prog_25_method_13_code 11 = .ok (.bipush (-10), 2) := by decide +kernel
theorem d_Integer_stringSize_0f7a4_13 : decode prog_25_method_13_code 13 = .ok (.istore_n 2, 1) := by decide +kernel
theorem d_Integer_stringSize_0f7a4_14 : decode prog_25_method_13_code 14 = .ok (.iconst 1, 1) := by decide +kernel
theorem d_Integer_stringSize_0f7a4_15 : decode prog_25_method_13_code 15 = .ok (.istore_n 3, 1) := by decide +kernel
theorem d_Integer_stringSize_0f7a4_16 : decode prog_25_method_13_code 16 = .ok (.iload_n 3, 1) := by decide +kernel
theorem d_Integer_stringSize_0f7a4_17 : decode prog_25_method_13_code 17 = .ok (.bipush 10, 2) := by decide +kernel
theorem d_Integer_stringSize_0f7a4_19 : decode prog_25_method_13_code 19 = .ok (.if_icmp .ge 23, 3) := by decide +kernel
theorem d_Integer_stringSize_0f7a4_22 : decode prog_25_method_13_code 22 = .ok (.iload_n 0, 1) := by decide +kernel
theorem d_Integer_stringSize_0f7a4_23 : decode prog_25_method_13_code 23 = .ok (.iload_n 2, 1) := by decide +kernel
theorem d_Integer_stringSize_0f7a4_24 : decode prog_25_method_13_code 24 = .ok (.if_icmp .le 7, 3) := by decide +kernel
theorem d_Integer_stringSize_0f7a4_27 : decode prog_25_method_13_code 27 = .ok (.iload_n 3, 1) := by decide +kernel
theorem d_Integer_stringSize_0f7a4_28 : decode prog_25_method_13_code 28 = .ok (.iload_n 1, 1) := by decide +kernel
theorem d_Integer_stringSize_0f7a4_29 : decode prog_25_method_13_code 29 = .ok (.iadd, 1) := by decide +kernel
theorem d_Integer_stringSize_0f7a4_30 : decode prog_25_method_13_code 30 = .ok (.ireturn, 1) := by decide +kernel
theorem d_Integer_stringSize_0f7a4_31 : decode prog_25_method_13_code 31 = .ok (.bipush 10, 2) := by decide +kernel
theorem d_Integer_stringSize_0f7a4_33 : decode prog_25_method_13_code 33 = .ok (.iload_n 2, 1) := by decide +kernel
theorem d_Integer_stringSize_0f7a4_34 : decode prog_25_method_13_code 34 = .ok (.imul, 1) := by decide +kernel
theorem d_Integer_stringSize_0f7a4_35 : decode prog_25_method_13_code 35 = .ok (.istore_n 2, 1) := by decide +kernel
theorem d_Integer_stringSize_0f7a4_36 : decode prog_25_method_13_code 36 = .ok (.iinc 3 1, 3) := by decide +kernel
theorem d_Integer_stringSize_0f7a4_39 : decode prog_25_method_13_code 39 = .ok (.goto (-23), 3) := by decide +kernel
theorem d_Integer_stringSize_0f7a4_42 : decode prog_25_method_13_code 42 = .ok (.bipush 10, 2) := by decide +kernel
theorem d_Integer_stringSize_0f7a4_44 : decode prog_25_method_13_code 44 = .ok (.iload_n 1, 1) := by decide +kernel
theorem d_Integer_stringSize_0f7a4_45 : decode prog_25_method_13_code 45 = .ok (.iadd, 1) := by decide +kernel
theorem d_Integer_stringSize_0f7a4_46 : decode prog_25_method_13_code 46 = .ok (.ireturn, 1) := by decide +kernel
theorem d_Integer_getChars_ba4f3_0 : decode prog_25_method_12_code 0 = .ok (.iload_n 1, 1) := by decide +kernel
theorem d_Integer_getChars_ba4f3_1 : decode prog_25_method_12_code 1 = .ok (.istore 5, 2) := by decide +kernel
theorem d_Integer_getChars_ba4f3_3 : decode prog_25_method_12_code 3 = .ok (.iload_n 0, 1) := by decide +kernel
theorem d_Integer_getChars_ba4f3_4 : decode prog_25_method_12_code 4 = .ok (.ifCond .ge 7, 3) := by decide +kernel
theorem d_Integer_getChars_ba4f3_7 : decode prog_25_method_12_code 7 = .ok (.iconst 1, 1) := by decide +kernel
theorem d_Integer_getChars_ba4f3_8 : decode prog_25_method_12_code 8 = .ok (.goto 4, 3) := by decide +kernel
theorem d_Integer_getChars_ba4f3_11 : decode prog_25_method_12_code 11 = .ok (.iconst 0, 1) := by decide +kernel
theorem d_Integer_getChars_ba4f3_12 : decode prog_25_method_12_code 12 = .ok (.istore 6, 2) := by decide +kernel
theorem d_Integer_getChars_ba4f3_14 : decode prog_25_method_12_code 14 = .ok (.iload 6, 2) := by decide +kernel
theorem d_Integer_getChars_ba4f3_16 : decode prog_25_method_12_code 16 = .ok (.ifCond .ne 6, 3) := by decide +kernel
theorem d_Integer_getChars_ba4f3_19 : decode prog_25_method_12_code 19 = .ok (.iload_n 0, 1) := by decide +kernel
theorem d_Integer_getChars_ba4f3_20 : decode prog_25_method_12_code 20 = .ok (.ineg, 1) := by decide +kernel
theorem d_Integer_getChars_ba4f3_21 : decode prog_25_method_12_code 21 = .ok (.istore_n 0, 1) := by decide +kernel
theorem d_Integer_getChars_ba4f3_22 : decode prog_25_method_12_code 22 = .ok (.iload_n 0, 1) := by decide +kernel
theorem d_Integer_getChars_ba4f3_23 : decode prog_25_method_12_code 23 = .ok (.bipush (-100), 2) := by decide +kernel
theorem d_Integer_getChars_ba4f3_25 : decode prog_25_method_12_code 25 = .ok (.if_icmp .gt 47, 3) := by decide +kernel
theorem d_Integer_getChars_ba4f3_28 : decode prog_25_method_12_code 28 = .ok (.iload_n 0, 1) := by decide +kernel
theorem d_Integer_getChars_ba4f3_29 : decode prog_25_method_12_code 29 = .ok (.bipush 100, 2) := by decide +kernel
theorem d_Integer_getChars_ba4f3_31 : decode prog_25_method_12_code 31 = .ok (.idiv, 1) := by decide +kernel
theorem d_Integer_getChars_ba4f3_32 : decode prog_25_method_12_code 32 = .ok (.istore_n 3, 1) := by decide +kernel
theorem d_Integer_getChars_ba4f3_33 : decode prog_25_method_12_code 33 = .ok (.iload_n 3, 1) := by decide +kernel
theorem d_Integer_getChars_ba4f3_34 : decode prog_25_method_12_code 34 = .ok (.bipush 100, 2) := by decide +kernel
theorem d_Integer_getChars_ba4f3_36 : decode prog_25_method_12_code 36 = .ok (.imul, 1) := by decide +kernel
theorem d_Integer_getChars_ba4f3_37 : decode prog_25_method_12_code 37 = .ok (.iload_n 0, 1) := by decide +kernel
theorem d_Integer_getChars_ba4f3_38 : decode prog_25_method_12_code 38 = .ok (.isub, 1) := by decide +kernel
theorem d_Integer_getChars_ba4f3_39 : decode prog_25_method_12_code 39 = .ok (.istore 4, 2) := by decide +kernel
theorem d_Integer_getChars_ba4f3_41 : decode prog_25_method_12_code 41 = .ok (.iload_n 3, 1) := by decide +kernel
theorem d_Integer_getChars_ba4f3_42 : decode prog_25_method_12_code 42 = .ok (.istore_n 0, 1) := by decide +kernel
theorem d_Integer_getChars_ba4f3_43 : decode prog_25_method_12_code 43 = .ok (.aload_n 2, 1) := by decide +kernel
theorem d_Integer_getChars_ba4f3_44 : decode prog_25_method_12_code 44 = .ok (.iinc 5 (-1), 3) := by decide +kernel
theorem d_Integer_getChars_ba4f3_47 : decode prog_25_method_12_code 47 = .ok (.iload 5, 2) := by decide +kernel
theorem d_Integer_getChars_ba4f3_49 : decode prog_25_method_12_code 49 = .ok (.getstatic 83, 3) := by decide +kernel
theorem d_Integer_getChars_ba4f3_52 : decode prog_25_method_12_code 52 = .ok (.iload 4, 2) := by decide +kernel
theorem d_Integer_getChars_ba4f3_54 : decode prog_25_method_12_code 54 = .ok (.baload, 1) := by decide +kernel
theorem d_Integer_getChars_ba4f3_55 : decode prog_25_method_12_code 55 = .ok (.bastore, 1) := by decide +kernel
theorem d_Integer_getChars_ba4f3_56 : decode prog_25_method_12_code 56 = .ok (.aload_n 2, 1) := by decide +kernel
theorem d_Integer_getChars_ba4f3_57 : decode prog_25_method_12_code 57 = .ok (.iinc 5 (-1), 3) := by decide +kernel
theorem d_Integer_getChars_ba4f3_60 : decode prog_25_method_12_code 60 = .ok (.iload 5, 2) := by decide +kernel
theorem d_Integer_getChars_ba4f3_62 : decode prog_25_method_12_code 62 = .ok (.getstatic 87, 3) := by decide +kernel
theorem d_Integer_getChars_ba4f3_65 : decode prog_25_method_12_code 65 = .ok (.iload 4, 2) := by decide +kernel
theorem d_Integer_getChars_ba4f3_67 : decode prog_25_method_12_code 67 = .ok (.baload, 1) := by decide +kernel
theorem d_Integer_getChars_ba4f3_68 : decode prog_25_method_12_code 68 = .ok (.bastore, 1) := by decide +kernel
theorem d_Integer_getChars_ba4f3_69 : decode prog_25_method_12_code 69 = .ok (.goto (-47), 3) := by decide +kernel
theorem d_Integer_getChars_ba4f3_72 : decode prog_25_method_12_code 72 = .ok (.aload_n 2, 1) := by decide +kernel
theorem d_Integer_getChars_ba4f3_73 : decode prog_25_method_12_code 73 = .ok (.iinc 5 (-1), 3) := by decide +kernel
theorem d_Integer_getChars_ba4f3_76 : decode prog_25_method_12_code 76 = .ok (.iload 5, 2) := by decide +kernel
theorem d_Integer_getChars_ba4f3_78 : decode prog_25_method_12_code 78 = .ok (.getstatic 83, 3) := by decide +kernel
theorem d_Integer_getChars_ba4f3_81 : decode prog_25_method_12_code 81 = .ok (.iload_n 0, 1) := by decide +kernel
theorem d_Integer_getChars_ba4f3_82 : decode prog_25_method_12_code 82 = .ok (.ineg, 1) := by decide +kernel
theorem d_Integer_getChars_ba4f3_83 : decode prog_25_method_12_code 83 = .ok (.baload, 1) := by decide +kernel
theorem d_Integer_getChars_ba4f3_84 : decode prog_25_method_12_code 84 = .ok (.bastore, 1) := by decide +kernel
theorem d_Integer_getChars_ba4f3_85 : decode prog_25_method_12_code 85 = .ok (.iload_n 0, 1) := by decide +kernel
theorem d_Integer_getChars_ba4f3_86 : decode prog_25_method_12_code 86 = .ok (.bipush (-9), 2) := by decide +kernel
theorem d_Integer_getChars_ba4f3_88 : decode prog_25_method_12_code 88 = .ok (.if_icmp .ge 16, 3) := by decide +kernel
theorem d_Integer_getChars_ba4f3_91 : decode prog_25_method_12_code 91 = .ok (.aload_n 2, 1) := by decide +kernel
theorem d_Integer_getChars_ba4f3_92 : decode prog_25_method_12_code 92 = .ok (.iinc 5 (-1), 3) := by decide +kernel
theorem d_Integer_getChars_ba4f3_95 : decode prog_25_method_12_code 95 = .ok (.iload 5, 2) := by decide +kernel
theorem d_Integer_getChars_ba4f3_97 : decode prog_25_method_12_code 97 = .ok (.getstatic 87, 3) := by decide +kernel
theorem d_Integer_getChars_ba4f3_100 : decode prog_25_method_12_code 100 = .ok (.iload_n 0, 1) := by decide +kernel
theorem d_Integer_getChars_ba4f3_101 : decode prog_25_method_12_code 101 = .ok (.ineg, 1) := by decide +kernel
theorem d_Integer_getChars_ba4f3_102 : decode prog_25_method_12_code 102 = .ok (.baload, 1) := by decide +kernel
theorem d_Integer_getChars_ba4f3_103 : decode prog_25_method_12_code 103 = .ok (.bastore, 1) := by decide +kernel
theorem d_Integer_getChars_ba4f3_104 : decode prog_25_method_12_code 104 = .ok (.iload 6, 2) := by decide +kernel
theorem d_Integer_getChars_ba4f3_106 : decode prog_25_method_12_code 106 = .ok (.ifCond .eq 12, 3) := by decide +kernel
theorem d_Integer_getChars_ba4f3_109 : decode prog_25_method_12_code 109 = .ok (.aload_n 2, 1) := by decide +kernel
theorem d_Integer_getChars_ba4f3_110 : decode prog_25_method_12_code 110 = .ok (.iinc 5 (-1), 3) := by decide +kernel
theorem d_Integer_getChars_ba4f3_113 : decode prog_25_method_12_code 113 = .ok (.iload 5, 2) := by decide +kernel
theorem d_Integer_getChars_ba4f3_115 : decode prog_25_method_12_code 115 = .ok (.bipush 45, 2) := by decide +kernel
theorem d_Integer_getChars_ba4f3_117 : decode prog_25_method_12_code 117 = .ok (.bastore, 1) := by decide +kernel
theorem d_Integer_getChars_ba4f3_118 : decode prog_25_method_12_code 118 = .ok (.iload 5, 2) := by decide +kernel
theorem d_Integer_getChars_ba4f3_120 : decode prog_25_method_12_code 120 = .ok (.ireturn, 1) := by decide +kernel
theorem d_StringBuilder_toString_0e30d_0 : decode prog_30_method_42_code 0 = .ok (.new 18, 3) := by decide +kernel
theorem d_StringBuilder_toString_0e30d_3 : decode prog_30_method_42_code 3 = .ok (.dup, 1) := by decide +kernel
theorem d_StringBuilder_toString_0e30d_4 : decode prog_30_method_42_code 4 = .ok (.aload_n 0, 1) := by decide +kernel
theorem d_StringBuilder_toString_0e30d_5 : decode prog_30_method_42_code 5 = .ok (.invokespecial 137, 3) := by decide +kernel
theorem d_StringBuilder_toString_0e30d_8 : decode prog_30_method_42_code 8 = .ok (.areturn, 1) := by decide +kernel
theorem lj_StringBuilder_137 : LI "java/lang/StringBuilder" 137 1 m_String_init_81219 := ⟨hd_String_init_81219, rfl, rfl, rfl, wg_1186, wg_1187, wg_13⟩
theorem d_String_init_81219_0 : decode prog_29_method_53_code 0 = .ok (.aload_n 0, 1) := by decide +kernel
theorem d_String_init_81219_1 : decode prog_29_method_53_code 1 = .ok (.aload_n 1, 1) := by decide +kernel
theorem d_String_init_81219_2 : decode prog_29_method_53_code 2 = .ok (.aconst_null, 1) := by decide +kernel
theorem d_String_init_81219_3 : decode prog_29_method_53_code 3 = .ok (.invokespecial 489, 3) := by decide +kernel
theorem d_String_init_81219_6 : decode prog_29_method_53_code 6 = .ok (.return_, 1) := by decide +kernel
theorem lj_String_489 : LI "java/lang/String" 489 2 m_String_init_db425 := ⟨hd_String_init_db425, rfl, rfl, rfl, wg_1189, wg_1190, wg_13⟩
theorem d_String_init_db425_0 : decode prog_29_method_150_code 0 = .ok (.aload_n 0, 1) := by decide +kernel
theorem d_String_init_db425_1 : decode prog_29_method_150_code 1 = .ok (.invokespecial 1, 3) := by decide +kernel
theorem d_String_init_db425_4 : decode prog_29_method_150_code 4 = .ok (.aload_n 1, 1) := by decide +kernel
theorem d_String_init_db425_5 : decode prog_29_method_150_code 5 = .ok (.invokevirtual 552, 3) := by decide +kernel
theorem d_String_init_db425_8 : decode prog_29_method_150_code 8 = .ok (.astore_n 3, 1) := by decide +kernel
theorem d_String_init_db425_9 : decode prog_29_method_150_code 9 = .ok (.aload_n 1, 1) := by decide +kernel
theorem d_String_init_db425_10 : decode prog_29_method_150_code 10 = .ok (.invokevirtual 549, 3) := by decide +kernel
theorem d_String_init_db425_13 : decode prog_29_method_150_code 13 = .ok (.istore 4, 2) := by decide +kernel
theorem d_String_init_db425_15 : decode prog_29_method_150_code 15 = .ok (.aload_n 1, 1) := by decide +kernel
theorem d_String_init_db425_16 : decode prog_29_method_150_code 16 = .ok (.invokevirtual 1047, 3) := by decide +kernel
theorem d_String_init_db425_19 : decode prog_29_method_150_code 19 = .ok (.ifCond .eq 22, 3) := by decide +kernel
theorem d_String_init_db425_22 : decode prog_29_method_150_code 22 = .ok (.aload_n 0, 1) := by decide +kernel
theorem d_String_init_db425_23 : decode prog_29_method_150_code 23 = .ok (.iconst 0, 1) := by decide +kernel
theorem d_String_init_db425_24 : decode prog_29_method_150_code 24 = .ok (.putfield 15, 3) := by decide +kernel
theorem d_String_init_db425_27 : decode prog_29_method_150_code 27 = .ok (.aload_n 0, 1) := by decide +kernel
theorem d_String_init_db425_28 : decode prog_29_method_150_code 28 = .ok (.aload_n 3, 1) := by decide +kernel
theorem d_String_init_db425_29 : decode prog_29_method_150_code 29 = .ok (.iconst 0, 1) := by decide +kernel
theorem d_String_init_db425_30 : decode prog_29_method_150_code 30 = .ok (.iload 4, 2) := by decide +kernel
theorem d_String_init_db425_32 : decode prog_29_method_150_code 32 = .ok (.invokestatic 54, 3) := by decide +kernel
theorem d_String_init_db425_35 : decode prog_29_method_150_code 35 = .ok (.putfield 9, 3) := by decide +kernel
theorem d_String_init_db425_38 : decode prog_29_method_150_code 38 = .ok (.goto 59, 3) := by decide +kernel
theorem d_String_init_db425_41 : decode prog_29_method_150_code 41 = .ok (.getstatic 38, 3) := by decide +kernel
theorem d_String_init_db425_44 : decode prog_29_method_150_code 44 = .ok (.ifCond .eq 35, 3) := by decide +kernel
theorem d_String_init_db425_47 : decode prog_29_method_150_code 47 = .ok (.aload_n 1, 1) := by decide +kernel
theorem d_String_init_db425_48 : decode prog_29_method_150_code 48 = .ok (.getfield 1048, 3) := by decide +kernel
theorem d_String_init_db425_51 : decode prog_29_method_150_code 51 = .ok (.ifCond .eq 28, 3) := by decide +kernel
theorem d_String_init_db425_54 : decode prog_29_method_150_code 54 = .ok (.aload_n 0, 1) := by decide +kernel
theorem d_String_init_db425_55 : decode prog_29_method_150_code 55 = .ok (.aload_n 3, 1) := by decide +kernel
theorem d_String_init_db425_56 : decode prog_29_method_150_code 56 = .ok (.iconst 0, 1) := by decide +kernel
theorem d_String_init_db425_57 : decode prog_29_method_150_code 57 = .ok (.iload 4, 2) := by decide +kernel
theorem d_String_init_db425_59 : decode prog_29_method_150_code 59 = .ok (.invokestatic 1051, 3) := by decide +kernel
theorem d_String_init_db425_62 : decode prog_29_method_150_code 62 = .ok (.putfield 9, 3) := by decide +kernel
theorem d_String_init_db425_65 : decode prog_29_method_150_code 65 = .ok (.aload_n 0, 1) := by decide +kernel
theorem d_String_init_db425_66 : decode prog_29_method_150_code 66 = .ok (.aload_n 0, 1) := by decide +kernel
theorem d_String_init_db425_67 : decode prog_29_method_150_code 67 = .ok (.getfield 9, 3) := by decide +kernel
theorem d_String_init_db425_70 : decode prog_29_method_150_code 70 = .ok (.iload 4, 2) := by decide +kernel
theorem d_String_init_db425_72 : decode prog_29_method_150_code 72 = .ok (.invokestatic 47, 3) := by decide +kernel
theorem d_String_init_db425_75 : decode prog_29_method_150_code 75 = .ok (.putfield 15, 3) := by decide +kernel
theorem d_String_init_db425_78 : decode prog_29_method_150_code 78 = .ok (.return_, 1) := by decide +kernel
theorem d_String_init_db425_79 : decode prog_29_method_150_code 79 = .ok (.aload_n 0, 1) := by decide +kernel
theorem d_String_init_db425_80 : decode prog_29_method_150_code 80 = .ok (.iconst 1, 1) := by decide +kernel
theorem d_String_init_db425_81 : decode prog_29_method_150_code 81 = .ok (.putfield 15, 3) := by decide +kernel
theorem d_String_init_db425_84 : decode prog_29_method_150_code 84 = .ok (.aload_n 0, 1) := by decide +kernel
theorem d_String_init_db425_85 : decode prog_29_method_150_code 85 = .ok (.aload_n 3, 1) := by decide +kernel
theorem d_String_init_db425_86 : decode prog_29_method_150_code 86 = .ok (.iconst 0, 1) := by decide +kernel
theorem d_String_init_db425_87 : decode prog_29_method_150_code 87 = .ok (.iload 4, 2) := by decide +kernel
theorem d_String_init_db425_89 : decode prog_29_method_150_code 89 = .ok (.iconst 1, 1) := by decide +kernel
theorem d_String_init_db425_90 : decode prog_29_method_150_code 90 = .ok (.ishl, 1) := by decide +kernel
theorem d_String_init_db425_91 : decode prog_29_method_150_code 91 = .ok (.invokestatic 54, 3) := by decide +kernel
theorem d_String_init_db425_94 : decode prog_29_method_150_code 94 = .ok (.putfield 9, 3) := by decide +kernel
theorem d_String_init_db425_97 : decode prog_29_method_150_code 97 = .ok (.return_, 1) := by decide +kernel
theorem fj_String_15_0 : FL "java/lang/String" 15 0 1 true (tyJ0 1) := ⟨_, _, _, _, "java/lang/String", coC_0, by decide, wg_1329, Or.inl rfl, rfl, (fun _ => rfl), rfl⟩
theorem fj_String_15_14 : FL "java/lang/String" 15 14 1 true (tyJ0 1) := ⟨_, _, _, _, "java/lang/String", coC_14, by decide, wg_1329, Or.inl rfl, rfl, (fun _ => rfl), rfl⟩
theorem fj_String_9_0 : FL "java/lang/String" 9 0 0 true (tyJ0 0) := ⟨_, _, _, _, "java/lang/String", coC_0, by decide, wg_1328, Or.inl rfl, rfl, (fun _ => rfl), rfl⟩
theorem fj_String_9_14 : FL "java/lang/String" 9 14 0 true (tyJ0 0) := ⟨_, _, _, _, "java/lang/String", coC_14, by decide, wg_1328, Or.inl rfl, rfl, (fun _ => rfl), rfl⟩
theorem gj_String_1048_1 : FLg "java/lang/String" 1048 1 2 := ⟨_, _, _, _, "java/lang/AbstractStringBuilder", coC_1, by decide, wg_1063, Or.inl rfl⟩
theorem oj_String_1 : Cond.methodLink "java/lang/String" 1 objectInit ∈ lw_good := wg_1192
theorem lj_String_552_1 : LU "java/lang/String" 552 1 0 m_AbstractStringBuilder_getValue_6d5f1 := ⟨hd_AbstractStringBuilder_getValue_6d5f1, rfl, _, ⟨"java/lang/AbstractStringBuilder", "getValue", "()[B"⟩, rfl, rfl, wg_1193, wg_1195, wg_1196, wg_1194, wg_27, by decide +kernel⟩
theorem lo_String_549_1 : LO "java/lang/String" 549 1 0 m_StringBuilder_length_8abf5 := ⟨hd_StringBuilder_length_8abf5, rfl, _, ⟨"java/lang/AbstractStringBuilder", "length", "()I"⟩, "java/lang/AbstractStringBuilder", _, _, _, rfl, wg_1198, wg_1200, wg_1199, wg_1201, wg_1202, wg_28, wg_1205, by decide +kernel, by decide +kernel, by decide +kernel⟩
theorem lj_String_1047_1 : LU "java/lang/String" 1047 1 0 m_AbstractStringBuilder_isLatin1_aae02 := ⟨hd_AbstractStringBuilder_isLatin1_aae02, rfl, _, ⟨"java/lang/AbstractStringBuilder", "isLatin1", "()Z"⟩, rfl, rfl, wg_1206, wg_1114, wg_1115, wg_1113, wg_27, by decide +kernel⟩
theorem lj_String_54 : m_Arrays_copyOfRange_39247.2.2.2.2 = [] ∧ LST "java/lang/String" 54 3 m_Arrays_copyOfRange_39247 := ⟨rfl, hd_Arrays_copyOfRange_39247, wg_1207, wg_1208, wg_30⟩
theorem d_AbstractStringBuilder_getValue_6d5f1_0 : decode prog_16_method_64_code 0 = .ok (.aload_n 0, 1) := by decide +kernel
theorem d_AbstractStringBuilder_getValue_6d5f1_1 : decode prog_16_method_64_code 1 = .ok (.getfield 15, 3) := by decide +kernel
theorem d_AbstractStringBuilder_getValue_6d5f1_4 : decode prog_16_method_64_code 4 = .ok (.areturn, 1) := by decide +kernel
theorem d_AbstractStringBuilder_length_8abf5_0 : decode prog_16_method_6_code 0 = .ok (.aload_n 0, 1) := by decide +kernel
theorem d_AbstractStringBuilder_length_8abf5_1 : decode prog_16_method_6_code 1 = .ok (.getfield 79, 3) := by decide +kernel
theorem d_AbstractStringBuilder_length_8abf5_4 : decode prog_16_method_6_code 4 = .ok (.ireturn, 1) := by decide +kernel
theorem d_StringBuilder_length_8abf5_0 : decode prog_30_method_93_code 0 = .ok (.aload_n 0, 1) := by decide +kernel
theorem d_StringBuilder_length_8abf5_1 : decode prog_30_method_93_code 1 = .ok (.invokespecial 343, 3) := by decide +kernel
theorem d_StringBuilder_length_8abf5_4 : decode prog_30_method_93_code 4 = .ok (.ireturn, 1) := by decide +kernel
theorem lj_StringBuilder_343 : LSU "java/lang/StringBuilder" 343 0 m_AbstractStringBuilder_length_8abf5 := ⟨hd_AbstractStringBuilder_length_8abf5, rfl, by decide, wg_1204, wg_1200, wg_1073, wg_1199, wg_27⟩
theorem d_Arrays_copyOfRange_39247_0 : decode prog_37_method_132_code 0 = .ok (.iload_n 1, 1) := by decide +kernel
theorem d_Arrays_copyOfRange_39247_1 : decode prog_37_method_132_code 1 = .ok (.ifCond .ne 9, 3) := by decide +kernel
theorem d_Arrays_copyOfRange_39247_4 : decode prog_37_method_132_code 4 = .ok (.iload_n 2, 1) := by decide +kernel
theorem d_Arrays_copyOfRange_39247_5 : decode prog_37_method_132_code 5 = .ok (.aload_n 0, 1) := by decide +kernel
theorem d_Arrays_copyOfRange_39247_6 : decode prog_37_method_132_code 6 = .ok (.arraylength, 1) := by decide +kernel
theorem d_Arrays_copyOfRange_39247_7 : decode prog_37_method_132_code 7 = .ok (.if_icmp .eq 10, 3) := by decide +kernel
theorem d_Arrays_copyOfRange_39247_10 : decode prog_37_method_132_code 10 = .ok (.aload_n 0, 1) := by decide +kernel
theorem d_Arrays_copyOfRange_39247_11 : decode prog_37_method_132_code 11 = .ok (.iload_n 1, 1) := by decide +kernel
theorem d_Arrays_copyOfRange_39247_12 : decode prog_37_method_132_code 12 = .ok (.iload_n 2, 1) := by decide +kernel
theorem d_Arrays_copyOfRange_39247_13 : decode prog_37_method_132_code 13 = .ok (.invokestatic 339, 3) := by decide +kernel
theorem d_Arrays_copyOfRange_39247_16 : decode prog_37_method_132_code 16 = .ok (.areturn, 1) := by decide +kernel
theorem d_Arrays_copyOfRange_39247_17 : decode prog_37_method_132_code 17 = .ok (.aload_n 0, 1) := by decide +kernel
theorem d_Arrays_copyOfRange_39247_18 : decode prog_37_method_132_code 18 = .ok (.invokevirtual 310, 3) := by decide +kernel
theorem d_Arrays_copyOfRange_39247_21 : decode prog_37_method_132_code 21 = .ok (.checkcast 311, 3) := by decide +kernel
theorem d_Arrays_copyOfRange_39247_24 : decode prog_37_method_132_code 24 = .ok (.areturn, 1) := by decide +kernel
theorem lj_Arrays_339 : m_Arrays_copyOfRangeByte_39247.2.2.2.2 = [] ∧ LST "java/util/Arrays" 339 3 m_Arrays_copyOfRangeByte_39247 := ⟨rfl, hd_Arrays_copyOfRangeByte_39247, wg_1210, wg_1211, wg_30⟩
theorem d_Arrays_copyOfRangeByte_39247_0 : decode prog_37_method_133_code 0 = .ok (.iload_n 1, 1) := by decide +kernel
theorem d_Arrays_copyOfRangeByte_39247_1 : decode prog_37_method_133_code 1 = .ok (.iload_n 2, 1) := by decide +kernel
theorem d_Arrays_copyOfRangeByte_39247_2 : decode prog_37_method_133_code 2 = .ok (.invokestatic 343, 3) := by decide +kernel
theorem d_Arrays_copyOfRangeByte_39247_5 : decode prog_37_method_133_code 5 = .ok (.iload_n 2, 1) := by decide +kernel
theorem d_Arrays_copyOfRangeByte_39247_6 : decode prog_37_method_133_code 6 = .ok (.iload_n 1, 1) := by decide +kernel
theorem d_Arrays_copyOfRangeByte_39247_7 : decode prog_37_method_133_code 7 = .ok (.isub, 1) := by decide +kernel
theorem d_Arrays_copyOfRangeByte_39247_8 : decode prog_37_method_133_code 8 = .ok (.istore_n 3, 1) := by decide +kernel
theorem d_Arrays_copyOfRangeByte_39247_9 : decode prog_37_method_133_code 9 = .ok (.iload_n 3, 1) := by decide +kernel
theorem d_Arrays_copyOfRangeByte_39247_10 : decode prog_37_method_133_code 10 = .ok (.newarray .byte, 2) := by decide +kernel
theorem d_Arrays_copyOfRangeByte_39247_12 : decode prog_37_method_133_code 12 = .ok (.astore 4, 2) := by decide +kernel
theorem d_Arrays_copyOfRangeByte_39247_14 : decode prog_37_method_133_code 14 = .ok (.aload_n 0, 1) := by decide +kernel
theorem d_Arrays_copyOfRangeByte_39247_15 : decode prog_37_method_133_code 15 = .ok (.iload_n 1, 1) := by decide +kernel
theorem d_Arrays_copyOfRangeByte_39247_16 : decode prog_37_method_133_code 16 = .ok (.aload 4, 2) := by decide +kernel
theorem d_Arrays_copyOfRangeByte_39247_18 : decode prog_37_method_133_code 18 = .ok (.iconst 0, 1) := by decide +kernel
theorem d_Arrays_copyOfRangeByte_39247_19 : decode prog_37_method_133_code 19 = .ok (.aload_n 0, 1) := by decide +kernel
theorem d_Arrays_copyOfRangeByte_39247_20 : decode prog_37_method_133_code 20 = .ok (.arraylength, 1) := by decide +kernel
theorem d_Arrays_copyOfRangeByte_39247_21 : decode prog_37_method_133_code 21 = .ok (.iload_n 1, 1) := by decide +kernel
theorem d_Arrays_copyOfRangeByte_39247_22 : decode prog_37_method_133_code 22 = .ok (.isub, 1) := by decide +kernel
theorem d_Arrays_copyOfRangeByte_39247_23 : decode prog_37_method_133_code 23 = .ok (.iload_n 3, 1) := by decide +kernel
theorem d_Arrays_copyOfRangeByte_39247_24 : decode prog_37_method_133_code 24 = .ok (.invokestatic 304, 3) := by decide +kernel
theorem d_Arrays_copyOfRangeByte_39247_27 : decode prog_37_method_133_code 27 = .ok (.invokestatic 150, 3) := by decide +kernel
theorem d_Arrays_copyOfRangeByte_39247_30 : decode prog_37_method_133_code 30 = .ok (.aload 4, 2) := by decide +kernel
theorem d_Arrays_copyOfRangeByte_39247_32 : decode prog_37_method_133_code 32 = .ok (.areturn, 1) := by decide +kernel
theorem lj_Arrays_343 : m_Arrays_checkLength_df160.2.2.2.2 = [] ∧ LST "java/util/Arrays" 343 2 m_Arrays_checkLength_df160 := ⟨rfl, hd_Arrays_checkLength_df160, wg_1213, wg_1214, wg_30⟩
theorem d_Arrays_checkLength_df160_0 : decode prog_37_method_131_code 0 = .ok (.iload_n 1, 1) := by decide +kernel
theorem d_Arrays_checkLength_df160_1 : decode prog_37_method_131_code 1 = .ok (.iload_n 0, 1) := by decide +kernel
theorem d_Arrays_checkLength_df160_2 : decode prog_37_method_131_code 2 = .ok (.if_icmp .ge 35, 3) := by decide +kernel
theorem d_Arrays_checkLength_df160_5 : decode prog_37_method_131_code 5 = .ok (.new 43, 3) := by decide +kernel
theorem d_Arrays_checkLength_df160_8 : decode prog_37_method_131_code 8 = .ok (.dup, 1) := by decide +kernel
theorem d_Arrays_checkLength_df160_9 : decode prog_37_method_131_code 9 = .ok (.new 45, 3) := by decide +kernel
theorem d_Arrays_checkLength_df160_12 : decode prog_37_method_131_code 12 = .ok (.dup, 1) := by decide +kernel
theorem d_Arrays_checkLength_df160_13 : decode prog_37_method_131_code 13 = .ok (.invokespecial 47, 3) := by decide +kernel
theorem d_Arrays_checkLength_df160_16 : decode prog_37_method_131_code 16 = .ok (.iload_n 0, 1) := by decide +kernel
theorem d_Arrays_checkLength_df160_17 : decode prog_37_method_131_code 17 = .ok (.invokevirtual 54, 3) := by decide +kernel
theorem d_Arrays_checkLength_df160_20 : decode prog_37_method_131_code 20 = .ok (.ldc_w 337, 3) := by decide +kernel
theorem d_Arrays_checkLength_df160_23 : decode prog_37_method_131_code 23 = .ok (.invokevirtual 50, 3) := by decide +kernel
theorem d_Arrays_checkLength_df160_26 : decode prog_37_method_131_code 26 = .ok (.iload_n 1, 1) := by decide +kernel
theorem d_Arrays_checkLength_df160_27 : decode prog_37_method_131_code 27 = .ok (.invokevirtual 54, 3) := by decide +kernel
theorem d_Arrays_checkLength_df160_30 : decode prog_37_method_131_code 30 = .ok (.invokevirtual 61, 3) := by decide +kernel
theorem d_Arrays_checkLength_df160_33 : decode prog_37_method_131_code 33 = .ok (.invokespecial 65, 3) := by decide +kernel
theorem d_Arrays_checkLength_df160_36 : decode prog_37_method_131_code 36 = .ok (.athrow, 1) := by decide +kernel
theorem d_Arrays_checkLength_df160_37 : decode prog_37_method_131_code 37 = .ok (.return_, 1) := by decide +kernel
theorem lj_Arrays_47 : LI "java/util/Arrays" 47 0 m_StringBuilder_init_da8c8 := ⟨hd_StringBuilder_init_da8c8, rfl, rfl, rfl, wg_1259, wg_1047, wg_28⟩
theorem lj_Arrays_54_1 : LV "java/util/Arrays" 54 1 1 m_StringBuilder_append_bf812 := ⟨hd_StringBuilder_append_bf812, rfl, ⟨_, rfl, rfl⟩, wg_1260, wg_1147, wg_1148, wg_28⟩
abbrev m_StringBuilder_append_15ec4 : MI := (⟨"java/lang/StringBuilder", "append", "(Ljava/lang/String;)Ljava/lang/StringBuilder;"⟩, prog_30_method_7_code, 2, (Option.some (Jvm.ClassFile.FieldType.object "java/lang/StringBuilder")), [])
theorem hd_StringBuilder_append_15ec4 : hd0 m_StringBuilder_append_15ec4 1 := hd0_of (by decide +kernel) (by decide +kernel) (by decide +kernel) rfl rfl wg_1265
theorem lj_Arrays_50_1 : LV "java/util/Arrays" 50 1 1 m_StringBuilder_append_15ec4 := ⟨hd_StringBuilder_append_15ec4, rfl, ⟨_, rfl, rfl⟩, wg_1262, wg_1263, wg_1264, wg_28⟩
theorem lj_Arrays_61_1 : LV "java/util/Arrays" 61 1 0 m_StringBuilder_toString_0e30d := ⟨hd_StringBuilder_toString_0e30d, rfl, ⟨_, rfl, rfl⟩, wg_1292, wg_1181, wg_1182, wg_28⟩
theorem lj_ProphecyShop_84_0 : LV "ProphecyShop" 84 0 0 m_String_length_8abf5 := ⟨hd_String_length_8abf5, rfl, ⟨_, rfl, rfl⟩, wg_414, wg_415, wg_416, wg_13⟩
theorem lj_ProphecyShop_84_14 : LV "ProphecyShop" 84 14 0 m_String_length_8abf5 := ⟨hd_String_length_8abf5, rfl, ⟨_, rfl, rfl⟩, wg_414, wg_415, wg_416, wg_13⟩
theorem lj_ProphecyShop_90_0 : LV "ProphecyShop" 90 0 1 m_String_charAt_5068e := ⟨hd_String_charAt_5068e, rfl, ⟨_, rfl, rfl⟩, wg_424, wg_425, wg_426, wg_13⟩
theorem lj_ProphecyShop_90_14 : LV "ProphecyShop" 90 14 1 m_String_charAt_5068e := ⟨hd_String_charAt_5068e, rfl, ⟨_, rfl, rfl⟩, wg_424, wg_425, wg_426, wg_13⟩
theorem lj_ProphecyShop_329 : LI "ProphecyShop" 329 0 m_StringBuilder_init_da8c8 := ⟨hd_StringBuilder_init_da8c8, rfl, rfl, rfl, wg_1046, wg_1047, wg_28⟩
theorem lj_ProphecyShop_334_1 : LV "ProphecyShop" 334 1 1 m_StringBuilder_append_cf468 := ⟨hd_StringBuilder_append_cf468, rfl, ⟨_, rfl, rfl⟩, wg_1074, wg_1075, wg_1076, wg_28⟩
theorem lj_ProphecyShop_338_1 : LV "ProphecyShop" 338 1 1 m_StringBuilder_append_bf812 := ⟨hd_StringBuilder_append_bf812, rfl, ⟨_, rfl, rfl⟩, wg_1146, wg_1147, wg_1148, wg_28⟩
theorem lj_ProphecyShop_341_1 : LV "ProphecyShop" 341 1 0 m_StringBuilder_toString_0e30d := ⟨hd_StringBuilder_toString_0e30d, rfl, ⟨_, rfl, rfl⟩, wg_1180, wg_1181, wg_1182, wg_28⟩
theorem lj_Names_29_1 : LV "ProphecyShop$Names" 29 1 1 m_StringBuilder_append_cf468 := ⟨hd_StringBuilder_append_cf468, rfl, ⟨_, rfl, rfl⟩, wg_1662, wg_1075, wg_1076, wg_28⟩
theorem sj_String_38 : Cond.fieldLink "java/lang/String" 38 "java/lang/String" "COMPACT_STRINGS" "Z" ∈ lw_good := wg_422
theorem sj_String_1053 : Cond.fieldLink "java/lang/String" 1053 "jdk/internal/util/Preconditions" "SIOOBE_FORMATTER" "Ljava/util/function/BiFunction;" ∈ lw_good := wg_438
theorem sj_AbstractStringBuilder_18 : Cond.fieldLink "java/lang/AbstractStringBuilder" 18 "java/lang/String" "COMPACT_STRINGS" "Z" ∈ lw_good := wg_1053
theorem sj_Integer_83 : Cond.fieldLink "java/lang/Integer" 83 "java/lang/Integer" "DigitOnes" "[B" ∈ lw_good := wg_1159
theorem sj_Integer_87 : Cond.fieldLink "java/lang/Integer" 87 "java/lang/Integer" "DigitTens" "[B" ∈ lw_good := wg_1161
theorem cl_ProphecyShop_327 : Cond.classLink "ProphecyShop" 327 "java/lang/StringBuilder" ∈ lw_good := wg_1044
theorem cl_Arrays_311 : Cond.classLink "java/util/Arrays" 311 "[B" ∈ lw_good := wg_1109
theorem cl_StringBuilder_18 : Cond.classLink "java/lang/StringBuilder" 18 "java/lang/String" ∈ lw_good := wg_1184
theorem cl_Arrays_45 : Cond.classLink "java/util/Arrays" 45 "java/lang/StringBuilder" ∈ lw_good := wg_1258
theorem in_String : Cond.instantiable "java/lang/String" 4 ∈ lw_good := wg_1185
theorem ii_String : Cond.initialized "java/lang/String" ∈ lw_good := wg_13
theorem in_StringBuilder : Cond.instantiable "java/lang/StringBuilder" 4 ∈ lw_good := wg_1045
theorem ii_StringBuilder : Cond.initialized "java/lang/StringBuilder" ∈ lw_good := wg_28
theorem oi_1 : Cond.instanceMethod objectInit ∈ lw_good := wg_39
theorem oi_2 : Cond.code objectInit ⟨#[0xb1]⟩ 1 none ∈ lw_good := wg_40
