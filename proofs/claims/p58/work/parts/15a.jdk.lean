/-! The JDK's methods: names, rows, links (printed by wip/gen/jdk.py). -/
def LSU (own : String) (idx n : Nat) (mi2 : MI) : Prop := hd0 mi2 n ∧ mi2.2.2.2.2 = [] ∧ mi2.1.name ≠ "<init>" ∧ Cond.methodLink own idx mi2.1 ∈ lw_good ∧ Cond.sameMethod mi2.1.cls mi2.1.cls mi2.1.name mi2.1.desc ∈ lw_good ∧ Cond.superclass own mi2.1.cls ∈ lw_good ∧ Cond.instanceMethod mi2.1 ∈ lw_good ∧ Cond.initialized mi2.1.cls ∈ lw_good
def LO (own : String) (idx ci n : Nat) (mi2 : MI) : Prop := hd0 mi2 n ∧ mi2.2.2.2.2 = [] ∧ ∃ (r9 : vw_C) (x : MethodName) (owner : String) (b0 : ByteArray) (m0 : Nat) (r0 : Option FieldType), vwCl[ci]? = some r9 ∧ Cond.methodLink own idx x ∈ lw_good ∧ Cond.sameMethod x.cls owner x.name x.desc ∈ lw_good ∧ Cond.instanceMethod ⟨owner, x.name, x.desc⟩ ∈ lw_good ∧ Cond.selects r9.1 x mi2.1 ∈ lw_good ∧ Cond.instanceMethod mi2.1 ∈ lw_good ∧ Cond.initialized mi2.1.cls ∈ lw_good ∧ Cond.code ⟨owner, x.name, x.desc⟩ b0 m0 r0 ∈ lw_good ∧ owner ≠ "java/lang/invoke/MethodHandle" ∧ owner ≠ "java/lang/invoke/VarHandle" ∧ (parseMethodDescriptor x.desc).map (fun d => d.parameters.length) = some n
theorem wx_2 : rSel.get ⟨2, by decide⟩ ∈ lw_good := lw_g (List.mem_append_right _ (List.get_mem _ _)) (by decide +kernel)
theorem wx_3 : rSel.get ⟨3, by decide⟩ ∈ lw_good := lw_g (List.mem_append_right _ (List.get_mem _ _)) (by decide +kernel)
theorem wx_4 : rSel.get ⟨4, by decide⟩ ∈ lw_good := lw_g (List.mem_append_right _ (List.get_mem _ _)) (by decide +kernel)
theorem wx_5 : rSel.get ⟨5, by decide⟩ ∈ lw_good := lw_g (List.mem_append_right _ (List.get_mem _ _)) (by decide +kernel)
theorem wt_1000 : (Jvm.Cond.castable "[B" "java/lang/Cloneable") ∈ lw_T := List.mem_append_left _ (List.mem_append_right _ (List.mem_of_getElem? (i := 1000) (by decide +kernel)))
theorem wg_1001 : (Jvm.Cond.classLink "java/util/Arrays" (311 : Nat) "[B") ∈ lw_good := lw_g (List.mem_append_left _ (List.mem_append_right _ (List.mem_of_getElem? (i := 1001) (by decide +kernel)))) (by decide +kernel)
theorem wg_1002 : (Jvm.Cond.methodLink "java/util/Arrays" (304 : Nat) ({ cls := "java/lang/Math", name := "min", desc := "(II)I" } : Jvm.MethodName)) ∈ lw_good := lw_g (List.mem_append_left _ (List.mem_append_right _ (List.mem_of_getElem? (i := 1002) (by decide +kernel)))) (by decide +kernel)
theorem wg_1003 : (Jvm.Cond.methodLink "java/util/Arrays" (150 : Nat) ({ cls := "java/lang/System", name := "arraycopy", desc := "(Ljava/lang/Object;ILjava/lang/Object;II)V" } : Jvm.MethodName)) ∈ lw_good := lw_g (List.mem_append_left _ (List.mem_append_right _ (List.mem_of_getElem? (i := 1003) (by decide +kernel)))) (by decide +kernel)
theorem wg_1004 : (Jvm.Cond.methodLink "java/lang/AbstractStringBuilder" (83 : Nat) ({ cls := "java/lang/AbstractStringBuilder", name := "isLatin1", desc := "()Z" } : Jvm.MethodName)) ∈ lw_good := lw_g (List.mem_append_left _ (List.mem_append_right _ (List.mem_of_getElem? (i := 1004) (by decide +kernel)))) (by decide +kernel)
theorem wg_1005 : (Jvm.Cond.instanceMethod ({ cls := "java/lang/AbstractStringBuilder", name := "isLatin1", desc := "()Z" } : Jvm.MethodName)) ∈ lw_good := lw_g (List.mem_append_left _ (List.mem_append_right _ (List.mem_of_getElem? (i := 1005) (by decide +kernel)))) (by decide +kernel)
theorem wg_1006 : (Jvm.Cond.sameMethod "java/lang/AbstractStringBuilder" "java/lang/AbstractStringBuilder" "isLatin1" "()Z") ∈ lw_good := lw_g (List.mem_append_left _ (List.mem_append_right _ (List.mem_of_getElem? (i := 1006) (by decide +kernel)))) (by decide +kernel)
theorem wg_1007 : (Jvm.Cond.selects "java/lang/StringBuilder" ({ cls := "java/lang/AbstractStringBuilder", name := "isLatin1", desc := "()Z" } : Jvm.MethodName) ({ cls := "java/lang/AbstractStringBuilder", name := "isLatin1", desc := "()Z" } : Jvm.MethodName)) ∈ lw_good := lw_g (List.mem_append_left _ (List.mem_append_right _ (List.mem_of_getElem? (i := 1007) (by decide +kernel)))) (by decide +kernel)
theorem wg_1008 : (Jvm.Cond.code ({ cls := "java/lang/AbstractStringBuilder", name := "isLatin1", desc := "()Z" } : Jvm.MethodName) prog_17_method_68_code (1 : Nat) (Option.some Jvm.ClassFile.FieldType.boolean)) ∈ lw_good := lw_g (List.mem_append_left _ (List.mem_append_right _ (List.mem_of_getElem? (i := 1008) (by decide +kernel)))) (by decide +kernel)
theorem wg_1024 : (Jvm.Cond.methodLink "java/lang/AbstractStringBuilder" (32 : Nat) ({ cls := "java/lang/String", name := "length", desc := "()I" } : Jvm.MethodName)) ∈ lw_good := lw_g (List.mem_append_left _ (List.mem_append_right _ (List.mem_of_getElem? (i := 1024) (by decide +kernel)))) (by decide +kernel)
theorem wg_1025 : (Jvm.Cond.methodLink "java/lang/AbstractStringBuilder" (208 : Nat) ({ cls := "java/lang/AbstractStringBuilder", name := "putStringAt", desc := "(ILjava/lang/String;)V" } : Jvm.MethodName)) ∈ lw_good := lw_g (List.mem_append_left _ (List.mem_append_right _ (List.mem_of_getElem? (i := 1025) (by decide +kernel)))) (by decide +kernel)
theorem wg_1027 : (Jvm.Cond.instanceMethod ({ cls := "java/lang/AbstractStringBuilder", name := "putStringAt", desc := "(ILjava/lang/String;)V" } : Jvm.MethodName)) ∈ lw_good := lw_g (List.mem_append_left _ (List.mem_append_right _ (List.mem_of_getElem? (i := 1027) (by decide +kernel)))) (by decide +kernel)
theorem wg_1028 : (Jvm.Cond.code ({ cls := "java/lang/AbstractStringBuilder", name := "putStringAt", desc := "(ILjava/lang/String;)V" } : Jvm.MethodName) prog_17_method_73_code (3 : Nat) (Option.none : Option Jvm.ClassFile.FieldType)) ∈ lw_good := lw_g (List.mem_append_left _ (List.mem_append_right _ (List.mem_of_getElem? (i := 1028) (by decide +kernel)))) (by decide +kernel)
theorem wg_1029 : (Jvm.Cond.methodLink "java/lang/AbstractStringBuilder" (397 : Nat) ({ cls := "java/lang/AbstractStringBuilder", name := "inflateIfNeededFor", desc := "(Ljava/lang/String;)V" } : Jvm.MethodName)) ∈ lw_good := lw_g (List.mem_append_left _ (List.mem_append_right _ (List.mem_of_getElem? (i := 1029) (by decide +kernel)))) (by decide +kernel)
theorem wg_1031 : (Jvm.Cond.instanceMethod ({ cls := "java/lang/AbstractStringBuilder", name := "inflateIfNeededFor", desc := "(Ljava/lang/String;)V" } : Jvm.MethodName)) ∈ lw_good := lw_g (List.mem_append_left _ (List.mem_append_right _ (List.mem_of_getElem? (i := 1031) (by decide +kernel)))) (by decide +kernel)
theorem wg_1032 : (Jvm.Cond.code ({ cls := "java/lang/AbstractStringBuilder", name := "inflateIfNeededFor", desc := "(Ljava/lang/String;)V" } : Jvm.MethodName) prog_17_method_71_code (2 : Nat) (Option.none : Option Jvm.ClassFile.FieldType)) ∈ lw_good := lw_g (List.mem_append_left _ (List.mem_append_right _ (List.mem_of_getElem? (i := 1032) (by decide +kernel)))) (by decide +kernel)
theorem wg_1033 : (Jvm.Cond.methodLink "java/lang/AbstractStringBuilder" (40 : Nat) ({ cls := "java/lang/String", name := "coder", desc := "()B" } : Jvm.MethodName)) ∈ lw_good := lw_g (List.mem_append_left _ (List.mem_append_right _ (List.mem_of_getElem? (i := 1033) (by decide +kernel)))) (by decide +kernel)
theorem wg_1036 : (Jvm.Cond.instanceMethod ({ cls := "java/lang/AbstractStringBuilder", name := "inflate", desc := "()V" } : Jvm.MethodName)) ∈ lw_good := lw_g (List.mem_append_left _ (List.mem_append_right _ (List.mem_of_getElem? (i := 1036) (by decide +kernel)))) (by decide +kernel)
theorem wg_1037 : (Jvm.Cond.code ({ cls := "java/lang/AbstractStringBuilder", name := "inflate", desc := "()V" } : Jvm.MethodName) prog_17_method_11_code (2 : Nat) (Option.none : Option Jvm.ClassFile.FieldType)) ∈ lw_good := lw_g (List.mem_append_left _ (List.mem_append_right _ (List.mem_of_getElem? (i := 1037) (by decide +kernel)))) (by decide +kernel)
theorem wg_1039 : (Jvm.Cond.static ({ cls := "java/lang/StringLatin1", name := "inflate", desc := "([BI[BII)V" } : Jvm.MethodName)) ∈ lw_good := lw_g (List.mem_append_left _ (List.mem_append_right _ (List.mem_of_getElem? (i := 1039) (by decide +kernel)))) (by decide +kernel)
theorem wg_1040 : (Jvm.Cond.code ({ cls := "java/lang/StringLatin1", name := "inflate", desc := "([BI[BII)V" } : Jvm.MethodName) prog_33_method_50_code (5 : Nat) (Option.none : Option Jvm.ClassFile.FieldType)) ∈ lw_good := lw_g (List.mem_append_left _ (List.mem_append_right _ (List.mem_of_getElem? (i := 1040) (by decide +kernel)))) (by decide +kernel)
theorem wg_1053 : (Jvm.Cond.methodLink "java/lang/AbstractStringBuilder" (399 : Nat) ({ cls := "java/lang/String", name := "getBytes", desc := "([BIB)V" } : Jvm.MethodName)) ∈ lw_good := lw_g (List.mem_append_left _ (List.mem_append_right _ (List.mem_of_getElem? (i := 1053) (by decide +kernel)))) (by decide +kernel)
theorem wg_1054 : (Jvm.Cond.instanceMethod ({ cls := "java/lang/String", name := "getBytes", desc := "([BIB)V" } : Jvm.MethodName)) ∈ lw_good := lw_g (List.mem_append_left _ (List.mem_append_right _ (List.mem_of_getElem? (i := 1054) (by decide +kernel)))) (by decide +kernel)
theorem wg_1055 : (Jvm.Cond.selects "java/lang/String" ({ cls := "java/lang/String", name := "getBytes", desc := "([BIB)V" } : Jvm.MethodName) ({ cls := "java/lang/String", name := "getBytes", desc := "([BIB)V" } : Jvm.MethodName)) ∈ lw_good := lw_g (List.mem_append_left _ (List.mem_append_right _ (List.mem_of_getElem? (i := 1055) (by decide +kernel)))) (by decide +kernel)
theorem wg_1056 : (Jvm.Cond.code ({ cls := "java/lang/String", name := "getBytes", desc := "([BIB)V" } : Jvm.MethodName) prog_31_method_147_code (4 : Nat) (Option.none : Option Jvm.ClassFile.FieldType)) ∈ lw_good := lw_g (List.mem_append_left _ (List.mem_append_right _ (List.mem_of_getElem? (i := 1056) (by decide +kernel)))) (by decide +kernel)
theorem wg_1057 : (Jvm.Cond.methodLink "java/lang/String" (212 : Nat) ({ cls := "java/lang/System", name := "arraycopy", desc := "(Ljava/lang/Object;ILjava/lang/Object;II)V" } : Jvm.MethodName)) ∈ lw_good := lw_g (List.mem_append_left _ (List.mem_append_right _ (List.mem_of_getElem? (i := 1057) (by decide +kernel)))) (by decide +kernel)
theorem wg_1058 : (Jvm.Cond.methodLink "java/lang/String" (106 : Nat) ({ cls := "java/lang/StringLatin1", name := "inflate", desc := "([BI[BII)V" } : Jvm.MethodName)) ∈ lw_good := lw_g (List.mem_append_left _ (List.mem_append_right _ (List.mem_of_getElem? (i := 1058) (by decide +kernel)))) (by decide +kernel)
theorem wg_1059 : (Jvm.Cond.methodLink "ProphecyShopLaw" (41 : Nat) ({ cls := "java/lang/StringBuilder", name := "append", desc := "(C)Ljava/lang/StringBuilder;" } : Jvm.MethodName)) ∈ lw_good := lw_g (List.mem_append_left _ (List.mem_append_right _ (List.mem_of_getElem? (i := 1059) (by decide +kernel)))) (by decide +kernel)
theorem wg_1060 : (Jvm.Cond.instanceMethod ({ cls := "java/lang/StringBuilder", name := "append", desc := "(C)Ljava/lang/StringBuilder;" } : Jvm.MethodName)) ∈ lw_good := lw_g (List.mem_append_left _ (List.mem_append_right _ (List.mem_of_getElem? (i := 1060) (by decide +kernel)))) (by decide +kernel)
theorem wg_1061 : (Jvm.Cond.selects "java/lang/StringBuilder" ({ cls := "java/lang/StringBuilder", name := "append", desc := "(C)Ljava/lang/StringBuilder;" } : Jvm.MethodName) ({ cls := "java/lang/StringBuilder", name := "append", desc := "(C)Ljava/lang/StringBuilder;" } : Jvm.MethodName)) ∈ lw_good := lw_g (List.mem_append_left _ (List.mem_append_right _ (List.mem_of_getElem? (i := 1061) (by decide +kernel)))) (by decide +kernel)
theorem wg_1062 : (Jvm.Cond.code ({ cls := "java/lang/StringBuilder", name := "append", desc := "(C)Ljava/lang/StringBuilder;" } : Jvm.MethodName) prog_32_method_14_code (2 : Nat) (Option.some (Jvm.ClassFile.FieldType.object "java/lang/StringBuilder"))) ∈ lw_good := lw_g (List.mem_append_left _ (List.mem_append_right _ (List.mem_of_getElem? (i := 1062) (by decide +kernel)))) (by decide +kernel)
theorem wg_1063 : (Jvm.Cond.methodLink "java/lang/StringBuilder" (50 : Nat) ({ cls := "java/lang/AbstractStringBuilder", name := "append", desc := "(C)Ljava/lang/AbstractStringBuilder;" } : Jvm.MethodName)) ∈ lw_good := lw_g (List.mem_append_left _ (List.mem_append_right _ (List.mem_of_getElem? (i := 1063) (by decide +kernel)))) (by decide +kernel)
theorem wg_1064 : (Jvm.Cond.instanceMethod ({ cls := "java/lang/AbstractStringBuilder", name := "append", desc := "(C)Ljava/lang/AbstractStringBuilder;" } : Jvm.MethodName)) ∈ lw_good := lw_g (List.mem_append_left _ (List.mem_append_right _ (List.mem_of_getElem? (i := 1064) (by decide +kernel)))) (by decide +kernel)
theorem wg_1065 : (Jvm.Cond.code ({ cls := "java/lang/AbstractStringBuilder", name := "append", desc := "(C)Ljava/lang/AbstractStringBuilder;" } : Jvm.MethodName) prog_17_method_31_code (2 : Nat) (Option.some (Jvm.ClassFile.FieldType.object "java/lang/AbstractStringBuilder"))) ∈ lw_good := lw_g (List.mem_append_left _ (List.mem_append_right _ (List.mem_of_getElem? (i := 1065) (by decide +kernel)))) (by decide +kernel)
theorem wg_1066 : (Jvm.Cond.methodLink "java/lang/AbstractStringBuilder" (191 : Nat) ({ cls := "java/lang/StringLatin1", name := "canEncode", desc := "(C)Z" } : Jvm.MethodName)) ∈ lw_good := lw_g (List.mem_append_left _ (List.mem_append_right _ (List.mem_of_getElem? (i := 1066) (by decide +kernel)))) (by decide +kernel)
theorem wg_1067 : (Jvm.Cond.static ({ cls := "java/lang/StringLatin1", name := "canEncode", desc := "(C)Z" } : Jvm.MethodName)) ∈ lw_good := lw_g (List.mem_append_left _ (List.mem_append_right _ (List.mem_of_getElem? (i := 1067) (by decide +kernel)))) (by decide +kernel)
theorem wg_1068 : (Jvm.Cond.code ({ cls := "java/lang/StringLatin1", name := "canEncode", desc := "(C)Z" } : Jvm.MethodName) prog_33_method_3_code (1 : Nat) (Option.some Jvm.ClassFile.FieldType.boolean)) ∈ lw_good := lw_g (List.mem_append_left _ (List.mem_append_right _ (List.mem_of_getElem? (i := 1068) (by decide +kernel)))) (by decide +kernel)
theorem wg_1072 : (Jvm.Cond.methodLink "ProphecyShopLaw" (44 : Nat) ({ cls := "java/lang/StringBuilder", name := "toString", desc := "()Ljava/lang/String;" } : Jvm.MethodName)) ∈ lw_good := lw_g (List.mem_append_left _ (List.mem_append_right _ (List.mem_of_getElem? (i := 1072) (by decide +kernel)))) (by decide +kernel)
theorem wg_1073 : (Jvm.Cond.instanceMethod ({ cls := "java/lang/StringBuilder", name := "toString", desc := "()Ljava/lang/String;" } : Jvm.MethodName)) ∈ lw_good := lw_g (List.mem_append_left _ (List.mem_append_right _ (List.mem_of_getElem? (i := 1073) (by decide +kernel)))) (by decide +kernel)
theorem wg_1074 : (Jvm.Cond.selects "java/lang/StringBuilder" ({ cls := "java/lang/StringBuilder", name := "toString", desc := "()Ljava/lang/String;" } : Jvm.MethodName) ({ cls := "java/lang/StringBuilder", name := "toString", desc := "()Ljava/lang/String;" } : Jvm.MethodName)) ∈ lw_good := lw_g (List.mem_append_left _ (List.mem_append_right _ (List.mem_of_getElem? (i := 1074) (by decide +kernel)))) (by decide +kernel)
theorem wg_1075 : (Jvm.Cond.code ({ cls := "java/lang/StringBuilder", name := "toString", desc := "()Ljava/lang/String;" } : Jvm.MethodName) prog_32_method_42_code (1 : Nat) (Option.some (Jvm.ClassFile.FieldType.object "java/lang/String"))) ∈ lw_good := lw_g (List.mem_append_left _ (List.mem_append_right _ (List.mem_of_getElem? (i := 1075) (by decide +kernel)))) (by decide +kernel)
theorem wg_1076 : (Jvm.Cond.classLink "java/lang/StringBuilder" (18 : Nat) "java/lang/String") ∈ lw_good := lw_g (List.mem_append_left _ (List.mem_append_right _ (List.mem_of_getElem? (i := 1076) (by decide +kernel)))) (by decide +kernel)
theorem wg_1077 : (Jvm.Cond.instantiable "java/lang/String" (4 : Nat)) ∈ lw_good := lw_g (List.mem_append_left _ (List.mem_append_right _ (List.mem_of_getElem? (i := 1077) (by decide +kernel)))) (by decide +kernel)
theorem wg_1078 : (Jvm.Cond.methodLink "java/lang/StringBuilder" (137 : Nat) ({ cls := "java/lang/String", name := "<init>", desc := "(Ljava/lang/StringBuilder;)V" } : Jvm.MethodName)) ∈ lw_good := lw_g (List.mem_append_left _ (List.mem_append_right _ (List.mem_of_getElem? (i := 1078) (by decide +kernel)))) (by decide +kernel)
theorem wg_1079 : (Jvm.Cond.instanceMethod ({ cls := "java/lang/String", name := "<init>", desc := "(Ljava/lang/StringBuilder;)V" } : Jvm.MethodName)) ∈ lw_good := lw_g (List.mem_append_left _ (List.mem_append_right _ (List.mem_of_getElem? (i := 1079) (by decide +kernel)))) (by decide +kernel)
theorem wg_1080 : (Jvm.Cond.code ({ cls := "java/lang/String", name := "<init>", desc := "(Ljava/lang/StringBuilder;)V" } : Jvm.MethodName) prog_31_method_53_code (2 : Nat) (Option.none : Option Jvm.ClassFile.FieldType)) ∈ lw_good := lw_g (List.mem_append_left _ (List.mem_append_right _ (List.mem_of_getElem? (i := 1080) (by decide +kernel)))) (by decide +kernel)
theorem wg_1081 : (Jvm.Cond.methodLink "java/lang/String" (489 : Nat) ({ cls := "java/lang/String", name := "<init>", desc := "(Ljava/lang/AbstractStringBuilder;Ljava/lang/Void;)V" } : Jvm.MethodName)) ∈ lw_good := lw_g (List.mem_append_left _ (List.mem_append_right _ (List.mem_of_getElem? (i := 1081) (by decide +kernel)))) (by decide +kernel)
theorem wg_1082 : (Jvm.Cond.instanceMethod ({ cls := "java/lang/String", name := "<init>", desc := "(Ljava/lang/AbstractStringBuilder;Ljava/lang/Void;)V" } : Jvm.MethodName)) ∈ lw_good := lw_g (List.mem_append_left _ (List.mem_append_right _ (List.mem_of_getElem? (i := 1082) (by decide +kernel)))) (by decide +kernel)
theorem wg_1083 : (Jvm.Cond.code ({ cls := "java/lang/String", name := "<init>", desc := "(Ljava/lang/AbstractStringBuilder;Ljava/lang/Void;)V" } : Jvm.MethodName) prog_31_method_150_code (5 : Nat) (Option.none : Option Jvm.ClassFile.FieldType)) ∈ lw_good := lw_g (List.mem_append_left _ (List.mem_append_right _ (List.mem_of_getElem? (i := 1083) (by decide +kernel)))) (by decide +kernel)
theorem wg_1084 : (Jvm.Cond.methodLink "java/lang/String" (1 : Nat) ({ cls := "java/lang/Object", name := "<init>", desc := "()V" } : Jvm.MethodName)) ∈ lw_good := lw_g (List.mem_append_left _ (List.mem_append_right _ (List.mem_of_getElem? (i := 1084) (by decide +kernel)))) (by decide +kernel)
theorem wg_1085 : (Jvm.Cond.methodLink "java/lang/String" (552 : Nat) ({ cls := "java/lang/AbstractStringBuilder", name := "getValue", desc := "()[B" } : Jvm.MethodName)) ∈ lw_good := lw_g (List.mem_append_left _ (List.mem_append_right _ (List.mem_of_getElem? (i := 1085) (by decide +kernel)))) (by decide +kernel)
theorem wg_1086 : (Jvm.Cond.instanceMethod ({ cls := "java/lang/AbstractStringBuilder", name := "getValue", desc := "()[B" } : Jvm.MethodName)) ∈ lw_good := lw_g (List.mem_append_left _ (List.mem_append_right _ (List.mem_of_getElem? (i := 1086) (by decide +kernel)))) (by decide +kernel)
theorem wg_1087 : (Jvm.Cond.sameMethod "java/lang/AbstractStringBuilder" "java/lang/AbstractStringBuilder" "getValue" "()[B") ∈ lw_good := lw_g (List.mem_append_left _ (List.mem_append_right _ (List.mem_of_getElem? (i := 1087) (by decide +kernel)))) (by decide +kernel)
theorem wg_1088 : (Jvm.Cond.selects "java/lang/StringBuilder" ({ cls := "java/lang/AbstractStringBuilder", name := "getValue", desc := "()[B" } : Jvm.MethodName) ({ cls := "java/lang/AbstractStringBuilder", name := "getValue", desc := "()[B" } : Jvm.MethodName)) ∈ lw_good := lw_g (List.mem_append_left _ (List.mem_append_right _ (List.mem_of_getElem? (i := 1088) (by decide +kernel)))) (by decide +kernel)
theorem wg_1089 : (Jvm.Cond.code ({ cls := "java/lang/AbstractStringBuilder", name := "getValue", desc := "()[B" } : Jvm.MethodName) prog_17_method_64_code (1 : Nat) (Option.some (Jvm.ClassFile.FieldType.array Jvm.ClassFile.FieldType.byte))) ∈ lw_good := lw_g (List.mem_append_left _ (List.mem_append_right _ (List.mem_of_getElem? (i := 1089) (by decide +kernel)))) (by decide +kernel)
theorem wg_1090 : (Jvm.Cond.methodLink "java/lang/String" (549 : Nat) ({ cls := "java/lang/AbstractStringBuilder", name := "length", desc := "()I" } : Jvm.MethodName)) ∈ lw_good := lw_g (List.mem_append_left _ (List.mem_append_right _ (List.mem_of_getElem? (i := 1090) (by decide +kernel)))) (by decide +kernel)
theorem wg_1091 : (Jvm.Cond.instanceMethod ({ cls := "java/lang/AbstractStringBuilder", name := "length", desc := "()I" } : Jvm.MethodName)) ∈ lw_good := lw_g (List.mem_append_left _ (List.mem_append_right _ (List.mem_of_getElem? (i := 1091) (by decide +kernel)))) (by decide +kernel)
theorem wg_1092 : (Jvm.Cond.sameMethod "java/lang/AbstractStringBuilder" "java/lang/AbstractStringBuilder" "length" "()I") ∈ lw_good := lw_g (List.mem_append_left _ (List.mem_append_right _ (List.mem_of_getElem? (i := 1092) (by decide +kernel)))) (by decide +kernel)
theorem wg_1093 : (Jvm.Cond.selects "java/lang/StringBuilder" ({ cls := "java/lang/AbstractStringBuilder", name := "length", desc := "()I" } : Jvm.MethodName) ({ cls := "java/lang/StringBuilder", name := "length", desc := "()I" } : Jvm.MethodName)) ∈ lw_good := lw_g (List.mem_append_left _ (List.mem_append_right _ (List.mem_of_getElem? (i := 1093) (by decide +kernel)))) (by decide +kernel)
theorem wg_1094 : (Jvm.Cond.instanceMethod ({ cls := "java/lang/StringBuilder", name := "length", desc := "()I" } : Jvm.MethodName)) ∈ lw_good := lw_g (List.mem_append_left _ (List.mem_append_right _ (List.mem_of_getElem? (i := 1094) (by decide +kernel)))) (by decide +kernel)
theorem wg_1095 : (Jvm.Cond.code ({ cls := "java/lang/StringBuilder", name := "length", desc := "()I" } : Jvm.MethodName) prog_32_method_93_code (1 : Nat) (Option.some Jvm.ClassFile.FieldType.int)) ∈ lw_good := lw_g (List.mem_append_left _ (List.mem_append_right _ (List.mem_of_getElem? (i := 1095) (by decide +kernel)))) (by decide +kernel)
theorem wg_1096 : (Jvm.Cond.methodLink "java/lang/StringBuilder" (343 : Nat) ({ cls := "java/lang/AbstractStringBuilder", name := "length", desc := "()I" } : Jvm.MethodName)) ∈ lw_good := lw_g (List.mem_append_left _ (List.mem_append_right _ (List.mem_of_getElem? (i := 1096) (by decide +kernel)))) (by decide +kernel)
theorem wg_1097 : (Jvm.Cond.code ({ cls := "java/lang/AbstractStringBuilder", name := "length", desc := "()I" } : Jvm.MethodName) prog_17_method_6_code (1 : Nat) (Option.some Jvm.ClassFile.FieldType.int)) ∈ lw_good := lw_g (List.mem_append_left _ (List.mem_append_right _ (List.mem_of_getElem? (i := 1097) (by decide +kernel)))) (by decide +kernel)
theorem wg_1098 : (Jvm.Cond.methodLink "java/lang/String" (1047 : Nat) ({ cls := "java/lang/AbstractStringBuilder", name := "isLatin1", desc := "()Z" } : Jvm.MethodName)) ∈ lw_good := lw_g (List.mem_append_left _ (List.mem_append_right _ (List.mem_of_getElem? (i := 1098) (by decide +kernel)))) (by decide +kernel)
theorem wg_1099 : (Jvm.Cond.methodLink "java/lang/String" (54 : Nat) ({ cls := "java/util/Arrays", name := "copyOfRange", desc := "([BII)[B" } : Jvm.MethodName)) ∈ lw_good := lw_g (List.mem_append_left _ (List.mem_append_right _ (List.mem_of_getElem? (i := 1099) (by decide +kernel)))) (by decide +kernel)
theorem wg_1100 : (Jvm.Cond.static ({ cls := "java/util/Arrays", name := "copyOfRange", desc := "([BII)[B" } : Jvm.MethodName)) ∈ lw_good := lw_g (List.mem_append_left _ (List.mem_append_right _ (List.mem_of_getElem? (i := 1100) (by decide +kernel)))) (by decide +kernel)
theorem wg_1101 : (Jvm.Cond.code ({ cls := "java/util/Arrays", name := "copyOfRange", desc := "([BII)[B" } : Jvm.MethodName) prog_39_method_132_code (3 : Nat) (Option.some (Jvm.ClassFile.FieldType.array Jvm.ClassFile.FieldType.byte))) ∈ lw_good := lw_g (List.mem_append_left _ (List.mem_append_right _ (List.mem_of_getElem? (i := 1101) (by decide +kernel)))) (by decide +kernel)
theorem wg_1102 : (Jvm.Cond.methodLink "java/util/Arrays" (339 : Nat) ({ cls := "java/util/Arrays", name := "copyOfRangeByte", desc := "([BII)[B" } : Jvm.MethodName)) ∈ lw_good := lw_g (List.mem_append_left _ (List.mem_append_right _ (List.mem_of_getElem? (i := 1102) (by decide +kernel)))) (by decide +kernel)
theorem wg_1103 : (Jvm.Cond.static ({ cls := "java/util/Arrays", name := "copyOfRangeByte", desc := "([BII)[B" } : Jvm.MethodName)) ∈ lw_good := lw_g (List.mem_append_left _ (List.mem_append_right _ (List.mem_of_getElem? (i := 1103) (by decide +kernel)))) (by decide +kernel)
theorem wg_1104 : (Jvm.Cond.code ({ cls := "java/util/Arrays", name := "copyOfRangeByte", desc := "([BII)[B" } : Jvm.MethodName) prog_39_method_133_code (5 : Nat) (Option.some (Jvm.ClassFile.FieldType.array Jvm.ClassFile.FieldType.byte))) ∈ lw_good := lw_g (List.mem_append_left _ (List.mem_append_right _ (List.mem_of_getElem? (i := 1104) (by decide +kernel)))) (by decide +kernel)
theorem wg_1105 : (Jvm.Cond.methodLink "java/util/Arrays" (343 : Nat) ({ cls := "java/util/Arrays", name := "checkLength", desc := "(II)V" } : Jvm.MethodName)) ∈ lw_good := lw_g (List.mem_append_left _ (List.mem_append_right _ (List.mem_of_getElem? (i := 1105) (by decide +kernel)))) (by decide +kernel)
theorem wg_1106 : (Jvm.Cond.static ({ cls := "java/util/Arrays", name := "checkLength", desc := "(II)V" } : Jvm.MethodName)) ∈ lw_good := lw_g (List.mem_append_left _ (List.mem_append_right _ (List.mem_of_getElem? (i := 1106) (by decide +kernel)))) (by decide +kernel)
theorem wg_1107 : (Jvm.Cond.code ({ cls := "java/util/Arrays", name := "checkLength", desc := "(II)V" } : Jvm.MethodName) prog_39_method_131_code (2 : Nat) (Option.none : Option Jvm.ClassFile.FieldType)) ∈ lw_good := lw_g (List.mem_append_left _ (List.mem_append_right _ (List.mem_of_getElem? (i := 1107) (by decide +kernel)))) (by decide +kernel)
theorem wg_1118 : (Jvm.Cond.fieldLink "java/lang/String" (9 : Nat) "java/lang/String" "value" "[B") ∈ lw_good := lw_g (List.mem_append_left _ (List.mem_append_right _ (List.mem_of_getElem? (i := 1118) (by decide +kernel)))) (by decide +kernel)
theorem wg_1119 : (Jvm.Cond.fieldLink "java/lang/String" (15 : Nat) "java/lang/String" "coder" "B") ∈ lw_good := lw_g (List.mem_append_left _ (List.mem_append_right _ (List.mem_of_getElem? (i := 1119) (by decide +kernel)))) (by decide +kernel)
theorem wg_1134 : (Jvm.Cond.methodLink "ProphecyShopLaw" (87 : Nat) ({ cls := "java/lang/StringBuilder", name := "append", desc := "(I)Ljava/lang/StringBuilder;" } : Jvm.MethodName)) ∈ lw_good := lw_g (List.mem_append_left _ (List.mem_append_right _ (List.mem_of_getElem? (i := 1134) (by decide +kernel)))) (by decide +kernel)
theorem wg_1135 : (Jvm.Cond.instanceMethod ({ cls := "java/lang/StringBuilder", name := "append", desc := "(I)Ljava/lang/StringBuilder;" } : Jvm.MethodName)) ∈ lw_good := lw_g (List.mem_append_left _ (List.mem_append_right _ (List.mem_of_getElem? (i := 1135) (by decide +kernel)))) (by decide +kernel)
theorem wg_1136 : (Jvm.Cond.selects "java/lang/StringBuilder" ({ cls := "java/lang/StringBuilder", name := "append", desc := "(I)Ljava/lang/StringBuilder;" } : Jvm.MethodName) ({ cls := "java/lang/StringBuilder", name := "append", desc := "(I)Ljava/lang/StringBuilder;" } : Jvm.MethodName)) ∈ lw_good := lw_g (List.mem_append_left _ (List.mem_append_right _ (List.mem_of_getElem? (i := 1136) (by decide +kernel)))) (by decide +kernel)
theorem wg_1137 : (Jvm.Cond.code ({ cls := "java/lang/StringBuilder", name := "append", desc := "(I)Ljava/lang/StringBuilder;" } : Jvm.MethodName) prog_32_method_15_code (2 : Nat) (Option.some (Jvm.ClassFile.FieldType.object "java/lang/StringBuilder"))) ∈ lw_good := lw_g (List.mem_append_left _ (List.mem_append_right _ (List.mem_of_getElem? (i := 1137) (by decide +kernel)))) (by decide +kernel)
theorem wg_1138 : (Jvm.Cond.methodLink "java/lang/StringBuilder" (53 : Nat) ({ cls := "java/lang/AbstractStringBuilder", name := "append", desc := "(I)Ljava/lang/AbstractStringBuilder;" } : Jvm.MethodName)) ∈ lw_good := lw_g (List.mem_append_left _ (List.mem_append_right _ (List.mem_of_getElem? (i := 1138) (by decide +kernel)))) (by decide +kernel)
theorem wg_1139 : (Jvm.Cond.instanceMethod ({ cls := "java/lang/AbstractStringBuilder", name := "append", desc := "(I)Ljava/lang/AbstractStringBuilder;" } : Jvm.MethodName)) ∈ lw_good := lw_g (List.mem_append_left _ (List.mem_append_right _ (List.mem_of_getElem? (i := 1139) (by decide +kernel)))) (by decide +kernel)
theorem wg_1140 : (Jvm.Cond.code ({ cls := "java/lang/AbstractStringBuilder", name := "append", desc := "(I)Ljava/lang/AbstractStringBuilder;" } : Jvm.MethodName) prog_17_method_32_code (4 : Nat) (Option.some (Jvm.ClassFile.FieldType.object "java/lang/AbstractStringBuilder"))) ∈ lw_good := lw_g (List.mem_append_left _ (List.mem_append_right _ (List.mem_of_getElem? (i := 1140) (by decide +kernel)))) (by decide +kernel)
theorem wg_1141 : (Jvm.Cond.methodLink "java/lang/AbstractStringBuilder" (245 : Nat) ({ cls := "java/lang/Integer", name := "stringSize", desc := "(I)I" } : Jvm.MethodName)) ∈ lw_good := lw_g (List.mem_append_left _ (List.mem_append_right _ (List.mem_of_getElem? (i := 1141) (by decide +kernel)))) (by decide +kernel)
theorem wg_1142 : (Jvm.Cond.static ({ cls := "java/lang/Integer", name := "stringSize", desc := "(I)I" } : Jvm.MethodName)) ∈ lw_good := lw_g (List.mem_append_left _ (List.mem_append_right _ (List.mem_of_getElem? (i := 1142) (by decide +kernel)))) (by decide +kernel)
theorem wg_1143 : (Jvm.Cond.code ({ cls := "java/lang/Integer", name := "stringSize", desc := "(I)I" } : Jvm.MethodName) prog_27_method_13_code (4 : Nat) (Option.some Jvm.ClassFile.FieldType.int)) ∈ lw_good := lw_g (List.mem_append_left _ (List.mem_append_right _ (List.mem_of_getElem? (i := 1143) (by decide +kernel)))) (by decide +kernel)
theorem wg_1144 : (Jvm.Cond.methodLink "java/lang/AbstractStringBuilder" (248 : Nat) ({ cls := "java/lang/Integer", name := "getChars", desc := "(II[B)I" } : Jvm.MethodName)) ∈ lw_good := lw_g (List.mem_append_left _ (List.mem_append_right _ (List.mem_of_getElem? (i := 1144) (by decide +kernel)))) (by decide +kernel)
theorem wg_1145 : (Jvm.Cond.static ({ cls := "java/lang/Integer", name := "getChars", desc := "(II[B)I" } : Jvm.MethodName)) ∈ lw_good := lw_g (List.mem_append_left _ (List.mem_append_right _ (List.mem_of_getElem? (i := 1145) (by decide +kernel)))) (by decide +kernel)
theorem wg_1146 : (Jvm.Cond.code ({ cls := "java/lang/Integer", name := "getChars", desc := "(II[B)I" } : Jvm.MethodName) prog_27_method_12_code (7 : Nat) (Option.some Jvm.ClassFile.FieldType.int)) ∈ lw_good := lw_g (List.mem_append_left _ (List.mem_append_right _ (List.mem_of_getElem? (i := 1146) (by decide +kernel)))) (by decide +kernel)
theorem wg_1147 : (Jvm.Cond.fieldLink "java/lang/Integer" (83 : Nat) "java/lang/Integer" "DigitOnes" "[B") ∈ lw_good := lw_g (List.mem_append_left _ (List.mem_append_right _ (List.mem_of_getElem? (i := 1147) (by decide +kernel)))) (by decide +kernel)
theorem wg_1149 : (Jvm.Cond.fieldLink "java/lang/Integer" (87 : Nat) "java/lang/Integer" "DigitTens" "[B") ∈ lw_good := lw_g (List.mem_append_left _ (List.mem_append_right _ (List.mem_of_getElem? (i := 1149) (by decide +kernel)))) (by decide +kernel)
theorem wt_1176 : (Jvm.Cond.castable "java/lang/IndexOutOfBoundsException" "java/lang/IndexOutOfBoundsException") ∈ lw_T := List.mem_append_left _ (List.mem_append_right _ (List.mem_of_getElem? (i := 1176) (by decide +kernel)))
theorem wt_1225 : (Jvm.Cond.castable "java/util/NoSuchElementException" "java/util/NoSuchElementException") ∈ lw_T := List.mem_append_left _ (List.mem_append_right _ (List.mem_of_getElem? (i := 1225) (by decide +kernel)))
theorem wg_1289 : (Jvm.Cond.classLink "ProphecyShop" (327 : Nat) "java/lang/StringBuilder") ∈ lw_good := lw_g (List.mem_append_left _ (List.mem_append_right _ (List.mem_of_getElem? (i := 1289) (by decide +kernel)))) (by decide +kernel)
theorem wg_1290 : (Jvm.Cond.methodLink "ProphecyShop" (329 : Nat) ({ cls := "java/lang/StringBuilder", name := "<init>", desc := "()V" } : Jvm.MethodName)) ∈ lw_good := lw_g (List.mem_append_left _ (List.mem_append_right _ (List.mem_of_getElem? (i := 1290) (by decide +kernel)))) (by decide +kernel)
theorem wg_1296 : (Jvm.Cond.methodLink "ProphecyShop$Names" (29 : Nat) ({ cls := "java/lang/StringBuilder", name := "append", desc := "(C)Ljava/lang/StringBuilder;" } : Jvm.MethodName)) ∈ lw_good := lw_g (List.mem_append_left _ (List.mem_append_right _ (List.mem_of_getElem? (i := 1296) (by decide +kernel)))) (by decide +kernel)
theorem wg_1297 : (Jvm.Cond.methodLink "ProphecyShop" (334 : Nat) ({ cls := "java/lang/StringBuilder", name := "append", desc := "(C)Ljava/lang/StringBuilder;" } : Jvm.MethodName)) ∈ lw_good := lw_g (List.mem_append_left _ (List.mem_append_right _ (List.mem_of_getElem? (i := 1297) (by decide +kernel)))) (by decide +kernel)
theorem wg_1298 : (Jvm.Cond.methodLink "ProphecyShop" (338 : Nat) ({ cls := "java/lang/StringBuilder", name := "append", desc := "(I)Ljava/lang/StringBuilder;" } : Jvm.MethodName)) ∈ lw_good := lw_g (List.mem_append_left _ (List.mem_append_right _ (List.mem_of_getElem? (i := 1298) (by decide +kernel)))) (by decide +kernel)
theorem wg_1299 : (Jvm.Cond.methodLink "ProphecyShop" (341 : Nat) ({ cls := "java/lang/StringBuilder", name := "toString", desc := "()Ljava/lang/String;" } : Jvm.MethodName)) ∈ lw_good := lw_g (List.mem_append_left _ (List.mem_append_right _ (List.mem_of_getElem? (i := 1299) (by decide +kernel)))) (by decide +kernel)
theorem wg_1303 : (Jvm.Cond.methodLink "ProphecyShopLaw" (15 : Nat) ({ cls := "java/lang/String", name := "length", desc := "()I" } : Jvm.MethodName)) ∈ lw_good := lw_g (List.mem_append_left _ (List.mem_append_right _ (List.mem_of_getElem? (i := 1303) (by decide +kernel)))) (by decide +kernel)
theorem wg_1308 : (Jvm.Cond.methodLink "ProphecyShopLaw" (21 : Nat) ({ cls := "java/lang/String", name := "charAt", desc := "(I)C" } : Jvm.MethodName)) ∈ lw_good := lw_g (List.mem_append_left _ (List.mem_append_right _ (List.mem_of_getElem? (i := 1308) (by decide +kernel)))) (by decide +kernel)
theorem wt_1336 : (Jvm.Cond.castable "java/lang/IllegalArgumentException" "java/lang/IllegalArgumentException") ∈ lw_T := List.mem_append_left _ (List.mem_append_right _ (List.mem_of_getElem? (i := 1336) (by decide +kernel)))
theorem wg_14 : (Jvm.Cond.initialized "java/lang/StringLatin1") ∈ lw_good := lw_g (List.mem_append_left _ (List.mem_append_right _ (List.mem_of_getElem? (i := 14) (by decide +kernel)))) (by decide +kernel)
theorem wg_1406 : (Jvm.Cond.code ({ cls := "java/lang/Float", name := "floatToIntBits", desc := "(F)I" } : Jvm.MethodName) prog_23_method_24_code (1 : Nat) (Option.some Jvm.ClassFile.FieldType.int)) ∈ lw_good := lw_g (List.mem_append_left _ (List.mem_append_right _ (List.mem_of_getElem? (i := 1406) (by decide +kernel)))) (by decide +kernel)
theorem wg_1407 : (Jvm.Cond.methodLink "java/lang/Float" (59 : Nat) ({ cls := "java/lang/Float", name := "isNaN", desc := "(F)Z" } : Jvm.MethodName)) ∈ lw_good := lw_g (List.mem_append_left _ (List.mem_append_right _ (List.mem_of_getElem? (i := 1407) (by decide +kernel)))) (by decide +kernel)
theorem wg_1408 : (Jvm.Cond.static ({ cls := "java/lang/Float", name := "isNaN", desc := "(F)Z" } : Jvm.MethodName)) ∈ lw_good := lw_g (List.mem_append_left _ (List.mem_append_right _ (List.mem_of_getElem? (i := 1408) (by decide +kernel)))) (by decide +kernel)
theorem wg_1409 : (Jvm.Cond.code ({ cls := "java/lang/Float", name := "isNaN", desc := "(F)Z" } : Jvm.MethodName) prog_23_method_6_code (1 : Nat) (Option.some Jvm.ClassFile.FieldType.boolean)) ∈ lw_good := lw_g (List.mem_append_left _ (List.mem_append_right _ (List.mem_of_getElem? (i := 1409) (by decide +kernel)))) (by decide +kernel)
theorem wg_15 : (Jvm.Cond.initialized "jdk/internal/util/Preconditions") ∈ lw_good := lw_g (List.mem_append_left _ (List.mem_append_right _ (List.mem_of_getElem? (i := 15) (by decide +kernel)))) (by decide +kernel)
theorem wg_1666 : (Jvm.Cond.methodLink "ProphecyShopLaw" (362 : Nat) ({ cls := "java/lang/StringBuilder", name := "<init>", desc := "(Ljava/lang/String;)V" } : Jvm.MethodName)) ∈ lw_good := lw_g (List.mem_append_left _ (List.mem_append_right _ (List.mem_of_getElem? (i := 1666) (by decide +kernel)))) (by decide +kernel)
theorem wg_1667 : (Jvm.Cond.instanceMethod ({ cls := "java/lang/StringBuilder", name := "<init>", desc := "(Ljava/lang/String;)V" } : Jvm.MethodName)) ∈ lw_good := lw_g (List.mem_append_left _ (List.mem_append_right _ (List.mem_of_getElem? (i := 1667) (by decide +kernel)))) (by decide +kernel)
theorem wg_1668 : (Jvm.Cond.code ({ cls := "java/lang/StringBuilder", name := "<init>", desc := "(Ljava/lang/String;)V" } : Jvm.MethodName) prog_32_method_3_code (2 : Nat) (Option.none : Option Jvm.ClassFile.FieldType)) ∈ lw_good := lw_g (List.mem_append_left _ (List.mem_append_right _ (List.mem_of_getElem? (i := 1668) (by decide +kernel)))) (by decide +kernel)
theorem wg_1669 : (Jvm.Cond.methodLink "java/lang/StringBuilder" (7 : Nat) ({ cls := "java/lang/AbstractStringBuilder", name := "<init>", desc := "(Ljava/lang/String;)V" } : Jvm.MethodName)) ∈ lw_good := lw_g (List.mem_append_left _ (List.mem_append_right _ (List.mem_of_getElem? (i := 1669) (by decide +kernel)))) (by decide +kernel)
theorem wg_1670 : (Jvm.Cond.instanceMethod ({ cls := "java/lang/AbstractStringBuilder", name := "<init>", desc := "(Ljava/lang/String;)V" } : Jvm.MethodName)) ∈ lw_good := lw_g (List.mem_append_left _ (List.mem_append_right _ (List.mem_of_getElem? (i := 1670) (by decide +kernel)))) (by decide +kernel)
theorem wg_1671 : (Jvm.Cond.code ({ cls := "java/lang/AbstractStringBuilder", name := "<init>", desc := "(Ljava/lang/String;)V" } : Jvm.MethodName) prog_17_method_3_code (5 : Nat) (Option.none : Option Jvm.ClassFile.FieldType)) ∈ lw_good := lw_g (List.mem_append_left _ (List.mem_append_right _ (List.mem_of_getElem? (i := 1671) (by decide +kernel)))) (by decide +kernel)
theorem wg_1673 : (Jvm.Cond.methodLink "java/lang/AbstractStringBuilder" (43 : Nat) ({ cls := "java/lang/AbstractStringBuilder", name := "append", desc := "(Ljava/lang/String;)Ljava/lang/AbstractStringBuilder;" } : Jvm.MethodName)) ∈ lw_good := lw_g (List.mem_append_left _ (List.mem_append_right _ (List.mem_of_getElem? (i := 1673) (by decide +kernel)))) (by decide +kernel)
theorem wg_1674 : (Jvm.Cond.instanceMethod ({ cls := "java/lang/StringBuilder", name := "append", desc := "(Ljava/lang/String;)Ljava/lang/AbstractStringBuilder;" } : Jvm.MethodName)) ∈ lw_good := lw_g (List.mem_append_left _ (List.mem_append_right _ (List.mem_of_getElem? (i := 1674) (by decide +kernel)))) (by decide +kernel)
theorem wg_1675 : (Jvm.Cond.code ({ cls := "java/lang/StringBuilder", name := "append", desc := "(Ljava/lang/String;)Ljava/lang/AbstractStringBuilder;" } : Jvm.MethodName) prog_32_method_80_code (2 : Nat) (Option.some (Jvm.ClassFile.FieldType.object "java/lang/AbstractStringBuilder"))) ∈ lw_good := lw_g (List.mem_append_left _ (List.mem_append_right _ (List.mem_of_getElem? (i := 1675) (by decide +kernel)))) (by decide +kernel)
theorem wg_1676 : (Jvm.Cond.methodLink "java/lang/StringBuilder" (23 : Nat) ({ cls := "java/lang/StringBuilder", name := "append", desc := "(Ljava/lang/String;)Ljava/lang/StringBuilder;" } : Jvm.MethodName)) ∈ lw_good := lw_g (List.mem_append_left _ (List.mem_append_right _ (List.mem_of_getElem? (i := 1676) (by decide +kernel)))) (by decide +kernel)
theorem wg_1714 : (Jvm.Cond.sameMethod "java/lang/AbstractStringBuilder" "java/lang/AbstractStringBuilder" "append" "(Ljava/lang/String;)Ljava/lang/AbstractStringBuilder;") ∈ lw_good := lw_g (List.mem_append_left _ (List.mem_append_right _ (List.mem_of_getElem? (i := 1714) (by decide +kernel)))) (by decide +kernel)
theorem wg_1715 : (Jvm.Cond.sameMethod "java/lang/AbstractStringBuilder" "java/lang/AbstractStringBuilder" "appendNull" "()Ljava/lang/AbstractStringBuilder;") ∈ lw_good := lw_g (List.mem_append_left _ (List.mem_append_right _ (List.mem_of_getElem? (i := 1715) (by decide +kernel)))) (by decide +kernel)
theorem wg_1716 : (Jvm.Cond.sameMethod "java/lang/AbstractStringBuilder" "java/lang/AbstractStringBuilder" "ensureCapacityInternal" "(I)V") ∈ lw_good := lw_g (List.mem_append_left _ (List.mem_append_right _ (List.mem_of_getElem? (i := 1716) (by decide +kernel)))) (by decide +kernel)
theorem wg_1717 : (Jvm.Cond.sameMethod "java/lang/AbstractStringBuilder" "java/lang/AbstractStringBuilder" "newCapacity" "(I)I") ∈ lw_good := lw_g (List.mem_append_left _ (List.mem_append_right _ (List.mem_of_getElem? (i := 1717) (by decide +kernel)))) (by decide +kernel)
theorem wg_1718 : (Jvm.Cond.sameMethod "java/lang/AbstractStringBuilder" "java/lang/AbstractStringBuilder" "putStringAt" "(ILjava/lang/String;)V") ∈ lw_good := lw_g (List.mem_append_left _ (List.mem_append_right _ (List.mem_of_getElem? (i := 1718) (by decide +kernel)))) (by decide +kernel)
theorem wg_1719 : (Jvm.Cond.sameMethod "java/lang/AbstractStringBuilder" "java/lang/AbstractStringBuilder" "inflateIfNeededFor" "(Ljava/lang/String;)V") ∈ lw_good := lw_g (List.mem_append_left _ (List.mem_append_right _ (List.mem_of_getElem? (i := 1719) (by decide +kernel)))) (by decide +kernel)
theorem wg_1720 : (Jvm.Cond.sameMethod "java/lang/AbstractStringBuilder" "java/lang/AbstractStringBuilder" "inflate" "()V") ∈ lw_good := lw_g (List.mem_append_left _ (List.mem_append_right _ (List.mem_of_getElem? (i := 1720) (by decide +kernel)))) (by decide +kernel)
theorem wg_1721 : (Jvm.Cond.sameMethod "java/lang/AbstractStringBuilder" "java/lang/AbstractStringBuilder" "append" "(C)Ljava/lang/AbstractStringBuilder;") ∈ lw_good := lw_g (List.mem_append_left _ (List.mem_append_right _ (List.mem_of_getElem? (i := 1721) (by decide +kernel)))) (by decide +kernel)
theorem wg_1722 : (Jvm.Cond.sameMethod "java/lang/AbstractStringBuilder" "java/lang/AbstractStringBuilder" "append" "(I)Ljava/lang/AbstractStringBuilder;") ∈ lw_good := lw_g (List.mem_append_left _ (List.mem_append_right _ (List.mem_of_getElem? (i := 1722) (by decide +kernel)))) (by decide +kernel)
theorem wg_1723 : (Jvm.Cond.selects "java/lang/StringBuilder" ({ cls := "java/lang/AbstractStringBuilder", name := "append", desc := "(Ljava/lang/String;)Ljava/lang/AbstractStringBuilder;" } : Jvm.MethodName) ({ cls := "java/lang/StringBuilder", name := "append", desc := "(Ljava/lang/String;)Ljava/lang/AbstractStringBuilder;" } : Jvm.MethodName)) ∈ lw_good := lw_g (List.mem_append_left _ (List.mem_append_right _ (List.mem_of_getElem? (i := 1723) (by decide +kernel)))) (by decide +kernel)
theorem wt_1724 : (Jvm.Cond.castable "ProphecyShop" "java/lang/Object") ∈ lw_T := List.mem_append_left _ (List.mem_append_right _ (List.mem_of_getElem? (i := 1724) (by decide +kernel)))
theorem wt_1725 : (Jvm.Cond.castable "ProphecyShop$Text" "java/lang/Object") ∈ lw_T := List.mem_append_left _ (List.mem_append_right _ (List.mem_of_getElem? (i := 1725) (by decide +kernel)))
theorem wt_1726 : (Jvm.Cond.castable "ProphecyShop$SetupReader" "java/lang/Object") ∈ lw_T := List.mem_append_left _ (List.mem_append_right _ (List.mem_of_getElem? (i := 1726) (by decide +kernel)))
theorem wt_1727 : (Jvm.Cond.castable "ProphecyShop$Script" "java/lang/Object") ∈ lw_T := List.mem_append_left _ (List.mem_append_right _ (List.mem_of_getElem? (i := 1727) (by decide +kernel)))
theorem wt_1728 : (Jvm.Cond.castable "ProphecyShop$Step" "java/lang/Object") ∈ lw_T := List.mem_append_left _ (List.mem_append_right _ (List.mem_of_getElem? (i := 1728) (by decide +kernel)))
theorem wt_1729 : (Jvm.Cond.castable "ProphecyShop$Setup" "java/lang/Object") ∈ lw_T := List.mem_append_left _ (List.mem_append_right _ (List.mem_of_getElem? (i := 1729) (by decide +kernel)))
theorem wt_1730 : (Jvm.Cond.castable "ProphecyShop$Names" "java/lang/Object") ∈ lw_T := List.mem_append_left _ (List.mem_append_right _ (List.mem_of_getElem? (i := 1730) (by decide +kernel)))
theorem wt_1731 : (Jvm.Cond.castable "ProphecyShop$Shop" "java/lang/Object") ∈ lw_T := List.mem_append_left _ (List.mem_append_right _ (List.mem_of_getElem? (i := 1731) (by decide +kernel)))
theorem wt_1732 : (Jvm.Cond.castable "ProphecyShop$Prophecy" "java/lang/Object") ∈ lw_T := List.mem_append_left _ (List.mem_append_right _ (List.mem_of_getElem? (i := 1732) (by decide +kernel)))
theorem wt_1733 : (Jvm.Cond.castable "ProphecyShop$Owl" "java/lang/Object") ∈ lw_T := List.mem_append_left _ (List.mem_append_right _ (List.mem_of_getElem? (i := 1733) (by decide +kernel)))
theorem wt_1734 : (Jvm.Cond.castable "ProphecyShop$History" "java/lang/Object") ∈ lw_T := List.mem_append_left _ (List.mem_append_right _ (List.mem_of_getElem? (i := 1734) (by decide +kernel)))
theorem wt_1735 : (Jvm.Cond.castable "ProphecyShopLaw$Own" "java/lang/Object") ∈ lw_T := List.mem_append_left _ (List.mem_append_right _ (List.mem_of_getElem? (i := 1735) (by decide +kernel)))
theorem wt_1736 : (Jvm.Cond.castable "java/lang/StringBuilder" "java/lang/Object") ∈ lw_T := List.mem_append_left _ (List.mem_append_right _ (List.mem_of_getElem? (i := 1736) (by decide +kernel)))
theorem wt_1737 : (Jvm.Cond.castable "java/lang/String" "java/lang/Object") ∈ lw_T := List.mem_append_left _ (List.mem_append_right _ (List.mem_of_getElem? (i := 1737) (by decide +kernel)))
theorem wt_1738 : (Jvm.Cond.castable "java/lang/IllegalStateException" "java/lang/Object") ∈ lw_T := List.mem_append_left _ (List.mem_append_right _ (List.mem_of_getElem? (i := 1738) (by decide +kernel)))
theorem wt_1739 : (Jvm.Cond.castable "java/lang/IndexOutOfBoundsException" "java/lang/Object") ∈ lw_T := List.mem_append_left _ (List.mem_append_right _ (List.mem_of_getElem? (i := 1739) (by decide +kernel)))
theorem wt_1740 : (Jvm.Cond.castable "java/util/NoSuchElementException" "java/lang/Object") ∈ lw_T := List.mem_append_left _ (List.mem_append_right _ (List.mem_of_getElem? (i := 1740) (by decide +kernel)))
theorem wt_1741 : (Jvm.Cond.castable "java/lang/IllegalArgumentException" "java/lang/Object") ∈ lw_T := List.mem_append_left _ (List.mem_append_right _ (List.mem_of_getElem? (i := 1741) (by decide +kernel)))
theorem wt_1742 : (Jvm.Cond.castable "java/lang/Throwable" "java/lang/Object") ∈ lw_T := List.mem_append_left _ (List.mem_append_right _ (List.mem_of_getElem? (i := 1742) (by decide +kernel)))
theorem wg_19 : (Jvm.Cond.initialized "java/lang/AbstractStringBuilder") ∈ lw_good := lw_g (List.mem_append_left _ (List.mem_append_right _ (List.mem_of_getElem? (i := 19) (by decide +kernel)))) (by decide +kernel)
theorem wg_20 : (Jvm.Cond.initialized "java/lang/StringBuilder") ∈ lw_good := lw_g (List.mem_append_left _ (List.mem_append_right _ (List.mem_of_getElem? (i := 20) (by decide +kernel)))) (by decide +kernel)
theorem wg_21 : (Jvm.Cond.initialized "jdk/internal/util/ArraysSupport") ∈ lw_good := lw_g (List.mem_append_left _ (List.mem_append_right _ (List.mem_of_getElem? (i := 21) (by decide +kernel)))) (by decide +kernel)
theorem wg_22 : (Jvm.Cond.initialized "java/util/Arrays") ∈ lw_good := lw_g (List.mem_append_left _ (List.mem_append_right _ (List.mem_of_getElem? (i := 22) (by decide +kernel)))) (by decide +kernel)
theorem wg_25 : (Jvm.Cond.initialized "java/lang/Integer") ∈ lw_good := lw_g (List.mem_append_left _ (List.mem_append_right _ (List.mem_of_getElem? (i := 25) (by decide +kernel)))) (by decide +kernel)
theorem wg_33 : (Jvm.Cond.initialized "java/lang/Float") ∈ lw_good := lw_g (List.mem_append_left _ (List.mem_append_right _ (List.mem_of_getElem? (i := 33) (by decide +kernel)))) (by decide +kernel)
theorem wg_397 : (Jvm.Cond.methodLink "ProphecyShop" (84 : Nat) ({ cls := "java/lang/String", name := "length", desc := "()I" } : Jvm.MethodName)) ∈ lw_good := lw_g (List.mem_append_left _ (List.mem_append_right _ (List.mem_of_getElem? (i := 397) (by decide +kernel)))) (by decide +kernel)
theorem wg_40 : (Jvm.Cond.instanceMethod ({ cls := "java/lang/Object", name := "<init>", desc := "()V" } : Jvm.MethodName)) ∈ lw_good := lw_g (List.mem_append_left _ (List.mem_append_right _ (List.mem_of_getElem? (i := 40) (by decide +kernel)))) (by decide +kernel)
theorem wg_401 : (Jvm.Cond.methodLink "java/lang/String" (335 : Nat) ({ cls := "java/lang/String", name := "coder", desc := "()B" } : Jvm.MethodName)) ∈ lw_good := lw_g (List.mem_append_left _ (List.mem_append_right _ (List.mem_of_getElem? (i := 401) (by decide +kernel)))) (by decide +kernel)
theorem wg_402 : (Jvm.Cond.instanceMethod ({ cls := "java/lang/String", name := "coder", desc := "()B" } : Jvm.MethodName)) ∈ lw_good := lw_g (List.mem_append_left _ (List.mem_append_right _ (List.mem_of_getElem? (i := 402) (by decide +kernel)))) (by decide +kernel)
theorem wg_403 : (Jvm.Cond.selects "java/lang/String" ({ cls := "java/lang/String", name := "coder", desc := "()B" } : Jvm.MethodName) ({ cls := "java/lang/String", name := "coder", desc := "()B" } : Jvm.MethodName)) ∈ lw_good := lw_g (List.mem_append_left _ (List.mem_append_right _ (List.mem_of_getElem? (i := 403) (by decide +kernel)))) (by decide +kernel)
theorem wg_404 : (Jvm.Cond.code ({ cls := "java/lang/String", name := "coder", desc := "()B" } : Jvm.MethodName) prog_31_method_152_code (1 : Nat) (Option.some Jvm.ClassFile.FieldType.byte)) ∈ lw_good := lw_g (List.mem_append_left _ (List.mem_append_right _ (List.mem_of_getElem? (i := 404) (by decide +kernel)))) (by decide +kernel)
theorem wg_405 : (Jvm.Cond.fieldLink "java/lang/String" (38 : Nat) "java/lang/String" "COMPACT_STRINGS" "Z") ∈ lw_good := lw_g (List.mem_append_left _ (List.mem_append_right _ (List.mem_of_getElem? (i := 405) (by decide +kernel)))) (by decide +kernel)
theorem wg_407 : (Jvm.Cond.methodLink "ProphecyShop" (90 : Nat) ({ cls := "java/lang/String", name := "charAt", desc := "(I)C" } : Jvm.MethodName)) ∈ lw_good := lw_g (List.mem_append_left _ (List.mem_append_right _ (List.mem_of_getElem? (i := 407) (by decide +kernel)))) (by decide +kernel)
theorem wg_41 : (Jvm.Cond.code ({ cls := "java/lang/Object", name := "<init>", desc := "()V" } : Jvm.MethodName) object_method_1_code (1 : Nat) (Option.none : Option Jvm.ClassFile.FieldType)) ∈ lw_good := lw_g (List.mem_append_left _ (List.mem_append_right _ (List.mem_of_getElem? (i := 41) (by decide +kernel)))) (by decide +kernel)
theorem wg_411 : (Jvm.Cond.methodLink "java/lang/String" (492 : Nat) ({ cls := "java/lang/String", name := "isLatin1", desc := "()Z" } : Jvm.MethodName)) ∈ lw_good := lw_g (List.mem_append_left _ (List.mem_append_right _ (List.mem_of_getElem? (i := 411) (by decide +kernel)))) (by decide +kernel)
theorem wg_412 : (Jvm.Cond.instanceMethod ({ cls := "java/lang/String", name := "isLatin1", desc := "()Z" } : Jvm.MethodName)) ∈ lw_good := lw_g (List.mem_append_left _ (List.mem_append_right _ (List.mem_of_getElem? (i := 412) (by decide +kernel)))) (by decide +kernel)
theorem wg_413 : (Jvm.Cond.selects "java/lang/String" ({ cls := "java/lang/String", name := "isLatin1", desc := "()Z" } : Jvm.MethodName) ({ cls := "java/lang/String", name := "isLatin1", desc := "()Z" } : Jvm.MethodName)) ∈ lw_good := lw_g (List.mem_append_left _ (List.mem_append_right _ (List.mem_of_getElem? (i := 413) (by decide +kernel)))) (by decide +kernel)
theorem wg_414 : (Jvm.Cond.code ({ cls := "java/lang/String", name := "isLatin1", desc := "()Z" } : Jvm.MethodName) prog_31_method_154_code (1 : Nat) (Option.some Jvm.ClassFile.FieldType.boolean)) ∈ lw_good := lw_g (List.mem_append_left _ (List.mem_append_right _ (List.mem_of_getElem? (i := 414) (by decide +kernel)))) (by decide +kernel)
theorem wg_415 : (Jvm.Cond.methodLink "java/lang/String" (495 : Nat) ({ cls := "java/lang/StringLatin1", name := "charAt", desc := "([BI)C" } : Jvm.MethodName)) ∈ lw_good := lw_g (List.mem_append_left _ (List.mem_append_right _ (List.mem_of_getElem? (i := 415) (by decide +kernel)))) (by decide +kernel)
theorem wg_416 : (Jvm.Cond.static ({ cls := "java/lang/StringLatin1", name := "charAt", desc := "([BI)C" } : Jvm.MethodName)) ∈ lw_good := lw_g (List.mem_append_left _ (List.mem_append_right _ (List.mem_of_getElem? (i := 416) (by decide +kernel)))) (by decide +kernel)
theorem wg_417 : (Jvm.Cond.code ({ cls := "java/lang/StringLatin1", name := "charAt", desc := "([BI)C" } : Jvm.MethodName) prog_33_method_2_code (2 : Nat) (Option.some Jvm.ClassFile.FieldType.char)) ∈ lw_good := lw_g (List.mem_append_left _ (List.mem_append_right _ (List.mem_of_getElem? (i := 417) (by decide +kernel)))) (by decide +kernel)
theorem wg_418 : (Jvm.Cond.methodLink "java/lang/StringLatin1" (9 : Nat) ({ cls := "java/lang/String", name := "checkIndex", desc := "(II)V" } : Jvm.MethodName)) ∈ lw_good := lw_g (List.mem_append_left _ (List.mem_append_right _ (List.mem_of_getElem? (i := 418) (by decide +kernel)))) (by decide +kernel)
theorem wg_419 : (Jvm.Cond.static ({ cls := "java/lang/String", name := "checkIndex", desc := "(II)V" } : Jvm.MethodName)) ∈ lw_good := lw_g (List.mem_append_left _ (List.mem_append_right _ (List.mem_of_getElem? (i := 419) (by decide +kernel)))) (by decide +kernel)
theorem wg_420 : (Jvm.Cond.code ({ cls := "java/lang/String", name := "checkIndex", desc := "(II)V" } : Jvm.MethodName) prog_31_method_155_code (2 : Nat) (Option.none : Option Jvm.ClassFile.FieldType)) ∈ lw_good := lw_g (List.mem_append_left _ (List.mem_append_right _ (List.mem_of_getElem? (i := 420) (by decide +kernel)))) (by decide +kernel)
theorem wg_421 : (Jvm.Cond.fieldLink "java/lang/String" (1053 : Nat) "jdk/internal/util/Preconditions" "SIOOBE_FORMATTER" "Ljava/util/function/BiFunction;") ∈ lw_good := lw_g (List.mem_append_left _ (List.mem_append_right _ (List.mem_of_getElem? (i := 421) (by decide +kernel)))) (by decide +kernel)
theorem wg_423 : (Jvm.Cond.methodLink "java/lang/String" (1059 : Nat) ({ cls := "jdk/internal/util/Preconditions", name := "checkIndex", desc := "(IILjava/util/function/BiFunction;)I" } : Jvm.MethodName)) ∈ lw_good := lw_g (List.mem_append_left _ (List.mem_append_right _ (List.mem_of_getElem? (i := 423) (by decide +kernel)))) (by decide +kernel)
theorem wg_424 : (Jvm.Cond.static ({ cls := "jdk/internal/util/Preconditions", name := "checkIndex", desc := "(IILjava/util/function/BiFunction;)I" } : Jvm.MethodName)) ∈ lw_good := lw_g (List.mem_append_left _ (List.mem_append_right _ (List.mem_of_getElem? (i := 424) (by decide +kernel)))) (by decide +kernel)
theorem wg_425 : (Jvm.Cond.code ({ cls := "jdk/internal/util/Preconditions", name := "checkIndex", desc := "(IILjava/util/function/BiFunction;)I" } : Jvm.MethodName) prog_42_method_11_code (3 : Nat) (Option.some Jvm.ClassFile.FieldType.int)) ∈ lw_good := lw_g (List.mem_append_left _ (List.mem_append_right _ (List.mem_of_getElem? (i := 425) (by decide +kernel)))) (by decide +kernel)
theorem wg_55 : (Jvm.Cond.arrayClass Jvm.ClassFile.FieldType.int) ∈ lw_good := lw_g (List.mem_append_left _ (List.mem_append_right _ (List.mem_of_getElem? (i := 55) (by decide +kernel)))) (by decide +kernel)
theorem wg_663 : (Jvm.Cond.arrayClass Jvm.ClassFile.FieldType.boolean) ∈ lw_good := lw_g (List.mem_append_left _ (List.mem_append_right _ (List.mem_of_getElem? (i := 663) (by decide +kernel)))) (by decide +kernel)
theorem wg_664 : (Jvm.Cond.arrayClass Jvm.ClassFile.FieldType.byte) ∈ lw_good := lw_g (List.mem_append_left _ (List.mem_append_right _ (List.mem_of_getElem? (i := 664) (by decide +kernel)))) (by decide +kernel)
theorem wt_675 : (Jvm.Cond.castable "java/lang/IllegalStateException" "java/lang/IllegalStateException") ∈ lw_T := List.mem_append_left _ (List.mem_append_right _ (List.mem_of_getElem? (i := 675) (by decide +kernel)))
theorem wg_922 : (Jvm.Cond.instantiable "java/lang/StringBuilder" (4 : Nat)) ∈ lw_good := lw_g (List.mem_append_left _ (List.mem_append_right _ (List.mem_of_getElem? (i := 922) (by decide +kernel)))) (by decide +kernel)
theorem wg_923 : (Jvm.Cond.methodLink "ProphecyShopLaw" (37 : Nat) ({ cls := "java/lang/StringBuilder", name := "<init>", desc := "()V" } : Jvm.MethodName)) ∈ lw_good := lw_g (List.mem_append_left _ (List.mem_append_right _ (List.mem_of_getElem? (i := 923) (by decide +kernel)))) (by decide +kernel)
theorem wg_924 : (Jvm.Cond.instanceMethod ({ cls := "java/lang/StringBuilder", name := "<init>", desc := "()V" } : Jvm.MethodName)) ∈ lw_good := lw_g (List.mem_append_left _ (List.mem_append_right _ (List.mem_of_getElem? (i := 924) (by decide +kernel)))) (by decide +kernel)
theorem wg_925 : (Jvm.Cond.code ({ cls := "java/lang/StringBuilder", name := "<init>", desc := "()V" } : Jvm.MethodName) prog_32_method_1_code (1 : Nat) (Option.none : Option Jvm.ClassFile.FieldType)) ∈ lw_good := lw_g (List.mem_append_left _ (List.mem_append_right _ (List.mem_of_getElem? (i := 925) (by decide +kernel)))) (by decide +kernel)
theorem wg_926 : (Jvm.Cond.methodLink "java/lang/StringBuilder" (1 : Nat) ({ cls := "java/lang/AbstractStringBuilder", name := "<init>", desc := "(I)V" } : Jvm.MethodName)) ∈ lw_good := lw_g (List.mem_append_left _ (List.mem_append_right _ (List.mem_of_getElem? (i := 926) (by decide +kernel)))) (by decide +kernel)
theorem wg_927 : (Jvm.Cond.instanceMethod ({ cls := "java/lang/AbstractStringBuilder", name := "<init>", desc := "(I)V" } : Jvm.MethodName)) ∈ lw_good := lw_g (List.mem_append_left _ (List.mem_append_right _ (List.mem_of_getElem? (i := 927) (by decide +kernel)))) (by decide +kernel)
theorem wg_928 : (Jvm.Cond.code ({ cls := "java/lang/AbstractStringBuilder", name := "<init>", desc := "(I)V" } : Jvm.MethodName) prog_17_method_2_code (2 : Nat) (Option.none : Option Jvm.ClassFile.FieldType)) ∈ lw_good := lw_g (List.mem_append_left _ (List.mem_append_right _ (List.mem_of_getElem? (i := 928) (by decide +kernel)))) (by decide +kernel)
theorem wg_929 : (Jvm.Cond.methodLink "java/lang/AbstractStringBuilder" (3 : Nat) ({ cls := "java/lang/Object", name := "<init>", desc := "()V" } : Jvm.MethodName)) ∈ lw_good := lw_g (List.mem_append_left _ (List.mem_append_right _ (List.mem_of_getElem? (i := 929) (by decide +kernel)))) (by decide +kernel)
theorem wg_930 : (Jvm.Cond.fieldLink "java/lang/AbstractStringBuilder" (18 : Nat) "java/lang/String" "COMPACT_STRINGS" "Z") ∈ lw_good := lw_g (List.mem_append_left _ (List.mem_append_right _ (List.mem_of_getElem? (i := 930) (by decide +kernel)))) (by decide +kernel)
theorem wg_938 : (Jvm.Cond.fieldLink "java/lang/AbstractStringBuilder" (15 : Nat) "java/lang/AbstractStringBuilder" "value" "[B") ∈ lw_good := lw_g (List.mem_append_left _ (List.mem_append_right _ (List.mem_of_getElem? (i := 938) (by decide +kernel)))) (by decide +kernel)
theorem wg_939 : (Jvm.Cond.fieldLink "java/lang/AbstractStringBuilder" (22 : Nat) "java/lang/AbstractStringBuilder" "coder" "B") ∈ lw_good := lw_g (List.mem_append_left _ (List.mem_append_right _ (List.mem_of_getElem? (i := 939) (by decide +kernel)))) (by decide +kernel)
theorem wg_940 : (Jvm.Cond.fieldLink "java/lang/String" (1048 : Nat) "java/lang/AbstractStringBuilder" "maybeLatin1" "Z") ∈ lw_good := lw_g (List.mem_append_left _ (List.mem_append_right _ (List.mem_of_getElem? (i := 940) (by decide +kernel)))) (by decide +kernel)
theorem wg_941 : (Jvm.Cond.fieldLink "java/lang/AbstractStringBuilder" (79 : Nat) "java/lang/AbstractStringBuilder" "count" "I") ∈ lw_good := lw_g (List.mem_append_left _ (List.mem_append_right _ (List.mem_of_getElem? (i := 941) (by decide +kernel)))) (by decide +kernel)
theorem wg_950 : (Jvm.Cond.superclass "java/lang/StringBuilder" "java/lang/AbstractStringBuilder") ∈ lw_good := lw_g (List.mem_append_left _ (List.mem_append_right _ (List.mem_of_getElem? (i := 950) (by decide +kernel)))) (by decide +kernel)
theorem wg_962 : (Jvm.Cond.methodLink "ProphecyShopLaw" (38 : Nat) ({ cls := "java/lang/StringBuilder", name := "append", desc := "(Ljava/lang/String;)Ljava/lang/StringBuilder;" } : Jvm.MethodName)) ∈ lw_good := lw_g (List.mem_append_left _ (List.mem_append_right _ (List.mem_of_getElem? (i := 962) (by decide +kernel)))) (by decide +kernel)
theorem wg_963 : (Jvm.Cond.instanceMethod ({ cls := "java/lang/StringBuilder", name := "append", desc := "(Ljava/lang/String;)Ljava/lang/StringBuilder;" } : Jvm.MethodName)) ∈ lw_good := lw_g (List.mem_append_left _ (List.mem_append_right _ (List.mem_of_getElem? (i := 963) (by decide +kernel)))) (by decide +kernel)
theorem wg_964 : (Jvm.Cond.selects "java/lang/StringBuilder" ({ cls := "java/lang/StringBuilder", name := "append", desc := "(Ljava/lang/String;)Ljava/lang/StringBuilder;" } : Jvm.MethodName) ({ cls := "java/lang/StringBuilder", name := "append", desc := "(Ljava/lang/String;)Ljava/lang/StringBuilder;" } : Jvm.MethodName)) ∈ lw_good := lw_g (List.mem_append_left _ (List.mem_append_right _ (List.mem_of_getElem? (i := 964) (by decide +kernel)))) (by decide +kernel)
theorem wg_965 : (Jvm.Cond.code ({ cls := "java/lang/StringBuilder", name := "append", desc := "(Ljava/lang/String;)Ljava/lang/StringBuilder;" } : Jvm.MethodName) prog_32_method_7_code (2 : Nat) (Option.some (Jvm.ClassFile.FieldType.object "java/lang/StringBuilder"))) ∈ lw_good := lw_g (List.mem_append_left _ (List.mem_append_right _ (List.mem_of_getElem? (i := 965) (by decide +kernel)))) (by decide +kernel)
theorem wg_966 : (Jvm.Cond.methodLink "java/lang/StringBuilder" (29 : Nat) ({ cls := "java/lang/AbstractStringBuilder", name := "append", desc := "(Ljava/lang/String;)Ljava/lang/AbstractStringBuilder;" } : Jvm.MethodName)) ∈ lw_good := lw_g (List.mem_append_left _ (List.mem_append_right _ (List.mem_of_getElem? (i := 966) (by decide +kernel)))) (by decide +kernel)
theorem wg_967 : (Jvm.Cond.instanceMethod ({ cls := "java/lang/AbstractStringBuilder", name := "append", desc := "(Ljava/lang/String;)Ljava/lang/AbstractStringBuilder;" } : Jvm.MethodName)) ∈ lw_good := lw_g (List.mem_append_left _ (List.mem_append_right _ (List.mem_of_getElem? (i := 967) (by decide +kernel)))) (by decide +kernel)
theorem wg_968 : (Jvm.Cond.code ({ cls := "java/lang/AbstractStringBuilder", name := "append", desc := "(Ljava/lang/String;)Ljava/lang/AbstractStringBuilder;" } : Jvm.MethodName) prog_17_method_22_code (3 : Nat) (Option.some (Jvm.ClassFile.FieldType.object "java/lang/AbstractStringBuilder"))) ∈ lw_good := lw_g (List.mem_append_left _ (List.mem_append_right _ (List.mem_of_getElem? (i := 968) (by decide +kernel)))) (by decide +kernel)
theorem wg_971 : (Jvm.Cond.instanceMethod ({ cls := "java/lang/AbstractStringBuilder", name := "appendNull", desc := "()Ljava/lang/AbstractStringBuilder;" } : Jvm.MethodName)) ∈ lw_good := lw_g (List.mem_append_left _ (List.mem_append_right _ (List.mem_of_getElem? (i := 971) (by decide +kernel)))) (by decide +kernel)
theorem wg_972 : (Jvm.Cond.code ({ cls := "java/lang/AbstractStringBuilder", name := "appendNull", desc := "()Ljava/lang/AbstractStringBuilder;" } : Jvm.MethodName) prog_17_method_26_code (3 : Nat) (Option.some (Jvm.ClassFile.FieldType.object "java/lang/AbstractStringBuilder"))) ∈ lw_good := lw_g (List.mem_append_left _ (List.mem_append_right _ (List.mem_of_getElem? (i := 972) (by decide +kernel)))) (by decide +kernel)
theorem wg_973 : (Jvm.Cond.methodLink "java/lang/AbstractStringBuilder" (100 : Nat) ({ cls := "java/lang/AbstractStringBuilder", name := "ensureCapacityInternal", desc := "(I)V" } : Jvm.MethodName)) ∈ lw_good := lw_g (List.mem_append_left _ (List.mem_append_right _ (List.mem_of_getElem? (i := 973) (by decide +kernel)))) (by decide +kernel)
theorem wg_975 : (Jvm.Cond.instanceMethod ({ cls := "java/lang/AbstractStringBuilder", name := "ensureCapacityInternal", desc := "(I)V" } : Jvm.MethodName)) ∈ lw_good := lw_g (List.mem_append_left _ (List.mem_append_right _ (List.mem_of_getElem? (i := 975) (by decide +kernel)))) (by decide +kernel)
theorem wg_976 : (Jvm.Cond.code ({ cls := "java/lang/AbstractStringBuilder", name := "ensureCapacityInternal", desc := "(I)V" } : Jvm.MethodName) prog_17_method_9_code (3 : Nat) (Option.none : Option Jvm.ClassFile.FieldType)) ∈ lw_good := lw_g (List.mem_append_left _ (List.mem_append_right _ (List.mem_of_getElem? (i := 976) (by decide +kernel)))) (by decide +kernel)
theorem wg_977 : (Jvm.Cond.methodLink "java/lang/AbstractStringBuilder" (104 : Nat) ({ cls := "java/lang/AbstractStringBuilder", name := "newCapacity", desc := "(I)I" } : Jvm.MethodName)) ∈ lw_good := lw_g (List.mem_append_left _ (List.mem_append_right _ (List.mem_of_getElem? (i := 977) (by decide +kernel)))) (by decide +kernel)
theorem wg_979 : (Jvm.Cond.instanceMethod ({ cls := "java/lang/AbstractStringBuilder", name := "newCapacity", desc := "(I)I" } : Jvm.MethodName)) ∈ lw_good := lw_g (List.mem_append_left _ (List.mem_append_right _ (List.mem_of_getElem? (i := 979) (by decide +kernel)))) (by decide +kernel)
theorem wg_980 : (Jvm.Cond.code ({ cls := "java/lang/AbstractStringBuilder", name := "newCapacity", desc := "(I)I" } : Jvm.MethodName) prog_17_method_10_code (6 : Nat) (Option.some Jvm.ClassFile.FieldType.int)) ∈ lw_good := lw_g (List.mem_append_left _ (List.mem_append_right _ (List.mem_of_getElem? (i := 980) (by decide +kernel)))) (by decide +kernel)
theorem wg_981 : (Jvm.Cond.methodLink "java/lang/AbstractStringBuilder" (114 : Nat) ({ cls := "jdk/internal/util/ArraysSupport", name := "newLength", desc := "(III)I" } : Jvm.MethodName)) ∈ lw_good := lw_g (List.mem_append_left _ (List.mem_append_right _ (List.mem_of_getElem? (i := 981) (by decide +kernel)))) (by decide +kernel)
theorem wg_982 : (Jvm.Cond.static ({ cls := "jdk/internal/util/ArraysSupport", name := "newLength", desc := "(III)I" } : Jvm.MethodName)) ∈ lw_good := lw_g (List.mem_append_left _ (List.mem_append_right _ (List.mem_of_getElem? (i := 982) (by decide +kernel)))) (by decide +kernel)
theorem wg_983 : (Jvm.Cond.code ({ cls := "jdk/internal/util/ArraysSupport", name := "newLength", desc := "(III)I" } : Jvm.MethodName) prog_41_method_27_code (4 : Nat) (Option.some Jvm.ClassFile.FieldType.int)) ∈ lw_good := lw_g (List.mem_append_left _ (List.mem_append_right _ (List.mem_of_getElem? (i := 983) (by decide +kernel)))) (by decide +kernel)
theorem wg_984 : (Jvm.Cond.methodLink "jdk/internal/util/ArraysSupport" (194 : Nat) ({ cls := "java/lang/Math", name := "max", desc := "(II)I" } : Jvm.MethodName)) ∈ lw_good := lw_g (List.mem_append_left _ (List.mem_append_right _ (List.mem_of_getElem? (i := 984) (by decide +kernel)))) (by decide +kernel)
theorem wg_985 : (Jvm.Cond.static ({ cls := "java/lang/Math", name := "max", desc := "(II)I" } : Jvm.MethodName)) ∈ lw_good := lw_g (List.mem_append_left _ (List.mem_append_right _ (List.mem_of_getElem? (i := 985) (by decide +kernel)))) (by decide +kernel)
theorem wg_986 : (Jvm.Cond.code ({ cls := "java/lang/Math", name := "max", desc := "(II)I" } : Jvm.MethodName) prog_28_method_65_code (2 : Nat) (Option.some Jvm.ClassFile.FieldType.int)) ∈ lw_good := lw_g (List.mem_append_left _ (List.mem_append_right _ (List.mem_of_getElem? (i := 986) (by decide +kernel)))) (by decide +kernel)
theorem wg_987 : (Jvm.Cond.constant "jdk/internal/util/ArraysSupport" (200 : Nat) (2147483639 : Int32)) ∈ lw_good := lw_g (List.mem_append_left _ (List.mem_append_right _ (List.mem_of_getElem? (i := 987) (by decide +kernel)))) (by decide +kernel)
theorem wg_988 : (Jvm.Cond.methodLink "jdk/internal/util/ArraysSupport" (201 : Nat) ({ cls := "jdk/internal/util/ArraysSupport", name := "hugeLength", desc := "(II)I" } : Jvm.MethodName)) ∈ lw_good := lw_g (List.mem_append_left _ (List.mem_append_right _ (List.mem_of_getElem? (i := 988) (by decide +kernel)))) (by decide +kernel)
theorem wg_989 : (Jvm.Cond.static ({ cls := "jdk/internal/util/ArraysSupport", name := "hugeLength", desc := "(II)I" } : Jvm.MethodName)) ∈ lw_good := lw_g (List.mem_append_left _ (List.mem_append_right _ (List.mem_of_getElem? (i := 989) (by decide +kernel)))) (by decide +kernel)
theorem wg_990 : (Jvm.Cond.code ({ cls := "jdk/internal/util/ArraysSupport", name := "hugeLength", desc := "(II)I" } : Jvm.MethodName) prog_41_method_28_code (3 : Nat) (Option.some Jvm.ClassFile.FieldType.int)) ∈ lw_good := lw_g (List.mem_append_left _ (List.mem_append_right _ (List.mem_of_getElem? (i := 990) (by decide +kernel)))) (by decide +kernel)
theorem wg_991 : (Jvm.Cond.constant "java/lang/AbstractStringBuilder" (39 : Nat) (2147483647 : Int32)) ∈ lw_good := lw_g (List.mem_append_left _ (List.mem_append_right _ (List.mem_of_getElem? (i := 991) (by decide +kernel)))) (by decide +kernel)
theorem wg_992 : (Jvm.Cond.methodLink "java/lang/AbstractStringBuilder" (108 : Nat) ({ cls := "java/util/Arrays", name := "copyOf", desc := "([BI)[B" } : Jvm.MethodName)) ∈ lw_good := lw_g (List.mem_append_left _ (List.mem_append_right _ (List.mem_of_getElem? (i := 992) (by decide +kernel)))) (by decide +kernel)
theorem wg_993 : (Jvm.Cond.static ({ cls := "java/util/Arrays", name := "copyOf", desc := "([BI)[B" } : Jvm.MethodName)) ∈ lw_good := lw_g (List.mem_append_left _ (List.mem_append_right _ (List.mem_of_getElem? (i := 993) (by decide +kernel)))) (by decide +kernel)
theorem wg_994 : (Jvm.Cond.code ({ cls := "java/util/Arrays", name := "copyOf", desc := "([BI)[B" } : Jvm.MethodName) prog_39_method_121_code (3 : Nat) (Option.some (Jvm.ClassFile.FieldType.array Jvm.ClassFile.FieldType.byte))) ∈ lw_good := lw_g (List.mem_append_left _ (List.mem_append_right _ (List.mem_of_getElem? (i := 994) (by decide +kernel)))) (by decide +kernel)
theorem wg_995 : (Jvm.Cond.methodLink "java/util/Arrays" (310 : Nat) ({ cls := "[B", name := "clone", desc := "()Ljava/lang/Object;" } : Jvm.MethodName)) ∈ lw_good := lw_g (List.mem_append_left _ (List.mem_append_right _ (List.mem_of_getElem? (i := 995) (by decide +kernel)))) (by decide +kernel)
theorem wg_996 : (Jvm.Cond.sameMethod "[B" "java/lang/Object" "clone" "()Ljava/lang/Object;") ∈ lw_good := lw_g (List.mem_append_left _ (List.mem_append_right _ (List.mem_of_getElem? (i := 996) (by decide +kernel)))) (by decide +kernel)
theorem wg_997 : (Jvm.Cond.native ({ cls := "java/lang/Object", name := "clone", desc := "()Ljava/lang/Object;" } : Jvm.MethodName)) ∈ lw_good := lw_g (List.mem_append_left _ (List.mem_append_right _ (List.mem_of_getElem? (i := 997) (by decide +kernel)))) (by decide +kernel)
theorem wg_998 : (Jvm.Cond.instanceMethod ({ cls := "java/lang/Object", name := "clone", desc := "()Ljava/lang/Object;" } : Jvm.MethodName)) ∈ lw_good := lw_g (List.mem_append_left _ (List.mem_append_right _ (List.mem_of_getElem? (i := 998) (by decide +kernel)))) (by decide +kernel)
theorem wg_999 : (Jvm.Cond.selects "[B" ({ cls := "[B", name := "clone", desc := "()Ljava/lang/Object;" } : Jvm.MethodName) ({ cls := "java/lang/Object", name := "clone", desc := "()Ljava/lang/Object;" } : Jvm.MethodName)) ∈ lw_good := lw_g (List.mem_append_left _ (List.mem_append_right _ (List.mem_of_getElem? (i := 999) (by decide +kernel)))) (by decide +kernel)
theorem coC_14 : CO 14 RJ0 TJ0 2 tyJ0 := ⟨rfl, fun w h => lw_g (List.mem_append_left _ (iwTJ0 w (List.mem_of_mem_take (i := 2) h))) (List.all_eq_true.mp (show (u_ws RJ0 TJ0 2).all goodWord = true by decide +kernel) w h), fun k hk => tyJ0_ok k (by omega), fun a ha b hb h => nmJ0 a (by omega) b (by omega) h⟩
theorem hd_String_coder_7d493 : hd0 m_String_coder_7d493 0 := hd0_of (by decide +kernel) (by decide +kernel) (by decide +kernel) rfl rfl wg_404
theorem hd_String_isLatin1_aae02 : hd0 m_String_isLatin1_aae02 0 := hd0_of (by decide +kernel) (by decide +kernel) (by decide +kernel) rfl rfl wg_414
theorem hd_StringLatin1_charAt_3b067 : hd0 m_StringLatin1_charAt_3b067 2 := hd0_of (by decide +kernel) (by decide +kernel) (by decide +kernel) rfl rfl wg_417
abbrev m_String_checkIndex_df160 : MI := (⟨"java/lang/String", "checkIndex", "(II)V"⟩, prog_31_method_155_code, 2, (Option.none : Option Jvm.ClassFile.FieldType), [])
theorem hd_String_checkIndex_df160 : hd0 m_String_checkIndex_df160 2 := hd0_of (by decide +kernel) (by decide +kernel) (by decide +kernel) rfl rfl wg_420
abbrev m_Preconditions_checkIndex_8e157 : MI := (⟨"jdk/internal/util/Preconditions", "checkIndex", "(IILjava/util/function/BiFunction;)I"⟩, prog_42_method_11_code, 3, (Option.some Jvm.ClassFile.FieldType.int), [])
theorem hd_Preconditions_checkIndex_8e157 : hd0 m_Preconditions_checkIndex_8e157 3 := hd0_of (by decide +kernel) (by decide +kernel) (by decide +kernel) rfl rfl wg_425
abbrev m_StringBuilder_init_da8c8 : MI := (⟨"java/lang/StringBuilder", "<init>", "()V"⟩, prog_32_method_1_code, 1, (Option.none : Option Jvm.ClassFile.FieldType), [])
theorem hd_StringBuilder_init_da8c8 : hd0 m_StringBuilder_init_da8c8 0 := hd0_of (by decide +kernel) (by decide +kernel) (by decide +kernel) rfl rfl wg_925
abbrev m_AbstractStringBuilder_init_d00df : MI := (⟨"java/lang/AbstractStringBuilder", "<init>", "(I)V"⟩, prog_17_method_2_code, 2, (Option.none : Option Jvm.ClassFile.FieldType), [])
theorem hd_AbstractStringBuilder_init_d00df : hd0 m_AbstractStringBuilder_init_d00df 1 := hd0_of (by decide +kernel) (by decide +kernel) (by decide +kernel) rfl rfl wg_928
abbrev m_StringBuilder_append_cf468 : MI := (⟨"java/lang/StringBuilder", "append", "(C)Ljava/lang/StringBuilder;"⟩, prog_32_method_14_code, 2, (Option.some (Jvm.ClassFile.FieldType.object "java/lang/StringBuilder")), [])
theorem hd_StringBuilder_append_cf468 : hd0 m_StringBuilder_append_cf468 1 := hd0_of (by decide +kernel) (by decide +kernel) (by decide +kernel) rfl rfl wg_1062
abbrev m_AbstractStringBuilder_append_3fe6f : MI := (⟨"java/lang/AbstractStringBuilder", "append", "(C)Ljava/lang/AbstractStringBuilder;"⟩, prog_17_method_31_code, 2, (Option.some (Jvm.ClassFile.FieldType.object "java/lang/AbstractStringBuilder")), [])
theorem hd_AbstractStringBuilder_append_3fe6f : hd0 m_AbstractStringBuilder_append_3fe6f 1 := hd0_of (by decide +kernel) (by decide +kernel) (by decide +kernel) rfl rfl wg_1065
abbrev m_AbstractStringBuilder_ensureCapacityInternal_d00df : MI := (⟨"java/lang/AbstractStringBuilder", "ensureCapacityInternal", "(I)V"⟩, prog_17_method_9_code, 3, (Option.none : Option Jvm.ClassFile.FieldType), [])
theorem hd_AbstractStringBuilder_ensureCapacityInternal_d00df : hd0 m_AbstractStringBuilder_ensureCapacityInternal_d00df 1 := hd0_of (by decide +kernel) (by decide +kernel) (by decide +kernel) rfl rfl wg_976
abbrev m_AbstractStringBuilder_newCapacity_0f7a4 : MI := (⟨"java/lang/AbstractStringBuilder", "newCapacity", "(I)I"⟩, prog_17_method_10_code, 6, (Option.some Jvm.ClassFile.FieldType.int), [])
theorem hd_AbstractStringBuilder_newCapacity_0f7a4 : hd0 m_AbstractStringBuilder_newCapacity_0f7a4 1 := hd0_of (by decide +kernel) (by decide +kernel) (by decide +kernel) rfl rfl wg_980
abbrev m_ArraysSupport_newLength_cabcc : MI := (⟨"jdk/internal/util/ArraysSupport", "newLength", "(III)I"⟩, prog_41_method_27_code, 4, (Option.some Jvm.ClassFile.FieldType.int), [])
theorem hd_ArraysSupport_newLength_cabcc : hd0 m_ArraysSupport_newLength_cabcc 3 := hd0_of (by decide +kernel) (by decide +kernel) (by decide +kernel) rfl rfl wg_983
abbrev m_Arrays_copyOf_9075b : MI := (⟨"java/util/Arrays", "copyOf", "([BI)[B"⟩, prog_39_method_121_code, 3, (Option.some (Jvm.ClassFile.FieldType.array Jvm.ClassFile.FieldType.byte)), [])
theorem hd_Arrays_copyOf_9075b : hd0 m_Arrays_copyOf_9075b 2 := hd0_of (by decide +kernel) (by decide +kernel) (by decide +kernel) rfl rfl wg_994
abbrev m_AbstractStringBuilder_isLatin1_aae02 : MI := (⟨"java/lang/AbstractStringBuilder", "isLatin1", "()Z"⟩, prog_17_method_68_code, 1, (Option.some Jvm.ClassFile.FieldType.boolean), [])
theorem hd_AbstractStringBuilder_isLatin1_aae02 : hd0 m_AbstractStringBuilder_isLatin1_aae02 0 := hd0_of (by decide +kernel) (by decide +kernel) (by decide +kernel) rfl rfl wg_1008
abbrev m_StringLatin1_canEncode_fc78d : MI := (⟨"java/lang/StringLatin1", "canEncode", "(C)Z"⟩, prog_33_method_3_code, 1, (Option.some Jvm.ClassFile.FieldType.boolean), [])
theorem hd_StringLatin1_canEncode_fc78d : hd0 m_StringLatin1_canEncode_fc78d 1 := hd0_of (by decide +kernel) (by decide +kernel) (by decide +kernel) rfl rfl wg_1068
abbrev m_StringBuilder_append_bf812 : MI := (⟨"java/lang/StringBuilder", "append", "(I)Ljava/lang/StringBuilder;"⟩, prog_32_method_15_code, 2, (Option.some (Jvm.ClassFile.FieldType.object "java/lang/StringBuilder")), [])
theorem hd_StringBuilder_append_bf812 : hd0 m_StringBuilder_append_bf812 1 := hd0_of (by decide +kernel) (by decide +kernel) (by decide +kernel) rfl rfl wg_1137
abbrev m_AbstractStringBuilder_append_c97b9 : MI := (⟨"java/lang/AbstractStringBuilder", "append", "(I)Ljava/lang/AbstractStringBuilder;"⟩, prog_17_method_32_code, 4, (Option.some (Jvm.ClassFile.FieldType.object "java/lang/AbstractStringBuilder")), [])
theorem hd_AbstractStringBuilder_append_c97b9 : hd0 m_AbstractStringBuilder_append_c97b9 1 := hd0_of (by decide +kernel) (by decide +kernel) (by decide +kernel) rfl rfl wg_1140
abbrev m_Integer_stringSize_0f7a4 : MI := (⟨"java/lang/Integer", "stringSize", "(I)I"⟩, prog_27_method_13_code, 4, (Option.some Jvm.ClassFile.FieldType.int), [])
theorem hd_Integer_stringSize_0f7a4 : hd0 m_Integer_stringSize_0f7a4 1 := hd0_of (by decide +kernel) (by decide +kernel) (by decide +kernel) rfl rfl wg_1143
abbrev m_Integer_getChars_ba4f3 : MI := (⟨"java/lang/Integer", "getChars", "(II[B)I"⟩, prog_27_method_12_code, 7, (Option.some Jvm.ClassFile.FieldType.int), [])
theorem hd_Integer_getChars_ba4f3 : hd0 m_Integer_getChars_ba4f3 3 := hd0_of (by decide +kernel) (by decide +kernel) (by decide +kernel) rfl rfl wg_1146
abbrev m_StringBuilder_toString_0e30d : MI := (⟨"java/lang/StringBuilder", "toString", "()Ljava/lang/String;"⟩, prog_32_method_42_code, 1, (Option.some (Jvm.ClassFile.FieldType.object "java/lang/String")), [])
theorem hd_StringBuilder_toString_0e30d : hd0 m_StringBuilder_toString_0e30d 0 := hd0_of (by decide +kernel) (by decide +kernel) (by decide +kernel) rfl rfl wg_1075
abbrev m_String_init_81219 : MI := (⟨"java/lang/String", "<init>", "(Ljava/lang/StringBuilder;)V"⟩, prog_31_method_53_code, 2, (Option.none : Option Jvm.ClassFile.FieldType), [])
theorem hd_String_init_81219 : hd0 m_String_init_81219 1 := hd0_of (by decide +kernel) (by decide +kernel) (by decide +kernel) rfl rfl wg_1080
abbrev m_String_init_db425 : MI := (⟨"java/lang/String", "<init>", "(Ljava/lang/AbstractStringBuilder;Ljava/lang/Void;)V"⟩, prog_31_method_150_code, 5, (Option.none : Option Jvm.ClassFile.FieldType), [])
theorem hd_String_init_db425 : hd0 m_String_init_db425 2 := hd0_of (by decide +kernel) (by decide +kernel) (by decide +kernel) rfl rfl wg_1083
abbrev m_AbstractStringBuilder_getValue_6d5f1 : MI := (⟨"java/lang/AbstractStringBuilder", "getValue", "()[B"⟩, prog_17_method_64_code, 1, (Option.some (Jvm.ClassFile.FieldType.array Jvm.ClassFile.FieldType.byte)), [])
theorem hd_AbstractStringBuilder_getValue_6d5f1 : hd0 m_AbstractStringBuilder_getValue_6d5f1 0 := hd0_of (by decide +kernel) (by decide +kernel) (by decide +kernel) rfl rfl wg_1089
abbrev m_AbstractStringBuilder_length_8abf5 : MI := (⟨"java/lang/AbstractStringBuilder", "length", "()I"⟩, prog_17_method_6_code, 1, (Option.some Jvm.ClassFile.FieldType.int), [])
theorem hd_AbstractStringBuilder_length_8abf5 : hd0 m_AbstractStringBuilder_length_8abf5 0 := hd0_of (by decide +kernel) (by decide +kernel) (by decide +kernel) rfl rfl wg_1097
abbrev m_StringBuilder_length_8abf5 : MI := (⟨"java/lang/StringBuilder", "length", "()I"⟩, prog_32_method_93_code, 1, (Option.some Jvm.ClassFile.FieldType.int), [])
theorem hd_StringBuilder_length_8abf5 : hd0 m_StringBuilder_length_8abf5 0 := hd0_of (by decide +kernel) (by decide +kernel) (by decide +kernel) rfl rfl wg_1095
abbrev m_Arrays_copyOfRange_39247 : MI := (⟨"java/util/Arrays", "copyOfRange", "([BII)[B"⟩, prog_39_method_132_code, 3, (Option.some (Jvm.ClassFile.FieldType.array Jvm.ClassFile.FieldType.byte)), [])
theorem hd_Arrays_copyOfRange_39247 : hd0 m_Arrays_copyOfRange_39247 3 := hd0_of (by decide +kernel) (by decide +kernel) (by decide +kernel) rfl rfl wg_1101
abbrev m_Arrays_copyOfRangeByte_39247 : MI := (⟨"java/util/Arrays", "copyOfRangeByte", "([BII)[B"⟩, prog_39_method_133_code, 5, (Option.some (Jvm.ClassFile.FieldType.array Jvm.ClassFile.FieldType.byte)), [])
theorem hd_Arrays_copyOfRangeByte_39247 : hd0 m_Arrays_copyOfRangeByte_39247 3 := hd0_of (by decide +kernel) (by decide +kernel) (by decide +kernel) rfl rfl wg_1104
abbrev m_Arrays_checkLength_df160 : MI := (⟨"java/util/Arrays", "checkLength", "(II)V"⟩, prog_39_method_131_code, 2, (Option.none : Option Jvm.ClassFile.FieldType), [])
theorem hd_Arrays_checkLength_df160 : hd0 m_Arrays_checkLength_df160 2 := hd0_of (by decide +kernel) (by decide +kernel) (by decide +kernel) rfl rfl wg_1107
abbrev m_StringBuilder_append_15ec4 : MI := (⟨"java/lang/StringBuilder", "append", "(Ljava/lang/String;)Ljava/lang/StringBuilder;"⟩, prog_32_method_7_code, 2, (Option.some (Jvm.ClassFile.FieldType.object "java/lang/StringBuilder")), [])
theorem hd_StringBuilder_append_15ec4 : hd0 m_StringBuilder_append_15ec4 1 := hd0_of (by decide +kernel) (by decide +kernel) (by decide +kernel) rfl rfl wg_965
abbrev m_AbstractStringBuilder_append_cf1ce : MI := (⟨"java/lang/AbstractStringBuilder", "append", "(Ljava/lang/String;)Ljava/lang/AbstractStringBuilder;"⟩, prog_17_method_22_code, 3, (Option.some (Jvm.ClassFile.FieldType.object "java/lang/AbstractStringBuilder")), [])
theorem hd_AbstractStringBuilder_append_cf1ce : hd0 m_AbstractStringBuilder_append_cf1ce 1 := hd0_of (by decide +kernel) (by decide +kernel) (by decide +kernel) rfl rfl wg_968
abbrev m_AbstractStringBuilder_putStringAt_47b60 : MI := (⟨"java/lang/AbstractStringBuilder", "putStringAt", "(ILjava/lang/String;)V"⟩, prog_17_method_73_code, 3, (Option.none : Option Jvm.ClassFile.FieldType), [])
theorem hd_AbstractStringBuilder_putStringAt_47b60 : hd0 m_AbstractStringBuilder_putStringAt_47b60 2 := hd0_of (by decide +kernel) (by decide +kernel) (by decide +kernel) rfl rfl wg_1028
abbrev m_AbstractStringBuilder_inflateIfNeededFor_a7421 : MI := (⟨"java/lang/AbstractStringBuilder", "inflateIfNeededFor", "(Ljava/lang/String;)V"⟩, prog_17_method_71_code, 2, (Option.none : Option Jvm.ClassFile.FieldType), [])
theorem hd_AbstractStringBuilder_inflateIfNeededFor_a7421 : hd0 m_AbstractStringBuilder_inflateIfNeededFor_a7421 1 := hd0_of (by decide +kernel) (by decide +kernel) (by decide +kernel) rfl rfl wg_1032
abbrev m_String_getBytes_840e7 : MI := (⟨"java/lang/String", "getBytes", "([BIB)V"⟩, prog_31_method_147_code, 4, (Option.none : Option Jvm.ClassFile.FieldType), [])
theorem hd_String_getBytes_840e7 : hd0 m_String_getBytes_840e7 3 := hd0_of (by decide +kernel) (by decide +kernel) (by decide +kernel) rfl rfl wg_1056
abbrev m_StringBuilder_init_a7421 : MI := (⟨"java/lang/StringBuilder", "<init>", "(Ljava/lang/String;)V"⟩, prog_32_method_3_code, 2, (Option.none : Option Jvm.ClassFile.FieldType), [])
theorem hd_StringBuilder_init_a7421 : hd0 m_StringBuilder_init_a7421 1 := hd0_of (by decide +kernel) (by decide +kernel) (by decide +kernel) rfl rfl wg_1668
abbrev m_AbstractStringBuilder_init_a7421 : MI := (⟨"java/lang/AbstractStringBuilder", "<init>", "(Ljava/lang/String;)V"⟩, prog_17_method_3_code, 5, (Option.none : Option Jvm.ClassFile.FieldType), [])
theorem hd_AbstractStringBuilder_init_a7421 : hd0 m_AbstractStringBuilder_init_a7421 1 := hd0_of (by decide +kernel) (by decide +kernel) (by decide +kernel) rfl rfl wg_1671
abbrev m_StringBuilder_append_cf1ce : MI := (⟨"java/lang/StringBuilder", "append", "(Ljava/lang/String;)Ljava/lang/AbstractStringBuilder;"⟩, prog_32_method_80_code, 2, (Option.some (Jvm.ClassFile.FieldType.object "java/lang/AbstractStringBuilder")), [])
theorem hd_StringBuilder_append_cf1ce : hd0 m_StringBuilder_append_cf1ce 1 := hd0_of (by decide +kernel) (by decide +kernel) (by decide +kernel) rfl rfl wg_1675
abbrev m_Float_floatToIntBits_5c35a : MI := (⟨"java/lang/Float", "floatToIntBits", "(F)I"⟩, prog_23_method_24_code, 1, (Option.some Jvm.ClassFile.FieldType.int), [])
theorem hd_Float_floatToIntBits_5c35a : hd0 m_Float_floatToIntBits_5c35a 1 := hd0_of (by decide +kernel) (by decide +kernel) (by decide +kernel) rfl rfl wg_1406
abbrev m_Float_isNaN_12338 : MI := (⟨"java/lang/Float", "isNaN", "(F)Z"⟩, prog_23_method_6_code, 1, (Option.some Jvm.ClassFile.FieldType.boolean), [])
theorem hd_Float_isNaN_12338 : hd0 m_Float_isNaN_12338 1 := hd0_of (by decide +kernel) (by decide +kernel) (by decide +kernel) rfl rfl wg_1409
theorem gj_String_9_0 : FLg "java/lang/String" 9 0 0 := ⟨_, _, _, _, "java/lang/String", coC_0, by decide, wg_1118, Or.inl rfl⟩
theorem gj_String_9_14 : FLg "java/lang/String" 9 14 0 := ⟨_, _, _, _, "java/lang/String", coC_14, by decide, wg_1118, Or.inl rfl⟩
theorem lj_String_335_0 : LV "java/lang/String" 335 0 0 m_String_coder_7d493 := ⟨hd_String_coder_7d493, rfl, ⟨_, rfl, rfl⟩, wg_401, wg_402, wg_403, wg_13⟩
theorem lj_String_335_14 : LV "java/lang/String" 335 14 0 m_String_coder_7d493 := ⟨hd_String_coder_7d493, rfl, ⟨_, rfl, rfl⟩, wg_401, wg_402, wg_403, wg_13⟩
theorem lj_String_492_0 : LV "java/lang/String" 492 0 0 m_String_isLatin1_aae02 := ⟨hd_String_isLatin1_aae02, rfl, ⟨_, rfl, rfl⟩, wg_411, wg_412, wg_413, wg_13⟩
theorem lj_String_492_14 : LV "java/lang/String" 492 14 0 m_String_isLatin1_aae02 := ⟨hd_String_isLatin1_aae02, rfl, ⟨_, rfl, rfl⟩, wg_411, wg_412, wg_413, wg_13⟩
theorem lj_String_495 : m_StringLatin1_charAt_3b067.2.2.2.2 = [] ∧ LST "java/lang/String" 495 2 m_StringLatin1_charAt_3b067 := ⟨rfl, hd_StringLatin1_charAt_3b067, wg_415, wg_416, wg_14⟩
theorem gj_String_15_0 : FLg "java/lang/String" 15 0 1 := ⟨_, _, _, _, "java/lang/String", coC_0, by decide, wg_1119, Or.inl rfl⟩
theorem gj_String_15_14 : FLg "java/lang/String" 15 14 1 := ⟨_, _, _, _, "java/lang/String", coC_14, by decide, wg_1119, Or.inl rfl⟩
theorem lj_StringLatin1_9 : m_String_checkIndex_df160.2.2.2.2 = [] ∧ LST "java/lang/StringLatin1" 9 2 m_String_checkIndex_df160 := ⟨rfl, hd_String_checkIndex_df160, wg_418, wg_419, wg_13⟩
theorem d_String_checkIndex_df160_0 : decode prog_31_method_155_code 0 = .ok (.iload_n 0, 1) := by decide +kernel
theorem d_String_checkIndex_df160_1 : decode prog_31_method_155_code 1 = .ok (.iload_n 1, 1) := by decide +kernel
theorem d_String_checkIndex_df160_2 : decode prog_31_method_155_code 2 = .ok (.getstatic 1053, 3) := by decide +kernel
theorem d_String_checkIndex_df160_5 : decode prog_31_method_155_code 5 = .ok (.invokestatic 1059, 3) := by decide +kernel
theorem d_String_checkIndex_df160_8 : decode prog_31_method_155_code 8 = .ok (.pop, 1) := by decide +kernel
theorem d_String_checkIndex_df160_9 : decode prog_31_method_155_code 9 = .ok (.return_, 1) := by decide +kernel
theorem lj_String_1059 : m_Preconditions_checkIndex_8e157.2.2.2.2 = [] ∧ LST "java/lang/String" 1059 3 m_Preconditions_checkIndex_8e157 := ⟨rfl, hd_Preconditions_checkIndex_8e157, wg_423, wg_424, wg_15⟩
theorem d_Preconditions_checkIndex_8e157_0 : decode prog_42_method_11_code 0 = .ok (.iload_n 0, 1) := by decide +kernel
theorem d_Preconditions_checkIndex_8e157_1 : decode prog_42_method_11_code 1 = .ok (.ifCond .lt 8, 3) := by decide +kernel
theorem d_Preconditions_checkIndex_8e157_4 : decode prog_42_method_11_code 4 = .ok (.iload_n 0, 1) := by decide +kernel
theorem d_Preconditions_checkIndex_8e157_5 : decode prog_42_method_11_code 5 = .ok (.iload_n 1, 1) := by decide +kernel
theorem d_Preconditions_checkIndex_8e157_6 : decode prog_42_method_11_code 6 = .ok (.if_icmp .lt 10, 3) := by decide +kernel
theorem d_Preconditions_checkIndex_8e157_9 : decode prog_42_method_11_code 9 = .ok (.aload_n 2, 1) := by decide +kernel
theorem d_Preconditions_checkIndex_8e157_10 : decode prog_42_method_11_code 10 = .ok (.iload_n 0, 1) := by decide +kernel
theorem d_Preconditions_checkIndex_8e157_11 : decode prog_42_method_11_code 11 = .ok (.iload_n 1, 1) := by decide +kernel
theorem d_Preconditions_checkIndex_8e157_12 : decode prog_42_method_11_code 12 = .ok (.invokestatic 95, 3) := by decide +kernel
theorem d_Preconditions_checkIndex_8e157_15 : decode prog_42_method_11_code 15 = .ok (.athrow, 1) := by decide +kernel
theorem d_Preconditions_checkIndex_8e157_16 : decode prog_42_method_11_code 16 = .ok (.iload_n 0, 1) := by decide +kernel
theorem d_Preconditions_checkIndex_8e157_17 : decode prog_42_method_11_code 17 = .ok (.ireturn, 1) := by decide +kernel
theorem d_StringBuilder_init_da8c8_0 : decode prog_32_method_1_code 0 = .ok (.aload_n 0, 1) := by decide +kernel
theorem d_StringBuilder_init_da8c8_1 : decode prog_32_method_1_code 1 = .ok (.bipush 16, 2) := by decide +kernel
theorem d_StringBuilder_init_da8c8_3 : decode prog_32_method_1_code 3 = .ok (.invokespecial 1, 3) := by decide +kernel
theorem d_StringBuilder_init_da8c8_6 : decode prog_32_method_1_code 6 = .ok (.return_, 1) := by decide +kernel
theorem lj_StringBuilder_1 : LI "java/lang/StringBuilder" 1 1 m_AbstractStringBuilder_init_d00df := ⟨hd_AbstractStringBuilder_init_d00df, rfl, rfl, rfl, wg_926, wg_927, wg_19⟩
theorem d_AbstractStringBuilder_init_d00df_0 : decode prog_17_method_2_code 0 = .ok (.aload_n 0, 1) := by decide +kernel
theorem d_AbstractStringBuilder_init_d00df_1 : decode prog_17_method_2_code 1 = .ok (.invokespecial 3, 3) := by decide +kernel
theorem d_AbstractStringBuilder_init_d00df_4 : decode prog_17_method_2_code 4 = .ok (.getstatic 18, 3) := by decide +kernel
theorem d_AbstractStringBuilder_init_d00df_7 : decode prog_17_method_2_code 7 = .ok (.ifCond .eq 18, 3) := by decide +kernel
theorem d_AbstractStringBuilder_init_d00df_10 : decode prog_17_method_2_code 10 = .ok (.aload_n 0, 1) := by decide +kernel
theorem d_AbstractStringBuilder_init_d00df_11 : decode prog_17_method_2_code 11 = .ok (.iload_n 1, 1) := by decide +kernel
theorem d_AbstractStringBuilder_init_d00df_12 : decode prog_17_method_2_code 12 = .ok (.newarray .byte, 2) := by decide +kernel
theorem d_AbstractStringBuilder_init_d00df_14 : decode prog_17_method_2_code 14 = .ok (.putfield 15, 3) := by decide +kernel
theorem d_AbstractStringBuilder_init_d00df_17 : decode prog_17_method_2_code 17 = .ok (.aload_n 0, 1) := by decide +kernel
theorem d_AbstractStringBuilder_init_d00df_18 : decode prog_17_method_2_code 18 = .ok (.iconst 0, 1) := by decide +kernel
theorem d_AbstractStringBuilder_init_d00df_19 : decode prog_17_method_2_code 19 = .ok (.putfield 22, 3) := by decide +kernel
theorem d_AbstractStringBuilder_init_d00df_22 : decode prog_17_method_2_code 22 = .ok (.goto 16, 3) := by decide +kernel
theorem d_AbstractStringBuilder_init_d00df_25 : decode prog_17_method_2_code 25 = .ok (.aload_n 0, 1) := by decide +kernel
theorem d_AbstractStringBuilder_init_d00df_26 : decode prog_17_method_2_code 26 = .ok (.iload_n 1, 1) := by decide +kernel
theorem d_AbstractStringBuilder_init_d00df_27 : decode prog_17_method_2_code 27 = .ok (.invokestatic 26, 3) := by decide +kernel
theorem d_AbstractStringBuilder_init_d00df_30 : decode prog_17_method_2_code 30 = .ok (.putfield 15, 3) := by decide +kernel
theorem d_AbstractStringBuilder_init_d00df_33 : decode prog_17_method_2_code 33 = .ok (.aload_n 0, 1) := by decide +kernel
theorem d_AbstractStringBuilder_init_d00df_34 : decode prog_17_method_2_code 34 = .ok (.iconst 1, 1) := by decide +kernel
theorem d_AbstractStringBuilder_init_d00df_35 : decode prog_17_method_2_code 35 = .ok (.putfield 22, 3) := by decide +kernel
theorem d_AbstractStringBuilder_init_d00df_38 : decode prog_17_method_2_code 38 = .ok (.return_, 1) := by decide +kernel
theorem gj_AbstractStringBuilder_15_1 : FLg "java/lang/AbstractStringBuilder" 15 1 0 := ⟨_, _, _, _, "java/lang/AbstractStringBuilder", coC_1, by decide, wg_938, Or.inl rfl⟩
theorem fj_AbstractStringBuilder_15_1 : FL "java/lang/AbstractStringBuilder" 15 1 0 false (tyJ4 0) := ⟨_, _, _, _, "java/lang/AbstractStringBuilder", coC_1, by decide, wg_938, Or.inl rfl, rfl, (fun h => by cases h), rfl⟩
theorem gj_AbstractStringBuilder_22_1 : FLg "java/lang/AbstractStringBuilder" 22 1 1 := ⟨_, _, _, _, "java/lang/AbstractStringBuilder", coC_1, by decide, wg_939, Or.inl rfl⟩
theorem fj_AbstractStringBuilder_22_1 : FL "java/lang/AbstractStringBuilder" 22 1 1 false (tyJ4 1) := ⟨_, _, _, _, "java/lang/AbstractStringBuilder", coC_1, by decide, wg_939, Or.inl rfl, rfl, (fun h => by cases h), rfl⟩
theorem oj_AbstractStringBuilder_3 : Cond.methodLink "java/lang/AbstractStringBuilder" 3 objectInit ∈ lw_good := wg_929
theorem d_StringBuilder_append_cf468_0 : decode prog_32_method_14_code 0 = .ok (.aload_n 0, 1) := by decide +kernel
theorem d_StringBuilder_append_cf468_1 : decode prog_32_method_14_code 1 = .ok (.iload_n 1, 1) := by decide +kernel
theorem d_StringBuilder_append_cf468_2 : decode prog_32_method_14_code 2 = .ok (.invokespecial 50, 3) := by decide +kernel
theorem d_StringBuilder_append_cf468_5 : decode prog_32_method_14_code 5 = .ok (.pop, 1) := by decide +kernel
theorem d_StringBuilder_append_cf468_6 : decode prog_32_method_14_code 6 = .ok (.aload_n 0, 1) := by decide +kernel
theorem d_StringBuilder_append_cf468_7 : decode prog_32_method_14_code 7 = .ok (.areturn, 1) := by decide +kernel
theorem lj_StringBuilder_50 : LSU "java/lang/StringBuilder" 50 1 m_AbstractStringBuilder_append_3fe6f := ⟨hd_AbstractStringBuilder_append_3fe6f, rfl, by decide, wg_1063, wg_1721, wg_950, wg_1064, wg_19⟩
theorem d_AbstractStringBuilder_append_3fe6f_0 : decode prog_17_method_31_code 0 = .ok (.aload_n 0, 1) := by decide +kernel
theorem d_AbstractStringBuilder_append_3fe6f_1 : decode prog_17_method_31_code 1 = .ok (.aload_n 0, 1) := by decide +kernel
theorem d_AbstractStringBuilder_append_3fe6f_2 : decode prog_17_method_31_code 2 = .ok (.getfield 79, 3) := by decide +kernel
theorem d_AbstractStringBuilder_append_3fe6f_5 : decode prog_17_method_31_code 5 = .ok (.iconst 1, 1) := by decide +kernel
theorem d_AbstractStringBuilder_append_3fe6f_6 : decode prog_17_method_31_code 6 = .ok (.iadd, 1) := by decide +kernel
theorem d_AbstractStringBuilder_append_3fe6f_7 : decode prog_17_method_31_code 7 = .ok (.invokevirtual 100, 3) := by decide +kernel
theorem d_AbstractStringBuilder_append_3fe6f_10 : decode prog_17_method_31_code 10 = .ok (.aload_n 0, 1) := by decide +kernel
theorem d_AbstractStringBuilder_append_3fe6f_11 : decode prog_17_method_31_code 11 = .ok (.invokevirtual 83, 3) := by decide +kernel
theorem d_AbstractStringBuilder_append_3fe6f_14 : decode prog_17_method_31_code 14 = .ok (.ifCond .eq 31, 3) := by decide +kernel
theorem d_AbstractStringBuilder_append_3fe6f_17 : decode prog_17_method_31_code 17 = .ok (.iload_n 1, 1) := by decide +kernel
theorem d_AbstractStringBuilder_append_3fe6f_18 : decode prog_17_method_31_code 18 = .ok (.invokestatic 191, 3) := by decide +kernel
theorem d_AbstractStringBuilder_append_3fe6f_21 : decode prog_17_method_31_code 21 = .ok (.ifCond .eq 24, 3) := by decide +kernel
theorem d_AbstractStringBuilder_append_3fe6f_24 : decode prog_17_method_31_code 24 = .ok (.aload_n 0, 1) := by decide +kernel
theorem d_AbstractStringBuilder_append_3fe6f_25 : decode prog_17_method_31_code 25 = .ok (.getfield 15, 3) := by decide +kernel
theorem d_AbstractStringBuilder_append_3fe6f_28 : decode prog_17_method_31_code 28 = .ok (.aload_n 0, 1) := by decide +kernel
theorem d_AbstractStringBuilder_append_3fe6f_29 : decode prog_17_method_31_code 29 = .ok (.dup, 1) := by decide +kernel
theorem d_AbstractStringBuilder_append_3fe6f_30 : decode prog_17_method_31_code 30 = .ok (.getfield 79, 3) := by decide +kernel
theorem d_AbstractStringBuilder_append_3fe6f_33 : decode prog_17_method_31_code 33 = .ok (.dup_x1, 1) := by decide +kernel
theorem d_AbstractStringBuilder_append_3fe6f_34 : decode prog_17_method_31_code 34 = .ok (.iconst 1, 1) := by decide +kernel
theorem d_AbstractStringBuilder_append_3fe6f_35 : decode prog_17_method_31_code 35 = .ok (.iadd, 1) := by decide +kernel
theorem d_AbstractStringBuilder_append_3fe6f_36 : decode prog_17_method_31_code 36 = .ok (.putfield 79, 3) := by decide +kernel
theorem d_AbstractStringBuilder_append_3fe6f_39 : decode prog_17_method_31_code 39 = .ok (.iload_n 1, 1) := by decide +kernel
theorem d_AbstractStringBuilder_append_3fe6f_40 : decode prog_17_method_31_code 40 = .ok (.i2b, 1) := by decide +kernel
theorem d_AbstractStringBuilder_append_3fe6f_41 : decode prog_17_method_31_code 41 = .ok (.bastore, 1) := by decide +kernel
theorem d_AbstractStringBuilder_append_3fe6f_42 : decode prog_17_method_31_code 42 = .ok (.goto 33, 3) := by decide +kernel
theorem d_AbstractStringBuilder_append_3fe6f_45 : decode prog_17_method_31_code 45 = .ok (.aload_n 0, 1) := by decide +kernel
theorem d_AbstractStringBuilder_append_3fe6f_46 : decode prog_17_method_31_code 46 = .ok (.invokevirtual 83, 3) := by decide +kernel
theorem d_AbstractStringBuilder_append_3fe6f_49 : decode prog_17_method_31_code 49 = .ok (.ifCond .eq 7, 3) := by decide +kernel
theorem d_AbstractStringBuilder_append_3fe6f_52 : decode prog_17_method_31_code 52 = .ok (.aload_n 0, 1) := by decide +kernel
theorem d_AbstractStringBuilder_append_3fe6f_53 : decode prog_17_method_31_code 53 = .ok (.invokevirtual 195, 3) := by decide +kernel
theorem d_AbstractStringBuilder_append_3fe6f_56 : decode prog_17_method_31_code 56 = .ok (.aload_n 0, 1) := by decide +kernel
theorem d_AbstractStringBuilder_append_3fe6f_57 : decode prog_17_method_31_code 57 = .ok (.getfield 15, 3) := by decide +kernel
theorem d_AbstractStringBuilder_append_3fe6f_60 : decode prog_17_method_31_code 60 = .ok (.aload_n 0, 1) := by decide +kernel
theorem d_AbstractStringBuilder_append_3fe6f_61 : decode prog_17_method_31_code 61 = .ok (.dup, 1) := by decide +kernel
theorem d_AbstractStringBuilder_append_3fe6f_62 : decode prog_17_method_31_code 62 = .ok (.getfield 79, 3) := by decide +kernel
theorem d_AbstractStringBuilder_append_3fe6f_65 : decode prog_17_method_31_code 65 = .ok (.dup_x1, 1) := by decide +kernel
theorem d_AbstractStringBuilder_append_3fe6f_66 : decode prog_17_method_31_code 66 = .ok (.iconst 1, 1) := by decide +kernel
theorem d_AbstractStringBuilder_append_3fe6f_67 : decode prog_17_method_31_code 67 = .ok (.iadd, 1) := by decide +kernel
theorem d_AbstractStringBuilder_append_3fe6f_68 : decode prog_17_method_31_code 68 = .ok (.putfield 79, 3) := by decide +kernel
theorem d_AbstractStringBuilder_append_3fe6f_71 : decode prog_17_method_31_code 71 = .ok (.iload_n 1, 1) := by decide +kernel
theorem d_AbstractStringBuilder_append_3fe6f_72 : decode prog_17_method_31_code 72 = .ok (.invokestatic 197, 3) := by decide +kernel
theorem d_AbstractStringBuilder_append_3fe6f_75 : decode prog_17_method_31_code 75 = .ok (.aload_n 0, 1) := by decide +kernel
theorem d_AbstractStringBuilder_append_3fe6f_76 : decode prog_17_method_31_code 76 = .ok (.areturn, 1) := by decide +kernel
theorem gj_AbstractStringBuilder_79_1 : FLg "java/lang/AbstractStringBuilder" 79 1 3 := ⟨_, _, _, _, "java/lang/AbstractStringBuilder", coC_1, by decide, wg_941, Or.inl rfl⟩
theorem fj_AbstractStringBuilder_79_1 : FL "java/lang/AbstractStringBuilder" 79 1 3 false (tyJ4 3) := ⟨_, _, _, _, "java/lang/AbstractStringBuilder", coC_1, by decide, wg_941, Or.inl rfl, rfl, (fun h => by cases h), rfl⟩
theorem lj_AbstractStringBuilder_100_1 : LU "java/lang/AbstractStringBuilder" 100 1 1 m_AbstractStringBuilder_ensureCapacityInternal_d00df := ⟨hd_AbstractStringBuilder_ensureCapacityInternal_d00df, rfl, _, ⟨"java/lang/AbstractStringBuilder", "ensureCapacityInternal", "(I)V"⟩, rfl, rfl, wg_973, wg_1716, wx_2, wg_975, wg_19, by decide +kernel⟩
theorem lj_AbstractStringBuilder_83_1 : LU "java/lang/AbstractStringBuilder" 83 1 0 m_AbstractStringBuilder_isLatin1_aae02 := ⟨hd_AbstractStringBuilder_isLatin1_aae02, rfl, _, ⟨"java/lang/AbstractStringBuilder", "isLatin1", "()Z"⟩, rfl, rfl, wg_1004, wg_1006, wg_1007, wg_1005, wg_19, by decide +kernel⟩
theorem lj_AbstractStringBuilder_191 : m_StringLatin1_canEncode_fc78d.2.2.2.2 = [] ∧ LST "java/lang/AbstractStringBuilder" 191 1 m_StringLatin1_canEncode_fc78d := ⟨rfl, hd_StringLatin1_canEncode_fc78d, wg_1066, wg_1067, wg_14⟩
abbrev m_AbstractStringBuilder_inflate_da8c8 : MI := (⟨"java/lang/AbstractStringBuilder", "inflate", "()V"⟩, prog_17_method_11_code, 2, (Option.none : Option Jvm.ClassFile.FieldType), [])
theorem hd_AbstractStringBuilder_inflate_da8c8 : hd0 m_AbstractStringBuilder_inflate_da8c8 0 := hd0_of (by decide +kernel) (by decide +kernel) (by decide +kernel) rfl rfl wg_1037
theorem d_AbstractStringBuilder_ensureCapacityInternal_d00df_0 : decode prog_17_method_9_code 0 = .ok (.aload_n 0, 1) := by decide +kernel
theorem d_AbstractStringBuilder_ensureCapacityInternal_d00df_1 : decode prog_17_method_9_code 1 = .ok (.getfield 15, 3) := by decide +kernel
theorem d_AbstractStringBuilder_ensureCapacityInternal_d00df_4 : decode prog_17_method_9_code 4 = .ok (.arraylength, 1) := by decide +kernel
theorem d_AbstractStringBuilder_ensureCapacityInternal_d00df_5 : decode prog_17_method_9_code 5 = .ok (.aload_n 0, 1) := by decide +kernel
theorem d_AbstractStringBuilder_ensureCapacityInternal_d00df_6 : decode prog_17_method_9_code 6 = .ok (.getfield 22, 3) := by decide +kernel
theorem d_AbstractStringBuilder_ensureCapacityInternal_d00df_9 : decode prog_17_method_9_code 9 = .ok (.ishr, 1) := by decide +kernel
theorem d_AbstractStringBuilder_ensureCapacityInternal_d00df_10 : decode prog_17_method_9_code 10 = .ok (.istore_n 2, 1) := by decide +kernel
theorem d_AbstractStringBuilder_ensureCapacityInternal_d00df_11 : decode prog_17_method_9_code 11 = .ok (.iload_n 1, 1) := by decide +kernel
theorem d_AbstractStringBuilder_ensureCapacityInternal_d00df_12 : decode prog_17_method_9_code 12 = .ok (.iload_n 2, 1) := by decide +kernel
theorem d_AbstractStringBuilder_ensureCapacityInternal_d00df_13 : decode prog_17_method_9_code 13 = .ok (.isub, 1) := by decide +kernel
theorem d_AbstractStringBuilder_ensureCapacityInternal_d00df_14 : decode prog_17_method_9_code 14 = .ok (.ifCond .le 24, 3) := by decide +kernel
theorem d_AbstractStringBuilder_ensureCapacityInternal_d00df_17 : decode prog_17_method_9_code 17 = .ok (.aload_n 0, 1) := by decide +kernel
theorem d_AbstractStringBuilder_ensureCapacityInternal_d00df_18 : decode prog_17_method_9_code 18 = .ok (.aload_n 0, 1) := by decide +kernel
theorem d_AbstractStringBuilder_ensureCapacityInternal_d00df_19 : decode prog_17_method_9_code 19 = .ok (.getfield 15, 3) := by decide +kernel
theorem d_AbstractStringBuilder_ensureCapacityInternal_d00df_22 : decode prog_17_method_9_code 22 = .ok (.aload_n 0, 1) := by decide +kernel
theorem d_AbstractStringBuilder_ensureCapacityInternal_d00df_23 : decode prog_17_method_9_code 23 = .ok (.iload_n 1, 1) := by decide +kernel
theorem d_AbstractStringBuilder_ensureCapacityInternal_d00df_24 : decode prog_17_method_9_code 24 = .ok (.invokevirtual 104, 3) := by decide +kernel
theorem d_AbstractStringBuilder_ensureCapacityInternal_d00df_27 : decode prog_17_method_9_code 27 = .ok (.aload_n 0, 1) := by decide +kernel
theorem d_AbstractStringBuilder_ensureCapacityInternal_d00df_28 : decode prog_17_method_9_code 28 = .ok (.getfield 22, 3) := by decide +kernel
theorem d_AbstractStringBuilder_ensureCapacityInternal_d00df_31 : decode prog_17_method_9_code 31 = .ok (.ishl, 1) := by decide +kernel
theorem d_AbstractStringBuilder_ensureCapacityInternal_d00df_32 : decode prog_17_method_9_code 32 = .ok (.invokestatic 108, 3) := by decide +kernel
theorem d_AbstractStringBuilder_ensureCapacityInternal_d00df_35 : decode prog_17_method_9_code 35 = .ok (.putfield 15, 3) := by decide +kernel
theorem d_AbstractStringBuilder_ensureCapacityInternal_d00df_38 : decode prog_17_method_9_code 38 = .ok (.return_, 1) := by decide +kernel
theorem lj_AbstractStringBuilder_104_1 : LU "java/lang/AbstractStringBuilder" 104 1 1 m_AbstractStringBuilder_newCapacity_0f7a4 := ⟨hd_AbstractStringBuilder_newCapacity_0f7a4, rfl, _, ⟨"java/lang/AbstractStringBuilder", "newCapacity", "(I)I"⟩, rfl, rfl, wg_977, wg_1717, wx_3, wg_979, wg_19, by decide +kernel⟩
theorem lj_AbstractStringBuilder_108 : m_Arrays_copyOf_9075b.2.2.2.2 = [] ∧ LST "java/lang/AbstractStringBuilder" 108 2 m_Arrays_copyOf_9075b := ⟨rfl, hd_Arrays_copyOf_9075b, wg_992, wg_993, wg_22⟩
theorem d_AbstractStringBuilder_newCapacity_0f7a4_0 : decode prog_17_method_10_code 0 = .ok (.aload_n 0, 1) := by decide +kernel
theorem d_AbstractStringBuilder_newCapacity_0f7a4_1 : decode prog_17_method_10_code 1 = .ok (.getfield 15, 3) := by decide +kernel
theorem d_AbstractStringBuilder_newCapacity_0f7a4_4 : decode prog_17_method_10_code 4 = .ok (.arraylength, 1) := by decide +kernel
theorem d_AbstractStringBuilder_newCapacity_0f7a4_5 : decode prog_17_method_10_code 5 = .ok (.istore_n 2, 1) := by decide +kernel
theorem d_AbstractStringBuilder_newCapacity_0f7a4_6 : decode prog_17_method_10_code 6 = .ok (.iload_n 1, 1) := by decide +kernel
theorem d_AbstractStringBuilder_newCapacity_0f7a4_7 : decode prog_17_method_10_code 7 = .ok (.aload_n 0, 1) := by decide +kernel
theorem d_AbstractStringBuilder_newCapacity_0f7a4_8 : decode prog_17_method_10_code 8 = .ok (.getfield 22, 3) := by decide +kernel
theorem d_AbstractStringBuilder_newCapacity_0f7a4_11 : decode prog_17_method_10_code 11 = .ok (.ishl, 1) := by decide +kernel
theorem d_AbstractStringBuilder_newCapacity_0f7a4_12 : decode prog_17_method_10_code 12 = .ok (.istore_n 3, 1) := by decide +kernel
theorem d_AbstractStringBuilder_newCapacity_0f7a4_13 : decode prog_17_method_10_code 13 = .ok (.iload_n 3, 1) := by decide +kernel
theorem d_AbstractStringBuilder_newCapacity_0f7a4_14 : decode prog_17_method_10_code 14 = .ok (.iload_n 2, 1) := by decide +kernel
theorem d_AbstractStringBuilder_newCapacity_0f7a4_15 : decode prog_17_method_10_code 15 = .ok (.isub, 1) := by decide +kernel
theorem d_AbstractStringBuilder_newCapacity_0f7a4_16 : decode prog_17_method_10_code 16 = .ok (.istore 4, 2) := by decide +kernel
theorem d_AbstractStringBuilder_newCapacity_0f7a4_18 : decode prog_17_method_10_code 18 = .ok (.iload_n 2, 1) := by decide +kernel
theorem d_AbstractStringBuilder_newCapacity_0f7a4_19 : decode prog_17_method_10_code 19 = .ok (.iload 4, 2) := by decide +kernel
theorem d_AbstractStringBuilder_newCapacity_0f7a4_21 : decode prog_17_method_10_code 21 = .ok (.iload_n 2, 1) := by decide +kernel
theorem d_AbstractStringBuilder_newCapacity_0f7a4_22 : decode prog_17_method_10_code 22 = .ok (.iconst 2, 1) := by decide +kernel
theorem d_AbstractStringBuilder_newCapacity_0f7a4_23 : decode prog_17_method_10_code 23 = .ok (.aload_n 0, 1) := by decide +kernel
theorem d_AbstractStringBuilder_newCapacity_0f7a4_24 : decode prog_17_method_10_code 24 = .ok (.getfield 22, 3) := by decide +kernel
theorem d_AbstractStringBuilder_newCapacity_0f7a4_27 : decode prog_17_method_10_code 27 = .ok (.ishl, 1) := by decide +kernel
theorem d_AbstractStringBuilder_newCapacity_0f7a4_28 : decode prog_17_method_10_code 28 = .ok (.iadd, 1) := by decide +kernel
theorem d_AbstractStringBuilder_newCapacity_0f7a4_29 : decode prog_17_method_10_code 29 = .ok (.invokestatic 114, 3) := by decide +kernel
theorem d_AbstractStringBuilder_newCapacity_0f7a4_32 : decode prog_17_method_10_code 32 = .ok (.istore 5, 2) := by decide +kernel
theorem d_AbstractStringBuilder_newCapacity_0f7a4_34 : decode prog_17_method_10_code 34 = .ok (.iload 5, 2) := by decide +kernel
theorem d_AbstractStringBuilder_newCapacity_0f7a4_36 : decode prog_17_method_10_code 36 = .ok (.ldc 39, 2) := by decide +kernel
theorem d_AbstractStringBuilder_newCapacity_0f7a4_38 : decode prog_17_method_10_code 38 = .ok (.if_icmp .ne 13, 3) := by decide +kernel
theorem d_AbstractStringBuilder_newCapacity_0f7a4_41 : decode prog_17_method_10_code 41 = .ok (.new 120, 3) := by decide +kernel
theorem d_AbstractStringBuilder_newCapacity_0f7a4_44 : decode prog_17_method_10_code 44 = .ok (.dup, 1) := by decide +kernel
theorem d_AbstractStringBuilder_newCapacity_0f7a4_45 : decode prog_17_method_10_code 45 = .ok (.ldc 122, 2) := by decide +kernel
theorem d_AbstractStringBuilder_newCapacity_0f7a4_47 : decode prog_17_method_10_code 47 = .ok (.invokespecial 124, 3) := by decide +kernel
theorem d_AbstractStringBuilder_newCapacity_0f7a4_50 : decode prog_17_method_10_code 50 = .ok (.athrow, 1) := by decide +kernel
theorem d_AbstractStringBuilder_newCapacity_0f7a4_51 : decode prog_17_method_10_code 51 = .ok (.iload 5, 2) := by decide +kernel
theorem d_AbstractStringBuilder_newCapacity_0f7a4_53 : decode prog_17_method_10_code 53 = .ok (.aload_n 0, 1) := by decide +kernel
theorem d_AbstractStringBuilder_newCapacity_0f7a4_54 : decode prog_17_method_10_code 54 = .ok (.getfield 22, 3) := by decide +kernel
theorem d_AbstractStringBuilder_newCapacity_0f7a4_57 : decode prog_17_method_10_code 57 = .ok (.ishr, 1) := by decide +kernel
theorem d_AbstractStringBuilder_newCapacity_0f7a4_58 : decode prog_17_method_10_code 58 = .ok (.ireturn, 1) := by decide +kernel
theorem lj_AbstractStringBuilder_114 : m_ArraysSupport_newLength_cabcc.2.2.2.2 = [] ∧ LST "java/lang/AbstractStringBuilder" 114 3 m_ArraysSupport_newLength_cabcc := ⟨rfl, hd_ArraysSupport_newLength_cabcc, wg_981, wg_982, wg_21⟩
theorem d_ArraysSupport_newLength_cabcc_0 : decode prog_41_method_27_code 0 = .ok (.iload_n 0, 1) := by decide +kernel
theorem d_ArraysSupport_newLength_cabcc_1 : decode prog_41_method_27_code 1 = .ok (.iload_n 1, 1) := by decide +kernel
theorem d_ArraysSupport_newLength_cabcc_2 : decode prog_41_method_27_code 2 = .ok (.iload_n 2, 1) := by decide +kernel
theorem d_ArraysSupport_newLength_cabcc_3 : decode prog_41_method_27_code 3 = .ok (.invokestatic 194, 3) := by decide +kernel
theorem d_ArraysSupport_newLength_cabcc_6 : decode prog_41_method_27_code 6 = .ok (.iadd, 1) := by decide +kernel
theorem d_ArraysSupport_newLength_cabcc_7 : decode prog_41_method_27_code 7 = .ok (.istore_n 3, 1) := by decide +kernel
theorem d_ArraysSupport_newLength_cabcc_8 : decode prog_41_method_27_code 8 = .ok (.iconst 0, 1) := by decide +kernel
theorem d_ArraysSupport_newLength_cabcc_9 : decode prog_41_method_27_code 9 = .ok (.iload_n 3, 1) := by decide +kernel
theorem d_ArraysSupport_newLength_cabcc_10 : decode prog_41_method_27_code 10 = .ok (.if_icmp .ge 11, 3) := by decide +kernel
theorem d_ArraysSupport_newLength_cabcc_13 : decode prog_41_method_27_code 13 = .ok (.iload_n 3, 1) := by decide +kernel
theorem d_ArraysSupport_newLength_cabcc_14 : decode prog_41_method_27_code 14 = .ok (.ldc 200, 2) := by decide +kernel
theorem d_ArraysSupport_newLength_cabcc_16 : decode prog_41_method_27_code 16 = .ok (.if_icmp .gt 5, 3) := by decide +kernel
theorem d_ArraysSupport_newLength_cabcc_19 : decode prog_41_method_27_code 19 = .ok (.iload_n 3, 1) := by decide +kernel
theorem d_ArraysSupport_newLength_cabcc_20 : decode prog_41_method_27_code 20 = .ok (.ireturn, 1) := by decide +kernel
theorem d_ArraysSupport_newLength_cabcc_21 : decode prog_41_method_27_code 21 = .ok (.iload_n 0, 1) := by decide +kernel
theorem d_ArraysSupport_newLength_cabcc_22 : decode prog_41_method_27_code 22 = .ok (.iload_n 1, 1) := by decide +kernel
theorem d_ArraysSupport_newLength_cabcc_23 : decode prog_41_method_27_code 23 = .ok (.invokestatic 201, 3) := by decide +kernel
theorem d_ArraysSupport_newLength_cabcc_26 : decode prog_41_method_27_code 26 = .ok (.ireturn, 1) := by decide +kernel
theorem lj_ArraysSupport_194 : Cond.methodLink "jdk/internal/util/ArraysSupport" 194 Lib.Math.max.name ∈ lw_good ∧ Cond.static Lib.Math.max.name ∈ lw_good ∧ Cond.initialized "java/lang/Math" ∈ lw_good ∧ Cond.code Lib.Math.max.name Lib.Math.max.code 2 (some .int) ∈ lw_good := ⟨wg_984, wg_985, wg_17, wg_986⟩
abbrev m_ArraysSupport_hugeLength_7cf53 : MI := (⟨"jdk/internal/util/ArraysSupport", "hugeLength", "(II)I"⟩, prog_41_method_28_code, 3, (Option.some Jvm.ClassFile.FieldType.int), [])
theorem hd_ArraysSupport_hugeLength_7cf53 : hd0 m_ArraysSupport_hugeLength_7cf53 2 := hd0_of (by decide +kernel) (by decide +kernel) (by decide +kernel) rfl rfl wg_990
theorem lj_ArraysSupport_201 : m_ArraysSupport_hugeLength_7cf53.2.2.2.2 = [] ∧ LST "jdk/internal/util/ArraysSupport" 201 2 m_ArraysSupport_hugeLength_7cf53 := ⟨rfl, hd_ArraysSupport_hugeLength_7cf53, wg_988, wg_989, wg_21⟩
theorem d_Arrays_copyOf_9075b_0 : decode prog_39_method_121_code 0 = .ok (.iload_n 1, 1) := by decide +kernel
theorem d_Arrays_copyOf_9075b_1 : decode prog_39_method_121_code 1 = .ok (.aload_n 0, 1) := by decide +kernel
theorem d_Arrays_copyOf_9075b_2 : decode prog_39_method_121_code 2 = .ok (.arraylength, 1) := by decide +kernel
theorem d_Arrays_copyOf_9075b_3 : decode prog_39_method_121_code 3 = .ok (.if_icmp .ne 11, 3) := by decide +kernel
theorem d_Arrays_copyOf_9075b_6 : decode prog_39_method_121_code 6 = .ok (.aload_n 0, 1) := by decide +kernel
theorem d_Arrays_copyOf_9075b_7 : decode prog_39_method_121_code 7 = .ok (.invokevirtual 310, 3) := by decide +kernel
theorem d_Arrays_copyOf_9075b_10 : decode prog_39_method_121_code 10 = .ok (.checkcast 311, 3) := by decide +kernel
theorem d_Arrays_copyOf_9075b_13 : decode prog_39_method_121_code 13 = .ok (.areturn, 1) := by decide +kernel
theorem d_Arrays_copyOf_9075b_14 : decode prog_39_method_121_code 14 = .ok (.iload_n 1, 1) := by decide +kernel
theorem d_Arrays_copyOf_9075b_15 : decode prog_39_method_121_code 15 = .ok (.newarray .byte, 2) := by decide +kernel
theorem d_Arrays_copyOf_9075b_17 : decode prog_39_method_121_code 17 = .ok (.astore_n 2, 1) := by decide +kernel
theorem d_Arrays_copyOf_9075b_18 : decode prog_39_method_121_code 18 = .ok (.aload_n 0, 1) := by decide +kernel
theorem d_Arrays_copyOf_9075b_19 : decode prog_39_method_121_code 19 = .ok (.iconst 0, 1) := by decide +kernel
theorem d_Arrays_copyOf_9075b_20 : decode prog_39_method_121_code 20 = .ok (.aload_n 2, 1) := by decide +kernel
theorem d_Arrays_copyOf_9075b_21 : decode prog_39_method_121_code 21 = .ok (.iconst 0, 1) := by decide +kernel
theorem d_Arrays_copyOf_9075b_22 : decode prog_39_method_121_code 22 = .ok (.aload_n 0, 1) := by decide +kernel
theorem d_Arrays_copyOf_9075b_23 : decode prog_39_method_121_code 23 = .ok (.arraylength, 1) := by decide +kernel
theorem d_Arrays_copyOf_9075b_24 : decode prog_39_method_121_code 24 = .ok (.iload_n 1, 1) := by decide +kernel
theorem d_Arrays_copyOf_9075b_25 : decode prog_39_method_121_code 25 = .ok (.invokestatic 304, 3) := by decide +kernel
theorem d_Arrays_copyOf_9075b_28 : decode prog_39_method_121_code 28 = .ok (.invokestatic 150, 3) := by decide +kernel
theorem d_Arrays_copyOf_9075b_31 : decode prog_39_method_121_code 31 = .ok (.aload_n 2, 1) := by decide +kernel
theorem d_Arrays_copyOf_9075b_32 : decode prog_39_method_121_code 32 = .ok (.areturn, 1) := by decide +kernel
theorem lj_Arrays_304 : Cond.methodLink "java/util/Arrays" 304 Lib.Math.min.name ∈ lw_good ∧ Cond.static Lib.Math.min.name ∈ lw_good ∧ Cond.initialized "java/lang/Math" ∈ lw_good ∧ Cond.code Lib.Math.min.name Lib.Math.min.code 2 (some .int) ∈ lw_good := ⟨wg_1002, wg_519, wg_17, wg_520⟩
theorem lj_Arrays_150 : Cond.methodLink "java/util/Arrays" 150 arraycopyName ∈ lw_good ∧ Cond.native arraycopyName ∈ lw_good ∧ Cond.static arraycopyName ∈ lw_good ∧ Cond.initialized "java/lang/System" ∈ lw_good := ⟨wg_1003, wg_751, wg_750, wg_23⟩
theorem d_AbstractStringBuilder_isLatin1_aae02_0 : decode prog_17_method_68_code 0 = .ok (.getstatic 18, 3) := by decide +kernel
theorem d_AbstractStringBuilder_isLatin1_aae02_3 : decode prog_17_method_68_code 3 = .ok (.ifCond .eq 14, 3) := by decide +kernel
theorem d_AbstractStringBuilder_isLatin1_aae02_6 : decode prog_17_method_68_code 6 = .ok (.aload_n 0, 1) := by decide +kernel
theorem d_AbstractStringBuilder_isLatin1_aae02_7 : decode prog_17_method_68_code 7 = .ok (.getfield 22, 3) := by decide +kernel
theorem d_AbstractStringBuilder_isLatin1_aae02_10 : decode prog_17_method_68_code 10 = .ok (.ifCond .ne 7, 3) := by decide +kernel
theorem d_AbstractStringBuilder_isLatin1_aae02_13 : decode prog_17_method_68_code 13 = .ok (.iconst 1, 1) := by decide +kernel
theorem d_AbstractStringBuilder_isLatin1_aae02_14 : decode prog_17_method_68_code 14 = .ok (.goto 4, 3) := by decide +kernel
theorem d_AbstractStringBuilder_isLatin1_aae02_17 : decode prog_17_method_68_code 17 = .ok (.iconst 0, 1) := by decide +kernel
theorem d_AbstractStringBuilder_isLatin1_aae02_18 : decode prog_17_method_68_code 18 = .ok (.ireturn, 1) := by decide +kernel
theorem d_StringLatin1_canEncode_fc78d_0 : decode prog_33_method_3_code 0 = .ok (.iload_n 0, 1) := by decide +kernel
theorem d_StringLatin1_canEncode_fc78d_1 : decode prog_33_method_3_code 1 = .ok (.sipush 255, 3) := by decide +kernel
theorem d_StringLatin1_canEncode_fc78d_4 : decode prog_33_method_3_code 4 = .ok (.if_icmp .gt 7, 3) := by decide +kernel
theorem d_StringLatin1_canEncode_fc78d_7 : decode prog_33_method_3_code 7 = .ok (.iconst 1, 1) := by decide +kernel
theorem d_StringLatin1_canEncode_fc78d_8 : decode prog_33_method_3_code 8 = .ok (.goto 4, 3) := by decide +kernel
theorem d_StringLatin1_canEncode_fc78d_11 : decode prog_33_method_3_code 11 = .ok (.iconst 0, 1) := by decide +kernel
theorem d_StringLatin1_canEncode_fc78d_12 : decode prog_33_method_3_code 12 = .ok (.ireturn, 1) := by decide +kernel
theorem d_StringBuilder_append_bf812_0 : decode prog_32_method_15_code 0 = .ok (.aload_n 0, 1) := by decide +kernel
theorem d_StringBuilder_append_bf812_1 : decode prog_32_method_15_code 1 = .ok (.iload_n 1, 1) := by decide +kernel
theorem d_StringBuilder_append_bf812_2 : decode prog_32_method_15_code 2 = .ok (.invokespecial 53, 3) := by decide +kernel
theorem d_StringBuilder_append_bf812_5 : decode prog_32_method_15_code 5 = .ok (.pop, 1) := by decide +kernel
theorem d_StringBuilder_append_bf812_6 : decode prog_32_method_15_code 6 = .ok (.aload_n 0, 1) := by decide +kernel
theorem d_StringBuilder_append_bf812_7 : decode prog_32_method_15_code 7 = .ok (.areturn, 1) := by decide +kernel
theorem lj_StringBuilder_53 : LSU "java/lang/StringBuilder" 53 1 m_AbstractStringBuilder_append_c97b9 := ⟨hd_AbstractStringBuilder_append_c97b9, rfl, by decide, wg_1138, wg_1722, wg_950, wg_1139, wg_19⟩
theorem d_AbstractStringBuilder_append_c97b9_0 : decode prog_17_method_32_code 0 = .ok (.aload_n 0, 1) := by decide +kernel
theorem d_AbstractStringBuilder_append_c97b9_1 : decode prog_17_method_32_code 1 = .ok (.getfield 79, 3) := by decide +kernel
theorem d_AbstractStringBuilder_append_c97b9_4 : decode prog_17_method_32_code 4 = .ok (.istore_n 2, 1) := by decide +kernel
theorem d_AbstractStringBuilder_append_c97b9_5 : decode prog_17_method_32_code 5 = .ok (.iload_n 2, 1) := by decide +kernel
theorem d_AbstractStringBuilder_append_c97b9_6 : decode prog_17_method_32_code 6 = .ok (.iload_n 1, 1) := by decide +kernel
theorem d_AbstractStringBuilder_append_c97b9_7 : decode prog_17_method_32_code 7 = .ok (.invokestatic 245, 3) := by decide +kernel
theorem d_AbstractStringBuilder_append_c97b9_10 : decode prog_17_method_32_code 10 = .ok (.iadd, 1) := by decide +kernel
theorem d_AbstractStringBuilder_append_c97b9_11 : decode prog_17_method_32_code 11 = .ok (.istore_n 3, 1) := by decide +kernel
theorem d_AbstractStringBuilder_append_c97b9_12 : decode prog_17_method_32_code 12 = .ok (.aload_n 0, 1) := by decide +kernel
theorem d_AbstractStringBuilder_append_c97b9_13 : decode prog_17_method_32_code 13 = .ok (.iload_n 3, 1) := by decide +kernel
theorem d_AbstractStringBuilder_append_c97b9_14 : decode prog_17_method_32_code 14 = .ok (.invokevirtual 100, 3) := by decide +kernel
theorem d_AbstractStringBuilder_append_c97b9_17 : decode prog_17_method_32_code 17 = .ok (.aload_n 0, 1) := by decide +kernel
theorem d_AbstractStringBuilder_append_c97b9_18 : decode prog_17_method_32_code 18 = .ok (.invokevirtual 83, 3) := by decide +kernel
theorem d_AbstractStringBuilder_append_c97b9_21 : decode prog_17_method_32_code 21 = .ok (.ifCond .eq 16, 3) := by decide +kernel
theorem d_AbstractStringBuilder_append_c97b9_24 : decode prog_17_method_32_code 24 = .ok (.iload_n 1, 1) := by decide +kernel
theorem d_AbstractStringBuilder_append_c97b9_25 : decode prog_17_method_32_code 25 = .ok (.iload_n 3, 1) := by decide +kernel
theorem d_AbstractStringBuilder_append_c97b9_26 : decode prog_17_method_32_code 26 = .ok (.aload_n 0, 1) := by decide +kernel
theorem d_AbstractStringBuilder_append_c97b9_27 : decode prog_17_method_32_code 27 = .ok (.getfield 15, 3) := by decide +kernel
theorem d_AbstractStringBuilder_append_c97b9_30 : decode prog_17_method_32_code 30 = .ok (.invokestatic 248, 3) := by decide +kernel
theorem d_AbstractStringBuilder_append_c97b9_33 : decode prog_17_method_32_code 33 = .ok (.pop, 1) := by decide +kernel
theorem d_AbstractStringBuilder_append_c97b9_34 : decode prog_17_method_32_code 34 = .ok (.goto 14, 3) := by decide +kernel
theorem d_AbstractStringBuilder_append_c97b9_37 : decode prog_17_method_32_code 37 = .ok (.iload_n 1, 1) := by decide +kernel
theorem d_AbstractStringBuilder_append_c97b9_38 : decode prog_17_method_32_code 38 = .ok (.iload_n 2, 1) := by decide +kernel
theorem d_AbstractStringBuilder_append_c97b9_39 : decode prog_17_method_32_code 39 = .ok (.iload_n 3, 1) := by decide +kernel
theorem d_AbstractStringBuilder_append_c97b9_40 : decode prog_17_method_32_code 40 = .ok (.aload_n 0, 1) := by decide +kernel
theorem d_AbstractStringBuilder_append_c97b9_41 : decode prog_17_method_32_code 41 = .ok (.getfield 15, 3) := by decide +kernel
theorem d_AbstractStringBuilder_append_c97b9_44 : decode prog_17_method_32_code 44 = .ok (.invokestatic 251, 3) := by decide +kernel
theorem d_AbstractStringBuilder_append_c97b9_47 : decode prog_17_method_32_code 47 = .ok (.pop, 1) := by decide +kernel
theorem d_AbstractStringBuilder_append_c97b9_48 : decode prog_17_method_32_code 48 = .ok (.aload_n 0, 1) := by decide +kernel
theorem d_AbstractStringBuilder_append_c97b9_49 : decode prog_17_method_32_code 49 = .ok (.iload_n 3, 1) := by decide +kernel
theorem d_AbstractStringBuilder_append_c97b9_50 : decode prog_17_method_32_code 50 = .ok (.putfield 79, 3) := by decide +kernel
theorem d_AbstractStringBuilder_append_c97b9_53 : decode prog_17_method_32_code 53 = .ok (.aload_n 0, 1) := by decide +kernel
theorem d_AbstractStringBuilder_append_c97b9_54 : decode prog_17_method_32_code 54 = .ok (.areturn, 1) := by decide +kernel
theorem lj_AbstractStringBuilder_245 : m_Integer_stringSize_0f7a4.2.2.2.2 = [] ∧ LST "java/lang/AbstractStringBuilder" 245 1 m_Integer_stringSize_0f7a4 := ⟨rfl, hd_Integer_stringSize_0f7a4, wg_1141, wg_1142, wg_25⟩
theorem lj_AbstractStringBuilder_248 : m_Integer_getChars_ba4f3.2.2.2.2 = [] ∧ LST "java/lang/AbstractStringBuilder" 248 3 m_Integer_getChars_ba4f3 := ⟨rfl, hd_Integer_getChars_ba4f3, wg_1144, wg_1145, wg_25⟩
theorem d_Integer_stringSize_0f7a4_0 : decode prog_27_method_13_code 0 = .ok (.iconst 1, 1) := by decide +kernel
theorem d_Integer_stringSize_0f7a4_1 : decode prog_27_method_13_code 1 = .ok (.istore_n 1, 1) := by decide +kernel
theorem d_Integer_stringSize_0f7a4_2 : decode prog_27_method_13_code 2 = .ok (.iload_n 0, 1) := by decide +kernel
theorem d_Integer_stringSize_0f7a4_3 : decode prog_27_method_13_code 3 = .ok (.ifCond .lt 8, 3) := by decide +kernel
theorem d_Integer_stringSize_0f7a4_6 : decode prog_27_method_13_code 6 = .ok (.iconst 0, 1) := by decide +kernel
theorem d_Integer_stringSize_0f7a4_7 : decode prog_27_method_13_code 7 = .ok (.istore_n 1, 1) := by decide +kernel
theorem d_Integer_stringSize_0f7a4_8 : decode prog_27_method_13_code 8 = .ok (.iload_n 0, 1) := by decide +kernel
theorem d_Integer_stringSize_0f7a4_9 : decode prog_27_method_13_code 9 = .ok (.ineg, 1) := by decide +kernel
theorem d_Integer_stringSize_0f7a4_10 : decode prog_27_method_13_code 10 = .ok (.istore_n 0, 1) := by decide +kernel
theorem d_Integer_stringSize_0f7a4_11 : decode prog_27_method_13_code 11 = .ok (.bipush (-10), 2) := by decide +kernel
theorem d_Integer_stringSize_0f7a4_13 : decode prog_27_method_13_code 13 = .ok (.istore_n 2, 1) := by decide +kernel
theorem d_Integer_stringSize_0f7a4_14 : decode prog_27_method_13_code 14 = .ok (.iconst 1, 1) := by decide +kernel
theorem d_Integer_stringSize_0f7a4_15 : decode prog_27_method_13_code 15 = .ok (.istore_n 3, 1) := by decide +kernel
theorem d_Integer_stringSize_0f7a4_16 : decode prog_27_method_13_code 16 = .ok (.iload_n 3, 1) := by decide +kernel
theorem d_Integer_stringSize_0f7a4_17 : decode prog_27_method_13_code 17 = .ok (.bipush 10, 2) := by decide +kernel
theorem d_Integer_stringSize_0f7a4_19 : decode prog_27_method_13_code 19 = .ok (.if_icmp .ge 23, 3) := by decide +kernel
theorem d_Integer_stringSize_0f7a4_22 : decode prog_27_method_13_code 22 = .ok (.iload_n 0, 1) := by decide +kernel
theorem d_Integer_stringSize_0f7a4_23 : decode prog_27_method_13_code 23 = .ok (.iload_n 2, 1) := by decide +kernel
theorem d_Integer_stringSize_0f7a4_24 : decode prog_27_method_13_code 24 = .ok (.if_icmp .le 7, 3) := by decide +kernel
theorem d_Integer_stringSize_0f7a4_27 : decode prog_27_method_13_code 27 = .ok (.iload_n 3, 1) := by decide +kernel
theorem d_Integer_stringSize_0f7a4_28 : decode prog_27_method_13_code 28 = .ok (.iload_n 1, 1) := by decide +kernel
theorem d_Integer_stringSize_0f7a4_29 : decode prog_27_method_13_code 29 = .ok (.iadd, 1) := by decide +kernel
theorem d_Integer_stringSize_0f7a4_30 : decode prog_27_method_13_code 30 = .ok (.ireturn, 1) := by decide +kernel
theorem d_Integer_stringSize_0f7a4_31 : decode prog_27_method_13_code 31 = .ok (.bipush 10, 2) := by decide +kernel
theorem d_Integer_stringSize_0f7a4_33 : decode prog_27_method_13_code 33 = .ok (.iload_n 2, 1) := by decide +kernel
theorem d_Integer_stringSize_0f7a4_34 : decode prog_27_method_13_code 34 = .ok (.imul, 1) := by decide +kernel
theorem d_Integer_stringSize_0f7a4_35 : decode prog_27_method_13_code 35 = .ok (.istore_n 2, 1) := by decide +kernel
theorem d_Integer_stringSize_0f7a4_36 : decode prog_27_method_13_code 36 = .ok (.iinc 3 1, 3) := by decide +kernel
theorem d_Integer_stringSize_0f7a4_39 : decode prog_27_method_13_code 39 = .ok (.goto (-23), 3) := by decide +kernel
theorem d_Integer_stringSize_0f7a4_42 : decode prog_27_method_13_code 42 = .ok (.bipush 10, 2) := by decide +kernel
theorem d_Integer_stringSize_0f7a4_44 : decode prog_27_method_13_code 44 = .ok (.iload_n 1, 1) := by decide +kernel
theorem d_Integer_stringSize_0f7a4_45 : decode prog_27_method_13_code 45 = .ok (.iadd, 1) := by decide +kernel
theorem d_Integer_stringSize_0f7a4_46 : decode prog_27_method_13_code 46 = .ok (.ireturn, 1) := by decide +kernel
theorem d_Integer_getChars_ba4f3_0 : decode prog_27_method_12_code 0 = .ok (.iload_n 1, 1) := by decide +kernel
theorem d_Integer_getChars_ba4f3_1 : decode prog_27_method_12_code 1 = .ok (.istore 5, 2) := by decide +kernel
theorem d_Integer_getChars_ba4f3_3 : decode prog_27_method_12_code 3 = .ok (.iload_n 0, 1) := by decide +kernel
theorem d_Integer_getChars_ba4f3_4 : decode prog_27_method_12_code 4 = .ok (.ifCond .ge 7, 3) := by decide +kernel
theorem d_Integer_getChars_ba4f3_7 : decode prog_27_method_12_code 7 = .ok (.iconst 1, 1) := by decide +kernel
theorem d_Integer_getChars_ba4f3_8 : decode prog_27_method_12_code 8 = .ok (.goto 4, 3) := by decide +kernel
theorem d_Integer_getChars_ba4f3_11 : decode prog_27_method_12_code 11 = .ok (.iconst 0, 1) := by decide +kernel
theorem d_Integer_getChars_ba4f3_12 : decode prog_27_method_12_code 12 = .ok (.istore 6, 2) := by decide +kernel
theorem d_Integer_getChars_ba4f3_14 : decode prog_27_method_12_code 14 = .ok (.iload 6, 2) := by decide +kernel
theorem d_Integer_getChars_ba4f3_16 : decode prog_27_method_12_code 16 = .ok (.ifCond .ne 6, 3) := by decide +kernel
theorem d_Integer_getChars_ba4f3_19 : decode prog_27_method_12_code 19 = .ok (.iload_n 0, 1) := by decide +kernel
theorem d_Integer_getChars_ba4f3_20 : decode prog_27_method_12_code 20 = .ok (.ineg, 1) := by decide +kernel
theorem d_Integer_getChars_ba4f3_21 : decode prog_27_method_12_code 21 = .ok (.istore_n 0, 1) := by decide +kernel
theorem d_Integer_getChars_ba4f3_22 : decode prog_27_method_12_code 22 = .ok (.iload_n 0, 1) := by decide +kernel
theorem d_Integer_getChars_ba4f3_23 : decode prog_27_method_12_code 23 = .ok (.bipush (-100), 2) := by decide +kernel
theorem d_Integer_getChars_ba4f3_25 : decode prog_27_method_12_code 25 = .ok (.if_icmp .gt 47, 3) := by decide +kernel
theorem d_Integer_getChars_ba4f3_28 : decode prog_27_method_12_code 28 = .ok (.iload_n 0, 1) := by decide +kernel
theorem d_Integer_getChars_ba4f3_29 : decode prog_27_method_12_code 29 = .ok (.bipush 100, 2) := by decide +kernel
theorem d_Integer_getChars_ba4f3_31 : decode prog_27_method_12_code 31 = .ok (.idiv, 1) := by decide +kernel
theorem d_Integer_getChars_ba4f3_32 : decode prog_27_method_12_code 32 = .ok (.istore_n 3, 1) := by decide +kernel
theorem d_Integer_getChars_ba4f3_33 : decode prog_27_method_12_code 33 = .ok (.iload_n 3, 1) := by decide +kernel
theorem d_Integer_getChars_ba4f3_34 : decode prog_27_method_12_code 34 = .ok (.bipush 100, 2) := by decide +kernel
theorem d_Integer_getChars_ba4f3_36 : decode prog_27_method_12_code 36 = .ok (.imul, 1) := by decide +kernel
theorem d_Integer_getChars_ba4f3_37 : decode prog_27_method_12_code 37 = .ok (.iload_n 0, 1) := by decide +kernel
theorem d_Integer_getChars_ba4f3_38 : decode prog_27_method_12_code 38 = .ok (.isub, 1) := by decide +kernel
theorem d_Integer_getChars_ba4f3_39 : decode prog_27_method_12_code 39 = .ok (.istore 4, 2) := by decide +kernel
theorem d_Integer_getChars_ba4f3_41 : decode prog_27_method_12_code 41 = .ok (.iload_n 3, 1) := by decide +kernel
theorem d_Integer_getChars_ba4f3_42 : decode prog_27_method_12_code 42 = .ok (.istore_n 0, 1) := by decide +kernel
theorem d_Integer_getChars_ba4f3_43 : decode prog_27_method_12_code 43 = .ok (.aload_n 2, 1) := by decide +kernel
theorem d_Integer_getChars_ba4f3_44 : decode prog_27_method_12_code 44 = .ok (.iinc 5 (-1), 3) := by decide +kernel
theorem d_Integer_getChars_ba4f3_47 : decode prog_27_method_12_code 47 = .ok (.iload 5, 2) := by decide +kernel
theorem d_Integer_getChars_ba4f3_49 : decode prog_27_method_12_code 49 = .ok (.getstatic 83, 3) := by decide +kernel
theorem d_Integer_getChars_ba4f3_52 : decode prog_27_method_12_code 52 = .ok (.iload 4, 2) := by decide +kernel
theorem d_Integer_getChars_ba4f3_54 : decode prog_27_method_12_code 54 = .ok (.baload, 1) := by decide +kernel
theorem d_Integer_getChars_ba4f3_55 : decode prog_27_method_12_code 55 = .ok (.bastore, 1) := by decide +kernel
theorem d_Integer_getChars_ba4f3_56 : decode prog_27_method_12_code 56 = .ok (.aload_n 2, 1) := by decide +kernel
theorem d_Integer_getChars_ba4f3_57 : decode prog_27_method_12_code 57 = .ok (.iinc 5 (-1), 3) := by decide +kernel
theorem d_Integer_getChars_ba4f3_60 : decode prog_27_method_12_code 60 = .ok (.iload 5, 2) := by decide +kernel
theorem d_Integer_getChars_ba4f3_62 : decode prog_27_method_12_code 62 = .ok (.getstatic 87, 3) := by decide +kernel
theorem d_Integer_getChars_ba4f3_65 : decode prog_27_method_12_code 65 = .ok (.iload 4, 2) := by decide +kernel
theorem d_Integer_getChars_ba4f3_67 : decode prog_27_method_12_code 67 = .ok (.baload, 1) := by decide +kernel
theorem d_Integer_getChars_ba4f3_68 : decode prog_27_method_12_code 68 = .ok (.bastore, 1) := by decide +kernel
theorem d_Integer_getChars_ba4f3_69 : decode prog_27_method_12_code 69 = .ok (.goto (-47), 3) := by decide +kernel
theorem d_Integer_getChars_ba4f3_72 : decode prog_27_method_12_code 72 = .ok (.aload_n 2, 1) := by decide +kernel
theorem d_Integer_getChars_ba4f3_73 : decode prog_27_method_12_code 73 = .ok (.iinc 5 (-1), 3) := by decide +kernel
theorem d_Integer_getChars_ba4f3_76 : decode prog_27_method_12_code 76 = .ok (.iload 5, 2) := by decide +kernel
theorem d_Integer_getChars_ba4f3_78 : decode prog_27_method_12_code 78 = .ok (.getstatic 83, 3) := by decide +kernel
theorem d_Integer_getChars_ba4f3_81 : decode prog_27_method_12_code 81 = .ok (.iload_n 0, 1) := by decide +kernel
theorem d_Integer_getChars_ba4f3_82 : decode prog_27_method_12_code 82 = .ok (.ineg, 1) := by decide +kernel
theorem d_Integer_getChars_ba4f3_83 : decode prog_27_method_12_code 83 = .ok (.baload, 1) := by decide +kernel
theorem d_Integer_getChars_ba4f3_84 : decode prog_27_method_12_code 84 = .ok (.bastore, 1) := by decide +kernel
theorem d_Integer_getChars_ba4f3_85 : decode prog_27_method_12_code 85 = .ok (.iload_n 0, 1) := by decide +kernel
theorem d_Integer_getChars_ba4f3_86 : decode prog_27_method_12_code 86 = .ok (.bipush (-9), 2) := by decide +kernel
theorem d_Integer_getChars_ba4f3_88 : decode prog_27_method_12_code 88 = .ok (.if_icmp .ge 16, 3) := by decide +kernel
theorem d_Integer_getChars_ba4f3_91 : decode prog_27_method_12_code 91 = .ok (.aload_n 2, 1) := by decide +kernel
theorem d_Integer_getChars_ba4f3_92 : decode prog_27_method_12_code 92 = .ok (.iinc 5 (-1), 3) := by decide +kernel
theorem d_Integer_getChars_ba4f3_95 : decode prog_27_method_12_code 95 = .ok (.iload 5, 2) := by decide +kernel
theorem d_Integer_getChars_ba4f3_97 : decode prog_27_method_12_code 97 = .ok (.getstatic 87, 3) := by decide +kernel
theorem d_Integer_getChars_ba4f3_100 : decode prog_27_method_12_code 100 = .ok (.iload_n 0, 1) := by decide +kernel
theorem d_Integer_getChars_ba4f3_101 : decode prog_27_method_12_code 101 = .ok (.ineg, 1) := by decide +kernel
theorem d_Integer_getChars_ba4f3_102 : decode prog_27_method_12_code 102 = .ok (.baload, 1) := by decide +kernel
theorem d_Integer_getChars_ba4f3_103 : decode prog_27_method_12_code 103 = .ok (.bastore, 1) := by decide +kernel
theorem d_Integer_getChars_ba4f3_104 : decode prog_27_method_12_code 104 = .ok (.iload 6, 2) := by decide +kernel
theorem d_Integer_getChars_ba4f3_106 : decode prog_27_method_12_code 106 = .ok (.ifCond .eq 12, 3) := by decide +kernel
theorem d_Integer_getChars_ba4f3_109 : decode prog_27_method_12_code 109 = .ok (.aload_n 2, 1) := by decide +kernel
theorem d_Integer_getChars_ba4f3_110 : decode prog_27_method_12_code 110 = .ok (.iinc 5 (-1), 3) := by decide +kernel
theorem d_Integer_getChars_ba4f3_113 : decode prog_27_method_12_code 113 = .ok (.iload 5, 2) := by decide +kernel
theorem d_Integer_getChars_ba4f3_115 : decode prog_27_method_12_code 115 = .ok (.bipush 45, 2) := by decide +kernel
theorem d_Integer_getChars_ba4f3_117 : decode prog_27_method_12_code 117 = .ok (.bastore, 1) := by decide +kernel
theorem d_Integer_getChars_ba4f3_118 : decode prog_27_method_12_code 118 = .ok (.iload 5, 2) := by decide +kernel
theorem d_Integer_getChars_ba4f3_120 : decode prog_27_method_12_code 120 = .ok (.ireturn, 1) := by decide +kernel
theorem d_StringBuilder_toString_0e30d_0 : decode prog_32_method_42_code 0 = .ok (.new 18, 3) := by decide +kernel
theorem d_StringBuilder_toString_0e30d_3 : decode prog_32_method_42_code 3 = .ok (.dup, 1) := by decide +kernel
theorem d_StringBuilder_toString_0e30d_4 : decode prog_32_method_42_code 4 = .ok (.aload_n 0, 1) := by decide +kernel
theorem d_StringBuilder_toString_0e30d_5 : decode prog_32_method_42_code 5 = .ok (.invokespecial 137, 3) := by decide +kernel
theorem d_StringBuilder_toString_0e30d_8 : decode prog_32_method_42_code 8 = .ok (.areturn, 1) := by decide +kernel
theorem lj_StringBuilder_137 : LI "java/lang/StringBuilder" 137 1 m_String_init_81219 := ⟨hd_String_init_81219, rfl, rfl, rfl, wg_1078, wg_1079, wg_13⟩
theorem d_String_init_81219_0 : decode prog_31_method_53_code 0 = .ok (.aload_n 0, 1) := by decide +kernel
theorem d_String_init_81219_1 : decode prog_31_method_53_code 1 = .ok (.aload_n 1, 1) := by decide +kernel
theorem d_String_init_81219_2 : decode prog_31_method_53_code 2 = .ok (.aconst_null, 1) := by decide +kernel
theorem d_String_init_81219_3 : decode prog_31_method_53_code 3 = .ok (.invokespecial 489, 3) := by decide +kernel
theorem d_String_init_81219_6 : decode prog_31_method_53_code 6 = .ok (.return_, 1) := by decide +kernel
theorem lj_String_489 : LI "java/lang/String" 489 2 m_String_init_db425 := ⟨hd_String_init_db425, rfl, rfl, rfl, wg_1081, wg_1082, wg_13⟩
theorem d_String_init_db425_0 : decode prog_31_method_150_code 0 = .ok (.aload_n 0, 1) := by decide +kernel
theorem d_String_init_db425_1 : decode prog_31_method_150_code 1 = .ok (.invokespecial 1, 3) := by decide +kernel
theorem d_String_init_db425_4 : decode prog_31_method_150_code 4 = .ok (.aload_n 1, 1) := by decide +kernel
theorem d_String_init_db425_5 : decode prog_31_method_150_code 5 = .ok (.invokevirtual 552, 3) := by decide +kernel
theorem d_String_init_db425_8 : decode prog_31_method_150_code 8 = .ok (.astore_n 3, 1) := by decide +kernel
theorem d_String_init_db425_9 : decode prog_31_method_150_code 9 = .ok (.aload_n 1, 1) := by decide +kernel
theorem d_String_init_db425_10 : decode prog_31_method_150_code 10 = .ok (.invokevirtual 549, 3) := by decide +kernel
theorem d_String_init_db425_13 : decode prog_31_method_150_code 13 = .ok (.istore 4, 2) := by decide +kernel
theorem d_String_init_db425_15 : decode prog_31_method_150_code 15 = .ok (.aload_n 1, 1) := by decide +kernel
theorem d_String_init_db425_16 : decode prog_31_method_150_code 16 = .ok (.invokevirtual 1047, 3) := by decide +kernel
theorem d_String_init_db425_19 : decode prog_31_method_150_code 19 = .ok (.ifCond .eq 22, 3) := by decide +kernel
theorem d_String_init_db425_22 : decode prog_31_method_150_code 22 = .ok (.aload_n 0, 1) := by decide +kernel
theorem d_String_init_db425_23 : decode prog_31_method_150_code 23 = .ok (.iconst 0, 1) := by decide +kernel
theorem d_String_init_db425_24 : decode prog_31_method_150_code 24 = .ok (.putfield 15, 3) := by decide +kernel
theorem d_String_init_db425_27 : decode prog_31_method_150_code 27 = .ok (.aload_n 0, 1) := by decide +kernel
theorem d_String_init_db425_28 : decode prog_31_method_150_code 28 = .ok (.aload_n 3, 1) := by decide +kernel
theorem d_String_init_db425_29 : decode prog_31_method_150_code 29 = .ok (.iconst 0, 1) := by decide +kernel
theorem d_String_init_db425_30 : decode prog_31_method_150_code 30 = .ok (.iload 4, 2) := by decide +kernel
theorem d_String_init_db425_32 : decode prog_31_method_150_code 32 = .ok (.invokestatic 54, 3) := by decide +kernel
theorem d_String_init_db425_35 : decode prog_31_method_150_code 35 = .ok (.putfield 9, 3) := by decide +kernel
theorem d_String_init_db425_38 : decode prog_31_method_150_code 38 = .ok (.goto 59, 3) := by decide +kernel
theorem d_String_init_db425_41 : decode prog_31_method_150_code 41 = .ok (.getstatic 38, 3) := by decide +kernel
theorem d_String_init_db425_44 : decode prog_31_method_150_code 44 = .ok (.ifCond .eq 35, 3) := by decide +kernel
theorem d_String_init_db425_47 : decode prog_31_method_150_code 47 = .ok (.aload_n 1, 1) := by decide +kernel
theorem d_String_init_db425_48 : decode prog_31_method_150_code 48 = .ok (.getfield 1048, 3) := by decide +kernel
theorem d_String_init_db425_51 : decode prog_31_method_150_code 51 = .ok (.ifCond .eq 28, 3) := by decide +kernel
theorem d_String_init_db425_54 : decode prog_31_method_150_code 54 = .ok (.aload_n 0, 1) := by decide +kernel
theorem d_String_init_db425_55 : decode prog_31_method_150_code 55 = .ok (.aload_n 3, 1) := by decide +kernel
theorem d_String_init_db425_56 : decode prog_31_method_150_code 56 = .ok (.iconst 0, 1) := by decide +kernel
theorem d_String_init_db425_57 : decode prog_31_method_150_code 57 = .ok (.iload 4, 2) := by decide +kernel
theorem d_String_init_db425_59 : decode prog_31_method_150_code 59 = .ok (.invokestatic 1051, 3) := by decide +kernel
theorem d_String_init_db425_62 : decode prog_31_method_150_code 62 = .ok (.putfield 9, 3) := by decide +kernel
theorem d_String_init_db425_65 : decode prog_31_method_150_code 65 = .ok (.aload_n 0, 1) := by decide +kernel
theorem d_String_init_db425_66 : decode prog_31_method_150_code 66 = .ok (.aload_n 0, 1) := by decide +kernel
theorem d_String_init_db425_67 : decode prog_31_method_150_code 67 = .ok (.getfield 9, 3) := by decide +kernel
theorem d_String_init_db425_70 : decode prog_31_method_150_code 70 = .ok (.iload 4, 2) := by decide +kernel
theorem d_String_init_db425_72 : decode prog_31_method_150_code 72 = .ok (.invokestatic 47, 3) := by decide +kernel
theorem d_String_init_db425_75 : decode prog_31_method_150_code 75 = .ok (.putfield 15, 3) := by decide +kernel
theorem d_String_init_db425_78 : decode prog_31_method_150_code 78 = .ok (.return_, 1) := by decide +kernel
theorem d_String_init_db425_79 : decode prog_31_method_150_code 79 = .ok (.aload_n 0, 1) := by decide +kernel
theorem d_String_init_db425_80 : decode prog_31_method_150_code 80 = .ok (.iconst 1, 1) := by decide +kernel
theorem d_String_init_db425_81 : decode prog_31_method_150_code 81 = .ok (.putfield 15, 3) := by decide +kernel
theorem d_String_init_db425_84 : decode prog_31_method_150_code 84 = .ok (.aload_n 0, 1) := by decide +kernel
theorem d_String_init_db425_85 : decode prog_31_method_150_code 85 = .ok (.aload_n 3, 1) := by decide +kernel
theorem d_String_init_db425_86 : decode prog_31_method_150_code 86 = .ok (.iconst 0, 1) := by decide +kernel
theorem d_String_init_db425_87 : decode prog_31_method_150_code 87 = .ok (.iload 4, 2) := by decide +kernel
theorem d_String_init_db425_89 : decode prog_31_method_150_code 89 = .ok (.iconst 1, 1) := by decide +kernel
theorem d_String_init_db425_90 : decode prog_31_method_150_code 90 = .ok (.ishl, 1) := by decide +kernel
theorem d_String_init_db425_91 : decode prog_31_method_150_code 91 = .ok (.invokestatic 54, 3) := by decide +kernel
theorem d_String_init_db425_94 : decode prog_31_method_150_code 94 = .ok (.putfield 9, 3) := by decide +kernel
theorem d_String_init_db425_97 : decode prog_31_method_150_code 97 = .ok (.return_, 1) := by decide +kernel
theorem fj_String_15_0 : FL "java/lang/String" 15 0 1 true (tyJ0 1) := ⟨_, _, _, _, "java/lang/String", coC_0, by decide, wg_1119, Or.inl rfl, rfl, (fun _ => rfl), rfl⟩
theorem fj_String_15_14 : FL "java/lang/String" 15 14 1 true (tyJ0 1) := ⟨_, _, _, _, "java/lang/String", coC_14, by decide, wg_1119, Or.inl rfl, rfl, (fun _ => rfl), rfl⟩
theorem fj_String_9_0 : FL "java/lang/String" 9 0 0 true (tyJ0 0) := ⟨_, _, _, _, "java/lang/String", coC_0, by decide, wg_1118, Or.inl rfl, rfl, (fun _ => rfl), rfl⟩
theorem fj_String_9_14 : FL "java/lang/String" 9 14 0 true (tyJ0 0) := ⟨_, _, _, _, "java/lang/String", coC_14, by decide, wg_1118, Or.inl rfl, rfl, (fun _ => rfl), rfl⟩
theorem gj_String_1048_1 : FLg "java/lang/String" 1048 1 2 := ⟨_, _, _, _, "java/lang/AbstractStringBuilder", coC_1, by decide, wg_940, Or.inl rfl⟩
theorem oj_String_1 : Cond.methodLink "java/lang/String" 1 objectInit ∈ lw_good := wg_1084
theorem lj_String_552_1 : LU "java/lang/String" 552 1 0 m_AbstractStringBuilder_getValue_6d5f1 := ⟨hd_AbstractStringBuilder_getValue_6d5f1, rfl, _, ⟨"java/lang/AbstractStringBuilder", "getValue", "()[B"⟩, rfl, rfl, wg_1085, wg_1087, wg_1088, wg_1086, wg_19, by decide +kernel⟩
theorem lo_String_549_1 : LO "java/lang/String" 549 1 0 m_StringBuilder_length_8abf5 := ⟨hd_StringBuilder_length_8abf5, rfl, _, ⟨"java/lang/AbstractStringBuilder", "length", "()I"⟩, "java/lang/AbstractStringBuilder", _, _, _, rfl, wg_1090, wg_1092, wg_1091, wg_1093, wg_1094, wg_20, wg_1097, by decide +kernel, by decide +kernel, by decide +kernel⟩
theorem lj_String_1047_1 : LU "java/lang/String" 1047 1 0 m_AbstractStringBuilder_isLatin1_aae02 := ⟨hd_AbstractStringBuilder_isLatin1_aae02, rfl, _, ⟨"java/lang/AbstractStringBuilder", "isLatin1", "()Z"⟩, rfl, rfl, wg_1098, wg_1006, wg_1007, wg_1005, wg_19, by decide +kernel⟩
theorem lj_String_54 : m_Arrays_copyOfRange_39247.2.2.2.2 = [] ∧ LST "java/lang/String" 54 3 m_Arrays_copyOfRange_39247 := ⟨rfl, hd_Arrays_copyOfRange_39247, wg_1099, wg_1100, wg_22⟩
theorem d_AbstractStringBuilder_getValue_6d5f1_0 : decode prog_17_method_64_code 0 = .ok (.aload_n 0, 1) := by decide +kernel
theorem d_AbstractStringBuilder_getValue_6d5f1_1 : decode prog_17_method_64_code 1 = .ok (.getfield 15, 3) := by decide +kernel
theorem d_AbstractStringBuilder_getValue_6d5f1_4 : decode prog_17_method_64_code 4 = .ok (.areturn, 1) := by decide +kernel
theorem d_AbstractStringBuilder_length_8abf5_0 : decode prog_17_method_6_code 0 = .ok (.aload_n 0, 1) := by decide +kernel
theorem d_AbstractStringBuilder_length_8abf5_1 : decode prog_17_method_6_code 1 = .ok (.getfield 79, 3) := by decide +kernel
theorem d_AbstractStringBuilder_length_8abf5_4 : decode prog_17_method_6_code 4 = .ok (.ireturn, 1) := by decide +kernel
theorem d_StringBuilder_length_8abf5_0 : decode prog_32_method_93_code 0 = .ok (.aload_n 0, 1) := by decide +kernel
theorem d_StringBuilder_length_8abf5_1 : decode prog_32_method_93_code 1 = .ok (.invokespecial 343, 3) := by decide +kernel
theorem d_StringBuilder_length_8abf5_4 : decode prog_32_method_93_code 4 = .ok (.ireturn, 1) := by decide +kernel
theorem lj_StringBuilder_343 : LSU "java/lang/StringBuilder" 343 0 m_AbstractStringBuilder_length_8abf5 := ⟨hd_AbstractStringBuilder_length_8abf5, rfl, by decide, wg_1096, wg_1092, wg_950, wg_1091, wg_19⟩
theorem d_Arrays_copyOfRange_39247_0 : decode prog_39_method_132_code 0 = .ok (.iload_n 1, 1) := by decide +kernel
theorem d_Arrays_copyOfRange_39247_1 : decode prog_39_method_132_code 1 = .ok (.ifCond .ne 9, 3) := by decide +kernel
theorem d_Arrays_copyOfRange_39247_4 : decode prog_39_method_132_code 4 = .ok (.iload_n 2, 1) := by decide +kernel
theorem d_Arrays_copyOfRange_39247_5 : decode prog_39_method_132_code 5 = .ok (.aload_n 0, 1) := by decide +kernel
theorem d_Arrays_copyOfRange_39247_6 : decode prog_39_method_132_code 6 = .ok (.arraylength, 1) := by decide +kernel
theorem d_Arrays_copyOfRange_39247_7 : decode prog_39_method_132_code 7 = .ok (.if_icmp .eq 10, 3) := by decide +kernel
theorem d_Arrays_copyOfRange_39247_10 : decode prog_39_method_132_code 10 = .ok (.aload_n 0, 1) := by decide +kernel
theorem d_Arrays_copyOfRange_39247_11 : decode prog_39_method_132_code 11 = .ok (.iload_n 1, 1) := by decide +kernel
theorem d_Arrays_copyOfRange_39247_12 : decode prog_39_method_132_code 12 = .ok (.iload_n 2, 1) := by decide +kernel
theorem d_Arrays_copyOfRange_39247_13 : decode prog_39_method_132_code 13 = .ok (.invokestatic 339, 3) := by decide +kernel
theorem d_Arrays_copyOfRange_39247_16 : decode prog_39_method_132_code 16 = .ok (.areturn, 1) := by decide +kernel
theorem d_Arrays_copyOfRange_39247_17 : decode prog_39_method_132_code 17 = .ok (.aload_n 0, 1) := by decide +kernel
theorem d_Arrays_copyOfRange_39247_18 : decode prog_39_method_132_code 18 = .ok (.invokevirtual 310, 3) := by decide +kernel
theorem d_Arrays_copyOfRange_39247_21 : decode prog_39_method_132_code 21 = .ok (.checkcast 311, 3) := by decide +kernel
theorem d_Arrays_copyOfRange_39247_24 : decode prog_39_method_132_code 24 = .ok (.areturn, 1) := by decide +kernel
theorem lj_Arrays_339 : m_Arrays_copyOfRangeByte_39247.2.2.2.2 = [] ∧ LST "java/util/Arrays" 339 3 m_Arrays_copyOfRangeByte_39247 := ⟨rfl, hd_Arrays_copyOfRangeByte_39247, wg_1102, wg_1103, wg_22⟩
theorem d_Arrays_copyOfRangeByte_39247_0 : decode prog_39_method_133_code 0 = .ok (.iload_n 1, 1) := by decide +kernel
theorem d_Arrays_copyOfRangeByte_39247_1 : decode prog_39_method_133_code 1 = .ok (.iload_n 2, 1) := by decide +kernel
theorem d_Arrays_copyOfRangeByte_39247_2 : decode prog_39_method_133_code 2 = .ok (.invokestatic 343, 3) := by decide +kernel
theorem d_Arrays_copyOfRangeByte_39247_5 : decode prog_39_method_133_code 5 = .ok (.iload_n 2, 1) := by decide +kernel
theorem d_Arrays_copyOfRangeByte_39247_6 : decode prog_39_method_133_code 6 = .ok (.iload_n 1, 1) := by decide +kernel
theorem d_Arrays_copyOfRangeByte_39247_7 : decode prog_39_method_133_code 7 = .ok (.isub, 1) := by decide +kernel
theorem d_Arrays_copyOfRangeByte_39247_8 : decode prog_39_method_133_code 8 = .ok (.istore_n 3, 1) := by decide +kernel
theorem d_Arrays_copyOfRangeByte_39247_9 : decode prog_39_method_133_code 9 = .ok (.iload_n 3, 1) := by decide +kernel
theorem d_Arrays_copyOfRangeByte_39247_10 : decode prog_39_method_133_code 10 = .ok (.newarray .byte, 2) := by decide +kernel
theorem d_Arrays_copyOfRangeByte_39247_12 : decode prog_39_method_133_code 12 = .ok (.astore 4, 2) := by decide +kernel
theorem d_Arrays_copyOfRangeByte_39247_14 : decode prog_39_method_133_code 14 = .ok (.aload_n 0, 1) := by decide +kernel
theorem d_Arrays_copyOfRangeByte_39247_15 : decode prog_39_method_133_code 15 = .ok (.iload_n 1, 1) := by decide +kernel
theorem d_Arrays_copyOfRangeByte_39247_16 : decode prog_39_method_133_code 16 = .ok (.aload 4, 2) := by decide +kernel
theorem d_Arrays_copyOfRangeByte_39247_18 : decode prog_39_method_133_code 18 = .ok (.iconst 0, 1) := by decide +kernel
theorem d_Arrays_copyOfRangeByte_39247_19 : decode prog_39_method_133_code 19 = .ok (.aload_n 0, 1) := by decide +kernel
theorem d_Arrays_copyOfRangeByte_39247_20 : decode prog_39_method_133_code 20 = .ok (.arraylength, 1) := by decide +kernel
theorem d_Arrays_copyOfRangeByte_39247_21 : decode prog_39_method_133_code 21 = .ok (.iload_n 1, 1) := by decide +kernel
theorem d_Arrays_copyOfRangeByte_39247_22 : decode prog_39_method_133_code 22 = .ok (.isub, 1) := by decide +kernel
theorem d_Arrays_copyOfRangeByte_39247_23 : decode prog_39_method_133_code 23 = .ok (.iload_n 3, 1) := by decide +kernel
theorem d_Arrays_copyOfRangeByte_39247_24 : decode prog_39_method_133_code 24 = .ok (.invokestatic 304, 3) := by decide +kernel
theorem d_Arrays_copyOfRangeByte_39247_27 : decode prog_39_method_133_code 27 = .ok (.invokestatic 150, 3) := by decide +kernel
theorem d_Arrays_copyOfRangeByte_39247_30 : decode prog_39_method_133_code 30 = .ok (.aload 4, 2) := by decide +kernel
theorem d_Arrays_copyOfRangeByte_39247_32 : decode prog_39_method_133_code 32 = .ok (.areturn, 1) := by decide +kernel
theorem lj_Arrays_343 : m_Arrays_checkLength_df160.2.2.2.2 = [] ∧ LST "java/util/Arrays" 343 2 m_Arrays_checkLength_df160 := ⟨rfl, hd_Arrays_checkLength_df160, wg_1105, wg_1106, wg_22⟩
theorem d_Arrays_checkLength_df160_0 : decode prog_39_method_131_code 0 = .ok (.iload_n 1, 1) := by decide +kernel
theorem d_Arrays_checkLength_df160_1 : decode prog_39_method_131_code 1 = .ok (.iload_n 0, 1) := by decide +kernel
theorem d_Arrays_checkLength_df160_2 : decode prog_39_method_131_code 2 = .ok (.if_icmp .ge 35, 3) := by decide +kernel
theorem d_Arrays_checkLength_df160_5 : decode prog_39_method_131_code 5 = .ok (.new 43, 3) := by decide +kernel
theorem d_Arrays_checkLength_df160_8 : decode prog_39_method_131_code 8 = .ok (.dup, 1) := by decide +kernel
theorem d_Arrays_checkLength_df160_9 : decode prog_39_method_131_code 9 = .ok (.new 45, 3) := by decide +kernel
theorem d_Arrays_checkLength_df160_12 : decode prog_39_method_131_code 12 = .ok (.dup, 1) := by decide +kernel
theorem d_Arrays_checkLength_df160_13 : decode prog_39_method_131_code 13 = .ok (.invokespecial 47, 3) := by decide +kernel
theorem d_Arrays_checkLength_df160_16 : decode prog_39_method_131_code 16 = .ok (.iload_n 0, 1) := by decide +kernel
theorem d_Arrays_checkLength_df160_17 : decode prog_39_method_131_code 17 = .ok (.invokevirtual 54, 3) := by decide +kernel
theorem d_Arrays_checkLength_df160_20 : decode prog_39_method_131_code 20 = .ok (.ldc_w 337, 3) := by decide +kernel
theorem d_Arrays_checkLength_df160_23 : decode prog_39_method_131_code 23 = .ok (.invokevirtual 50, 3) := by decide +kernel
theorem d_Arrays_checkLength_df160_26 : decode prog_39_method_131_code 26 = .ok (.iload_n 1, 1) := by decide +kernel
theorem d_Arrays_checkLength_df160_27 : decode prog_39_method_131_code 27 = .ok (.invokevirtual 54, 3) := by decide +kernel
theorem d_Arrays_checkLength_df160_30 : decode prog_39_method_131_code 30 = .ok (.invokevirtual 61, 3) := by decide +kernel
theorem d_Arrays_checkLength_df160_33 : decode prog_39_method_131_code 33 = .ok (.invokespecial 65, 3) := by decide +kernel
theorem d_Arrays_checkLength_df160_36 : decode prog_39_method_131_code 36 = .ok (.athrow, 1) := by decide +kernel
theorem d_Arrays_checkLength_df160_37 : decode prog_39_method_131_code 37 = .ok (.return_, 1) := by decide +kernel
theorem d_StringBuilder_append_15ec4_0 : decode prog_32_method_7_code 0 = .ok (.aload_n 0, 1) := by decide +kernel
theorem d_StringBuilder_append_15ec4_1 : decode prog_32_method_7_code 1 = .ok (.aload_n 1, 1) := by decide +kernel
theorem d_StringBuilder_append_15ec4_2 : decode prog_32_method_7_code 2 = .ok (.invokespecial 29, 3) := by decide +kernel
theorem d_StringBuilder_append_15ec4_5 : decode prog_32_method_7_code 5 = .ok (.pop, 1) := by decide +kernel
theorem d_StringBuilder_append_15ec4_6 : decode prog_32_method_7_code 6 = .ok (.aload_n 0, 1) := by decide +kernel
theorem d_StringBuilder_append_15ec4_7 : decode prog_32_method_7_code 7 = .ok (.areturn, 1) := by decide +kernel
theorem lj_StringBuilder_29 : LSU "java/lang/StringBuilder" 29 1 m_AbstractStringBuilder_append_cf1ce := ⟨hd_AbstractStringBuilder_append_cf1ce, rfl, by decide, wg_966, wg_1714, wg_950, wg_967, wg_19⟩
theorem d_AbstractStringBuilder_append_cf1ce_0 : decode prog_17_method_22_code 0 = .ok (.aload_n 1, 1) := by decide +kernel
theorem d_AbstractStringBuilder_append_cf1ce_1 : decode prog_17_method_22_code 1 = .ok (.ifnonnull 8, 3) := by decide +kernel
theorem d_AbstractStringBuilder_append_cf1ce_4 : decode prog_17_method_22_code 4 = .ok (.aload_n 0, 1) := by decide +kernel
theorem d_AbstractStringBuilder_append_cf1ce_5 : decode prog_17_method_22_code 5 = .ok (.invokevirtual 204, 3) := by decide +kernel
theorem d_AbstractStringBuilder_append_cf1ce_8 : decode prog_17_method_22_code 8 = .ok (.areturn, 1) := by decide +kernel
theorem d_AbstractStringBuilder_append_cf1ce_9 : decode prog_17_method_22_code 9 = .ok (.aload_n 1, 1) := by decide +kernel
theorem d_AbstractStringBuilder_append_cf1ce_10 : decode prog_17_method_22_code 10 = .ok (.invokevirtual 32, 3) := by decide +kernel
theorem d_AbstractStringBuilder_append_cf1ce_13 : decode prog_17_method_22_code 13 = .ok (.istore_n 2, 1) := by decide +kernel
theorem d_AbstractStringBuilder_append_cf1ce_14 : decode prog_17_method_22_code 14 = .ok (.aload_n 0, 1) := by decide +kernel
theorem d_AbstractStringBuilder_append_cf1ce_15 : decode prog_17_method_22_code 15 = .ok (.aload_n 0, 1) := by decide +kernel
theorem d_AbstractStringBuilder_append_cf1ce_16 : decode prog_17_method_22_code 16 = .ok (.getfield 79, 3) := by decide +kernel
theorem d_AbstractStringBuilder_append_cf1ce_19 : decode prog_17_method_22_code 19 = .ok (.iload_n 2, 1) := by decide +kernel
theorem d_AbstractStringBuilder_append_cf1ce_20 : decode prog_17_method_22_code 20 = .ok (.iadd, 1) := by decide +kernel
theorem d_AbstractStringBuilder_append_cf1ce_21 : decode prog_17_method_22_code 21 = .ok (.invokevirtual 100, 3) := by decide +kernel
theorem d_AbstractStringBuilder_append_cf1ce_24 : decode prog_17_method_22_code 24 = .ok (.aload_n 0, 1) := by decide +kernel
theorem d_AbstractStringBuilder_append_cf1ce_25 : decode prog_17_method_22_code 25 = .ok (.aload_n 0, 1) := by decide +kernel
theorem d_AbstractStringBuilder_append_cf1ce_26 : decode prog_17_method_22_code 26 = .ok (.getfield 79, 3) := by decide +kernel
theorem d_AbstractStringBuilder_append_cf1ce_29 : decode prog_17_method_22_code 29 = .ok (.aload_n 1, 1) := by decide +kernel
theorem d_AbstractStringBuilder_append_cf1ce_30 : decode prog_17_method_22_code 30 = .ok (.invokevirtual 208, 3) := by decide +kernel
theorem d_AbstractStringBuilder_append_cf1ce_33 : decode prog_17_method_22_code 33 = .ok (.aload_n 0, 1) := by decide +kernel
theorem d_AbstractStringBuilder_append_cf1ce_34 : decode prog_17_method_22_code 34 = .ok (.dup, 1) := by decide +kernel
theorem d_AbstractStringBuilder_append_cf1ce_35 : decode prog_17_method_22_code 35 = .ok (.getfield 79, 3) := by decide +kernel
theorem d_AbstractStringBuilder_append_cf1ce_38 : decode prog_17_method_22_code 38 = .ok (.iload_n 2, 1) := by decide +kernel
theorem d_AbstractStringBuilder_append_cf1ce_39 : decode prog_17_method_22_code 39 = .ok (.iadd, 1) := by decide +kernel
theorem d_AbstractStringBuilder_append_cf1ce_40 : decode prog_17_method_22_code 40 = .ok (.putfield 79, 3) := by decide +kernel
theorem d_AbstractStringBuilder_append_cf1ce_43 : decode prog_17_method_22_code 43 = .ok (.aload_n 0, 1) := by decide +kernel
theorem d_AbstractStringBuilder_append_cf1ce_44 : decode prog_17_method_22_code 44 = .ok (.areturn, 1) := by decide +kernel
abbrev m_AbstractStringBuilder_appendNull_278bc : MI := (⟨"java/lang/AbstractStringBuilder", "appendNull", "()Ljava/lang/AbstractStringBuilder;"⟩, prog_17_method_26_code, 3, (Option.some (Jvm.ClassFile.FieldType.object "java/lang/AbstractStringBuilder")), [])
theorem hd_AbstractStringBuilder_appendNull_278bc : hd0 m_AbstractStringBuilder_appendNull_278bc 0 := hd0_of (by decide +kernel) (by decide +kernel) (by decide +kernel) rfl rfl wg_972
theorem lj_AbstractStringBuilder_32_0 : LV "java/lang/AbstractStringBuilder" 32 0 0 m_String_length_8abf5 := ⟨hd_String_length_8abf5, rfl, ⟨_, rfl, rfl⟩, wg_1024, wg_398, wg_399, wg_13⟩
theorem lj_AbstractStringBuilder_32_14 : LV "java/lang/AbstractStringBuilder" 32 14 0 m_String_length_8abf5 := ⟨hd_String_length_8abf5, rfl, ⟨_, rfl, rfl⟩, wg_1024, wg_398, wg_399, wg_13⟩
theorem lj_AbstractStringBuilder_208_1 : LU "java/lang/AbstractStringBuilder" 208 1 2 m_AbstractStringBuilder_putStringAt_47b60 := ⟨hd_AbstractStringBuilder_putStringAt_47b60, rfl, _, ⟨"java/lang/AbstractStringBuilder", "putStringAt", "(ILjava/lang/String;)V"⟩, rfl, rfl, wg_1025, wg_1718, wx_4, wg_1027, wg_19, by decide +kernel⟩
theorem d_AbstractStringBuilder_putStringAt_47b60_0 : decode prog_17_method_73_code 0 = .ok (.aload_n 0, 1) := by decide +kernel
theorem d_AbstractStringBuilder_putStringAt_47b60_1 : decode prog_17_method_73_code 1 = .ok (.aload_n 2, 1) := by decide +kernel
theorem d_AbstractStringBuilder_putStringAt_47b60_2 : decode prog_17_method_73_code 2 = .ok (.invokevirtual 397, 3) := by decide +kernel
theorem d_AbstractStringBuilder_putStringAt_47b60_5 : decode prog_17_method_73_code 5 = .ok (.aload_n 2, 1) := by decide +kernel
theorem d_AbstractStringBuilder_putStringAt_47b60_6 : decode prog_17_method_73_code 6 = .ok (.aload_n 0, 1) := by decide +kernel
theorem d_AbstractStringBuilder_putStringAt_47b60_7 : decode prog_17_method_73_code 7 = .ok (.getfield 15, 3) := by decide +kernel
theorem d_AbstractStringBuilder_putStringAt_47b60_10 : decode prog_17_method_73_code 10 = .ok (.iload_n 1, 1) := by decide +kernel
theorem d_AbstractStringBuilder_putStringAt_47b60_11 : decode prog_17_method_73_code 11 = .ok (.aload_n 0, 1) := by decide +kernel
theorem d_AbstractStringBuilder_putStringAt_47b60_12 : decode prog_17_method_73_code 12 = .ok (.getfield 22, 3) := by decide +kernel
theorem d_AbstractStringBuilder_putStringAt_47b60_15 : decode prog_17_method_73_code 15 = .ok (.invokevirtual 399, 3) := by decide +kernel
theorem d_AbstractStringBuilder_putStringAt_47b60_18 : decode prog_17_method_73_code 18 = .ok (.return_, 1) := by decide +kernel
theorem lj_AbstractStringBuilder_397_1 : LU "java/lang/AbstractStringBuilder" 397 1 1 m_AbstractStringBuilder_inflateIfNeededFor_a7421 := ⟨hd_AbstractStringBuilder_inflateIfNeededFor_a7421, rfl, _, ⟨"java/lang/AbstractStringBuilder", "inflateIfNeededFor", "(Ljava/lang/String;)V"⟩, rfl, rfl, wg_1029, wg_1719, wx_5, wg_1031, wg_19, by decide +kernel⟩
theorem lj_AbstractStringBuilder_399_0 : LV "java/lang/AbstractStringBuilder" 399 0 3 m_String_getBytes_840e7 := ⟨hd_String_getBytes_840e7, rfl, ⟨_, rfl, rfl⟩, wg_1053, wg_1054, wg_1055, wg_13⟩
theorem lj_AbstractStringBuilder_399_14 : LV "java/lang/AbstractStringBuilder" 399 14 3 m_String_getBytes_840e7 := ⟨hd_String_getBytes_840e7, rfl, ⟨_, rfl, rfl⟩, wg_1053, wg_1054, wg_1055, wg_13⟩
theorem d_AbstractStringBuilder_inflateIfNeededFor_a7421_0 : decode prog_17_method_71_code 0 = .ok (.getstatic 18, 3) := by decide +kernel
theorem d_AbstractStringBuilder_inflateIfNeededFor_a7421_3 : decode prog_17_method_71_code 3 = .ok (.ifCond .eq 18, 3) := by decide +kernel
theorem d_AbstractStringBuilder_inflateIfNeededFor_a7421_6 : decode prog_17_method_71_code 6 = .ok (.aload_n 0, 1) := by decide +kernel
theorem d_AbstractStringBuilder_inflateIfNeededFor_a7421_7 : decode prog_17_method_71_code 7 = .ok (.getfield 22, 3) := by decide +kernel
theorem d_AbstractStringBuilder_inflateIfNeededFor_a7421_10 : decode prog_17_method_71_code 10 = .ok (.aload_n 1, 1) := by decide +kernel
theorem d_AbstractStringBuilder_inflateIfNeededFor_a7421_11 : decode prog_17_method_71_code 11 = .ok (.invokevirtual 40, 3) := by decide +kernel
theorem d_AbstractStringBuilder_inflateIfNeededFor_a7421_14 : decode prog_17_method_71_code 14 = .ok (.if_icmp .eq 7, 3) := by decide +kernel
theorem d_AbstractStringBuilder_inflateIfNeededFor_a7421_17 : decode prog_17_method_71_code 17 = .ok (.aload_n 0, 1) := by decide +kernel
theorem d_AbstractStringBuilder_inflateIfNeededFor_a7421_18 : decode prog_17_method_71_code 18 = .ok (.invokevirtual 195, 3) := by decide +kernel
theorem d_AbstractStringBuilder_inflateIfNeededFor_a7421_21 : decode prog_17_method_71_code 21 = .ok (.return_, 1) := by decide +kernel
theorem lj_AbstractStringBuilder_40_0 : LV "java/lang/AbstractStringBuilder" 40 0 0 m_String_coder_7d493 := ⟨hd_String_coder_7d493, rfl, ⟨_, rfl, rfl⟩, wg_1033, wg_402, wg_403, wg_13⟩
theorem lj_AbstractStringBuilder_40_14 : LV "java/lang/AbstractStringBuilder" 40 14 0 m_String_coder_7d493 := ⟨hd_String_coder_7d493, rfl, ⟨_, rfl, rfl⟩, wg_1033, wg_402, wg_403, wg_13⟩
theorem d_String_getBytes_840e7_0 : decode prog_31_method_147_code 0 = .ok (.aload_n 0, 1) := by decide +kernel
theorem d_String_getBytes_840e7_1 : decode prog_31_method_147_code 1 = .ok (.invokevirtual 335, 3) := by decide +kernel
theorem d_String_getBytes_840e7_4 : decode prog_31_method_147_code 4 = .ok (.iload_n 3, 1) := by decide +kernel
theorem d_String_getBytes_840e7_5 : decode prog_31_method_147_code 5 = .ok (.if_icmp .ne 23, 3) := by decide +kernel
theorem d_String_getBytes_840e7_8 : decode prog_31_method_147_code 8 = .ok (.aload_n 0, 1) := by decide +kernel
theorem d_String_getBytes_840e7_9 : decode prog_31_method_147_code 9 = .ok (.getfield 9, 3) := by decide +kernel
theorem d_String_getBytes_840e7_12 : decode prog_31_method_147_code 12 = .ok (.iconst 0, 1) := by decide +kernel
theorem d_String_getBytes_840e7_13 : decode prog_31_method_147_code 13 = .ok (.aload_n 1, 1) := by decide +kernel
theorem d_String_getBytes_840e7_14 : decode prog_31_method_147_code 14 = .ok (.iload_n 2, 1) := by decide +kernel
theorem d_String_getBytes_840e7_15 : decode prog_31_method_147_code 15 = .ok (.iload_n 3, 1) := by decide +kernel
theorem d_String_getBytes_840e7_16 : decode prog_31_method_147_code 16 = .ok (.ishl, 1) := by decide +kernel
theorem d_String_getBytes_840e7_17 : decode prog_31_method_147_code 17 = .ok (.aload_n 0, 1) := by decide +kernel
theorem d_String_getBytes_840e7_18 : decode prog_31_method_147_code 18 = .ok (.getfield 9, 3) := by decide +kernel
theorem d_String_getBytes_840e7_21 : decode prog_31_method_147_code 21 = .ok (.arraylength, 1) := by decide +kernel
theorem d_String_getBytes_840e7_22 : decode prog_31_method_147_code 22 = .ok (.invokestatic 212, 3) := by decide +kernel
theorem d_String_getBytes_840e7_25 : decode prog_31_method_147_code 25 = .ok (.goto 18, 3) := by decide +kernel
theorem d_String_getBytes_840e7_28 : decode prog_31_method_147_code 28 = .ok (.aload_n 0, 1) := by decide +kernel
theorem d_String_getBytes_840e7_29 : decode prog_31_method_147_code 29 = .ok (.getfield 9, 3) := by decide +kernel
theorem d_String_getBytes_840e7_32 : decode prog_31_method_147_code 32 = .ok (.iconst 0, 1) := by decide +kernel
theorem d_String_getBytes_840e7_33 : decode prog_31_method_147_code 33 = .ok (.aload_n 1, 1) := by decide +kernel
theorem d_String_getBytes_840e7_34 : decode prog_31_method_147_code 34 = .ok (.iload_n 2, 1) := by decide +kernel
theorem d_String_getBytes_840e7_35 : decode prog_31_method_147_code 35 = .ok (.aload_n 0, 1) := by decide +kernel
theorem d_String_getBytes_840e7_36 : decode prog_31_method_147_code 36 = .ok (.getfield 9, 3) := by decide +kernel
theorem d_String_getBytes_840e7_39 : decode prog_31_method_147_code 39 = .ok (.arraylength, 1) := by decide +kernel
theorem d_String_getBytes_840e7_40 : decode prog_31_method_147_code 40 = .ok (.invokestatic 106, 3) := by decide +kernel
theorem d_String_getBytes_840e7_43 : decode prog_31_method_147_code 43 = .ok (.return_, 1) := by decide +kernel
theorem lj_String_212 : Cond.methodLink "java/lang/String" 212 arraycopyName ∈ lw_good ∧ Cond.native arraycopyName ∈ lw_good ∧ Cond.static arraycopyName ∈ lw_good ∧ Cond.initialized "java/lang/System" ∈ lw_good := ⟨wg_1057, wg_751, wg_750, wg_23⟩
abbrev m_StringLatin1_inflate_0e8fd : MI := (⟨"java/lang/StringLatin1", "inflate", "([BI[BII)V"⟩, prog_33_method_50_code, 5, (Option.none : Option Jvm.ClassFile.FieldType), [])
theorem hd_StringLatin1_inflate_0e8fd : hd0 m_StringLatin1_inflate_0e8fd 5 := hd0_of (by decide +kernel) (by decide +kernel) (by decide +kernel) rfl rfl wg_1040
theorem lj_String_106 : m_StringLatin1_inflate_0e8fd.2.2.2.2 = [] ∧ LST "java/lang/String" 106 5 m_StringLatin1_inflate_0e8fd := ⟨rfl, hd_StringLatin1_inflate_0e8fd, wg_1058, wg_1039, wg_14⟩
theorem d_StringBuilder_init_a7421_0 : decode prog_32_method_3_code 0 = .ok (.aload_n 0, 1) := by decide +kernel
theorem d_StringBuilder_init_a7421_1 : decode prog_32_method_3_code 1 = .ok (.aload_n 1, 1) := by decide +kernel
theorem d_StringBuilder_init_a7421_2 : decode prog_32_method_3_code 2 = .ok (.invokespecial 7, 3) := by decide +kernel
theorem d_StringBuilder_init_a7421_5 : decode prog_32_method_3_code 5 = .ok (.return_, 1) := by decide +kernel
theorem lj_StringBuilder_7 : LI "java/lang/StringBuilder" 7 1 m_AbstractStringBuilder_init_a7421 := ⟨hd_AbstractStringBuilder_init_a7421, rfl, rfl, rfl, wg_1669, wg_1670, wg_19⟩
theorem d_AbstractStringBuilder_init_a7421_0 : decode prog_17_method_3_code 0 = .ok (.aload_n 0, 1) := by decide +kernel
theorem d_AbstractStringBuilder_init_a7421_1 : decode prog_17_method_3_code 1 = .ok (.invokespecial 3, 3) := by decide +kernel
theorem d_AbstractStringBuilder_init_a7421_4 : decode prog_17_method_3_code 4 = .ok (.aload_n 1, 1) := by decide +kernel
theorem d_AbstractStringBuilder_init_a7421_5 : decode prog_17_method_3_code 5 = .ok (.invokevirtual 32, 3) := by decide +kernel
theorem d_AbstractStringBuilder_init_a7421_8 : decode prog_17_method_3_code 8 = .ok (.istore_n 2, 1) := by decide +kernel
theorem d_AbstractStringBuilder_init_a7421_9 : decode prog_17_method_3_code 9 = .ok (.iload_n 2, 1) := by decide +kernel
theorem d_AbstractStringBuilder_init_a7421_10 : decode prog_17_method_3_code 10 = .ok (.ldc 38, 2) := by decide +kernel
theorem d_AbstractStringBuilder_init_a7421_12 : decode prog_17_method_3_code 12 = .ok (.if_icmp .ge 10, 3) := by decide +kernel
theorem d_AbstractStringBuilder_init_a7421_15 : decode prog_17_method_3_code 15 = .ok (.iload_n 2, 1) := by decide +kernel
theorem d_AbstractStringBuilder_init_a7421_16 : decode prog_17_method_3_code 16 = .ok (.bipush 16, 2) := by decide +kernel
theorem d_AbstractStringBuilder_init_a7421_18 : decode prog_17_method_3_code 18 = .ok (.iadd, 1) := by decide +kernel
theorem d_AbstractStringBuilder_init_a7421_19 : decode prog_17_method_3_code 19 = .ok (.goto 5, 3) := by decide +kernel
theorem d_AbstractStringBuilder_init_a7421_22 : decode prog_17_method_3_code 22 = .ok (.ldc 39, 2) := by decide +kernel
theorem d_AbstractStringBuilder_init_a7421_24 : decode prog_17_method_3_code 24 = .ok (.istore_n 3, 1) := by decide +kernel
theorem d_AbstractStringBuilder_init_a7421_25 : decode prog_17_method_3_code 25 = .ok (.aload_n 1, 1) := by decide +kernel
theorem d_AbstractStringBuilder_init_a7421_26 : decode prog_17_method_3_code 26 = .ok (.invokevirtual 40, 3) := by decide +kernel
theorem d_AbstractStringBuilder_init_a7421_29 : decode prog_17_method_3_code 29 = .ok (.istore 4, 2) := by decide +kernel
theorem d_AbstractStringBuilder_init_a7421_31 : decode prog_17_method_3_code 31 = .ok (.aload_n 0, 1) := by decide +kernel
theorem d_AbstractStringBuilder_init_a7421_32 : decode prog_17_method_3_code 32 = .ok (.iload 4, 2) := by decide +kernel
theorem d_AbstractStringBuilder_init_a7421_34 : decode prog_17_method_3_code 34 = .ok (.putfield 22, 3) := by decide +kernel
theorem d_AbstractStringBuilder_init_a7421_37 : decode prog_17_method_3_code 37 = .ok (.aload_n 0, 1) := by decide +kernel
theorem d_AbstractStringBuilder_init_a7421_38 : decode prog_17_method_3_code 38 = .ok (.iload 4, 2) := by decide +kernel
theorem d_AbstractStringBuilder_init_a7421_40 : decode prog_17_method_3_code 40 = .ok (.ifCond .ne 9, 3) := by decide +kernel
theorem d_AbstractStringBuilder_init_a7421_43 : decode prog_17_method_3_code 43 = .ok (.iload_n 3, 1) := by decide +kernel
theorem d_AbstractStringBuilder_init_a7421_44 : decode prog_17_method_3_code 44 = .ok (.newarray .byte, 2) := by decide +kernel
theorem d_AbstractStringBuilder_init_a7421_46 : decode prog_17_method_3_code 46 = .ok (.goto 7, 3) := by decide +kernel
theorem d_AbstractStringBuilder_init_a7421_49 : decode prog_17_method_3_code 49 = .ok (.iload_n 3, 1) := by decide +kernel
theorem d_AbstractStringBuilder_init_a7421_50 : decode prog_17_method_3_code 50 = .ok (.invokestatic 26, 3) := by decide +kernel
theorem d_AbstractStringBuilder_init_a7421_53 : decode prog_17_method_3_code 53 = .ok (.putfield 15, 3) := by decide +kernel
theorem d_AbstractStringBuilder_init_a7421_56 : decode prog_17_method_3_code 56 = .ok (.aload_n 0, 1) := by decide +kernel
theorem d_AbstractStringBuilder_init_a7421_57 : decode prog_17_method_3_code 57 = .ok (.aload_n 1, 1) := by decide +kernel
theorem d_AbstractStringBuilder_init_a7421_58 : decode prog_17_method_3_code 58 = .ok (.invokevirtual 43, 3) := by decide +kernel
theorem d_AbstractStringBuilder_init_a7421_61 : decode prog_17_method_3_code 61 = .ok (.pop, 1) := by decide +kernel
theorem d_AbstractStringBuilder_init_a7421_62 : decode prog_17_method_3_code 62 = .ok (.return_, 1) := by decide +kernel
theorem lo_AbstractStringBuilder_43_1 : LO "java/lang/AbstractStringBuilder" 43 1 1 m_StringBuilder_append_cf1ce := ⟨hd_StringBuilder_append_cf1ce, rfl, _, ⟨"java/lang/AbstractStringBuilder", "append", "(Ljava/lang/String;)Ljava/lang/AbstractStringBuilder;"⟩, "java/lang/AbstractStringBuilder", _, _, _, rfl, wg_1673, wg_1714, wg_967, wg_1723, wg_1674, wg_20, wg_968, by decide +kernel, by decide +kernel, by decide +kernel⟩
theorem d_StringBuilder_append_cf1ce_0 : decode prog_32_method_80_code 0 = .ok (.aload_n 0, 1) := by decide +kernel
theorem d_StringBuilder_append_cf1ce_1 : decode prog_32_method_80_code 1 = .ok (.aload_n 1, 1) := by decide +kernel
theorem d_StringBuilder_append_cf1ce_2 : decode prog_32_method_80_code 2 = .ok (.invokevirtual 23, 3) := by decide +kernel
theorem d_StringBuilder_append_cf1ce_5 : decode prog_32_method_80_code 5 = .ok (.areturn, 1) := by decide +kernel
theorem lj_StringBuilder_23_1 : LV "java/lang/StringBuilder" 23 1 1 m_StringBuilder_append_15ec4 := ⟨hd_StringBuilder_append_15ec4, rfl, ⟨_, rfl, rfl⟩, wg_1676, wg_963, wg_964, wg_20⟩
theorem d_Float_floatToIntBits_5c35a_0 : decode prog_23_method_24_code 0 = .ok (.fload_n 0, 1) := by decide +kernel
theorem d_Float_floatToIntBits_5c35a_1 : decode prog_23_method_24_code 1 = .ok (.invokestatic 59, 3) := by decide +kernel
theorem d_Float_floatToIntBits_5c35a_4 : decode prog_23_method_24_code 4 = .ok (.ifCond .ne 8, 3) := by decide +kernel
theorem d_Float_floatToIntBits_5c35a_7 : decode prog_23_method_24_code 7 = .ok (.fload_n 0, 1) := by decide +kernel
theorem d_Float_floatToIntBits_5c35a_8 : decode prog_23_method_24_code 8 = .ok (.invokestatic 74, 3) := by decide +kernel
theorem d_Float_floatToIntBits_5c35a_11 : decode prog_23_method_24_code 11 = .ok (.ireturn, 1) := by decide +kernel
theorem d_Float_floatToIntBits_5c35a_12 : decode prog_23_method_24_code 12 = .ok (.ldc 77, 2) := by decide +kernel
theorem d_Float_floatToIntBits_5c35a_14 : decode prog_23_method_24_code 14 = .ok (.ireturn, 1) := by decide +kernel
theorem lj_Float_59 : m_Float_isNaN_12338.2.2.2.2 = [] ∧ LST "java/lang/Float" 59 1 m_Float_isNaN_12338 := ⟨rfl, hd_Float_isNaN_12338, wg_1407, wg_1408, wg_33⟩
theorem d_Float_isNaN_12338_0 : decode prog_23_method_6_code 0 = .ok (.fload_n 0, 1) := by decide +kernel
theorem d_Float_isNaN_12338_1 : decode prog_23_method_6_code 1 = .ok (.fload_n 0, 1) := by decide +kernel
theorem d_Float_isNaN_12338_2 : decode prog_23_method_6_code 2 = .ok (.fcmp .l, 1) := by decide +kernel
theorem d_Float_isNaN_12338_3 : decode prog_23_method_6_code 3 = .ok (.ifCond .eq 7, 3) := by decide +kernel
theorem d_Float_isNaN_12338_6 : decode prog_23_method_6_code 6 = .ok (.iconst 1, 1) := by decide +kernel
theorem d_Float_isNaN_12338_7 : decode prog_23_method_6_code 7 = .ok (.goto 4, 3) := by decide +kernel
theorem d_Float_isNaN_12338_10 : decode prog_23_method_6_code 10 = .ok (.iconst 0, 1) := by decide +kernel
theorem d_Float_isNaN_12338_11 : decode prog_23_method_6_code 11 = .ok (.ireturn, 1) := by decide +kernel
theorem lj_ProphecyShop_84_0 : LV "ProphecyShop" 84 0 0 m_String_length_8abf5 := ⟨hd_String_length_8abf5, rfl, ⟨_, rfl, rfl⟩, wg_397, wg_398, wg_399, wg_13⟩
theorem lj_ProphecyShop_84_14 : LV "ProphecyShop" 84 14 0 m_String_length_8abf5 := ⟨hd_String_length_8abf5, rfl, ⟨_, rfl, rfl⟩, wg_397, wg_398, wg_399, wg_13⟩
theorem lj_ProphecyShop_90_0 : LV "ProphecyShop" 90 0 1 m_String_charAt_5068e := ⟨hd_String_charAt_5068e, rfl, ⟨_, rfl, rfl⟩, wg_407, wg_408, wg_409, wg_13⟩
theorem lj_ProphecyShop_90_14 : LV "ProphecyShop" 90 14 1 m_String_charAt_5068e := ⟨hd_String_charAt_5068e, rfl, ⟨_, rfl, rfl⟩, wg_407, wg_408, wg_409, wg_13⟩
theorem lj_ProphecyShop_329 : LI "ProphecyShop" 329 0 m_StringBuilder_init_da8c8 := ⟨hd_StringBuilder_init_da8c8, rfl, rfl, rfl, wg_1290, wg_924, wg_20⟩
theorem lj_ProphecyShop_334_1 : LV "ProphecyShop" 334 1 1 m_StringBuilder_append_cf468 := ⟨hd_StringBuilder_append_cf468, rfl, ⟨_, rfl, rfl⟩, wg_1297, wg_1060, wg_1061, wg_20⟩
theorem lj_ProphecyShop_338_1 : LV "ProphecyShop" 338 1 1 m_StringBuilder_append_bf812 := ⟨hd_StringBuilder_append_bf812, rfl, ⟨_, rfl, rfl⟩, wg_1298, wg_1135, wg_1136, wg_20⟩
theorem lj_ProphecyShop_341_1 : LV "ProphecyShop" 341 1 0 m_StringBuilder_toString_0e30d := ⟨hd_StringBuilder_toString_0e30d, rfl, ⟨_, rfl, rfl⟩, wg_1299, wg_1073, wg_1074, wg_20⟩
theorem lj_Names_29_1 : LV "ProphecyShop$Names" 29 1 1 m_StringBuilder_append_cf468 := ⟨hd_StringBuilder_append_cf468, rfl, ⟨_, rfl, rfl⟩, wg_1296, wg_1060, wg_1061, wg_20⟩
theorem lj_ProphecyShopLaw_15_0 : LV "ProphecyShopLaw" 15 0 0 m_String_length_8abf5 := ⟨hd_String_length_8abf5, rfl, ⟨_, rfl, rfl⟩, wg_1303, wg_398, wg_399, wg_13⟩
theorem lj_ProphecyShopLaw_15_14 : LV "ProphecyShopLaw" 15 14 0 m_String_length_8abf5 := ⟨hd_String_length_8abf5, rfl, ⟨_, rfl, rfl⟩, wg_1303, wg_398, wg_399, wg_13⟩
theorem lj_ProphecyShopLaw_21_0 : LV "ProphecyShopLaw" 21 0 1 m_String_charAt_5068e := ⟨hd_String_charAt_5068e, rfl, ⟨_, rfl, rfl⟩, wg_1308, wg_408, wg_409, wg_13⟩
theorem lj_ProphecyShopLaw_21_14 : LV "ProphecyShopLaw" 21 14 1 m_String_charAt_5068e := ⟨hd_String_charAt_5068e, rfl, ⟨_, rfl, rfl⟩, wg_1308, wg_408, wg_409, wg_13⟩
theorem lj_ProphecyShopLaw_37 : LI "ProphecyShopLaw" 37 0 m_StringBuilder_init_da8c8 := ⟨hd_StringBuilder_init_da8c8, rfl, rfl, rfl, wg_923, wg_924, wg_20⟩
theorem lj_ProphecyShopLaw_38_1 : LV "ProphecyShopLaw" 38 1 1 m_StringBuilder_append_15ec4 := ⟨hd_StringBuilder_append_15ec4, rfl, ⟨_, rfl, rfl⟩, wg_962, wg_963, wg_964, wg_20⟩
theorem lj_ProphecyShopLaw_41_1 : LV "ProphecyShopLaw" 41 1 1 m_StringBuilder_append_cf468 := ⟨hd_StringBuilder_append_cf468, rfl, ⟨_, rfl, rfl⟩, wg_1059, wg_1060, wg_1061, wg_20⟩
theorem lj_ProphecyShopLaw_44_1 : LV "ProphecyShopLaw" 44 1 0 m_StringBuilder_toString_0e30d := ⟨hd_StringBuilder_toString_0e30d, rfl, ⟨_, rfl, rfl⟩, wg_1072, wg_1073, wg_1074, wg_20⟩
theorem lj_ProphecyShopLaw_87_1 : LV "ProphecyShopLaw" 87 1 1 m_StringBuilder_append_bf812 := ⟨hd_StringBuilder_append_bf812, rfl, ⟨_, rfl, rfl⟩, wg_1134, wg_1135, wg_1136, wg_20⟩
theorem lj_ProphecyShopLaw_362 : LI "ProphecyShopLaw" 362 1 m_StringBuilder_init_a7421 := ⟨hd_StringBuilder_init_a7421, rfl, rfl, rfl, wg_1666, wg_1667, wg_20⟩
theorem sj_String_38 : Cond.fieldLink "java/lang/String" 38 "java/lang/String" "COMPACT_STRINGS" "Z" ∈ lw_good := wg_405
theorem sj_String_1053 : Cond.fieldLink "java/lang/String" 1053 "jdk/internal/util/Preconditions" "SIOOBE_FORMATTER" "Ljava/util/function/BiFunction;" ∈ lw_good := wg_421
theorem sj_AbstractStringBuilder_18 : Cond.fieldLink "java/lang/AbstractStringBuilder" 18 "java/lang/String" "COMPACT_STRINGS" "Z" ∈ lw_good := wg_930
theorem sj_Integer_83 : Cond.fieldLink "java/lang/Integer" 83 "java/lang/Integer" "DigitOnes" "[B" ∈ lw_good := wg_1147
theorem sj_Integer_87 : Cond.fieldLink "java/lang/Integer" 87 "java/lang/Integer" "DigitTens" "[B" ∈ lw_good := wg_1149
theorem cl_Arrays_311 : Cond.classLink "java/util/Arrays" 311 "[B" ∈ lw_good := wg_1001
theorem cl_StringBuilder_18 : Cond.classLink "java/lang/StringBuilder" 18 "java/lang/String" ∈ lw_good := wg_1076
theorem cl_ProphecyShop_327 : Cond.classLink "ProphecyShop" 327 "java/lang/StringBuilder" ∈ lw_good := wg_1289
theorem in_String : Cond.instantiable "java/lang/String" 4 ∈ lw_good := wg_1077
theorem ii_String : Cond.initialized "java/lang/String" ∈ lw_good := wg_13
theorem in_StringBuilder : Cond.instantiable "java/lang/StringBuilder" 4 ∈ lw_good := wg_922
theorem ii_StringBuilder : Cond.initialized "java/lang/StringBuilder" ∈ lw_good := wg_20
theorem oi_1 : Cond.instanceMethod objectInit ∈ lw_good := wg_40
theorem oi_2 : Cond.code objectInit ⟨#[0xb1]⟩ 1 none ∈ lw_good := wg_41
theorem ac_byte : (Jvm.Cond.arrayClass Jvm.ClassFile.FieldType.byte) ∈ lw_good := wg_664
theorem jc_link : (Jvm.Cond.methodLink "java/util/Arrays" (310 : Nat) ({ cls := "[B", name := "clone", desc := "()Ljava/lang/Object;" } : Jvm.MethodName)) ∈ lw_good := wg_995
theorem jc_same : (Jvm.Cond.sameMethod "[B" "java/lang/Object" "clone" "()Ljava/lang/Object;") ∈ lw_good := wg_996
theorem jc_nat : (Jvm.Cond.native ({ cls := "java/lang/Object", name := "clone", desc := "()Ljava/lang/Object;" } : Jvm.MethodName)) ∈ lw_good := wg_997
theorem jc_inst : (Jvm.Cond.instanceMethod ({ cls := "java/lang/Object", name := "clone", desc := "()Ljava/lang/Object;" } : Jvm.MethodName)) ∈ lw_good := wg_998
theorem jc_sel : (Jvm.Cond.selects "[B" ({ cls := "[B", name := "clone", desc := "()Ljava/lang/Object;" } : Jvm.MethodName) ({ cls := "java/lang/Object", name := "clone", desc := "()Ljava/lang/Object;" } : Jvm.MethodName)) ∈ lw_good := wg_999
theorem jc_cast : (Jvm.Cond.castable "[B" "java/lang/Cloneable") ∈ lw_T := wt_1000
theorem kj_1 : (Jvm.Cond.constant "jdk/internal/util/ArraysSupport" (200 : Nat) (2147483639 : Int32)) ∈ lw_good := wg_987
theorem kj_2 : (Jvm.Cond.constant "java/lang/AbstractStringBuilder" (39 : Nat) (2147483647 : Int32)) ∈ lw_good := wg_991
