theorem ws_25 : Cond.selects "ProphecyShopModel" ⟨"ProphecyShopModel", "takesText", "(Ljava/lang/String;)V"⟩ ⟨"ProphecyShopModel", "takesText", "(Ljava/lang/String;)V"⟩ ∈ lw_good := lw_g (List.mem_append_left _ (List.mem_append_left _ (List.mem_of_getElem? (i := 25) (by decide +kernel)))) (by decide +kernel)
theorem wt_100 : (Jvm.Cond.methodLinkNest "ProphecyShop$Script" (31 : Nat) ({ cls := "ProphecyShop$Step", name := "<init>", desc := "()V" } : Jvm.MethodName) "ProphecyShop") ∈ lw_T := List.mem_append_left _ (List.mem_append_right _ (List.mem_of_getElem? (i := 100) (by decide +kernel)))
theorem wg_101 : (Jvm.Cond.instanceMethod ({ cls := "ProphecyShop$Step", name := "<init>", desc := "()V" } : Jvm.MethodName)) ∈ lw_good := lw_g (List.mem_append_left _ (List.mem_append_right _ (List.mem_of_getElem? (i := 101) (by decide +kernel)))) (by decide +kernel)
theorem wg_102 : (Jvm.Cond.code ({ cls := "ProphecyShop$Step", name := "<init>", desc := "()V" } : Jvm.MethodName) prog_11_method_1_code (1 : Nat) (Option.none : Option Jvm.ClassFile.FieldType)) ∈ lw_good := lw_g (List.mem_append_left _ (List.mem_append_right _ (List.mem_of_getElem? (i := 102) (by decide +kernel)))) (by decide +kernel)
theorem wg_103 : (Jvm.Cond.methodLink "ProphecyShop$Step" (3 : Nat) ({ cls := "java/lang/Object", name := "<init>", desc := "()V" } : Jvm.MethodName)) ∈ lw_good := lw_g (List.mem_append_left _ (List.mem_append_right _ (List.mem_of_getElem? (i := 103) (by decide +kernel)))) (by decide +kernel)
theorem wg_104 : (Jvm.Cond.fieldLink "ProphecyShop$Step" (11 : Nat) "ProphecyShop$Step" "act" "I") ∈ lw_good := lw_g (List.mem_append_left _ (List.mem_append_right _ (List.mem_of_getElem? (i := 104) (by decide +kernel)))) (by decide +kernel)
theorem wg_106 : (Jvm.Cond.fieldLink "ProphecyShop$Step" (15 : Nat) "ProphecyShop$Step" "customer" "I") ∈ lw_good := lw_g (List.mem_append_left _ (List.mem_append_right _ (List.mem_of_getElem? (i := 106) (by decide +kernel)))) (by decide +kernel)
theorem wg_108 : (Jvm.Cond.fieldLink "ProphecyShop$Step" (18 : Nat) "ProphecyShop$Step" "kind" "I") ∈ lw_good := lw_g (List.mem_append_left _ (List.mem_append_right _ (List.mem_of_getElem? (i := 108) (by decide +kernel)))) (by decide +kernel)
theorem wg_110 : (Jvm.Cond.fieldLink "ProphecyShop$Step" (21 : Nat) "ProphecyShop$Step" "event" "I") ∈ lw_good := lw_g (List.mem_append_left _ (List.mem_append_right _ (List.mem_of_getElem? (i := 110) (by decide +kernel)))) (by decide +kernel)
theorem wg_112 : (Jvm.Cond.fieldLink "ProphecyShop$Step" (24 : Nat) "ProphecyShop$Step" "place" "I") ∈ lw_good := lw_g (List.mem_append_left _ (List.mem_append_right _ (List.mem_of_getElem? (i := 112) (by decide +kernel)))) (by decide +kernel)
theorem wg_114 : (Jvm.Cond.fieldLink "ProphecyShop$Step" (27 : Nat) "ProphecyShop$Step" "delay" "I") ∈ lw_good := lw_g (List.mem_append_left _ (List.mem_append_right _ (List.mem_of_getElem? (i := 114) (by decide +kernel)))) (by decide +kernel)
theorem wg_116 : (Jvm.Cond.fieldLink "ProphecyShop$Step" (30 : Nat) "ProphecyShop$Step" "length" "I") ∈ lw_good := lw_g (List.mem_append_left _ (List.mem_append_right _ (List.mem_of_getElem? (i := 116) (by decide +kernel)))) (by decide +kernel)
theorem wg_118 : (Jvm.Cond.fieldLink "ProphecyShop$Step" (33 : Nat) "ProphecyShop$Step" "price" "I") ∈ lw_good := lw_g (List.mem_append_left _ (List.mem_append_right _ (List.mem_of_getElem? (i := 118) (by decide +kernel)))) (by decide +kernel)
theorem wg_120 : (Jvm.Cond.fieldLink "ProphecyShop$Step" (36 : Nat) "ProphecyShop$Step" "number" "I") ∈ lw_good := lw_g (List.mem_append_left _ (List.mem_append_right _ (List.mem_of_getElem? (i := 120) (by decide +kernel)))) (by decide +kernel)
theorem wg_122 : (Jvm.Cond.fieldLink "ProphecyShop$Step" (39 : Nat) "ProphecyShop$Step" "partner" "I") ∈ lw_good := lw_g (List.mem_append_left _ (List.mem_append_right _ (List.mem_of_getElem? (i := 122) (by decide +kernel)))) (by decide +kernel)
theorem wg_124 : (Jvm.Cond.fieldLink "ProphecyShop$Step" (42 : Nat) "ProphecyShop$Step" "roundsLeft" "I") ∈ lw_good := lw_g (List.mem_append_left _ (List.mem_append_right _ (List.mem_of_getElem? (i := 124) (by decide +kernel)))) (by decide +kernel)
theorem wg_1694 : (Jvm.Cond.code ({ cls := "ProphecyShopModel", name := "<init>", desc := "()V" } : Jvm.MethodName) prog_14_method_1_code (1 : Nat) (Option.none : Option Jvm.ClassFile.FieldType)) ∈ lw_good := lw_g (List.mem_append_left _ (List.mem_append_right _ (List.mem_of_getElem? (i := 1694) (by decide +kernel)))) (by decide +kernel)
theorem wg_1695 : (Jvm.Cond.methodLink "ProphecyShopModel" (1 : Nat) ({ cls := "java/lang/Object", name := "<init>", desc := "()V" } : Jvm.MethodName)) ∈ lw_good := lw_g (List.mem_append_left _ (List.mem_append_right _ (List.mem_of_getElem? (i := 1695) (by decide +kernel)))) (by decide +kernel)
theorem wg_1697 : (Jvm.Cond.methodLink "ProphecyShopModel" (50 : Nat) ({ cls := "ProphecyShopModel", name := "takesText", desc := "(Ljava/lang/String;)V" } : Jvm.MethodName)) ∈ lw_good := lw_g (List.mem_append_left _ (List.mem_append_right _ (List.mem_of_getElem? (i := 1697) (by decide +kernel)))) (by decide +kernel)
theorem wg_1699 : (Jvm.Cond.instanceMethod ({ cls := "ProphecyShopModel", name := "takesText", desc := "(Ljava/lang/String;)V" } : Jvm.MethodName)) ∈ lw_good := lw_g (List.mem_append_left _ (List.mem_append_right _ (List.mem_of_getElem? (i := 1699) (by decide +kernel)))) (by decide +kernel)
theorem wg_1700 : (Jvm.Cond.code ({ cls := "ProphecyShopModel", name := "takesText", desc := "(Ljava/lang/String;)V" } : Jvm.MethodName) prog_14_method_2_code (3 : Nat) (Option.none : Option Jvm.ClassFile.FieldType)) ∈ lw_good := lw_g (List.mem_append_left _ (List.mem_append_right _ (List.mem_of_getElem? (i := 1700) (by decide +kernel)))) (by decide +kernel)
theorem wg_171 : (Jvm.Cond.classLink "ProphecyShop" (32 : Nat) "ProphecyShop$Setup") ∈ lw_good := lw_g (List.mem_append_left _ (List.mem_append_right _ (List.mem_of_getElem? (i := 171) (by decide +kernel)))) (by decide +kernel)
theorem wg_172 : (Jvm.Cond.instantiable "ProphecyShop$Setup" (12 : Nat)) ∈ lw_good := lw_g (List.mem_append_left _ (List.mem_append_right _ (List.mem_of_getElem? (i := 172) (by decide +kernel)))) (by decide +kernel)
theorem wt_173 : (Jvm.Cond.methodLinkNest "ProphecyShop" (34 : Nat) ({ cls := "ProphecyShop$Setup", name := "<init>", desc := "()V" } : Jvm.MethodName) "ProphecyShop") ∈ lw_T := List.mem_append_left _ (List.mem_append_right _ (List.mem_of_getElem? (i := 173) (by decide +kernel)))
theorem wg_174 : (Jvm.Cond.instanceMethod ({ cls := "ProphecyShop$Setup", name := "<init>", desc := "()V" } : Jvm.MethodName)) ∈ lw_good := lw_g (List.mem_append_left _ (List.mem_append_right _ (List.mem_of_getElem? (i := 174) (by decide +kernel)))) (by decide +kernel)
theorem wg_175 : (Jvm.Cond.code ({ cls := "ProphecyShop$Setup", name := "<init>", desc := "()V" } : Jvm.MethodName) prog_8_method_1_code (1 : Nat) (Option.none : Option Jvm.ClassFile.FieldType)) ∈ lw_good := lw_g (List.mem_append_left _ (List.mem_append_right _ (List.mem_of_getElem? (i := 175) (by decide +kernel)))) (by decide +kernel)
theorem wg_176 : (Jvm.Cond.methodLink "ProphecyShop$Setup" (3 : Nat) ({ cls := "java/lang/Object", name := "<init>", desc := "()V" } : Jvm.MethodName)) ∈ lw_good := lw_g (List.mem_append_left _ (List.mem_append_right _ (List.mem_of_getElem? (i := 176) (by decide +kernel)))) (by decide +kernel)
theorem wg_177 : (Jvm.Cond.classLink "ProphecyShop$Setup" (27 : Nat) "ProphecyShop$Names") ∈ lw_good := lw_g (List.mem_append_left _ (List.mem_append_right _ (List.mem_of_getElem? (i := 177) (by decide +kernel)))) (by decide +kernel)
theorem wg_178 : (Jvm.Cond.instantiable "ProphecyShop$Names" (2 : Nat)) ∈ lw_good := lw_g (List.mem_append_left _ (List.mem_append_right _ (List.mem_of_getElem? (i := 178) (by decide +kernel)))) (by decide +kernel)
theorem wt_179 : (Jvm.Cond.methodLinkNest "ProphecyShop$Setup" (29 : Nat) ({ cls := "ProphecyShop$Names", name := "<init>", desc := "()V" } : Jvm.MethodName) "ProphecyShop") ∈ lw_T := List.mem_append_left _ (List.mem_append_right _ (List.mem_of_getElem? (i := 179) (by decide +kernel)))
theorem wg_180 : (Jvm.Cond.instanceMethod ({ cls := "ProphecyShop$Names", name := "<init>", desc := "()V" } : Jvm.MethodName)) ∈ lw_good := lw_g (List.mem_append_left _ (List.mem_append_right _ (List.mem_of_getElem? (i := 180) (by decide +kernel)))) (by decide +kernel)
theorem wg_181 : (Jvm.Cond.code ({ cls := "ProphecyShop$Names", name := "<init>", desc := "()V" } : Jvm.MethodName) prog_3_method_1_code (1 : Nat) (Option.none : Option Jvm.ClassFile.FieldType)) ∈ lw_good := lw_g (List.mem_append_left _ (List.mem_append_right _ (List.mem_of_getElem? (i := 181) (by decide +kernel)))) (by decide +kernel)
theorem wg_182 : (Jvm.Cond.methodLink "ProphecyShop$Names" (3 : Nat) ({ cls := "java/lang/Object", name := "<init>", desc := "()V" } : Jvm.MethodName)) ∈ lw_good := lw_g (List.mem_append_left _ (List.mem_append_right _ (List.mem_of_getElem? (i := 182) (by decide +kernel)))) (by decide +kernel)
theorem wg_195 : (Jvm.Cond.fieldLink "ProphecyShop$Setup" (15 : Nat) "ProphecyShop$Setup" "rate" "I") ∈ lw_good := lw_g (List.mem_append_left _ (List.mem_append_right _ (List.mem_of_getElem? (i := 195) (by decide +kernel)))) (by decide +kernel)
theorem wg_198 : (Jvm.Cond.fieldLink "ProphecyShop$Setup" (18 : Nat) "ProphecyShop$Setup" "grace" "I") ∈ lw_good := lw_g (List.mem_append_left _ (List.mem_append_right _ (List.mem_of_getElem? (i := 198) (by decide +kernel)))) (by decide +kernel)
theorem wg_201 : (Jvm.Cond.fieldLink "ProphecyShop$Setup" (21 : Nat) "ProphecyShop$Setup" "percentage" "I") ∈ lw_good := lw_g (List.mem_append_left _ (List.mem_append_right _ (List.mem_of_getElem? (i := 201) (by decide +kernel)))) (by decide +kernel)
theorem wg_204 : (Jvm.Cond.fieldLink "ProphecyShop$Setup" (24 : Nat) "ProphecyShop$Setup" "vaguePercentage" "I") ∈ lw_good := lw_g (List.mem_append_left _ (List.mem_append_right _ (List.mem_of_getElem? (i := 204) (by decide +kernel)))) (by decide +kernel)
theorem wg_253 : (Jvm.Cond.classLink "ProphecyShop" (42 : Nat) "ProphecyShop$Shop") ∈ lw_good := lw_g (List.mem_append_left _ (List.mem_append_right _ (List.mem_of_getElem? (i := 253) (by decide +kernel)))) (by decide +kernel)
theorem wg_254 : (Jvm.Cond.instantiable "ProphecyShop$Shop" (15 : Nat)) ∈ lw_good := lw_g (List.mem_append_left _ (List.mem_append_right _ (List.mem_of_getElem? (i := 254) (by decide +kernel)))) (by decide +kernel)
theorem wg_255 : (Jvm.Cond.methodLink "ProphecyShop" (44 : Nat) ({ cls := "ProphecyShop$Shop", name := "<init>", desc := "(LProphecyShop$Setup;)V" } : Jvm.MethodName)) ∈ lw_good := lw_g (List.mem_append_left _ (List.mem_append_right _ (List.mem_of_getElem? (i := 255) (by decide +kernel)))) (by decide +kernel)
theorem wg_256 : (Jvm.Cond.instanceMethod ({ cls := "ProphecyShop$Shop", name := "<init>", desc := "(LProphecyShop$Setup;)V" } : Jvm.MethodName)) ∈ lw_good := lw_g (List.mem_append_left _ (List.mem_append_right _ (List.mem_of_getElem? (i := 256) (by decide +kernel)))) (by decide +kernel)
theorem wg_257 : (Jvm.Cond.code ({ cls := "ProphecyShop$Shop", name := "<init>", desc := "(LProphecyShop$Setup;)V" } : Jvm.MethodName) prog_10_method_1_code (3 : Nat) (Option.none : Option Jvm.ClassFile.FieldType)) ∈ lw_good := lw_g (List.mem_append_left _ (List.mem_append_right _ (List.mem_of_getElem? (i := 257) (by decide +kernel)))) (by decide +kernel)
theorem wg_258 : (Jvm.Cond.methodLink "ProphecyShop$Shop" (3 : Nat) ({ cls := "java/lang/Object", name := "<init>", desc := "()V" } : Jvm.MethodName)) ∈ lw_good := lw_g (List.mem_append_left _ (List.mem_append_right _ (List.mem_of_getElem? (i := 258) (by decide +kernel)))) (by decide +kernel)
theorem wg_259 : (Jvm.Cond.classLink "ProphecyShop$Shop" (22 : Nat) "ProphecyShop$Prophecy") ∈ lw_good := lw_g (List.mem_append_left _ (List.mem_append_right _ (List.mem_of_getElem? (i := 259) (by decide +kernel)))) (by decide +kernel)
theorem wt_260 : (Jvm.Cond.arrayOver (Jvm.ClassFile.FieldType.object "ProphecyShop$Prophecy")) ∈ lw_T := List.mem_append_left _ (List.mem_append_right _ (List.mem_of_getElem? (i := 260) (by decide +kernel)))
theorem wg_261 : (Jvm.Cond.classLink "ProphecyShop$Shop" (31 : Nat) "ProphecyShop$Owl") ∈ lw_good := lw_g (List.mem_append_left _ (List.mem_append_right _ (List.mem_of_getElem? (i := 261) (by decide +kernel)))) (by decide +kernel)
theorem wt_262 : (Jvm.Cond.arrayOver (Jvm.ClassFile.FieldType.object "ProphecyShop$Owl")) ∈ lw_T := List.mem_append_left _ (List.mem_append_right _ (List.mem_of_getElem? (i := 262) (by decide +kernel)))
theorem wg_263 : (Jvm.Cond.instantiable "ProphecyShop$Prophecy" (10 : Nat)) ∈ lw_good := lw_g (List.mem_append_left _ (List.mem_append_right _ (List.mem_of_getElem? (i := 263) (by decide +kernel)))) (by decide +kernel)
theorem wt_264 : (Jvm.Cond.methodLinkNest "ProphecyShop$Shop" (65 : Nat) ({ cls := "ProphecyShop$Prophecy", name := "<init>", desc := "()V" } : Jvm.MethodName) "ProphecyShop") ∈ lw_T := List.mem_append_left _ (List.mem_append_right _ (List.mem_of_getElem? (i := 264) (by decide +kernel)))
theorem wg_265 : (Jvm.Cond.instanceMethod ({ cls := "ProphecyShop$Prophecy", name := "<init>", desc := "()V" } : Jvm.MethodName)) ∈ lw_good := lw_g (List.mem_append_left _ (List.mem_append_right _ (List.mem_of_getElem? (i := 265) (by decide +kernel)))) (by decide +kernel)
theorem wg_266 : (Jvm.Cond.code ({ cls := "ProphecyShop$Prophecy", name := "<init>", desc := "()V" } : Jvm.MethodName) prog_5_method_1_code (1 : Nat) (Option.none : Option Jvm.ClassFile.FieldType)) ∈ lw_good := lw_g (List.mem_append_left _ (List.mem_append_right _ (List.mem_of_getElem? (i := 266) (by decide +kernel)))) (by decide +kernel)
theorem wg_267 : (Jvm.Cond.methodLink "ProphecyShop$Prophecy" (3 : Nat) ({ cls := "java/lang/Object", name := "<init>", desc := "()V" } : Jvm.MethodName)) ∈ lw_good := lw_g (List.mem_append_left _ (List.mem_append_right _ (List.mem_of_getElem? (i := 267) (by decide +kernel)))) (by decide +kernel)
theorem wg_318 : (Jvm.Cond.instantiable "ProphecyShop$Owl" (5 : Nat)) ∈ lw_good := lw_g (List.mem_append_left _ (List.mem_append_right _ (List.mem_of_getElem? (i := 318) (by decide +kernel)))) (by decide +kernel)
theorem wt_319 : (Jvm.Cond.methodLinkNest "ProphecyShop$Shop" (66 : Nat) ({ cls := "ProphecyShop$Owl", name := "<init>", desc := "()V" } : Jvm.MethodName) "ProphecyShop") ∈ lw_T := List.mem_append_left _ (List.mem_append_right _ (List.mem_of_getElem? (i := 319) (by decide +kernel)))
theorem wg_320 : (Jvm.Cond.instanceMethod ({ cls := "ProphecyShop$Owl", name := "<init>", desc := "()V" } : Jvm.MethodName)) ∈ lw_good := lw_g (List.mem_append_left _ (List.mem_append_right _ (List.mem_of_getElem? (i := 320) (by decide +kernel)))) (by decide +kernel)
theorem wg_321 : (Jvm.Cond.code ({ cls := "ProphecyShop$Owl", name := "<init>", desc := "()V" } : Jvm.MethodName) prog_4_method_1_code (1 : Nat) (Option.none : Option Jvm.ClassFile.FieldType)) ∈ lw_good := lw_g (List.mem_append_left _ (List.mem_append_right _ (List.mem_of_getElem? (i := 321) (by decide +kernel)))) (by decide +kernel)
theorem wg_322 : (Jvm.Cond.methodLink "ProphecyShop$Owl" (3 : Nat) ({ cls := "java/lang/Object", name := "<init>", desc := "()V" } : Jvm.MethodName)) ∈ lw_good := lw_g (List.mem_append_left _ (List.mem_append_right _ (List.mem_of_getElem? (i := 322) (by decide +kernel)))) (by decide +kernel)
theorem wg_37 : (Jvm.Cond.code ({ cls := "ProphecyShop", name := "<init>", desc := "()V" } : Jvm.MethodName) prog_1_method_1_code (2 : Nat) (Option.none : Option Jvm.ClassFile.FieldType)) ∈ lw_good := lw_g (List.mem_append_left _ (List.mem_append_right _ (List.mem_of_getElem? (i := 37) (by decide +kernel)))) (by decide +kernel)
theorem wg_38 : (Jvm.Cond.methodLink "ProphecyShop" (1 : Nat) ({ cls := "java/lang/Object", name := "<init>", desc := "()V" } : Jvm.MethodName)) ∈ lw_good := lw_g (List.mem_append_left _ (List.mem_append_right _ (List.mem_of_getElem? (i := 38) (by decide +kernel)))) (by decide +kernel)
theorem wg_395 : (Jvm.Cond.classLink "ProphecyShop" (54 : Nat) "ProphecyShop$History") ∈ lw_good := lw_g (List.mem_append_left _ (List.mem_append_right _ (List.mem_of_getElem? (i := 395) (by decide +kernel)))) (by decide +kernel)
theorem wg_396 : (Jvm.Cond.instantiable "ProphecyShop$History" (2 : Nat)) ∈ lw_good := lw_g (List.mem_append_left _ (List.mem_append_right _ (List.mem_of_getElem? (i := 396) (by decide +kernel)))) (by decide +kernel)
theorem wg_397 : (Jvm.Cond.methodLink "ProphecyShop" (56 : Nat) ({ cls := "ProphecyShop$History", name := "<init>", desc := "(LProphecyShop$Setup;)V" } : Jvm.MethodName)) ∈ lw_good := lw_g (List.mem_append_left _ (List.mem_append_right _ (List.mem_of_getElem? (i := 397) (by decide +kernel)))) (by decide +kernel)
theorem wg_398 : (Jvm.Cond.instanceMethod ({ cls := "ProphecyShop$History", name := "<init>", desc := "(LProphecyShop$Setup;)V" } : Jvm.MethodName)) ∈ lw_good := lw_g (List.mem_append_left _ (List.mem_append_right _ (List.mem_of_getElem? (i := 398) (by decide +kernel)))) (by decide +kernel)
theorem wg_399 : (Jvm.Cond.code ({ cls := "ProphecyShop$History", name := "<init>", desc := "(LProphecyShop$Setup;)V" } : Jvm.MethodName) prog_2_method_1_code (3 : Nat) (Option.none : Option Jvm.ClassFile.FieldType)) ∈ lw_good := lw_g (List.mem_append_left _ (List.mem_append_right _ (List.mem_of_getElem? (i := 399) (by decide +kernel)))) (by decide +kernel)
theorem wg_400 : (Jvm.Cond.methodLink "ProphecyShop$History" (3 : Nat) ({ cls := "java/lang/Object", name := "<init>", desc := "()V" } : Jvm.MethodName)) ∈ lw_good := lw_g (List.mem_append_left _ (List.mem_append_right _ (List.mem_of_getElem? (i := 400) (by decide +kernel)))) (by decide +kernel)
theorem wg_401 : (Jvm.Cond.classLink "ProphecyShop$History" (9 : Nat) "ProphecyShop$Shop") ∈ lw_good := lw_g (List.mem_append_left _ (List.mem_append_right _ (List.mem_of_getElem? (i := 401) (by decide +kernel)))) (by decide +kernel)
theorem wt_402 : (Jvm.Cond.arrayOver (Jvm.ClassFile.FieldType.object "ProphecyShop$Shop")) ∈ lw_T := List.mem_append_left _ (List.mem_append_right _ (List.mem_of_getElem? (i := 402) (by decide +kernel)))
theorem wg_403 : (Jvm.Cond.methodLink "ProphecyShop$History" (21 : Nat) ({ cls := "ProphecyShop$Shop", name := "<init>", desc := "(LProphecyShop$Setup;)V" } : Jvm.MethodName)) ∈ lw_good := lw_g (List.mem_append_left _ (List.mem_append_right _ (List.mem_of_getElem? (i := 403) (by decide +kernel)))) (by decide +kernel)
theorem wg_41 : (Jvm.Cond.classLink "ProphecyShop" (7 : Nat) "ProphecyShop$Text") ∈ lw_good := lw_g (List.mem_append_left _ (List.mem_append_right _ (List.mem_of_getElem? (i := 41) (by decide +kernel)))) (by decide +kernel)
theorem wg_42 : (Jvm.Cond.instantiable "ProphecyShop$Text" (2 : Nat)) ∈ lw_good := lw_g (List.mem_append_left _ (List.mem_append_right _ (List.mem_of_getElem? (i := 42) (by decide +kernel)))) (by decide +kernel)
theorem wt_43 : (Jvm.Cond.methodLinkNest "ProphecyShop" (9 : Nat) ({ cls := "ProphecyShop$Text", name := "<init>", desc := "()V" } : Jvm.MethodName) "ProphecyShop") ∈ lw_T := List.mem_append_left _ (List.mem_append_right _ (List.mem_of_getElem? (i := 43) (by decide +kernel)))
theorem wg_44 : (Jvm.Cond.instanceMethod ({ cls := "ProphecyShop$Text", name := "<init>", desc := "()V" } : Jvm.MethodName)) ∈ lw_good := lw_g (List.mem_append_left _ (List.mem_append_right _ (List.mem_of_getElem? (i := 44) (by decide +kernel)))) (by decide +kernel)
theorem wg_45 : (Jvm.Cond.code ({ cls := "ProphecyShop$Text", name := "<init>", desc := "()V" } : Jvm.MethodName) prog_12_method_1_code (1 : Nat) (Option.none : Option Jvm.ClassFile.FieldType)) ∈ lw_good := lw_g (List.mem_append_left _ (List.mem_append_right _ (List.mem_of_getElem? (i := 45) (by decide +kernel)))) (by decide +kernel)
theorem wg_46 : (Jvm.Cond.methodLink "ProphecyShop$Text" (3 : Nat) ({ cls := "java/lang/Object", name := "<init>", desc := "()V" } : Jvm.MethodName)) ∈ lw_good := lw_g (List.mem_append_left _ (List.mem_append_right _ (List.mem_of_getElem? (i := 46) (by decide +kernel)))) (by decide +kernel)
theorem wg_462 : (Jvm.Cond.methodLink "ProphecyShop" (94 : Nat) ({ cls := "ProphecyShop$Text", name := "put", desc := "(I)V" } : Jvm.MethodName)) ∈ lw_good := lw_g (List.mem_append_left _ (List.mem_append_right _ (List.mem_of_getElem? (i := 462) (by decide +kernel)))) (by decide +kernel)
theorem wg_55 : (Jvm.Cond.classLink "ProphecyShop" (16 : Nat) "ProphecyShop$SetupReader") ∈ lw_good := lw_g (List.mem_append_left _ (List.mem_append_right _ (List.mem_of_getElem? (i := 55) (by decide +kernel)))) (by decide +kernel)
theorem wg_56 : (Jvm.Cond.instantiable "ProphecyShop$SetupReader" (6 : Nat)) ∈ lw_good := lw_g (List.mem_append_left _ (List.mem_append_right _ (List.mem_of_getElem? (i := 56) (by decide +kernel)))) (by decide +kernel)
theorem wg_57 : (Jvm.Cond.methodLink "ProphecyShop" (18 : Nat) ({ cls := "ProphecyShop$SetupReader", name := "<init>", desc := "(LProphecyShop$Text;)V" } : Jvm.MethodName)) ∈ lw_good := lw_g (List.mem_append_left _ (List.mem_append_right _ (List.mem_of_getElem? (i := 57) (by decide +kernel)))) (by decide +kernel)
theorem wg_58 : (Jvm.Cond.instanceMethod ({ cls := "ProphecyShop$SetupReader", name := "<init>", desc := "(LProphecyShop$Text;)V" } : Jvm.MethodName)) ∈ lw_good := lw_g (List.mem_append_left _ (List.mem_append_right _ (List.mem_of_getElem? (i := 58) (by decide +kernel)))) (by decide +kernel)
theorem wg_59 : (Jvm.Cond.code ({ cls := "ProphecyShop$SetupReader", name := "<init>", desc := "(LProphecyShop$Text;)V" } : Jvm.MethodName) prog_9_method_1_code (2 : Nat) (Option.none : Option Jvm.ClassFile.FieldType)) ∈ lw_good := lw_g (List.mem_append_left _ (List.mem_append_right _ (List.mem_of_getElem? (i := 59) (by decide +kernel)))) (by decide +kernel)
theorem wg_6 : (Jvm.Cond.initialized "ProphecyShop$Step") ∈ lw_good := lw_g (List.mem_append_left _ (List.mem_append_right _ (List.mem_of_getElem? (i := 6) (by decide +kernel)))) (by decide +kernel)
theorem wg_60 : (Jvm.Cond.methodLink "ProphecyShop$SetupReader" (3 : Nat) ({ cls := "ProphecyShop$Reader", name := "<init>", desc := "(LProphecyShop$Text;)V" } : Jvm.MethodName)) ∈ lw_good := lw_g (List.mem_append_left _ (List.mem_append_right _ (List.mem_of_getElem? (i := 60) (by decide +kernel)))) (by decide +kernel)
theorem wg_61 : (Jvm.Cond.instanceMethod ({ cls := "ProphecyShop$Reader", name := "<init>", desc := "(LProphecyShop$Text;)V" } : Jvm.MethodName)) ∈ lw_good := lw_g (List.mem_append_left _ (List.mem_append_right _ (List.mem_of_getElem? (i := 61) (by decide +kernel)))) (by decide +kernel)
theorem wg_62 : (Jvm.Cond.code ({ cls := "ProphecyShop$Reader", name := "<init>", desc := "(LProphecyShop$Text;)V" } : Jvm.MethodName) prog_6_method_1_code (2 : Nat) (Option.none : Option Jvm.ClassFile.FieldType)) ∈ lw_good := lw_g (List.mem_append_left _ (List.mem_append_right _ (List.mem_of_getElem? (i := 62) (by decide +kernel)))) (by decide +kernel)
theorem wg_63 : (Jvm.Cond.methodLink "ProphecyShop$Reader" (3 : Nat) ({ cls := "java/lang/Object", name := "<init>", desc := "()V" } : Jvm.MethodName)) ∈ lw_good := lw_g (List.mem_append_left _ (List.mem_append_right _ (List.mem_of_getElem? (i := 63) (by decide +kernel)))) (by decide +kernel)
theorem wg_91 : (Jvm.Cond.classLink "ProphecyShop" (25 : Nat) "ProphecyShop$Script") ∈ lw_good := lw_g (List.mem_append_left _ (List.mem_append_right _ (List.mem_of_getElem? (i := 91) (by decide +kernel)))) (by decide +kernel)
theorem wg_92 : (Jvm.Cond.instantiable "ProphecyShop$Script" (11 : Nat)) ∈ lw_good := lw_g (List.mem_append_left _ (List.mem_append_right _ (List.mem_of_getElem? (i := 92) (by decide +kernel)))) (by decide +kernel)
theorem wg_93 : (Jvm.Cond.methodLink "ProphecyShop" (27 : Nat) ({ cls := "ProphecyShop$Script", name := "<init>", desc := "(LProphecyShop$Text;)V" } : Jvm.MethodName)) ∈ lw_good := lw_g (List.mem_append_left _ (List.mem_append_right _ (List.mem_of_getElem? (i := 93) (by decide +kernel)))) (by decide +kernel)
theorem wg_94 : (Jvm.Cond.instanceMethod ({ cls := "ProphecyShop$Script", name := "<init>", desc := "(LProphecyShop$Text;)V" } : Jvm.MethodName)) ∈ lw_good := lw_g (List.mem_append_left _ (List.mem_append_right _ (List.mem_of_getElem? (i := 94) (by decide +kernel)))) (by decide +kernel)
theorem wg_95 : (Jvm.Cond.code ({ cls := "ProphecyShop$Script", name := "<init>", desc := "(LProphecyShop$Text;)V" } : Jvm.MethodName) prog_7_method_1_code (3 : Nat) (Option.none : Option Jvm.ClassFile.FieldType)) ∈ lw_good := lw_g (List.mem_append_left _ (List.mem_append_right _ (List.mem_of_getElem? (i := 95) (by decide +kernel)))) (by decide +kernel)
theorem wg_96 : (Jvm.Cond.methodLink "ProphecyShop$Script" (3 : Nat) ({ cls := "ProphecyShop$Reader", name := "<init>", desc := "(LProphecyShop$Text;)V" } : Jvm.MethodName)) ∈ lw_good := lw_g (List.mem_append_left _ (List.mem_append_right _ (List.mem_of_getElem? (i := 96) (by decide +kernel)))) (by decide +kernel)
theorem wg_97 : (Jvm.Cond.classLink "ProphecyShop$Script" (11 : Nat) "ProphecyShop$Step") ∈ lw_good := lw_g (List.mem_append_left _ (List.mem_append_right _ (List.mem_of_getElem? (i := 97) (by decide +kernel)))) (by decide +kernel)
theorem wt_98 : (Jvm.Cond.arrayOver (Jvm.ClassFile.FieldType.object "ProphecyShop$Step")) ∈ lw_T := List.mem_append_left _ (List.mem_append_right _ (List.mem_of_getElem? (i := 98) (by decide +kernel)))
theorem wg_99 : (Jvm.Cond.instantiable "ProphecyShop$Step" (11 : Nat)) ∈ lw_good := lw_g (List.mem_append_left _ (List.mem_append_right _ (List.mem_of_getElem? (i := 99) (by decide +kernel)))) (by decide +kernel)
abbrev m_History_init : MI := (⟨"ProphecyShop$History", "<init>", "(LProphecyShop$Setup;)V"⟩, prog_2_method_1_code, 3, (Option.none : Option Jvm.ClassFile.FieldType), [])
theorem d_History_init_0 : decode prog_2_method_1_code 0 = .ok (.aload_n 0, 1) := by decide +kernel
theorem d_History_init_1 : decode prog_2_method_1_code 1 = .ok (.invokespecial 3, 3) := by decide +kernel
theorem d_History_init_4 : decode prog_2_method_1_code 4 = .ok (.aload_n 0, 1) := by decide +kernel
theorem d_History_init_5 : decode prog_2_method_1_code 5 = .ok (.bipush 8, 2) := by decide +kernel
theorem d_History_init_7 : decode prog_2_method_1_code 7 = .ok (.anewarray 9, 3) := by decide +kernel
theorem d_History_init_10 : decode prog_2_method_1_code 10 = .ok (.putfield 11, 3) := by decide +kernel
theorem d_History_init_13 : decode prog_2_method_1_code 13 = .ok (.aload_n 0, 1) := by decide +kernel
theorem d_History_init_14 : decode prog_2_method_1_code 14 = .ok (.iconst 0, 1) := by decide +kernel
theorem d_History_init_15 : decode prog_2_method_1_code 15 = .ok (.putfield 17, 3) := by decide +kernel
theorem d_History_init_18 : decode prog_2_method_1_code 18 = .ok (.iconst 0, 1) := by decide +kernel
theorem d_History_init_19 : decode prog_2_method_1_code 19 = .ok (.istore_n 2, 1) := by decide +kernel
theorem d_History_init_20 : decode prog_2_method_1_code 20 = .ok (.iload_n 2, 1) := by decide +kernel
theorem d_History_init_21 : decode prog_2_method_1_code 21 = .ok (.bipush 8, 2) := by decide +kernel
theorem d_History_init_23 : decode prog_2_method_1_code 23 = .ok (.if_icmp .ge 23, 3) := by decide +kernel
theorem d_History_init_26 : decode prog_2_method_1_code 26 = .ok (.aload_n 0, 1) := by decide +kernel
theorem d_History_init_27 : decode prog_2_method_1_code 27 = .ok (.getfield 11, 3) := by decide +kernel
theorem d_History_init_30 : decode prog_2_method_1_code 30 = .ok (.iload_n 2, 1) := by decide +kernel
theorem d_History_init_31 : decode prog_2_method_1_code 31 = .ok (.new 9, 3) := by decide +kernel
theorem d_History_init_34 : decode prog_2_method_1_code 34 = .ok (.dup, 1) := by decide +kernel
theorem d_History_init_35 : decode prog_2_method_1_code 35 = .ok (.aload_n 1, 1) := by decide +kernel
theorem d_History_init_36 : decode prog_2_method_1_code 36 = .ok (.invokespecial 21, 3) := by decide +kernel
theorem d_History_init_39 : decode prog_2_method_1_code 39 = .ok (.aastore, 1) := by decide +kernel
theorem d_History_init_40 : decode prog_2_method_1_code 40 = .ok (.iinc 2 1, 3) := by decide +kernel
theorem d_History_init_43 : decode prog_2_method_1_code 43 = .ok (.goto (-23), 3) := by decide +kernel
theorem d_History_init_46 : decode prog_2_method_1_code 46 = .ok (.return_, 1) := by decide +kernel
abbrev m_Names_init : MI := (⟨"ProphecyShop$Names", "<init>", "()V"⟩, prog_3_method_1_code, 1, (Option.none : Option Jvm.ClassFile.FieldType), [])
theorem d_Names_init_0 : decode prog_3_method_1_code 0 = .ok (.aload_n 0, 1) := by decide +kernel
theorem d_Names_init_1 : decode prog_3_method_1_code 1 = .ok (.invokespecial 3, 3) := by decide +kernel
theorem d_Names_init_4 : decode prog_3_method_1_code 4 = .ok (.aload_n 0, 1) := by decide +kernel
theorem d_Names_init_5 : decode prog_3_method_1_code 5 = .ok (.bipush 8, 2) := by decide +kernel
theorem d_Names_init_7 : decode prog_3_method_1_code 7 = .ok (.newarray .int, 2) := by decide +kernel
theorem d_Names_init_9 : decode prog_3_method_1_code 9 = .ok (.putfield 9, 3) := by decide +kernel
theorem d_Names_init_12 : decode prog_3_method_1_code 12 = .ok (.aload_n 0, 1) := by decide +kernel
theorem d_Names_init_13 : decode prog_3_method_1_code 13 = .ok (.iconst 0, 1) := by decide +kernel
theorem d_Names_init_14 : decode prog_3_method_1_code 14 = .ok (.putfield 15, 3) := by decide +kernel
theorem d_Names_init_17 : decode prog_3_method_1_code 17 = .ok (.return_, 1) := by decide +kernel
abbrev m_Owl_init : MI := (⟨"ProphecyShop$Owl", "<init>", "()V"⟩, prog_4_method_1_code, 1, (Option.none : Option Jvm.ClassFile.FieldType), [])
theorem d_Owl_init_0 : decode prog_4_method_1_code 0 = .ok (.aload_n 0, 1) := by decide +kernel
theorem d_Owl_init_1 : decode prog_4_method_1_code 1 = .ok (.invokespecial 3, 3) := by decide +kernel
theorem d_Owl_init_4 : decode prog_4_method_1_code 4 = .ok (.aload_n 0, 1) := by decide +kernel
theorem d_Owl_init_5 : decode prog_4_method_1_code 5 = .ok (.iconst 0, 1) := by decide +kernel
theorem d_Owl_init_6 : decode prog_4_method_1_code 6 = .ok (.putfield 9, 3) := by decide +kernel
theorem d_Owl_init_9 : decode prog_4_method_1_code 9 = .ok (.aload_n 0, 1) := by decide +kernel
theorem d_Owl_init_10 : decode prog_4_method_1_code 10 = .ok (.iconst 0, 1) := by decide +kernel
theorem d_Owl_init_11 : decode prog_4_method_1_code 11 = .ok (.putfield 15, 3) := by decide +kernel
theorem d_Owl_init_14 : decode prog_4_method_1_code 14 = .ok (.aload_n 0, 1) := by decide +kernel
theorem d_Owl_init_15 : decode prog_4_method_1_code 15 = .ok (.iconst 0, 1) := by decide +kernel
theorem d_Owl_init_16 : decode prog_4_method_1_code 16 = .ok (.putfield 18, 3) := by decide +kernel
theorem d_Owl_init_19 : decode prog_4_method_1_code 19 = .ok (.aload_n 0, 1) := by decide +kernel
theorem d_Owl_init_20 : decode prog_4_method_1_code 20 = .ok (.iconst 0, 1) := by decide +kernel
theorem d_Owl_init_21 : decode prog_4_method_1_code 21 = .ok (.putfield 21, 3) := by decide +kernel
theorem d_Owl_init_24 : decode prog_4_method_1_code 24 = .ok (.aload_n 0, 1) := by decide +kernel
theorem d_Owl_init_25 : decode prog_4_method_1_code 25 = .ok (.iconst 0, 1) := by decide +kernel
theorem d_Owl_init_26 : decode prog_4_method_1_code 26 = .ok (.putfield 24, 3) := by decide +kernel
theorem d_Owl_init_29 : decode prog_4_method_1_code 29 = .ok (.return_, 1) := by decide +kernel
abbrev m_Prophecy_init : MI := (⟨"ProphecyShop$Prophecy", "<init>", "()V"⟩, prog_5_method_1_code, 1, (Option.none : Option Jvm.ClassFile.FieldType), [])
theorem d_Prophecy_init_0 : decode prog_5_method_1_code 0 = .ok (.aload_n 0, 1) := by decide +kernel
theorem d_Prophecy_init_1 : decode prog_5_method_1_code 1 = .ok (.invokespecial 3, 3) := by decide +kernel
theorem d_Prophecy_init_4 : decode prog_5_method_1_code 4 = .ok (.aload_n 0, 1) := by decide +kernel
theorem d_Prophecy_init_5 : decode prog_5_method_1_code 5 = .ok (.iconst 0, 1) := by decide +kernel
theorem d_Prophecy_init_6 : decode prog_5_method_1_code 6 = .ok (.putfield 9, 3) := by decide +kernel
theorem d_Prophecy_init_9 : decode prog_5_method_1_code 9 = .ok (.aload_n 0, 1) := by decide +kernel
theorem d_Prophecy_init_10 : decode prog_5_method_1_code 10 = .ok (.iconst 0, 1) := by decide +kernel
theorem d_Prophecy_init_11 : decode prog_5_method_1_code 11 = .ok (.putfield 15, 3) := by decide +kernel
theorem d_Prophecy_init_14 : decode prog_5_method_1_code 14 = .ok (.aload_n 0, 1) := by decide +kernel
theorem d_Prophecy_init_15 : decode prog_5_method_1_code 15 = .ok (.iconst 0, 1) := by decide +kernel
theorem d_Prophecy_init_16 : decode prog_5_method_1_code 16 = .ok (.putfield 18, 3) := by decide +kernel
theorem d_Prophecy_init_19 : decode prog_5_method_1_code 19 = .ok (.aload_n 0, 1) := by decide +kernel
theorem d_Prophecy_init_20 : decode prog_5_method_1_code 20 = .ok (.iconst (-1), 1) := by decide +kernel
theorem d_Prophecy_init_21 : decode prog_5_method_1_code 21 = .ok (.putfield 21, 3) := by decide +kernel
theorem d_Prophecy_init_24 : decode prog_5_method_1_code 24 = .ok (.aload_n 0, 1) := by decide +kernel
theorem d_Prophecy_init_25 : decode prog_5_method_1_code 25 = .ok (.iconst 0, 1) := by decide +kernel
theorem d_Prophecy_init_26 : decode prog_5_method_1_code 26 = .ok (.putfield 24, 3) := by decide +kernel
theorem d_Prophecy_init_29 : decode prog_5_method_1_code 29 = .ok (.aload_n 0, 1) := by decide +kernel
theorem d_Prophecy_init_30 : decode prog_5_method_1_code 30 = .ok (.iconst 0, 1) := by decide +kernel
theorem d_Prophecy_init_31 : decode prog_5_method_1_code 31 = .ok (.putfield 27, 3) := by decide +kernel
theorem d_Prophecy_init_34 : decode prog_5_method_1_code 34 = .ok (.aload_n 0, 1) := by decide +kernel
theorem d_Prophecy_init_35 : decode prog_5_method_1_code 35 = .ok (.iconst 0, 1) := by decide +kernel
theorem d_Prophecy_init_36 : decode prog_5_method_1_code 36 = .ok (.putfield 30, 3) := by decide +kernel
theorem d_Prophecy_init_39 : decode prog_5_method_1_code 39 = .ok (.aload_n 0, 1) := by decide +kernel
theorem d_Prophecy_init_40 : decode prog_5_method_1_code 40 = .ok (.iconst 0, 1) := by decide +kernel
theorem d_Prophecy_init_41 : decode prog_5_method_1_code 41 = .ok (.putfield 33, 3) := by decide +kernel
theorem d_Prophecy_init_44 : decode prog_5_method_1_code 44 = .ok (.aload_n 0, 1) := by decide +kernel
theorem d_Prophecy_init_45 : decode prog_5_method_1_code 45 = .ok (.iconst 0, 1) := by decide +kernel
theorem d_Prophecy_init_46 : decode prog_5_method_1_code 46 = .ok (.putfield 36, 3) := by decide +kernel
theorem d_Prophecy_init_49 : decode prog_5_method_1_code 49 = .ok (.aload_n 0, 1) := by decide +kernel
theorem d_Prophecy_init_50 : decode prog_5_method_1_code 50 = .ok (.iconst 0, 1) := by decide +kernel
theorem d_Prophecy_init_51 : decode prog_5_method_1_code 51 = .ok (.putfield 39, 3) := by decide +kernel
theorem d_Prophecy_init_54 : decode prog_5_method_1_code 54 = .ok (.return_, 1) := by decide +kernel
abbrev m_Reader_init : MI := (⟨"ProphecyShop$Reader", "<init>", "(LProphecyShop$Text;)V"⟩, prog_6_method_1_code, 2, (Option.none : Option Jvm.ClassFile.FieldType), [])
theorem d_Reader_init_0 : decode prog_6_method_1_code 0 = .ok (.aload_n 0, 1) := by decide +kernel
theorem d_Reader_init_1 : decode prog_6_method_1_code 1 = .ok (.invokespecial 3, 3) := by decide +kernel
theorem d_Reader_init_4 : decode prog_6_method_1_code 4 = .ok (.aload_n 0, 1) := by decide +kernel
theorem d_Reader_init_5 : decode prog_6_method_1_code 5 = .ok (.iconst 0, 1) := by decide +kernel
theorem d_Reader_init_6 : decode prog_6_method_1_code 6 = .ok (.putfield 11, 3) := by decide +kernel
theorem d_Reader_init_9 : decode prog_6_method_1_code 9 = .ok (.aload_n 0, 1) := by decide +kernel
theorem d_Reader_init_10 : decode prog_6_method_1_code 10 = .ok (.iconst 0, 1) := by decide +kernel
theorem d_Reader_init_11 : decode prog_6_method_1_code 11 = .ok (.putfield 15, 3) := by decide +kernel
theorem d_Reader_init_14 : decode prog_6_method_1_code 14 = .ok (.aload_n 0, 1) := by decide +kernel
theorem d_Reader_init_15 : decode prog_6_method_1_code 15 = .ok (.iconst 0, 1) := by decide +kernel
theorem d_Reader_init_16 : decode prog_6_method_1_code 16 = .ok (.putfield 18, 3) := by decide +kernel
theorem d_Reader_init_19 : decode prog_6_method_1_code 19 = .ok (.aload_n 0, 1) := by decide +kernel
theorem d_Reader_init_20 : decode prog_6_method_1_code 20 = .ok (.iconst 0, 1) := by decide +kernel
theorem d_Reader_init_21 : decode prog_6_method_1_code 21 = .ok (.putfield 21, 3) := by decide +kernel
theorem d_Reader_init_24 : decode prog_6_method_1_code 24 = .ok (.aload_n 0, 1) := by decide +kernel
theorem d_Reader_init_25 : decode prog_6_method_1_code 25 = .ok (.iconst (-1), 1) := by decide +kernel
theorem d_Reader_init_26 : decode prog_6_method_1_code 26 = .ok (.putfield 24, 3) := by decide +kernel
theorem d_Reader_init_29 : decode prog_6_method_1_code 29 = .ok (.aload_n 0, 1) := by decide +kernel
theorem d_Reader_init_30 : decode prog_6_method_1_code 30 = .ok (.aload_n 1, 1) := by decide +kernel
theorem d_Reader_init_31 : decode prog_6_method_1_code 31 = .ok (.putfield 27, 3) := by decide +kernel
theorem d_Reader_init_34 : decode prog_6_method_1_code 34 = .ok (.return_, 1) := by decide +kernel
abbrev m_Script_init : MI := (⟨"ProphecyShop$Script", "<init>", "(LProphecyShop$Text;)V"⟩, prog_7_method_1_code, 3, (Option.none : Option Jvm.ClassFile.FieldType), [])
theorem d_Script_init_0 : decode prog_7_method_1_code 0 = .ok (.aload_n 0, 1) := by decide +kernel
theorem d_Script_init_1 : decode prog_7_method_1_code 1 = .ok (.aload_n 1, 1) := by decide +kernel
theorem d_Script_init_2 : decode prog_7_method_1_code 2 = .ok (.invokespecial 3, 3) := by decide +kernel
theorem d_Script_init_5 : decode prog_7_method_1_code 5 = .ok (.aload_n 0, 1) := by decide +kernel
theorem d_Script_init_6 : decode prog_7_method_1_code 6 = .ok (.bipush 60, 2) := by decide +kernel
theorem d_Script_init_8 : decode prog_7_method_1_code 8 = .ok (.anewarray 11, 3) := by decide +kernel
theorem d_Script_init_11 : decode prog_7_method_1_code 11 = .ok (.putfield 13, 3) := by decide +kernel
theorem d_Script_init_14 : decode prog_7_method_1_code 14 = .ok (.aload_n 0, 1) := by decide +kernel
theorem d_Script_init_15 : decode prog_7_method_1_code 15 = .ok (.iconst 0, 1) := by decide +kernel
theorem d_Script_init_16 : decode prog_7_method_1_code 16 = .ok (.putfield 17, 3) := by decide +kernel
theorem d_Script_init_19 : decode prog_7_method_1_code 19 = .ok (.aload_n 0, 1) := by decide +kernel
theorem d_Script_init_20 : decode prog_7_method_1_code 20 = .ok (.iconst 0, 1) := by decide +kernel
theorem d_Script_init_21 : decode prog_7_method_1_code 21 = .ok (.putfield 21, 3) := by decide +kernel
theorem d_Script_init_24 : decode prog_7_method_1_code 24 = .ok (.aload_n 0, 1) := by decide +kernel
theorem d_Script_init_25 : decode prog_7_method_1_code 25 = .ok (.iconst 2, 1) := by decide +kernel
theorem d_Script_init_26 : decode prog_7_method_1_code 26 = .ok (.newarray .int, 2) := by decide +kernel
theorem d_Script_init_28 : decode prog_7_method_1_code 28 = .ok (.putfield 24, 3) := by decide +kernel
theorem d_Script_init_31 : decode prog_7_method_1_code 31 = .ok (.aload_n 0, 1) := by decide +kernel
theorem d_Script_init_32 : decode prog_7_method_1_code 32 = .ok (.iconst 0, 1) := by decide +kernel
theorem d_Script_init_33 : decode prog_7_method_1_code 33 = .ok (.putfield 28, 3) := by decide +kernel
theorem d_Script_init_36 : decode prog_7_method_1_code 36 = .ok (.iconst 0, 1) := by decide +kernel
theorem d_Script_init_37 : decode prog_7_method_1_code 37 = .ok (.istore_n 2, 1) := by decide +kernel
theorem d_Script_init_38 : decode prog_7_method_1_code 38 = .ok (.iload_n 2, 1) := by decide +kernel
theorem d_Script_init_39 : decode prog_7_method_1_code 39 = .ok (.bipush 60, 2) := by decide +kernel
theorem d_Script_init_41 : decode prog_7_method_1_code 41 = .ok (.if_icmp .ge 22, 3) := by decide +kernel
theorem d_Script_init_44 : decode prog_7_method_1_code 44 = .ok (.aload_n 0, 1) := by decide +kernel
theorem d_Script_init_45 : decode prog_7_method_1_code 45 = .ok (.getfield 13, 3) := by decide +kernel
theorem d_Script_init_48 : decode prog_7_method_1_code 48 = .ok (.iload_n 2, 1) := by decide +kernel
theorem d_Script_init_49 : decode prog_7_method_1_code 49 = .ok (.new 11, 3) := by decide +kernel
theorem d_Script_init_52 : decode prog_7_method_1_code 52 = .ok (.dup, 1) := by decide +kernel
theorem d_Script_init_53 : decode prog_7_method_1_code 53 = .ok (.invokespecial 31, 3) := by decide +kernel
theorem d_Script_init_56 : decode prog_7_method_1_code 56 = .ok (.aastore, 1) := by decide +kernel
theorem d_Script_init_57 : decode prog_7_method_1_code 57 = .ok (.iinc 2 1, 3) := by decide +kernel
theorem d_Script_init_60 : decode prog_7_method_1_code 60 = .ok (.goto (-22), 3) := by decide +kernel
theorem d_Script_init_63 : decode prog_7_method_1_code 63 = .ok (.return_, 1) := by decide +kernel
abbrev m_Setup_init : MI := (⟨"ProphecyShop$Setup", "<init>", "()V"⟩, prog_8_method_1_code, 1, (Option.none : Option Jvm.ClassFile.FieldType), [])
theorem d_Setup_init_0 : decode prog_8_method_1_code 0 = .ok (.aload_n 0, 1) := by decide +kernel
theorem d_Setup_init_1 : decode prog_8_method_1_code 1 = .ok (.invokespecial 3, 3) := by decide +kernel
theorem d_Setup_init_4 : decode prog_8_method_1_code 4 = .ok (.aload_n 0, 1) := by decide +kernel
theorem d_Setup_init_5 : decode prog_8_method_1_code 5 = .ok (.iconst 0, 1) := by decide +kernel
theorem d_Setup_init_6 : decode prog_8_method_1_code 6 = .ok (.putfield 9, 3) := by decide +kernel
theorem d_Setup_init_9 : decode prog_8_method_1_code 9 = .ok (.aload_n 0, 1) := by decide +kernel
theorem d_Setup_init_10 : decode prog_8_method_1_code 10 = .ok (.iconst 0, 1) := by decide +kernel
theorem d_Setup_init_11 : decode prog_8_method_1_code 11 = .ok (.putfield 15, 3) := by decide +kernel
theorem d_Setup_init_14 : decode prog_8_method_1_code 14 = .ok (.aload_n 0, 1) := by decide +kernel
theorem d_Setup_init_15 : decode prog_8_method_1_code 15 = .ok (.iconst 0, 1) := by decide +kernel
theorem d_Setup_init_16 : decode prog_8_method_1_code 16 = .ok (.putfield 18, 3) := by decide +kernel
theorem d_Setup_init_19 : decode prog_8_method_1_code 19 = .ok (.aload_n 0, 1) := by decide +kernel
theorem d_Setup_init_20 : decode prog_8_method_1_code 20 = .ok (.iconst 0, 1) := by decide +kernel
theorem d_Setup_init_21 : decode prog_8_method_1_code 21 = .ok (.putfield 21, 3) := by decide +kernel
theorem d_Setup_init_24 : decode prog_8_method_1_code 24 = .ok (.aload_n 0, 1) := by decide +kernel
theorem d_Setup_init_25 : decode prog_8_method_1_code 25 = .ok (.iconst 0, 1) := by decide +kernel
theorem d_Setup_init_26 : decode prog_8_method_1_code 26 = .ok (.putfield 24, 3) := by decide +kernel
theorem d_Setup_init_29 : decode prog_8_method_1_code 29 = .ok (.aload_n 0, 1) := by decide +kernel
theorem d_Setup_init_30 : decode prog_8_method_1_code 30 = .ok (.new 27, 3) := by decide +kernel
theorem d_Setup_init_33 : decode prog_8_method_1_code 33 = .ok (.dup, 1) := by decide +kernel
theorem d_Setup_init_34 : decode prog_8_method_1_code 34 = .ok (.invokespecial 29, 3) := by decide +kernel
theorem d_Setup_init_37 : decode prog_8_method_1_code 37 = .ok (.putfield 30, 3) := by decide +kernel
theorem d_Setup_init_40 : decode prog_8_method_1_code 40 = .ok (.aload_n 0, 1) := by decide +kernel
theorem d_Setup_init_41 : decode prog_8_method_1_code 41 = .ok (.new 27, 3) := by decide +kernel
theorem d_Setup_init_44 : decode prog_8_method_1_code 44 = .ok (.dup, 1) := by decide +kernel
theorem d_Setup_init_45 : decode prog_8_method_1_code 45 = .ok (.invokespecial 29, 3) := by decide +kernel
theorem d_Setup_init_48 : decode prog_8_method_1_code 48 = .ok (.putfield 34, 3) := by decide +kernel
theorem d_Setup_init_51 : decode prog_8_method_1_code 51 = .ok (.aload_n 0, 1) := by decide +kernel
theorem d_Setup_init_52 : decode prog_8_method_1_code 52 = .ok (.new 27, 3) := by decide +kernel
theorem d_Setup_init_55 : decode prog_8_method_1_code 55 = .ok (.dup, 1) := by decide +kernel
theorem d_Setup_init_56 : decode prog_8_method_1_code 56 = .ok (.invokespecial 29, 3) := by decide +kernel
theorem d_Setup_init_59 : decode prog_8_method_1_code 59 = .ok (.putfield 37, 3) := by decide +kernel
theorem d_Setup_init_62 : decode prog_8_method_1_code 62 = .ok (.aload_n 0, 1) := by decide +kernel
theorem d_Setup_init_63 : decode prog_8_method_1_code 63 = .ok (.bipush 8, 2) := by decide +kernel
theorem d_Setup_init_65 : decode prog_8_method_1_code 65 = .ok (.newarray .int, 2) := by decide +kernel
theorem d_Setup_init_67 : decode prog_8_method_1_code 67 = .ok (.putfield 40, 3) := by decide +kernel
theorem d_Setup_init_70 : decode prog_8_method_1_code 70 = .ok (.aload_n 0, 1) := by decide +kernel
theorem d_Setup_init_71 : decode prog_8_method_1_code 71 = .ok (.bipush 8, 2) := by decide +kernel
theorem d_Setup_init_73 : decode prog_8_method_1_code 73 = .ok (.newarray .int, 2) := by decide +kernel
theorem d_Setup_init_75 : decode prog_8_method_1_code 75 = .ok (.putfield 44, 3) := by decide +kernel
theorem d_Setup_init_78 : decode prog_8_method_1_code 78 = .ok (.aload_n 0, 1) := by decide +kernel
theorem d_Setup_init_79 : decode prog_8_method_1_code 79 = .ok (.iconst 5, 1) := by decide +kernel
theorem d_Setup_init_80 : decode prog_8_method_1_code 80 = .ok (.newarray .int, 2) := by decide +kernel
theorem d_Setup_init_82 : decode prog_8_method_1_code 82 = .ok (.putfield 47, 3) := by decide +kernel
theorem d_Setup_init_85 : decode prog_8_method_1_code 85 = .ok (.aload_n 0, 1) := by decide +kernel
theorem d_Setup_init_86 : decode prog_8_method_1_code 86 = .ok (.iconst 0, 1) := by decide +kernel
theorem d_Setup_init_87 : decode prog_8_method_1_code 87 = .ok (.putfield 50, 3) := by decide +kernel
theorem d_Setup_init_90 : decode prog_8_method_1_code 90 = .ok (.return_, 1) := by decide +kernel
abbrev m_SetupReader_init : MI := (⟨"ProphecyShop$SetupReader", "<init>", "(LProphecyShop$Text;)V"⟩, prog_9_method_1_code, 2, (Option.none : Option Jvm.ClassFile.FieldType), [])
theorem d_SetupReader_init_0 : decode prog_9_method_1_code 0 = .ok (.aload_n 0, 1) := by decide +kernel
theorem d_SetupReader_init_1 : decode prog_9_method_1_code 1 = .ok (.aload_n 1, 1) := by decide +kernel
theorem d_SetupReader_init_2 : decode prog_9_method_1_code 2 = .ok (.invokespecial 3, 3) := by decide +kernel
theorem d_SetupReader_init_5 : decode prog_9_method_1_code 5 = .ok (.return_, 1) := by decide +kernel
abbrev m_Shop_init : MI := (⟨"ProphecyShop$Shop", "<init>", "(LProphecyShop$Setup;)V"⟩, prog_10_method_1_code, 3, (Option.none : Option Jvm.ClassFile.FieldType), [])
theorem d_Shop_init_0 : decode prog_10_method_1_code 0 = .ok (.aload_n 0, 1) := by decide +kernel
theorem d_Shop_init_1 : decode prog_10_method_1_code 1 = .ok (.invokespecial 3, 3) := by decide +kernel
theorem d_Shop_init_4 : decode prog_10_method_1_code 4 = .ok (.aload_n 0, 1) := by decide +kernel
theorem d_Shop_init_5 : decode prog_10_method_1_code 5 = .ok (.iconst 0, 1) := by decide +kernel
theorem d_Shop_init_6 : decode prog_10_method_1_code 6 = .ok (.putfield 9, 3) := by decide +kernel
theorem d_Shop_init_9 : decode prog_10_method_1_code 9 = .ok (.aload_n 0, 1) := by decide +kernel
theorem d_Shop_init_10 : decode prog_10_method_1_code 10 = .ok (.iconst 0, 1) := by decide +kernel
theorem d_Shop_init_11 : decode prog_10_method_1_code 11 = .ok (.putfield 15, 3) := by decide +kernel
theorem d_Shop_init_14 : decode prog_10_method_1_code 14 = .ok (.aload_n 0, 1) := by decide +kernel
theorem d_Shop_init_15 : decode prog_10_method_1_code 15 = .ok (.bipush 8, 2) := by decide +kernel
theorem d_Shop_init_17 : decode prog_10_method_1_code 17 = .ok (.newarray .int, 2) := by decide +kernel
theorem d_Shop_init_19 : decode prog_10_method_1_code 19 = .ok (.putfield 18, 3) := by decide +kernel
theorem d_Shop_init_22 : decode prog_10_method_1_code 22 = .ok (.aload_n 0, 1) := by decide +kernel
theorem d_Shop_init_23 : decode prog_10_method_1_code 23 = .ok (.bipush 24, 2) := by decide +kernel
theorem d_Shop_init_25 : decode prog_10_method_1_code 25 = .ok (.anewarray 22, 3) := by decide +kernel
theorem d_Shop_init_28 : decode prog_10_method_1_code 28 = .ok (.putfield 24, 3) := by decide +kernel
theorem d_Shop_init_31 : decode prog_10_method_1_code 31 = .ok (.aload_n 0, 1) := by decide +kernel
theorem d_Shop_init_32 : decode prog_10_method_1_code 32 = .ok (.iconst 0, 1) := by decide +kernel
theorem d_Shop_init_33 : decode prog_10_method_1_code 33 = .ok (.putfield 28, 3) := by decide +kernel
theorem d_Shop_init_36 : decode prog_10_method_1_code 36 = .ok (.aload_n 0, 1) := by decide +kernel
theorem d_Shop_init_37 : decode prog_10_method_1_code 37 = .ok (.iconst 5, 1) := by decide +kernel
theorem d_Shop_init_38 : decode prog_10_method_1_code 38 = .ok (.anewarray 31, 3) := by decide +kernel
theorem d_Shop_init_41 : decode prog_10_method_1_code 41 = .ok (.putfield 33, 3) := by decide +kernel
theorem d_Shop_init_44 : decode prog_10_method_1_code 44 = .ok (.aload_n 0, 1) := by decide +kernel
theorem d_Shop_init_45 : decode prog_10_method_1_code 45 = .ok (.bipush 24, 2) := by decide +kernel
theorem d_Shop_init_47 : decode prog_10_method_1_code 47 = .ok (.newarray .int, 2) := by decide +kernel
theorem d_Shop_init_49 : decode prog_10_method_1_code 49 = .ok (.putfield 37, 3) := by decide +kernel
theorem d_Shop_init_52 : decode prog_10_method_1_code 52 = .ok (.aload_n 0, 1) := by decide +kernel
theorem d_Shop_init_53 : decode prog_10_method_1_code 53 = .ok (.iconst 0, 1) := by decide +kernel
theorem d_Shop_init_54 : decode prog_10_method_1_code 54 = .ok (.putfield 40, 3) := by decide +kernel
theorem d_Shop_init_57 : decode prog_10_method_1_code 57 = .ok (.aload_n 0, 1) := by decide +kernel
theorem d_Shop_init_58 : decode prog_10_method_1_code 58 = .ok (.bipush 60, 2) := by decide +kernel
theorem d_Shop_init_60 : decode prog_10_method_1_code 60 = .ok (.newarray .int, 2) := by decide +kernel
theorem d_Shop_init_62 : decode prog_10_method_1_code 62 = .ok (.putfield 43, 3) := by decide +kernel
theorem d_Shop_init_65 : decode prog_10_method_1_code 65 = .ok (.aload_n 0, 1) := by decide +kernel
theorem d_Shop_init_66 : decode prog_10_method_1_code 66 = .ok (.bipush 60, 2) := by decide +kernel
theorem d_Shop_init_68 : decode prog_10_method_1_code 68 = .ok (.newarray .int, 2) := by decide +kernel
theorem d_Shop_init_70 : decode prog_10_method_1_code 70 = .ok (.putfield 46, 3) := by decide +kernel
theorem d_Shop_init_73 : decode prog_10_method_1_code 73 = .ok (.aload_n 0, 1) := by decide +kernel
theorem d_Shop_init_74 : decode prog_10_method_1_code 74 = .ok (.bipush 60, 2) := by decide +kernel
theorem d_Shop_init_76 : decode prog_10_method_1_code 76 = .ok (.newarray .int, 2) := by decide +kernel
theorem d_Shop_init_78 : decode prog_10_method_1_code 78 = .ok (.putfield 49, 3) := by decide +kernel
theorem d_Shop_init_81 : decode prog_10_method_1_code 81 = .ok (.aload_n 0, 1) := by decide +kernel
theorem d_Shop_init_82 : decode prog_10_method_1_code 82 = .ok (.iconst 0, 1) := by decide +kernel
theorem d_Shop_init_83 : decode prog_10_method_1_code 83 = .ok (.putfield 52, 3) := by decide +kernel
theorem d_Shop_init_86 : decode prog_10_method_1_code 86 = .ok (.aload_n 0, 1) := by decide +kernel
theorem d_Shop_init_87 : decode prog_10_method_1_code 87 = .ok (.iconst 0, 1) := by decide +kernel
theorem d_Shop_init_88 : decode prog_10_method_1_code 88 = .ok (.putfield 55, 3) := by decide +kernel
theorem d_Shop_init_91 : decode prog_10_method_1_code 91 = .ok (.aload_n 0, 1) := by decide +kernel
theorem d_Shop_init_92 : decode prog_10_method_1_code 92 = .ok (.iconst 0, 1) := by decide +kernel
theorem d_Shop_init_93 : decode prog_10_method_1_code 93 = .ok (.putfield 58, 3) := by decide +kernel
theorem d_Shop_init_96 : decode prog_10_method_1_code 96 = .ok (.aload_n 0, 1) := by decide +kernel
theorem d_Shop_init_97 : decode prog_10_method_1_code 97 = .ok (.aload_n 1, 1) := by decide +kernel
theorem d_Shop_init_98 : decode prog_10_method_1_code 98 = .ok (.putfield 61, 3) := by decide +kernel
theorem d_Shop_init_101 : decode prog_10_method_1_code 101 = .ok (.iconst 0, 1) := by decide +kernel
theorem d_Shop_init_102 : decode prog_10_method_1_code 102 = .ok (.istore_n 2, 1) := by decide +kernel
theorem d_Shop_init_103 : decode prog_10_method_1_code 103 = .ok (.iload_n 2, 1) := by decide +kernel
theorem d_Shop_init_104 : decode prog_10_method_1_code 104 = .ok (.bipush 24, 2) := by decide +kernel
theorem d_Shop_init_106 : decode prog_10_method_1_code 106 = .ok (.if_icmp .ge 22, 3) := by decide +kernel
theorem d_Shop_init_109 : decode prog_10_method_1_code 109 = .ok (.aload_n 0, 1) := by decide +kernel
theorem d_Shop_init_110 : decode prog_10_method_1_code 110 = .ok (.getfield 24, 3) := by decide +kernel
theorem d_Shop_init_113 : decode prog_10_method_1_code 113 = .ok (.iload_n 2, 1) := by decide +kernel
theorem d_Shop_init_114 : decode prog_10_method_1_code 114 = .ok (.new 22, 3) := by decide +kernel
theorem d_Shop_init_117 : decode prog_10_method_1_code 117 = .ok (.dup, 1) := by decide +kernel
theorem d_Shop_init_118 : decode prog_10_method_1_code 118 = .ok (.invokespecial 65, 3) := by decide +kernel
theorem d_Shop_init_121 : decode prog_10_method_1_code 121 = .ok (.aastore, 1) := by decide +kernel
theorem d_Shop_init_122 : decode prog_10_method_1_code 122 = .ok (.iinc 2 1, 3) := by decide +kernel
theorem d_Shop_init_125 : decode prog_10_method_1_code 125 = .ok (.goto (-22), 3) := by decide +kernel
theorem d_Shop_init_128 : decode prog_10_method_1_code 128 = .ok (.iconst 0, 1) := by decide +kernel
theorem d_Shop_init_129 : decode prog_10_method_1_code 129 = .ok (.istore_n 2, 1) := by decide +kernel
theorem d_Shop_init_130 : decode prog_10_method_1_code 130 = .ok (.iload_n 2, 1) := by decide +kernel
theorem d_Shop_init_131 : decode prog_10_method_1_code 131 = .ok (.iconst 5, 1) := by decide +kernel
theorem d_Shop_init_132 : decode prog_10_method_1_code 132 = .ok (.if_icmp .ge 22, 3) := by decide +kernel
theorem d_Shop_init_135 : decode prog_10_method_1_code 135 = .ok (.aload_n 0, 1) := by decide +kernel
theorem d_Shop_init_136 : decode prog_10_method_1_code 136 = .ok (.getfield 33, 3) := by decide +kernel
theorem d_Shop_init_139 : decode prog_10_method_1_code 139 = .ok (.iload_n 2, 1) := by decide +kernel
theorem d_Shop_init_140 : decode prog_10_method_1_code 140 = .ok (.new 31, 3) := by decide +kernel
theorem d_Shop_init_143 : decode prog_10_method_1_code 143 = .ok (.dup, 1) := by decide +kernel
theorem d_Shop_init_144 : decode prog_10_method_1_code 144 = .ok (.invokespecial 66, 3) := by decide +kernel
theorem d_Shop_init_147 : decode prog_10_method_1_code 147 = .ok (.aastore, 1) := by decide +kernel
theorem d_Shop_init_148 : decode prog_10_method_1_code 148 = .ok (.iinc 2 1, 3) := by decide +kernel
theorem d_Shop_init_151 : decode prog_10_method_1_code 151 = .ok (.goto (-21), 3) := by decide +kernel
theorem d_Shop_init_154 : decode prog_10_method_1_code 154 = .ok (.return_, 1) := by decide +kernel
abbrev m_Step_init : MI := (⟨"ProphecyShop$Step", "<init>", "()V"⟩, prog_11_method_1_code, 1, (Option.none : Option Jvm.ClassFile.FieldType), [])
theorem d_Step_init_0 : decode prog_11_method_1_code 0 = .ok (.aload_n 0, 1) := by decide +kernel
theorem d_Step_init_1 : decode prog_11_method_1_code 1 = .ok (.invokespecial 3, 3) := by decide +kernel
theorem d_Step_init_4 : decode prog_11_method_1_code 4 = .ok (.aload_n 0, 1) := by decide +kernel
theorem d_Step_init_5 : decode prog_11_method_1_code 5 = .ok (.iconst 0, 1) := by decide +kernel
theorem d_Step_init_6 : decode prog_11_method_1_code 6 = .ok (.putfield 11, 3) := by decide +kernel
theorem d_Step_init_9 : decode prog_11_method_1_code 9 = .ok (.aload_n 0, 1) := by decide +kernel
theorem d_Step_init_10 : decode prog_11_method_1_code 10 = .ok (.iconst 0, 1) := by decide +kernel
theorem d_Step_init_11 : decode prog_11_method_1_code 11 = .ok (.putfield 15, 3) := by decide +kernel
theorem d_Step_init_14 : decode prog_11_method_1_code 14 = .ok (.aload_n 0, 1) := by decide +kernel
theorem d_Step_init_15 : decode prog_11_method_1_code 15 = .ok (.iconst 0, 1) := by decide +kernel
theorem d_Step_init_16 : decode prog_11_method_1_code 16 = .ok (.putfield 18, 3) := by decide +kernel
theorem d_Step_init_19 : decode prog_11_method_1_code 19 = .ok (.aload_n 0, 1) := by decide +kernel
theorem d_Step_init_20 : decode prog_11_method_1_code 20 = .ok (.iconst 0, 1) := by decide +kernel
theorem d_Step_init_21 : decode prog_11_method_1_code 21 = .ok (.putfield 21, 3) := by decide +kernel
theorem d_Step_init_24 : decode prog_11_method_1_code 24 = .ok (.aload_n 0, 1) := by decide +kernel
theorem d_Step_init_25 : decode prog_11_method_1_code 25 = .ok (.iconst (-1), 1) := by decide +kernel
theorem d_Step_init_26 : decode prog_11_method_1_code 26 = .ok (.putfield 24, 3) := by decide +kernel
theorem d_Step_init_29 : decode prog_11_method_1_code 29 = .ok (.aload_n 0, 1) := by decide +kernel
theorem d_Step_init_30 : decode prog_11_method_1_code 30 = .ok (.iconst 0, 1) := by decide +kernel
theorem d_Step_init_31 : decode prog_11_method_1_code 31 = .ok (.putfield 27, 3) := by decide +kernel
theorem d_Step_init_34 : decode prog_11_method_1_code 34 = .ok (.aload_n 0, 1) := by decide +kernel
theorem d_Step_init_35 : decode prog_11_method_1_code 35 = .ok (.iconst 0, 1) := by decide +kernel
theorem d_Step_init_36 : decode prog_11_method_1_code 36 = .ok (.putfield 30, 3) := by decide +kernel
theorem d_Step_init_39 : decode prog_11_method_1_code 39 = .ok (.aload_n 0, 1) := by decide +kernel
theorem d_Step_init_40 : decode prog_11_method_1_code 40 = .ok (.iconst 0, 1) := by decide +kernel
theorem d_Step_init_41 : decode prog_11_method_1_code 41 = .ok (.putfield 33, 3) := by decide +kernel
theorem d_Step_init_44 : decode prog_11_method_1_code 44 = .ok (.aload_n 0, 1) := by decide +kernel
theorem d_Step_init_45 : decode prog_11_method_1_code 45 = .ok (.iconst 0, 1) := by decide +kernel
theorem d_Step_init_46 : decode prog_11_method_1_code 46 = .ok (.putfield 36, 3) := by decide +kernel
theorem d_Step_init_49 : decode prog_11_method_1_code 49 = .ok (.aload_n 0, 1) := by decide +kernel
theorem d_Step_init_50 : decode prog_11_method_1_code 50 = .ok (.iconst 0, 1) := by decide +kernel
theorem d_Step_init_51 : decode prog_11_method_1_code 51 = .ok (.putfield 39, 3) := by decide +kernel
theorem d_Step_init_54 : decode prog_11_method_1_code 54 = .ok (.aload_n 0, 1) := by decide +kernel
theorem d_Step_init_55 : decode prog_11_method_1_code 55 = .ok (.iconst 0, 1) := by decide +kernel
theorem d_Step_init_56 : decode prog_11_method_1_code 56 = .ok (.putfield 42, 3) := by decide +kernel
theorem d_Step_init_59 : decode prog_11_method_1_code 59 = .ok (.return_, 1) := by decide +kernel
abbrev m_Text_init : MI := (⟨"ProphecyShop$Text", "<init>", "()V"⟩, prog_12_method_1_code, 1, (Option.none : Option Jvm.ClassFile.FieldType), [])
theorem d_Text_init_0 : decode prog_12_method_1_code 0 = .ok (.aload_n 0, 1) := by decide +kernel
theorem d_Text_init_1 : decode prog_12_method_1_code 1 = .ok (.invokespecial 3, 3) := by decide +kernel
theorem d_Text_init_4 : decode prog_12_method_1_code 4 = .ok (.aload_n 0, 1) := by decide +kernel
theorem d_Text_init_5 : decode prog_12_method_1_code 5 = .ok (.sipush 800, 3) := by decide +kernel
theorem d_Text_init_8 : decode prog_12_method_1_code 8 = .ok (.newarray .int, 2) := by decide +kernel
theorem d_Text_init_10 : decode prog_12_method_1_code 10 = .ok (.putfield 9, 3) := by decide +kernel
theorem d_Text_init_13 : decode prog_12_method_1_code 13 = .ok (.aload_n 0, 1) := by decide +kernel
theorem d_Text_init_14 : decode prog_12_method_1_code 14 = .ok (.iconst 0, 1) := by decide +kernel
theorem d_Text_init_15 : decode prog_12_method_1_code 15 = .ok (.putfield 15, 3) := by decide +kernel
theorem d_Text_init_18 : decode prog_12_method_1_code 18 = .ok (.return_, 1) := by decide +kernel
abbrev m_P_init : MI := (⟨"ProphecyShop", "<init>", "()V"⟩, prog_1_method_1_code, 2, (Option.none : Option Jvm.ClassFile.FieldType), [])
theorem d_P_init_0 : decode prog_1_method_1_code 0 = .ok (.aload_n 0, 1) := by decide +kernel
theorem d_P_init_1 : decode prog_1_method_1_code 1 = .ok (.invokespecial 1, 3) := by decide +kernel
theorem d_P_init_4 : decode prog_1_method_1_code 4 = .ok (.aload_n 0, 1) := by decide +kernel
theorem d_P_init_5 : decode prog_1_method_1_code 5 = .ok (.new 7, 3) := by decide +kernel
theorem d_P_init_8 : decode prog_1_method_1_code 8 = .ok (.dup, 1) := by decide +kernel
theorem d_P_init_9 : decode prog_1_method_1_code 9 = .ok (.invokespecial 9, 3) := by decide +kernel
theorem d_P_init_12 : decode prog_1_method_1_code 12 = .ok (.putfield 10, 3) := by decide +kernel
theorem d_P_init_15 : decode prog_1_method_1_code 15 = .ok (.aload_n 0, 1) := by decide +kernel
theorem d_P_init_16 : decode prog_1_method_1_code 16 = .ok (.new 16, 3) := by decide +kernel
theorem d_P_init_19 : decode prog_1_method_1_code 19 = .ok (.dup, 1) := by decide +kernel
theorem d_P_init_20 : decode prog_1_method_1_code 20 = .ok (.aload_n 0, 1) := by decide +kernel
theorem d_P_init_21 : decode prog_1_method_1_code 21 = .ok (.getfield 10, 3) := by decide +kernel
theorem d_P_init_24 : decode prog_1_method_1_code 24 = .ok (.invokespecial 18, 3) := by decide +kernel
theorem d_P_init_27 : decode prog_1_method_1_code 27 = .ok (.putfield 21, 3) := by decide +kernel
theorem d_P_init_30 : decode prog_1_method_1_code 30 = .ok (.aload_n 0, 1) := by decide +kernel
theorem d_P_init_31 : decode prog_1_method_1_code 31 = .ok (.new 25, 3) := by decide +kernel
theorem d_P_init_34 : decode prog_1_method_1_code 34 = .ok (.dup, 1) := by decide +kernel
theorem d_P_init_35 : decode prog_1_method_1_code 35 = .ok (.aload_n 0, 1) := by decide +kernel
theorem d_P_init_36 : decode prog_1_method_1_code 36 = .ok (.getfield 10, 3) := by decide +kernel
theorem d_P_init_39 : decode prog_1_method_1_code 39 = .ok (.invokespecial 27, 3) := by decide +kernel
theorem d_P_init_42 : decode prog_1_method_1_code 42 = .ok (.putfield 28, 3) := by decide +kernel
theorem d_P_init_45 : decode prog_1_method_1_code 45 = .ok (.aload_n 0, 1) := by decide +kernel
theorem d_P_init_46 : decode prog_1_method_1_code 46 = .ok (.new 32, 3) := by decide +kernel
theorem d_P_init_49 : decode prog_1_method_1_code 49 = .ok (.dup, 1) := by decide +kernel
theorem d_P_init_50 : decode prog_1_method_1_code 50 = .ok (.invokespecial 34, 3) := by decide +kernel
theorem d_P_init_53 : decode prog_1_method_1_code 53 = .ok (.putfield 35, 3) := by decide +kernel
theorem d_P_init_56 : decode prog_1_method_1_code 56 = .ok (.aload_n 0, 1) := by decide +kernel
theorem d_P_init_57 : decode prog_1_method_1_code 57 = .ok (.new 32, 3) := by decide +kernel
theorem d_P_init_60 : decode prog_1_method_1_code 60 = .ok (.dup, 1) := by decide +kernel
theorem d_P_init_61 : decode prog_1_method_1_code 61 = .ok (.invokespecial 34, 3) := by decide +kernel
theorem d_P_init_64 : decode prog_1_method_1_code 64 = .ok (.putfield 39, 3) := by decide +kernel
theorem d_P_init_67 : decode prog_1_method_1_code 67 = .ok (.aload_n 0, 1) := by decide +kernel
theorem d_P_init_68 : decode prog_1_method_1_code 68 = .ok (.new 42, 3) := by decide +kernel
theorem d_P_init_71 : decode prog_1_method_1_code 71 = .ok (.dup, 1) := by decide +kernel
theorem d_P_init_72 : decode prog_1_method_1_code 72 = .ok (.aload_n 0, 1) := by decide +kernel
theorem d_P_init_73 : decode prog_1_method_1_code 73 = .ok (.getfield 35, 3) := by decide +kernel
theorem d_P_init_76 : decode prog_1_method_1_code 76 = .ok (.invokespecial 44, 3) := by decide +kernel
theorem d_P_init_79 : decode prog_1_method_1_code 79 = .ok (.putfield 47, 3) := by decide +kernel
theorem d_P_init_82 : decode prog_1_method_1_code 82 = .ok (.aload_n 0, 1) := by decide +kernel
theorem d_P_init_83 : decode prog_1_method_1_code 83 = .ok (.new 42, 3) := by decide +kernel
theorem d_P_init_86 : decode prog_1_method_1_code 86 = .ok (.dup, 1) := by decide +kernel
theorem d_P_init_87 : decode prog_1_method_1_code 87 = .ok (.aload_n 0, 1) := by decide +kernel
theorem d_P_init_88 : decode prog_1_method_1_code 88 = .ok (.getfield 35, 3) := by decide +kernel
theorem d_P_init_91 : decode prog_1_method_1_code 91 = .ok (.invokespecial 44, 3) := by decide +kernel
theorem d_P_init_94 : decode prog_1_method_1_code 94 = .ok (.putfield 51, 3) := by decide +kernel
theorem d_P_init_97 : decode prog_1_method_1_code 97 = .ok (.aload_n 0, 1) := by decide +kernel
theorem d_P_init_98 : decode prog_1_method_1_code 98 = .ok (.new 54, 3) := by decide +kernel
theorem d_P_init_101 : decode prog_1_method_1_code 101 = .ok (.dup, 1) := by decide +kernel
theorem d_P_init_102 : decode prog_1_method_1_code 102 = .ok (.aload_n 0, 1) := by decide +kernel
theorem d_P_init_103 : decode prog_1_method_1_code 103 = .ok (.getfield 35, 3) := by decide +kernel
theorem d_P_init_106 : decode prog_1_method_1_code 106 = .ok (.invokespecial 56, 3) := by decide +kernel
theorem d_P_init_109 : decode prog_1_method_1_code 109 = .ok (.putfield 57, 3) := by decide +kernel
theorem d_P_init_112 : decode prog_1_method_1_code 112 = .ok (.aload_n 0, 1) := by decide +kernel
theorem d_P_init_113 : decode prog_1_method_1_code 113 = .ok (.iconst 2, 1) := by decide +kernel
theorem d_P_init_114 : decode prog_1_method_1_code 114 = .ok (.anewarray 42, 3) := by decide +kernel
theorem d_P_init_117 : decode prog_1_method_1_code 117 = .ok (.putfield 61, 3) := by decide +kernel
theorem d_P_init_120 : decode prog_1_method_1_code 120 = .ok (.aload_n 0, 1) := by decide +kernel
theorem d_P_init_121 : decode prog_1_method_1_code 121 = .ok (.iconst 2, 1) := by decide +kernel
theorem d_P_init_122 : decode prog_1_method_1_code 122 = .ok (.newarray .boolean, 2) := by decide +kernel
theorem d_P_init_124 : decode prog_1_method_1_code 124 = .ok (.putfield 65, 3) := by decide +kernel
theorem d_P_init_127 : decode prog_1_method_1_code 127 = .ok (.aload_n 0, 1) := by decide +kernel
theorem d_P_init_128 : decode prog_1_method_1_code 128 = .ok (.iconst 0, 1) := by decide +kernel
theorem d_P_init_129 : decode prog_1_method_1_code 129 = .ok (.putfield 69, 3) := by decide +kernel
theorem d_P_init_132 : decode prog_1_method_1_code 132 = .ok (.aload_n 0, 1) := by decide +kernel
theorem d_P_init_133 : decode prog_1_method_1_code 133 = .ok (.iconst (-1), 1) := by decide +kernel
theorem d_P_init_134 : decode prog_1_method_1_code 134 = .ok (.putfield 73, 3) := by decide +kernel
theorem d_P_init_137 : decode prog_1_method_1_code 137 = .ok (.aload_n 0, 1) := by decide +kernel
theorem d_P_init_138 : decode prog_1_method_1_code 138 = .ok (.ldc 76, 2) := by decide +kernel
theorem d_P_init_140 : decode prog_1_method_1_code 140 = .ok (.putfield 78, 3) := by decide +kernel
theorem d_P_init_143 : decode prog_1_method_1_code 143 = .ok (.iconst 0, 1) := by decide +kernel
theorem d_P_init_144 : decode prog_1_method_1_code 144 = .ok (.istore_n 1, 1) := by decide +kernel
theorem d_P_init_145 : decode prog_1_method_1_code 145 = .ok (.iload_n 1, 1) := by decide +kernel
theorem d_P_init_146 : decode prog_1_method_1_code 146 = .ok (.iconst 2, 1) := by decide +kernel
theorem d_P_init_147 : decode prog_1_method_1_code 147 = .ok (.if_icmp .ge 26, 3) := by decide +kernel
theorem d_P_init_150 : decode prog_1_method_1_code 150 = .ok (.aload_n 0, 1) := by decide +kernel
theorem d_P_init_151 : decode prog_1_method_1_code 151 = .ok (.getfield 61, 3) := by decide +kernel
theorem d_P_init_154 : decode prog_1_method_1_code 154 = .ok (.iload_n 1, 1) := by decide +kernel
theorem d_P_init_155 : decode prog_1_method_1_code 155 = .ok (.new 42, 3) := by decide +kernel
theorem d_P_init_158 : decode prog_1_method_1_code 158 = .ok (.dup, 1) := by decide +kernel
theorem d_P_init_159 : decode prog_1_method_1_code 159 = .ok (.aload_n 0, 1) := by decide +kernel
theorem d_P_init_160 : decode prog_1_method_1_code 160 = .ok (.getfield 35, 3) := by decide +kernel
theorem d_P_init_163 : decode prog_1_method_1_code 163 = .ok (.invokespecial 44, 3) := by decide +kernel
theorem d_P_init_166 : decode prog_1_method_1_code 166 = .ok (.aastore, 1) := by decide +kernel
theorem d_P_init_167 : decode prog_1_method_1_code 167 = .ok (.iinc 1 1, 3) := by decide +kernel
theorem d_P_init_170 : decode prog_1_method_1_code 170 = .ok (.goto (-25), 3) := by decide +kernel
theorem d_P_init_173 : decode prog_1_method_1_code 173 = .ok (.iconst 0, 1) := by decide +kernel
theorem d_P_init_174 : decode prog_1_method_1_code 174 = .ok (.istore_n 1, 1) := by decide +kernel
theorem d_P_init_175 : decode prog_1_method_1_code 175 = .ok (.iload_n 1, 1) := by decide +kernel
theorem d_P_init_176 : decode prog_1_method_1_code 176 = .ok (.ldc 82, 2) := by decide +kernel
theorem d_P_init_178 : decode prog_1_method_1_code 178 = .ok (.invokevirtual 84, 3) := by decide +kernel
theorem d_P_init_181 : decode prog_1_method_1_code 181 = .ok (.if_icmp .ge 22, 3) := by decide +kernel
theorem d_P_init_184 : decode prog_1_method_1_code 184 = .ok (.aload_n 0, 1) := by decide +kernel
theorem d_P_init_185 : decode prog_1_method_1_code 185 = .ok (.getfield 10, 3) := by decide +kernel
theorem d_P_init_188 : decode prog_1_method_1_code 188 = .ok (.ldc 82, 2) := by decide +kernel
theorem d_P_init_190 : decode prog_1_method_1_code 190 = .ok (.iload_n 1, 1) := by decide +kernel
theorem d_P_init_191 : decode prog_1_method_1_code 191 = .ok (.invokevirtual 90, 3) := by decide +kernel
theorem d_P_init_194 : decode prog_1_method_1_code 194 = .ok (.invokevirtual 94, 3) := by decide +kernel
theorem d_P_init_197 : decode prog_1_method_1_code 197 = .ok (.iinc 1 1, 3) := by decide +kernel
theorem d_P_init_200 : decode prog_1_method_1_code 200 = .ok (.goto (-25), 3) := by decide +kernel
theorem d_P_init_203 : decode prog_1_method_1_code 203 = .ok (.aload_n 0, 1) := by decide +kernel
theorem d_P_init_204 : decode prog_1_method_1_code 204 = .ok (.invokevirtual 98, 3) := by decide +kernel
theorem d_P_init_207 : decode prog_1_method_1_code 207 = .ok (.pop, 1) := by decide +kernel
theorem d_P_init_208 : decode prog_1_method_1_code 208 = .ok (.return_, 1) := by decide +kernel
abbrev m_R_init : MI := (⟨"ProphecyShopModel", "<init>", "()V"⟩, prog_14_method_1_code, 1, (Option.none : Option Jvm.ClassFile.FieldType), [])
theorem d_R_init_0 : decode prog_14_method_1_code 0 = .ok (.aload_n 0, 1) := by decide +kernel
theorem d_R_init_1 : decode prog_14_method_1_code 1 = .ok (.invokespecial 1, 3) := by decide +kernel
theorem d_R_init_4 : decode prog_14_method_1_code 4 = .ok (.aload_n 0, 1) := by decide +kernel
theorem d_R_init_5 : decode prog_14_method_1_code 5 = .ok (.sipush 524, 3) := by decide +kernel
theorem d_R_init_8 : decode prog_14_method_1_code 8 = .ok (.newarray .int, 2) := by decide +kernel
theorem d_R_init_10 : decode prog_14_method_1_code 10 = .ok (.putfield 7, 3) := by decide +kernel
theorem d_R_init_13 : decode prog_14_method_1_code 13 = .ok (.aload_n 0, 1) := by decide +kernel
theorem d_R_init_14 : decode prog_14_method_1_code 14 = .ok (.sipush 524, 3) := by decide +kernel
theorem d_R_init_17 : decode prog_14_method_1_code 17 = .ok (.newarray .int, 2) := by decide +kernel
theorem d_R_init_19 : decode prog_14_method_1_code 19 = .ok (.putfield 13, 3) := by decide +kernel
theorem d_R_init_22 : decode prog_14_method_1_code 22 = .ok (.aload_n 0, 1) := by decide +kernel
theorem d_R_init_23 : decode prog_14_method_1_code 23 = .ok (.sipush 524, 3) := by decide +kernel
theorem d_R_init_26 : decode prog_14_method_1_code 26 = .ok (.newarray .int, 2) := by decide +kernel
theorem d_R_init_28 : decode prog_14_method_1_code 28 = .ok (.putfield 16, 3) := by decide +kernel
theorem d_R_init_31 : decode prog_14_method_1_code 31 = .ok (.aload_n 0, 1) := by decide +kernel
theorem d_R_init_32 : decode prog_14_method_1_code 32 = .ok (.sipush 4192, 3) := by decide +kernel
theorem d_R_init_35 : decode prog_14_method_1_code 35 = .ok (.newarray .int, 2) := by decide +kernel
theorem d_R_init_37 : decode prog_14_method_1_code 37 = .ok (.putfield 19, 3) := by decide +kernel
theorem d_R_init_40 : decode prog_14_method_1_code 40 = .ok (.aload_n 0, 1) := by decide +kernel
theorem d_R_init_41 : decode prog_14_method_1_code 41 = .ok (.sipush 1048, 3) := by decide +kernel
theorem d_R_init_44 : decode prog_14_method_1_code 44 = .ok (.newarray .int, 2) := by decide +kernel
theorem d_R_init_46 : decode prog_14_method_1_code 46 = .ok (.putfield 22, 3) := by decide +kernel
theorem d_R_init_49 : decode prog_14_method_1_code 49 = .ok (.aload_n 0, 1) := by decide +kernel
theorem d_R_init_50 : decode prog_14_method_1_code 50 = .ok (.iconst 2, 1) := by decide +kernel
theorem d_R_init_51 : decode prog_14_method_1_code 51 = .ok (.newarray .boolean, 2) := by decide +kernel
theorem d_R_init_53 : decode prog_14_method_1_code 53 = .ok (.putfield 25, 3) := by decide +kernel
theorem d_R_init_56 : decode prog_14_method_1_code 56 = .ok (.aload_n 0, 1) := by decide +kernel
theorem d_R_init_57 : decode prog_14_method_1_code 57 = .ok (.sipush 800, 3) := by decide +kernel
theorem d_R_init_60 : decode prog_14_method_1_code 60 = .ok (.newarray .int, 2) := by decide +kernel
theorem d_R_init_62 : decode prog_14_method_1_code 62 = .ok (.putfield 29, 3) := by decide +kernel
theorem d_R_init_65 : decode prog_14_method_1_code 65 = .ok (.aload_n 0, 1) := by decide +kernel
theorem d_R_init_66 : decode prog_14_method_1_code 66 = .ok (.iconst (-1), 1) := by decide +kernel
theorem d_R_init_67 : decode prog_14_method_1_code 67 = .ok (.putfield 32, 3) := by decide +kernel
theorem d_R_init_70 : decode prog_14_method_1_code 70 = .ok (.aload_n 0, 1) := by decide +kernel
theorem d_R_init_71 : decode prog_14_method_1_code 71 = .ok (.bipush 30, 2) := by decide +kernel
theorem d_R_init_73 : decode prog_14_method_1_code 73 = .ok (.newarray .int, 2) := by decide +kernel
theorem d_R_init_75 : decode prog_14_method_1_code 75 = .ok (.putfield 36, 3) := by decide +kernel
theorem d_R_init_78 : decode prog_14_method_1_code 78 = .ok (.aload_n 0, 1) := by decide +kernel
theorem d_R_init_79 : decode prog_14_method_1_code 79 = .ok (.sipush 210, 3) := by decide +kernel
theorem d_R_init_82 : decode prog_14_method_1_code 82 = .ok (.newarray .int, 2) := by decide +kernel
theorem d_R_init_84 : decode prog_14_method_1_code 84 = .ok (.putfield 39, 3) := by decide +kernel
theorem d_R_init_87 : decode prog_14_method_1_code 87 = .ok (.aload_n 0, 1) := by decide +kernel
theorem d_R_init_88 : decode prog_14_method_1_code 88 = .ok (.sipush 200, 3) := by decide +kernel
theorem d_R_init_91 : decode prog_14_method_1_code 91 = .ok (.newarray .int, 2) := by decide +kernel
theorem d_R_init_93 : decode prog_14_method_1_code 93 = .ok (.putfield 42, 3) := by decide +kernel
theorem d_R_init_96 : decode prog_14_method_1_code 96 = .ok (.aload_n 0, 1) := by decide +kernel
theorem d_R_init_97 : decode prog_14_method_1_code 97 = .ok (.bipush 8, 2) := by decide +kernel
theorem d_R_init_99 : decode prog_14_method_1_code 99 = .ok (.newarray .int, 2) := by decide +kernel
theorem d_R_init_101 : decode prog_14_method_1_code 101 = .ok (.putfield 45, 3) := by decide +kernel
theorem d_R_init_104 : decode prog_14_method_1_code 104 = .ok (.aload_n 0, 1) := by decide +kernel
theorem d_R_init_105 : decode prog_14_method_1_code 105 = .ok (.ldc 48, 2) := by decide +kernel
theorem d_R_init_107 : decode prog_14_method_1_code 107 = .ok (.invokevirtual 50, 3) := by decide +kernel
theorem d_R_init_110 : decode prog_14_method_1_code 110 = .ok (.return_, 1) := by decide +kernel
theorem hd_History_init : hd0 m_History_init 1 := hd0_of (by decide +kernel) (by decide +kernel) (by decide +kernel) rfl rfl wg_399
theorem hd_Names_init : hd0 m_Names_init 0 := hd0_of (by decide +kernel) (by decide +kernel) (by decide +kernel) rfl rfl wg_181
theorem hd_Owl_init : hd0 m_Owl_init 0 := hd0_of (by decide +kernel) (by decide +kernel) (by decide +kernel) rfl rfl wg_321
theorem hd_Prophecy_init : hd0 m_Prophecy_init 0 := hd0_of (by decide +kernel) (by decide +kernel) (by decide +kernel) rfl rfl wg_266
theorem hd_Reader_init : hd0 m_Reader_init 1 := hd0_of (by decide +kernel) (by decide +kernel) (by decide +kernel) rfl rfl wg_62
theorem hd_Script_init : hd0 m_Script_init 1 := hd0_of (by decide +kernel) (by decide +kernel) (by decide +kernel) rfl rfl wg_95
theorem hd_Setup_init : hd0 m_Setup_init 0 := hd0_of (by decide +kernel) (by decide +kernel) (by decide +kernel) rfl rfl wg_175
theorem hd_SetupReader_init : hd0 m_SetupReader_init 1 := hd0_of (by decide +kernel) (by decide +kernel) (by decide +kernel) rfl rfl wg_59
theorem hd_Shop_init : hd0 m_Shop_init 1 := hd0_of (by decide +kernel) (by decide +kernel) (by decide +kernel) rfl rfl wg_257
theorem hd_Step_init : hd0 m_Step_init 0 := hd0_of (by decide +kernel) (by decide +kernel) (by decide +kernel) rfl rfl wg_102
theorem hd_Text_init : hd0 m_Text_init 0 := hd0_of (by decide +kernel) (by decide +kernel) (by decide +kernel) rfl rfl wg_45
theorem hd_P_init : hd0 m_P_init 0 := hd0_of (by decide +kernel) (by decide +kernel) (by decide +kernel) rfl rfl wg_37
theorem hd_R_init : hd0 m_R_init 0 := hd0_of (by decide +kernel) (by decide +kernel) (by decide +kernel) rfl rfl wg_1694
theorem hd_R_takesText : hd0 m_R_takesText 1 := hd0_of (by decide +kernel) (by decide +kernel) (by decide +kernel) rfl rfl wg_1700
theorem fl_History_11_2 : FL "ProphecyShop$History" 11 2 0 true (tyX0 0) := ⟨_, _, _, _, "ProphecyShop$History", coC_2, by decide, wg_404, Or.inl rfl, rfl, (fun _ => rfl), rfl⟩
theorem fl_Names_9_3 : FL "ProphecyShop$Names" 9 3 0 true (tyX1 0) := ⟨_, _, _, _, "ProphecyShop$Names", coC_3, by decide, wg_183, Or.inl rfl, rfl, (fun _ => rfl), rfl⟩
theorem fl_Reader_27_6 : FL "ProphecyShop$Reader" 27 6 0 true (tyX5 0) := ⟨_, _, _, _, "ProphecyShop$Reader", coC_6, by decide, wg_64, Or.inl rfl, rfl, (fun _ => rfl), rfl⟩
theorem fl_Reader_27_8 : FL "ProphecyShop$Reader" 27 8 0 true (tyX7 0) := ⟨_, _, _, _, "ProphecyShop$Reader", coC_8, by decide, wg_64, Or.inl rfl, rfl, (fun _ => rfl), rfl⟩
theorem fl_Script_13_6 : FL "ProphecyShop$Script" 13 6 6 true (tyX5 6) := ⟨_, _, _, _, "ProphecyShop$Script", coC_6, by decide, wg_149, Or.inl rfl, rfl, (fun _ => rfl), rfl⟩
theorem fl_Script_24_6 : FL "ProphecyShop$Script" 24 6 9 true (tyX5 9) := ⟨_, _, _, _, "ProphecyShop$Script", coC_6, by decide, wg_152, Or.inl rfl, rfl, (fun _ => rfl), rfl⟩
theorem fl_Setup_9_7 : FL "ProphecyShop$Setup" 9 7 0 false (tyX6 0) := ⟨_, _, _, _, "ProphecyShop$Setup", coC_7, by decide, wg_192, Or.inl rfl, rfl, (fun h => by cases h), rfl⟩
theorem fl_Setup_15_7 : FL "ProphecyShop$Setup" 15 7 1 false (tyX6 1) := ⟨_, _, _, _, "ProphecyShop$Setup", coC_7, by decide, wg_195, Or.inl rfl, rfl, (fun h => by cases h), rfl⟩
theorem fl_Setup_18_7 : FL "ProphecyShop$Setup" 18 7 2 false (tyX6 2) := ⟨_, _, _, _, "ProphecyShop$Setup", coC_7, by decide, wg_198, Or.inl rfl, rfl, (fun h => by cases h), rfl⟩
theorem fl_Setup_21_7 : FL "ProphecyShop$Setup" 21 7 3 false (tyX6 3) := ⟨_, _, _, _, "ProphecyShop$Setup", coC_7, by decide, wg_201, Or.inl rfl, rfl, (fun h => by cases h), rfl⟩
theorem fl_Setup_24_7 : FL "ProphecyShop$Setup" 24 7 4 false (tyX6 4) := ⟨_, _, _, _, "ProphecyShop$Setup", coC_7, by decide, wg_204, Or.inl rfl, rfl, (fun h => by cases h), rfl⟩
theorem fl_Setup_30_7 : FL "ProphecyShop$Setup" 30 7 5 true (tyX6 5) := ⟨_, _, _, _, "ProphecyShop$Setup", coC_7, by decide, wg_207, Or.inl rfl, rfl, (fun _ => rfl), rfl⟩
theorem fl_Setup_34_7 : FL "ProphecyShop$Setup" 34 7 6 true (tyX6 6) := ⟨_, _, _, _, "ProphecyShop$Setup", coC_7, by decide, wg_212, Or.inl rfl, rfl, (fun _ => rfl), rfl⟩
theorem fl_Setup_37_7 : FL "ProphecyShop$Setup" 37 7 7 true (tyX6 7) := ⟨_, _, _, _, "ProphecyShop$Setup", coC_7, by decide, wg_217, Or.inl rfl, rfl, (fun _ => rfl), rfl⟩
theorem fl_Setup_40_7 : FL "ProphecyShop$Setup" 40 7 8 true (tyX6 8) := ⟨_, _, _, _, "ProphecyShop$Setup", coC_7, by decide, wg_222, Or.inl rfl, rfl, (fun _ => rfl), rfl⟩
theorem fl_Setup_44_7 : FL "ProphecyShop$Setup" 44 7 9 true (tyX6 9) := ⟨_, _, _, _, "ProphecyShop$Setup", coC_7, by decide, wg_223, Or.inl rfl, rfl, (fun _ => rfl), rfl⟩
theorem fl_Setup_47_7 : FL "ProphecyShop$Setup" 47 7 10 true (tyX6 10) := ⟨_, _, _, _, "ProphecyShop$Setup", coC_7, by decide, wg_224, Or.inl rfl, rfl, (fun _ => rfl), rfl⟩
theorem fl_Shop_18_9 : FL "ProphecyShop$Shop" 18 9 3 true (tyX8 3) := ⟨_, _, _, _, "ProphecyShop$Shop", coC_9, by decide, wg_348, Or.inl rfl, rfl, (fun _ => rfl), rfl⟩
theorem fl_Shop_24_9 : FL "ProphecyShop$Shop" 24 9 4 true (tyX8 4) := ⟨_, _, _, _, "ProphecyShop$Shop", coC_9, by decide, wg_349, Or.inl rfl, rfl, (fun _ => rfl), rfl⟩
theorem fl_Shop_33_9 : FL "ProphecyShop$Shop" 33 9 6 true (tyX8 6) := ⟨_, _, _, _, "ProphecyShop$Shop", coC_9, by decide, wg_352, Or.inl rfl, rfl, (fun _ => rfl), rfl⟩
theorem fl_Shop_37_9 : FL "ProphecyShop$Shop" 37 9 7 true (tyX8 7) := ⟨_, _, _, _, "ProphecyShop$Shop", coC_9, by decide, wg_353, Or.inl rfl, rfl, (fun _ => rfl), rfl⟩
theorem fl_Shop_43_9 : FL "ProphecyShop$Shop" 43 9 9 true (tyX8 9) := ⟨_, _, _, _, "ProphecyShop$Shop", coC_9, by decide, wg_356, Or.inl rfl, rfl, (fun _ => rfl), rfl⟩
theorem fl_Shop_46_9 : FL "ProphecyShop$Shop" 46 9 10 true (tyX8 10) := ⟨_, _, _, _, "ProphecyShop$Shop", coC_9, by decide, wg_357, Or.inl rfl, rfl, (fun _ => rfl), rfl⟩
theorem fl_Shop_49_9 : FL "ProphecyShop$Shop" 49 9 11 true (tyX8 11) := ⟨_, _, _, _, "ProphecyShop$Shop", coC_9, by decide, wg_358, Or.inl rfl, rfl, (fun _ => rfl), rfl⟩
theorem fl_Step_11_10 : FL "ProphecyShop$Step" 11 10 0 false (tyX9 0) := ⟨_, _, _, _, "ProphecyShop$Step", coC_10, by decide, wg_104, Or.inl rfl, rfl, (fun h => by cases h), rfl⟩
theorem fl_Step_15_10 : FL "ProphecyShop$Step" 15 10 1 false (tyX9 1) := ⟨_, _, _, _, "ProphecyShop$Step", coC_10, by decide, wg_106, Or.inl rfl, rfl, (fun h => by cases h), rfl⟩
theorem fl_Step_18_10 : FL "ProphecyShop$Step" 18 10 2 false (tyX9 2) := ⟨_, _, _, _, "ProphecyShop$Step", coC_10, by decide, wg_108, Or.inl rfl, rfl, (fun h => by cases h), rfl⟩
theorem fl_Step_21_10 : FL "ProphecyShop$Step" 21 10 3 false (tyX9 3) := ⟨_, _, _, _, "ProphecyShop$Step", coC_10, by decide, wg_110, Or.inl rfl, rfl, (fun h => by cases h), rfl⟩
theorem fl_Step_24_10 : FL "ProphecyShop$Step" 24 10 4 false (tyX9 4) := ⟨_, _, _, _, "ProphecyShop$Step", coC_10, by decide, wg_112, Or.inl rfl, rfl, (fun h => by cases h), rfl⟩
theorem fl_Step_27_10 : FL "ProphecyShop$Step" 27 10 5 false (tyX9 5) := ⟨_, _, _, _, "ProphecyShop$Step", coC_10, by decide, wg_114, Or.inl rfl, rfl, (fun h => by cases h), rfl⟩
theorem fl_Step_30_10 : FL "ProphecyShop$Step" 30 10 6 false (tyX9 6) := ⟨_, _, _, _, "ProphecyShop$Step", coC_10, by decide, wg_116, Or.inl rfl, rfl, (fun h => by cases h), rfl⟩
theorem fl_Step_33_10 : FL "ProphecyShop$Step" 33 10 7 false (tyX9 7) := ⟨_, _, _, _, "ProphecyShop$Step", coC_10, by decide, wg_118, Or.inl rfl, rfl, (fun h => by cases h), rfl⟩
theorem fl_Step_36_10 : FL "ProphecyShop$Step" 36 10 8 false (tyX9 8) := ⟨_, _, _, _, "ProphecyShop$Step", coC_10, by decide, wg_120, Or.inl rfl, rfl, (fun h => by cases h), rfl⟩
theorem fl_Step_39_10 : FL "ProphecyShop$Step" 39 10 9 false (tyX9 9) := ⟨_, _, _, _, "ProphecyShop$Step", coC_10, by decide, wg_122, Or.inl rfl, rfl, (fun h => by cases h), rfl⟩
theorem fl_Step_42_10 : FL "ProphecyShop$Step" 42 10 10 false (tyX9 10) := ⟨_, _, _, _, "ProphecyShop$Step", coC_10, by decide, wg_124, Or.inl rfl, rfl, (fun h => by cases h), rfl⟩
theorem fl_Text_9_11 : FL "ProphecyShop$Text" 9 11 0 true (tyX10 0) := ⟨_, _, _, _, "ProphecyShop$Text", coC_11, by decide, wg_47, Or.inl rfl, rfl, (fun _ => rfl), rfl⟩
theorem fl_ProphecyShop_10_12 : FL "ProphecyShop" 10 12 0 true (tyX11 0) := ⟨_, _, _, _, "ProphecyShop", coC_12, by decide, wg_640, Or.inl rfl, rfl, (fun _ => rfl), rfl⟩
theorem fl_ProphecyShop_21_12 : FL "ProphecyShop" 21 12 1 true (tyX11 1) := ⟨_, _, _, _, "ProphecyShop", coC_12, by decide, wg_641, Or.inl rfl, rfl, (fun _ => rfl), rfl⟩
theorem fl_ProphecyShop_28_12 : FL "ProphecyShop" 28 12 2 true (tyX11 2) := ⟨_, _, _, _, "ProphecyShop", coC_12, by decide, wg_642, Or.inl rfl, rfl, (fun _ => rfl), rfl⟩
theorem fl_ProphecyShop_47_12 : FL "ProphecyShop" 47 12 5 true (tyX11 5) := ⟨_, _, _, _, "ProphecyShop", coC_12, by decide, wg_645, Or.inl rfl, rfl, (fun _ => rfl), rfl⟩
theorem fl_ProphecyShop_51_12 : FL "ProphecyShop" 51 12 6 true (tyX11 6) := ⟨_, _, _, _, "ProphecyShop", coC_12, by decide, wg_646, Or.inl rfl, rfl, (fun _ => rfl), rfl⟩
theorem fl_ProphecyShop_57_12 : FL "ProphecyShop" 57 12 7 true (tyX11 7) := ⟨_, _, _, _, "ProphecyShop", coC_12, by decide, wg_647, Or.inl rfl, rfl, (fun _ => rfl), rfl⟩
theorem fl_ProphecyShop_61_12 : FL "ProphecyShop" 61 12 8 true (tyX11 8) := ⟨_, _, _, _, "ProphecyShop", coC_12, by decide, wg_648, Or.inl rfl, rfl, (fun _ => rfl), rfl⟩
theorem fl_ProphecyShop_65_12 : FL "ProphecyShop" 65 12 9 true (tyX11 9) := ⟨_, _, _, _, "ProphecyShop", coC_12, by decide, wg_649, Or.inl rfl, rfl, (fun _ => rfl), rfl⟩
theorem fl_ProphecyShopModel_7_13 : FL "ProphecyShopModel" 7 13 0 true (tyX12 0) := ⟨_, _, _, _, "ProphecyShopModel", coC_13, by decide, wg_1802, Or.inl rfl, rfl, (fun _ => rfl), rfl⟩
theorem fl_ProphecyShopModel_13_13 : FL "ProphecyShopModel" 13 13 1 true (tyX12 1) := ⟨_, _, _, _, "ProphecyShopModel", coC_13, by decide, wg_1803, Or.inl rfl, rfl, (fun _ => rfl), rfl⟩
theorem fl_ProphecyShopModel_16_13 : FL "ProphecyShopModel" 16 13 2 true (tyX12 2) := ⟨_, _, _, _, "ProphecyShopModel", coC_13, by decide, wg_1804, Or.inl rfl, rfl, (fun _ => rfl), rfl⟩
theorem fl_ProphecyShopModel_19_13 : FL "ProphecyShopModel" 19 13 3 true (tyX12 3) := ⟨_, _, _, _, "ProphecyShopModel", coC_13, by decide, wg_1805, Or.inl rfl, rfl, (fun _ => rfl), rfl⟩
theorem fl_ProphecyShopModel_22_13 : FL "ProphecyShopModel" 22 13 4 true (tyX12 4) := ⟨_, _, _, _, "ProphecyShopModel", coC_13, by decide, wg_1806, Or.inl rfl, rfl, (fun _ => rfl), rfl⟩
theorem fl_ProphecyShopModel_25_13 : FL "ProphecyShopModel" 25 13 5 true (tyX12 5) := ⟨_, _, _, _, "ProphecyShopModel", coC_13, by decide, wg_1807, Or.inl rfl, rfl, (fun _ => rfl), rfl⟩
theorem fl_ProphecyShopModel_29_13 : FL "ProphecyShopModel" 29 13 8 true (tyX12 8) := ⟨_, _, _, _, "ProphecyShopModel", coC_13, by decide, wg_1810, Or.inl rfl, rfl, (fun _ => rfl), rfl⟩
theorem fl_ProphecyShopModel_36_13 : FL "ProphecyShopModel" 36 13 18 true (tyX12 18) := ⟨_, _, _, _, "ProphecyShopModel", coC_13, by decide, wg_1820, Or.inl rfl, rfl, (fun _ => rfl), rfl⟩
theorem fl_ProphecyShopModel_39_13 : FL "ProphecyShopModel" 39 13 19 true (tyX12 19) := ⟨_, _, _, _, "ProphecyShopModel", coC_13, by decide, wg_1821, Or.inl rfl, rfl, (fun _ => rfl), rfl⟩
theorem fl_ProphecyShopModel_42_13 : FL "ProphecyShopModel" 42 13 26 true (tyX12 26) := ⟨_, _, _, _, "ProphecyShopModel", coC_13, by decide, wg_1828, Or.inl rfl, rfl, (fun _ => rfl), rfl⟩
theorem fl_ProphecyShopModel_45_13 : FL "ProphecyShopModel" 45 13 27 true (tyX12 27) := ⟨_, _, _, _, "ProphecyShopModel", coC_13, by decide, wg_1829, Or.inl rfl, rfl, (fun _ => rfl), rfl⟩
theorem lk_ProphecyShop_94 : LV "ProphecyShop" 94 11 1 m_Text_put := ⟨hd_Text_put, rfl, ⟨_, rfl, rfl⟩, wg_462, wg_463, wg_464, wg_2⟩
theorem lk_ProphecyShopModel_50 : LV "ProphecyShopModel" 50 13 1 m_R_takesText := ⟨hd_R_takesText, rfl, ⟨_, rfl, rfl⟩, wg_1697, wg_1699, ws_25, wg_18⟩
theorem oj_History_3 : Cond.methodLink "ProphecyShop$History" 3 objectInit ∈ lw_good := wg_400
theorem cl_History_9 : Cond.classLink "ProphecyShop$History" 9 "ProphecyShop$Shop" ∈ lw_good := wg_401
theorem ao_Shop : Cond.arrayOver (.object "ProphecyShop$Shop") ∈ lw_T := wt_402
theorem in_Shop : Cond.instantiable "ProphecyShop$Shop" 15 ∈ lw_good := wg_254
theorem ii_Shop : Cond.initialized "ProphecyShop$Shop" ∈ lw_good := wg_9
theorem lj_History_21 : LI "ProphecyShop$History" 21 1 m_Shop_init := ⟨hd_Shop_init, rfl, rfl, rfl, wg_403, wg_256, wg_9⟩
theorem oj_Names_3 : Cond.methodLink "ProphecyShop$Names" 3 objectInit ∈ lw_good := wg_182
theorem oj_Owl_3 : Cond.methodLink "ProphecyShop$Owl" 3 objectInit ∈ lw_good := wg_322
theorem oj_Prophecy_3 : Cond.methodLink "ProphecyShop$Prophecy" 3 objectInit ∈ lw_good := wg_267
theorem oj_Reader_3 : Cond.methodLink "ProphecyShop$Reader" 3 objectInit ∈ lw_good := wg_63
theorem lj_Script_3 : LI "ProphecyShop$Script" 3 1 m_Reader_init := ⟨hd_Reader_init, rfl, rfl, rfl, wg_96, wg_61, wg_3⟩
theorem cl_Script_11 : Cond.classLink "ProphecyShop$Script" 11 "ProphecyShop$Step" ∈ lw_good := wg_97
theorem ao_Step : Cond.arrayOver (.object "ProphecyShop$Step") ∈ lw_T := wt_98
theorem in_Step : Cond.instantiable "ProphecyShop$Step" 11 ∈ lw_good := wg_99
theorem ii_Step : Cond.initialized "ProphecyShop$Step" ∈ lw_good := wg_6
theorem ln_Script_31 : LIN "ProphecyShop$Script" 31 0 m_Step_init := ⟨hd_Step_init, rfl, rfl, rfl, "ProphecyShop", wt_100, wg_101, wg_6⟩
theorem oj_Setup_3 : Cond.methodLink "ProphecyShop$Setup" 3 objectInit ∈ lw_good := wg_176
theorem cl_Setup_27 : Cond.classLink "ProphecyShop$Setup" 27 "ProphecyShop$Names" ∈ lw_good := wg_177
theorem in_Names : Cond.instantiable "ProphecyShop$Names" 2 ∈ lw_good := wg_178
theorem ii_Names : Cond.initialized "ProphecyShop$Names" ∈ lw_good := wg_8
theorem ln_Setup_29 : LIN "ProphecyShop$Setup" 29 0 m_Names_init := ⟨hd_Names_init, rfl, rfl, rfl, "ProphecyShop", wt_179, wg_180, wg_8⟩
theorem lj_SetupReader_3 : LI "ProphecyShop$SetupReader" 3 1 m_Reader_init := ⟨hd_Reader_init, rfl, rfl, rfl, wg_60, wg_61, wg_3⟩
theorem oj_Shop_3 : Cond.methodLink "ProphecyShop$Shop" 3 objectInit ∈ lw_good := wg_258
theorem cl_Shop_22 : Cond.classLink "ProphecyShop$Shop" 22 "ProphecyShop$Prophecy" ∈ lw_good := wg_259
theorem ao_Prophecy : Cond.arrayOver (.object "ProphecyShop$Prophecy") ∈ lw_T := wt_260
theorem cl_Shop_31 : Cond.classLink "ProphecyShop$Shop" 31 "ProphecyShop$Owl" ∈ lw_good := wg_261
theorem ao_Owl : Cond.arrayOver (.object "ProphecyShop$Owl") ∈ lw_T := wt_262
theorem in_Prophecy : Cond.instantiable "ProphecyShop$Prophecy" 10 ∈ lw_good := wg_263
theorem ii_Prophecy : Cond.initialized "ProphecyShop$Prophecy" ∈ lw_good := wg_10
theorem ln_Shop_65 : LIN "ProphecyShop$Shop" 65 0 m_Prophecy_init := ⟨hd_Prophecy_init, rfl, rfl, rfl, "ProphecyShop", wt_264, wg_265, wg_10⟩
theorem in_Owl : Cond.instantiable "ProphecyShop$Owl" 5 ∈ lw_good := wg_318
theorem ii_Owl : Cond.initialized "ProphecyShop$Owl" ∈ lw_good := wg_11
theorem ln_Shop_66 : LIN "ProphecyShop$Shop" 66 0 m_Owl_init := ⟨hd_Owl_init, rfl, rfl, rfl, "ProphecyShop", wt_319, wg_320, wg_11⟩
theorem oj_Step_3 : Cond.methodLink "ProphecyShop$Step" 3 objectInit ∈ lw_good := wg_103
theorem oj_Text_3 : Cond.methodLink "ProphecyShop$Text" 3 objectInit ∈ lw_good := wg_46
theorem oj_ProphecyShop_1 : Cond.methodLink "ProphecyShop" 1 objectInit ∈ lw_good := wg_38
theorem cl_ProphecyShop_7 : Cond.classLink "ProphecyShop" 7 "ProphecyShop$Text" ∈ lw_good := wg_41
theorem in_Text : Cond.instantiable "ProphecyShop$Text" 2 ∈ lw_good := wg_42
theorem ii_Text : Cond.initialized "ProphecyShop$Text" ∈ lw_good := wg_2
theorem ln_ProphecyShop_9 : LIN "ProphecyShop" 9 0 m_Text_init := ⟨hd_Text_init, rfl, rfl, rfl, "ProphecyShop", wt_43, wg_44, wg_2⟩
theorem cl_ProphecyShop_16 : Cond.classLink "ProphecyShop" 16 "ProphecyShop$SetupReader" ∈ lw_good := wg_55
theorem in_SetupReader : Cond.instantiable "ProphecyShop$SetupReader" 6 ∈ lw_good := wg_56
theorem ii_SetupReader : Cond.initialized "ProphecyShop$SetupReader" ∈ lw_good := wg_4
theorem lj_ProphecyShop_18 : LI "ProphecyShop" 18 1 m_SetupReader_init := ⟨hd_SetupReader_init, rfl, rfl, rfl, wg_57, wg_58, wg_4⟩
theorem cl_ProphecyShop_25 : Cond.classLink "ProphecyShop" 25 "ProphecyShop$Script" ∈ lw_good := wg_91
theorem in_Script : Cond.instantiable "ProphecyShop$Script" 11 ∈ lw_good := wg_92
theorem ii_Script : Cond.initialized "ProphecyShop$Script" ∈ lw_good := wg_5
theorem lj_ProphecyShop_27 : LI "ProphecyShop" 27 1 m_Script_init := ⟨hd_Script_init, rfl, rfl, rfl, wg_93, wg_94, wg_5⟩
theorem cl_ProphecyShop_32 : Cond.classLink "ProphecyShop" 32 "ProphecyShop$Setup" ∈ lw_good := wg_171
theorem in_Setup : Cond.instantiable "ProphecyShop$Setup" 12 ∈ lw_good := wg_172
theorem ii_Setup : Cond.initialized "ProphecyShop$Setup" ∈ lw_good := wg_7
theorem ln_ProphecyShop_34 : LIN "ProphecyShop" 34 0 m_Setup_init := ⟨hd_Setup_init, rfl, rfl, rfl, "ProphecyShop", wt_173, wg_174, wg_7⟩
theorem cl_ProphecyShop_42 : Cond.classLink "ProphecyShop" 42 "ProphecyShop$Shop" ∈ lw_good := wg_253
theorem lj_ProphecyShop_44 : LI "ProphecyShop" 44 1 m_Shop_init := ⟨hd_Shop_init, rfl, rfl, rfl, wg_255, wg_256, wg_9⟩
theorem cl_ProphecyShop_54 : Cond.classLink "ProphecyShop" 54 "ProphecyShop$History" ∈ lw_good := wg_395
theorem in_History : Cond.instantiable "ProphecyShop$History" 2 ∈ lw_good := wg_396
theorem ii_History : Cond.initialized "ProphecyShop$History" ∈ lw_good := wg_12
theorem lj_ProphecyShop_56 : LI "ProphecyShop" 56 1 m_History_init := ⟨hd_History_init, rfl, rfl, rfl, wg_397, wg_398, wg_12⟩
theorem oj_ProphecyShopModel_1 : Cond.methodLink "ProphecyShopModel" 1 objectInit ∈ lw_good := wg_1695
theorem ac_int : Cond.arrayClass .int ∈ lw_good := wg_54
theorem ac_boolean : Cond.arrayClass .boolean ∈ lw_good := wg_680
theorem ac_long : Cond.arrayClass .long ∈ lw_good := wg_2343
