theorem wg_1043 : (Jvm.Cond.code ({ cls := "ProphecyShop", name := "writeQueue", desc := "()I" } : Jvm.MethodName) prog_1_method_51_code (3 : Nat) (Option.some Jvm.ClassFile.FieldType.int)) ∈ lw_good := lw_g (List.mem_append_left _ (List.mem_append_right _ (List.mem_of_getElem? (i := 1043) (by decide +kernel)))) (by decide +kernel)
theorem wg_1145 : (Jvm.Cond.methodLink "ProphecyShop" (345 : Nat) ({ cls := "ProphecyShop$Shop", name := "requestAt", desc := "(I)I" } : Jvm.MethodName)) ∈ lw_good := lw_g (List.mem_append_left _ (List.mem_append_right _ (List.mem_of_getElem? (i := 1145) (by decide +kernel)))) (by decide +kernel)
theorem wg_1342 : (Jvm.Cond.code ({ cls := "ProphecyShop", name := "outputByte", desc := "(I)I" } : Jvm.MethodName) prog_1_method_52_code (2 : Nat) (Option.some Jvm.ClassFile.FieldType.int)) ∈ lw_good := lw_g (List.mem_append_left _ (List.mem_append_right _ (List.mem_of_getElem? (i := 1342) (by decide +kernel)))) (by decide +kernel)
theorem wg_1656 : (Jvm.Cond.code ({ cls := "ProphecyShop", name := "writeProphecy", desc := "(I)I" } : Jvm.MethodName) prog_1_method_50_code (4 : Nat) (Option.some Jvm.ClassFile.FieldType.int)) ∈ lw_good := lw_g (List.mem_append_left _ (List.mem_append_right _ (List.mem_of_getElem? (i := 1656) (by decide +kernel)))) (by decide +kernel)
theorem wg_1657 : (Jvm.Cond.methodLink "ProphecyShop" (330 : Nat) ({ cls := "ProphecyShop$Names", name := "writeTo", desc := "(Ljava/lang/StringBuilder;I)V" } : Jvm.MethodName)) ∈ lw_good := lw_g (List.mem_append_left _ (List.mem_append_right _ (List.mem_of_getElem? (i := 1657) (by decide +kernel)))) (by decide +kernel)
theorem wg_1658 : (Jvm.Cond.instanceMethod ({ cls := "ProphecyShop$Names", name := "writeTo", desc := "(Ljava/lang/StringBuilder;I)V" } : Jvm.MethodName)) ∈ lw_good := lw_g (List.mem_append_left _ (List.mem_append_right _ (List.mem_of_getElem? (i := 1658) (by decide +kernel)))) (by decide +kernel)
theorem wg_1659 : (Jvm.Cond.selects "ProphecyShop$Names" ({ cls := "ProphecyShop$Names", name := "writeTo", desc := "(Ljava/lang/StringBuilder;I)V" } : Jvm.MethodName) ({ cls := "ProphecyShop$Names", name := "writeTo", desc := "(Ljava/lang/StringBuilder;I)V" } : Jvm.MethodName)) ∈ lw_good := lw_g (List.mem_append_left _ (List.mem_append_right _ (List.mem_of_getElem? (i := 1659) (by decide +kernel)))) (by decide +kernel)
theorem wg_1660 : (Jvm.Cond.code ({ cls := "ProphecyShop$Names", name := "writeTo", desc := "(Ljava/lang/StringBuilder;I)V" } : Jvm.MethodName) prog_3_method_6_code (5 : Nat) (Option.none : Option Jvm.ClassFile.FieldType)) ∈ lw_good := lw_g (List.mem_append_left _ (List.mem_append_right _ (List.mem_of_getElem? (i := 1660) (by decide +kernel)))) (by decide +kernel)
theorem wg_1661 : (Jvm.Cond.methodLink "ProphecyShop$Names" (25 : Nat) ({ cls := "ProphecyShop$Names", name := "has", desc := "(I)Z" } : Jvm.MethodName)) ∈ lw_good := lw_g (List.mem_append_left _ (List.mem_append_right _ (List.mem_of_getElem? (i := 1661) (by decide +kernel)))) (by decide +kernel)
theorem wg_652 : (Jvm.Cond.fieldLink "ProphecyShop" (78 : Nat) "ProphecyShop" "output" "Ljava/lang/String;") ∈ lw_good := lw_g (List.mem_append_left _ (List.mem_append_right _ (List.mem_of_getElem? (i := 652) (by decide +kernel)))) (by decide +kernel)
abbrev m_Names_writeTo : MI := (⟨"ProphecyShop$Names", "writeTo", "(Ljava/lang/StringBuilder;I)V"⟩, prog_3_method_6_code, 5, (Option.none : Option Jvm.ClassFile.FieldType), [])
theorem d_Names_writeTo_0 : decode prog_3_method_6_code 0 = .ok (.aload_n 0, 1) := by decide +kernel
theorem d_Names_writeTo_1 : decode prog_3_method_6_code 1 = .ok (.iload_n 2, 1) := by decide +kernel
theorem d_Names_writeTo_2 : decode prog_3_method_6_code 2 = .ok (.invokevirtual 25, 3) := by decide +kernel
theorem d_Names_writeTo_5 : decode prog_3_method_6_code 5 = .ok (.ifCond .ne 4, 3) := by decide +kernel
theorem d_Names_writeTo_8 : decode prog_3_method_6_code 8 = .ok (.return_, 1) := by decide +kernel
theorem d_Names_writeTo_9 : decode prog_3_method_6_code 9 = .ok (.bipush 25, 2) := by decide +kernel
theorem d_Names_writeTo_11 : decode prog_3_method_6_code 11 = .ok (.istore_n 3, 1) := by decide +kernel
theorem d_Names_writeTo_12 : decode prog_3_method_6_code 12 = .ok (.iload_n 3, 1) := by decide +kernel
theorem d_Names_writeTo_13 : decode prog_3_method_6_code 13 = .ok (.ifCond .lt 40, 3) := by decide +kernel
theorem d_Names_writeTo_16 : decode prog_3_method_6_code 16 = .ok (.aload_n 0, 1) := by decide +kernel
theorem d_Names_writeTo_17 : decode prog_3_method_6_code 17 = .ok (.getfield 9, 3) := by decide +kernel
theorem d_Names_writeTo_20 : decode prog_3_method_6_code 20 = .ok (.iload_n 2, 1) := by decide +kernel
theorem d_Names_writeTo_21 : decode prog_3_method_6_code 21 = .ok (.iaload, 1) := by decide +kernel
theorem d_Names_writeTo_22 : decode prog_3_method_6_code 22 = .ok (.iload_n 3, 1) := by decide +kernel
theorem d_Names_writeTo_23 : decode prog_3_method_6_code 23 = .ok (.ishr, 1) := by decide +kernel
theorem d_Names_writeTo_24 : decode prog_3_method_6_code 24 = .ok (.bipush 31, 2) := by decide +kernel
theorem d_Names_writeTo_26 : decode prog_3_method_6_code 26 = .ok (.iand, 1) := by decide +kernel
theorem d_Names_writeTo_27 : decode prog_3_method_6_code 27 = .ok (.istore 4, 2) := by decide +kernel
theorem d_Names_writeTo_29 : decode prog_3_method_6_code 29 = .ok (.iload 4, 2) := by decide +kernel
theorem d_Names_writeTo_31 : decode prog_3_method_6_code 31 = .ok (.ifCond .eq 16, 3) := by decide +kernel
theorem d_Names_writeTo_34 : decode prog_3_method_6_code 34 = .ok (.aload_n 1, 1) := by decide +kernel
theorem d_Names_writeTo_35 : decode prog_3_method_6_code 35 = .ok (.bipush 97, 2) := by decide +kernel
theorem d_Names_writeTo_37 : decode prog_3_method_6_code 37 = .ok (.iload 4, 2) := by decide +kernel
theorem d_Names_writeTo_39 : decode prog_3_method_6_code 39 = .ok (.iadd, 1) := by decide +kernel
theorem d_Names_writeTo_40 : decode prog_3_method_6_code 40 = .ok (.iconst 1, 1) := by decide +kernel
theorem d_Names_writeTo_41 : decode prog_3_method_6_code 41 = .ok (.isub, 1) := by decide +kernel
theorem d_Names_writeTo_42 : decode prog_3_method_6_code 42 = .ok (.i2c, 1) := by decide +kernel
theorem d_Names_writeTo_43 : decode prog_3_method_6_code 43 = .ok (.invokevirtual 29, 3) := by decide +kernel
theorem d_Names_writeTo_46 : decode prog_3_method_6_code 46 = .ok (.pop, 1) := by decide +kernel
theorem d_Names_writeTo_47 : decode prog_3_method_6_code 47 = .ok (.iinc 3 (-5), 3) := by decide +kernel
theorem d_Names_writeTo_50 : decode prog_3_method_6_code 50 = .ok (.goto (-38), 3) := by decide +kernel
theorem d_Names_writeTo_53 : decode prog_3_method_6_code 53 = .ok (.return_, 1) := by decide +kernel
abbrev m_P_writeProphecy : MI := (⟨"ProphecyShop", "writeProphecy", "(I)I"⟩, prog_1_method_50_code, 4, (Option.some Jvm.ClassFile.FieldType.int), [])
theorem d_P_writeProphecy_0 : decode prog_1_method_50_code 0 = .ok (.aload_n 0, 1) := by decide +kernel
theorem d_P_writeProphecy_1 : decode prog_1_method_50_code 1 = .ok (.iload_n 1, 1) := by decide +kernel
theorem d_P_writeProphecy_2 : decode prog_1_method_50_code 2 = .ok (.invokevirtual 198, 3) := by decide +kernel
theorem d_P_writeProphecy_5 : decode prog_1_method_50_code 5 = .ok (.astore_n 2, 1) := by decide +kernel
theorem d_P_writeProphecy_6 : decode prog_1_method_50_code 6 = .ok (.new 327, 3) := by decide +kernel
theorem d_P_writeProphecy_9 : decode prog_1_method_50_code 9 = .ok (.dup, 1) := by decide +kernel
theorem d_P_writeProphecy_10 : decode prog_1_method_50_code 10 = .ok (.invokespecial 329, 3) := by decide +kernel
theorem d_P_writeProphecy_13 : decode prog_1_method_50_code 13 = .ok (.astore_n 3, 1) := by decide +kernel
theorem d_P_writeProphecy_14 : decode prog_1_method_50_code 14 = .ok (.aload_n 0, 1) := by decide +kernel
theorem d_P_writeProphecy_15 : decode prog_1_method_50_code 15 = .ok (.getfield 35, 3) := by decide +kernel
theorem d_P_writeProphecy_18 : decode prog_1_method_50_code 18 = .ok (.getfield 164, 3) := by decide +kernel
theorem d_P_writeProphecy_21 : decode prog_1_method_50_code 21 = .ok (.aload_n 3, 1) := by decide +kernel
theorem d_P_writeProphecy_22 : decode prog_1_method_50_code 22 = .ok (.aload_n 2, 1) := by decide +kernel
theorem d_P_writeProphecy_23 : decode prog_1_method_50_code 23 = .ok (.getfield 202, 3) := by decide +kernel
theorem d_P_writeProphecy_26 : decode prog_1_method_50_code 26 = .ok (.invokevirtual 330, 3) := by decide +kernel
theorem d_P_writeProphecy_29 : decode prog_1_method_50_code 29 = .ok (.aload_n 3, 1) := by decide +kernel
theorem d_P_writeProphecy_30 : decode prog_1_method_50_code 30 = .ok (.bipush 58, 2) := by decide +kernel
theorem d_P_writeProphecy_32 : decode prog_1_method_50_code 32 = .ok (.invokevirtual 334, 3) := by decide +kernel
theorem d_P_writeProphecy_35 : decode prog_1_method_50_code 35 = .ok (.pop, 1) := by decide +kernel
theorem d_P_writeProphecy_36 : decode prog_1_method_50_code 36 = .ok (.aload_n 2, 1) := by decide +kernel
theorem d_P_writeProphecy_37 : decode prog_1_method_50_code 37 = .ok (.getfield 213, 3) := by decide +kernel
theorem d_P_writeProphecy_40 : decode prog_1_method_50_code 40 = .ok (.iconst 2, 1) := by decide +kernel
theorem d_P_writeProphecy_41 : decode prog_1_method_50_code 41 = .ok (.if_icmp .ne 10, 3) := by decide +kernel
theorem d_P_writeProphecy_44 : decode prog_1_method_50_code 44 = .ok (.aload_n 3, 1) := by decide +kernel
theorem d_P_writeProphecy_45 : decode prog_1_method_50_code 45 = .ok (.bipush 33, 2) := by decide +kernel
theorem d_P_writeProphecy_47 : decode prog_1_method_50_code 47 = .ok (.invokevirtual 334, 3) := by decide +kernel
theorem d_P_writeProphecy_50 : decode prog_1_method_50_code 50 = .ok (.pop, 1) := by decide +kernel
theorem d_P_writeProphecy_51 : decode prog_1_method_50_code 51 = .ok (.aload_n 0, 1) := by decide +kernel
theorem d_P_writeProphecy_52 : decode prog_1_method_50_code 52 = .ok (.getfield 35, 3) := by decide +kernel
theorem d_P_writeProphecy_55 : decode prog_1_method_50_code 55 = .ok (.getfield 152, 3) := by decide +kernel
theorem d_P_writeProphecy_58 : decode prog_1_method_50_code 58 = .ok (.aload_n 3, 1) := by decide +kernel
theorem d_P_writeProphecy_59 : decode prog_1_method_50_code 59 = .ok (.aload_n 2, 1) := by decide +kernel
theorem d_P_writeProphecy_60 : decode prog_1_method_50_code 60 = .ok (.getfield 207, 3) := by decide +kernel
theorem d_P_writeProphecy_63 : decode prog_1_method_50_code 63 = .ok (.invokevirtual 330, 3) := by decide +kernel
theorem d_P_writeProphecy_66 : decode prog_1_method_50_code 66 = .ok (.aload_n 3, 1) := by decide +kernel
theorem d_P_writeProphecy_67 : decode prog_1_method_50_code 67 = .ok (.bipush 64, 2) := by decide +kernel
theorem d_P_writeProphecy_69 : decode prog_1_method_50_code 69 = .ok (.invokevirtual 334, 3) := by decide +kernel
theorem d_P_writeProphecy_72 : decode prog_1_method_50_code 72 = .ok (.pop, 1) := by decide +kernel
theorem d_P_writeProphecy_73 : decode prog_1_method_50_code 73 = .ok (.aload_n 2, 1) := by decide +kernel
theorem d_P_writeProphecy_74 : decode prog_1_method_50_code 74 = .ok (.getfield 213, 3) := by decide +kernel
theorem d_P_writeProphecy_77 : decode prog_1_method_50_code 77 = .ok (.iconst 1, 1) := by decide +kernel
theorem d_P_writeProphecy_78 : decode prog_1_method_50_code 78 = .ok (.if_icmp .ne 13, 3) := by decide +kernel
theorem d_P_writeProphecy_81 : decode prog_1_method_50_code 81 = .ok (.aload_n 3, 1) := by decide +kernel
theorem d_P_writeProphecy_82 : decode prog_1_method_50_code 82 = .ok (.bipush 42, 2) := by decide +kernel
theorem d_P_writeProphecy_84 : decode prog_1_method_50_code 84 = .ok (.invokevirtual 334, 3) := by decide +kernel
theorem d_P_writeProphecy_87 : decode prog_1_method_50_code 87 = .ok (.pop, 1) := by decide +kernel
theorem d_P_writeProphecy_88 : decode prog_1_method_50_code 88 = .ok (.goto 18, 3) := by decide +kernel
theorem d_P_writeProphecy_91 : decode prog_1_method_50_code 91 = .ok (.aload_n 0, 1) := by decide +kernel
theorem d_P_writeProphecy_92 : decode prog_1_method_50_code 92 = .ok (.getfield 35, 3) := by decide +kernel
theorem d_P_writeProphecy_95 : decode prog_1_method_50_code 95 = .ok (.getfield 161, 3) := by decide +kernel
theorem d_P_writeProphecy_98 : decode prog_1_method_50_code 98 = .ok (.aload_n 3, 1) := by decide +kernel
theorem d_P_writeProphecy_99 : decode prog_1_method_50_code 99 = .ok (.aload_n 2, 1) := by decide +kernel
theorem d_P_writeProphecy_100 : decode prog_1_method_50_code 100 = .ok (.getfield 210, 3) := by decide +kernel
theorem d_P_writeProphecy_103 : decode prog_1_method_50_code 103 = .ok (.invokevirtual 330, 3) := by decide +kernel
theorem d_P_writeProphecy_106 : decode prog_1_method_50_code 106 = .ok (.aload_n 3, 1) := by decide +kernel
theorem d_P_writeProphecy_107 : decode prog_1_method_50_code 107 = .ok (.bipush 32, 2) := by decide +kernel
theorem d_P_writeProphecy_109 : decode prog_1_method_50_code 109 = .ok (.invokevirtual 334, 3) := by decide +kernel
theorem d_P_writeProphecy_112 : decode prog_1_method_50_code 112 = .ok (.aload_n 2, 1) := by decide +kernel
theorem d_P_writeProphecy_113 : decode prog_1_method_50_code 113 = .ok (.getfield 216, 3) := by decide +kernel
theorem d_P_writeProphecy_116 : decode prog_1_method_50_code 116 = .ok (.invokevirtual 338, 3) := by decide +kernel
theorem d_P_writeProphecy_119 : decode prog_1_method_50_code 119 = .ok (.bipush 45, 2) := by decide +kernel
theorem d_P_writeProphecy_121 : decode prog_1_method_50_code 121 = .ok (.invokevirtual 334, 3) := by decide +kernel
theorem d_P_writeProphecy_124 : decode prog_1_method_50_code 124 = .ok (.aload_n 2, 1) := by decide +kernel
theorem d_P_writeProphecy_125 : decode prog_1_method_50_code 125 = .ok (.getfield 219, 3) := by decide +kernel
theorem d_P_writeProphecy_128 : decode prog_1_method_50_code 128 = .ok (.invokevirtual 338, 3) := by decide +kernel
theorem d_P_writeProphecy_131 : decode prog_1_method_50_code 131 = .ok (.pop, 1) := by decide +kernel
theorem d_P_writeProphecy_132 : decode prog_1_method_50_code 132 = .ok (.aload_n 0, 1) := by decide +kernel
theorem d_P_writeProphecy_133 : decode prog_1_method_50_code 133 = .ok (.aload_n 3, 1) := by decide +kernel
theorem d_P_writeProphecy_134 : decode prog_1_method_50_code 134 = .ok (.invokevirtual 341, 3) := by decide +kernel
theorem d_P_writeProphecy_137 : decode prog_1_method_50_code 137 = .ok (.putfield 78, 3) := by decide +kernel
theorem d_P_writeProphecy_140 : decode prog_1_method_50_code 140 = .ok (.aload_n 0, 1) := by decide +kernel
theorem d_P_writeProphecy_141 : decode prog_1_method_50_code 141 = .ok (.getfield 78, 3) := by decide +kernel
theorem d_P_writeProphecy_144 : decode prog_1_method_50_code 144 = .ok (.invokevirtual 84, 3) := by decide +kernel
theorem d_P_writeProphecy_147 : decode prog_1_method_50_code 147 = .ok (.ireturn, 1) := by decide +kernel
abbrev m_P_writeQueue : MI := (⟨"ProphecyShop", "writeQueue", "()I"⟩, prog_1_method_51_code, 3, (Option.some Jvm.ClassFile.FieldType.int), [])
theorem d_P_writeQueue_0 : decode prog_1_method_51_code 0 = .ok (.new 327, 3) := by decide +kernel
theorem d_P_writeQueue_3 : decode prog_1_method_51_code 3 = .ok (.dup, 1) := by decide +kernel
theorem d_P_writeQueue_4 : decode prog_1_method_51_code 4 = .ok (.invokespecial 329, 3) := by decide +kernel
theorem d_P_writeQueue_7 : decode prog_1_method_51_code 7 = .ok (.astore_n 1, 1) := by decide +kernel
theorem d_P_writeQueue_8 : decode prog_1_method_51_code 8 = .ok (.iconst 0, 1) := by decide +kernel
theorem d_P_writeQueue_9 : decode prog_1_method_51_code 9 = .ok (.istore_n 2, 1) := by decide +kernel
theorem d_P_writeQueue_10 : decode prog_1_method_51_code 10 = .ok (.iload_n 2, 1) := by decide +kernel
theorem d_P_writeQueue_11 : decode prog_1_method_51_code 11 = .ok (.aload_n 0, 1) := by decide +kernel
theorem d_P_writeQueue_12 : decode prog_1_method_51_code 12 = .ok (.getfield 47, 3) := by decide +kernel
theorem d_P_writeQueue_15 : decode prog_1_method_51_code 15 = .ok (.getfield 237, 3) := by decide +kernel
theorem d_P_writeQueue_18 : decode prog_1_method_51_code 18 = .ok (.if_icmp .ge 33, 3) := by decide +kernel
theorem d_P_writeQueue_21 : decode prog_1_method_51_code 21 = .ok (.iload_n 2, 1) := by decide +kernel
theorem d_P_writeQueue_22 : decode prog_1_method_51_code 22 = .ok (.ifCond .le 10, 3) := by decide +kernel
theorem d_P_writeQueue_25 : decode prog_1_method_51_code 25 = .ok (.aload_n 1, 1) := by decide +kernel
theorem d_P_writeQueue_26 : decode prog_1_method_51_code 26 = .ok (.bipush 44, 2) := by decide +kernel
theorem d_P_writeQueue_28 : decode prog_1_method_51_code 28 = .ok (.invokevirtual 334, 3) := by decide +kernel
theorem d_P_writeQueue_31 : decode prog_1_method_51_code 31 = .ok (.pop, 1) := by decide +kernel
theorem d_P_writeQueue_32 : decode prog_1_method_51_code 32 = .ok (.aload_n 1, 1) := by decide +kernel
theorem d_P_writeQueue_33 : decode prog_1_method_51_code 33 = .ok (.aload_n 0, 1) := by decide +kernel
theorem d_P_writeQueue_34 : decode prog_1_method_51_code 34 = .ok (.getfield 47, 3) := by decide +kernel
theorem d_P_writeQueue_37 : decode prog_1_method_51_code 37 = .ok (.iload_n 2, 1) := by decide +kernel
theorem d_P_writeQueue_38 : decode prog_1_method_51_code 38 = .ok (.invokevirtual 345, 3) := by decide +kernel
theorem d_P_writeQueue_41 : decode prog_1_method_51_code 41 = .ok (.invokevirtual 338, 3) := by decide +kernel
theorem d_P_writeQueue_44 : decode prog_1_method_51_code 44 = .ok (.pop, 1) := by decide +kernel
theorem d_P_writeQueue_45 : decode prog_1_method_51_code 45 = .ok (.iinc 2 1, 3) := by decide +kernel
theorem d_P_writeQueue_48 : decode prog_1_method_51_code 48 = .ok (.goto (-38), 3) := by decide +kernel
theorem d_P_writeQueue_51 : decode prog_1_method_51_code 51 = .ok (.aload_n 0, 1) := by decide +kernel
theorem d_P_writeQueue_52 : decode prog_1_method_51_code 52 = .ok (.aload_n 1, 1) := by decide +kernel
theorem d_P_writeQueue_53 : decode prog_1_method_51_code 53 = .ok (.invokevirtual 341, 3) := by decide +kernel
theorem d_P_writeQueue_56 : decode prog_1_method_51_code 56 = .ok (.putfield 78, 3) := by decide +kernel
theorem d_P_writeQueue_59 : decode prog_1_method_51_code 59 = .ok (.aload_n 0, 1) := by decide +kernel
theorem d_P_writeQueue_60 : decode prog_1_method_51_code 60 = .ok (.getfield 78, 3) := by decide +kernel
theorem d_P_writeQueue_63 : decode prog_1_method_51_code 63 = .ok (.invokevirtual 84, 3) := by decide +kernel
theorem d_P_writeQueue_66 : decode prog_1_method_51_code 66 = .ok (.ireturn, 1) := by decide +kernel
abbrev m_P_outputByte : MI := (⟨"ProphecyShop", "outputByte", "(I)I"⟩, prog_1_method_52_code, 2, (Option.some Jvm.ClassFile.FieldType.int), [])
theorem d_P_outputByte_0 : decode prog_1_method_52_code 0 = .ok (.iload_n 1, 1) := by decide +kernel
theorem d_P_outputByte_1 : decode prog_1_method_52_code 1 = .ok (.ifCond .lt 25, 3) := by decide +kernel
theorem d_P_outputByte_4 : decode prog_1_method_52_code 4 = .ok (.iload_n 1, 1) := by decide +kernel
theorem d_P_outputByte_5 : decode prog_1_method_52_code 5 = .ok (.aload_n 0, 1) := by decide +kernel
theorem d_P_outputByte_6 : decode prog_1_method_52_code 6 = .ok (.getfield 78, 3) := by decide +kernel
theorem d_P_outputByte_9 : decode prog_1_method_52_code 9 = .ok (.invokevirtual 84, 3) := by decide +kernel
theorem d_P_outputByte_12 : decode prog_1_method_52_code 12 = .ok (.if_icmp .ge 14, 3) := by decide +kernel
theorem d_P_outputByte_15 : decode prog_1_method_52_code 15 = .ok (.aload_n 0, 1) := by decide +kernel
theorem d_P_outputByte_16 : decode prog_1_method_52_code 16 = .ok (.getfield 78, 3) := by decide +kernel
theorem d_P_outputByte_19 : decode prog_1_method_52_code 19 = .ok (.iload_n 1, 1) := by decide +kernel
theorem d_P_outputByte_20 : decode prog_1_method_52_code 20 = .ok (.invokevirtual 90, 3) := by decide +kernel
theorem d_P_outputByte_23 : decode prog_1_method_52_code 23 = .ok (.goto 4, 3) := by decide +kernel
theorem d_P_outputByte_26 : decode prog_1_method_52_code 26 = .ok (.iconst (-1), 1) := by decide +kernel
theorem d_P_outputByte_27 : decode prog_1_method_52_code 27 = .ok (.ireturn, 1) := by decide +kernel
theorem fg_ProphecyShop_78_12 : FLg "ProphecyShop" 78 12 12 := ⟨_, _, _, _, "ProphecyShop", coC_12, by decide, wg_652, Or.inl rfl⟩
theorem fl_ProphecyShop_78_12 : FL "ProphecyShop" 78 12 12 false (tyX11 12) := ⟨_, _, _, _, "ProphecyShop", coC_12, by decide, wg_652, Or.inl rfl, rfl, (fun h => by cases h), rfl⟩
theorem hd_Names_writeTo : hd0 m_Names_writeTo 2 := hd0_of (by decide +kernel) (by decide +kernel) (by decide +kernel) rfl rfl wg_1660
theorem hd_P_writeProphecy : hd0 m_P_writeProphecy 1 := hd0_of (by decide +kernel) (by decide +kernel) (by decide +kernel) rfl rfl wg_1656
theorem hd_P_writeQueue : hd0 m_P_writeQueue 0 := hd0_of (by decide +kernel) (by decide +kernel) (by decide +kernel) rfl rfl wg_1043
theorem hd_P_outputByte : hd0 m_P_outputByte 1 := hd0_of (by decide +kernel) (by decide +kernel) (by decide +kernel) rfl rfl wg_1342
theorem lk_Names_25 : LV "ProphecyShop$Names" 25 3 1 m_Names_has := ⟨hd_Names_has, rfl, ⟨_, rfl, rfl⟩, wg_1661, wg_633, wg_634, wg_8⟩
theorem lk_ProphecyShop_330 : LV "ProphecyShop" 330 3 2 m_Names_writeTo := ⟨hd_Names_writeTo, rfl, ⟨_, rfl, rfl⟩, wg_1657, wg_1658, wg_1659, wg_8⟩
theorem lk_ProphecyShop_345 : LV "ProphecyShop" 345 9 1 m_Shop_requestAt := ⟨hd_Shop_requestAt, rfl, ⟨_, rfl, rfl⟩, wg_1145, wg_893, wg_894, wg_9⟩
