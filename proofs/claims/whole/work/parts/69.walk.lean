theorem ws_100 : Cond.selects "ProphecyShopModel" ⟨"ProphecyShopModel", "writesName", "(I)V"⟩ ⟨"ProphecyShopModel", "writesName", "(I)V"⟩ ∈ lw_good := lw_g (List.mem_append_left _ (List.mem_append_left _ (List.mem_of_getElem? (i := 100) (by decide +kernel)))) (by decide +kernel)
theorem ws_102 : Cond.selects "ProphecyShopModel" ⟨"ProphecyShopModel", "writesNumber", "(I)V"⟩ ⟨"ProphecyShopModel", "writesNumber", "(I)V"⟩ ∈ lw_good := lw_g (List.mem_append_left _ (List.mem_append_left _ (List.mem_of_getElem? (i := 102) (by decide +kernel)))) (by decide +kernel)
theorem wg_2307 : (Jvm.Cond.methodLink "ProphecyShopModel" (394 : Nat) ({ cls := "ProphecyShopModel", name := "writesName", desc := "(I)V" } : Jvm.MethodName)) ∈ lw_good := lw_g (List.mem_append_left _ (List.mem_append_right _ (List.mem_of_getElem? (i := 2307) (by decide +kernel)))) (by decide +kernel)
theorem wg_2309 : (Jvm.Cond.instanceMethod ({ cls := "ProphecyShopModel", name := "writesName", desc := "(I)V" } : Jvm.MethodName)) ∈ lw_good := lw_g (List.mem_append_left _ (List.mem_append_right _ (List.mem_of_getElem? (i := 2309) (by decide +kernel)))) (by decide +kernel)
theorem wg_2310 : (Jvm.Cond.code ({ cls := "ProphecyShopModel", name := "writesName", desc := "(I)V" } : Jvm.MethodName) prog_14_method_129_code (4 : Nat) (Option.none : Option Jvm.ClassFile.FieldType)) ∈ lw_good := lw_g (List.mem_append_left _ (List.mem_append_right _ (List.mem_of_getElem? (i := 2310) (by decide +kernel)))) (by decide +kernel)
theorem wg_2315 : (Jvm.Cond.methodLink "ProphecyShopModel" (397 : Nat) ({ cls := "ProphecyShopModel", name := "writesNumber", desc := "(I)V" } : Jvm.MethodName)) ∈ lw_good := lw_g (List.mem_append_left _ (List.mem_append_right _ (List.mem_of_getElem? (i := 2315) (by decide +kernel)))) (by decide +kernel)
theorem wg_2317 : (Jvm.Cond.instanceMethod ({ cls := "ProphecyShopModel", name := "writesNumber", desc := "(I)V" } : Jvm.MethodName)) ∈ lw_good := lw_g (List.mem_append_left _ (List.mem_append_right _ (List.mem_of_getElem? (i := 2317) (by decide +kernel)))) (by decide +kernel)
theorem wg_2318 : (Jvm.Cond.code ({ cls := "ProphecyShopModel", name := "writesNumber", desc := "(I)V" } : Jvm.MethodName) prog_14_method_128_code (5 : Nat) (Option.none : Option Jvm.ClassFile.FieldType)) ∈ lw_good := lw_g (List.mem_append_left _ (List.mem_append_right _ (List.mem_of_getElem? (i := 2318) (by decide +kernel)))) (by decide +kernel)
abbrev m_R_writeProphecy : MI := (⟨"ProphecyShopModel", "writeProphecy", "(I)I"⟩, prog_14_method_130_code, 2, (Option.some Jvm.ClassFile.FieldType.int), [])
theorem d_R_writeProphecy_0 : decode prog_14_method_130_code 0 = .ok (.aload_n 0, 1) := by decide +kernel
theorem d_R_writeProphecy_1 : decode prog_14_method_130_code 1 = .ok (.iconst 0, 1) := by decide +kernel
theorem d_R_writeProphecy_2 : decode prog_14_method_130_code 2 = .ok (.putfield 73, 3) := by decide +kernel
theorem d_R_writeProphecy_5 : decode prog_14_method_130_code 5 = .ok (.aload_n 0, 1) := by decide +kernel
theorem d_R_writeProphecy_6 : decode prog_14_method_130_code 6 = .ok (.aload_n 0, 1) := by decide +kernel
theorem d_R_writeProphecy_7 : decode prog_14_method_130_code 7 = .ok (.iload_n 1, 1) := by decide +kernel
theorem d_R_writeProphecy_8 : decode prog_14_method_130_code 8 = .ok (.invokevirtual 346, 3) := by decide +kernel
theorem d_R_writeProphecy_11 : decode prog_14_method_130_code 11 = .ok (.iconst 1, 1) := by decide +kernel
theorem d_R_writeProphecy_12 : decode prog_14_method_130_code 12 = .ok (.invokevirtual 128, 3) := by decide +kernel
theorem d_R_writeProphecy_15 : decode prog_14_method_130_code 15 = .ok (.ifCond .ne 5, 3) := by decide +kernel
theorem d_R_writeProphecy_18 : decode prog_14_method_130_code 18 = .ok (.iconst 0, 1) := by decide +kernel
theorem d_R_writeProphecy_19 : decode prog_14_method_130_code 19 = .ok (.ireturn, 1) := by decide +kernel
theorem d_R_writeProphecy_20 : decode prog_14_method_130_code 20 = .ok (.aload_n 0, 1) := by decide +kernel
theorem d_R_writeProphecy_21 : decode prog_14_method_130_code 21 = .ok (.iconst 0, 1) := by decide +kernel
theorem d_R_writeProphecy_22 : decode prog_14_method_130_code 22 = .ok (.putfield 388, 3) := by decide +kernel
theorem d_R_writeProphecy_25 : decode prog_14_method_130_code 25 = .ok (.aload_n 0, 1) := by decide +kernel
theorem d_R_writeProphecy_26 : decode prog_14_method_130_code 26 = .ok (.aload_n 0, 1) := by decide +kernel
theorem d_R_writeProphecy_27 : decode prog_14_method_130_code 27 = .ok (.aload_n 0, 1) := by decide +kernel
theorem d_R_writeProphecy_28 : decode prog_14_method_130_code 28 = .ok (.iload_n 1, 1) := by decide +kernel
theorem d_R_writeProphecy_29 : decode prog_14_method_130_code 29 = .ok (.iconst 0, 1) := by decide +kernel
theorem d_R_writeProphecy_30 : decode prog_14_method_130_code 30 = .ok (.invokevirtual 84, 3) := by decide +kernel
theorem d_R_writeProphecy_33 : decode prog_14_method_130_code 33 = .ok (.iconst 0, 1) := by decide +kernel
theorem d_R_writeProphecy_34 : decode prog_14_method_130_code 34 = .ok (.invokevirtual 101, 3) := by decide +kernel
theorem d_R_writeProphecy_37 : decode prog_14_method_130_code 37 = .ok (.invokevirtual 394, 3) := by decide +kernel
theorem d_R_writeProphecy_40 : decode prog_14_method_130_code 40 = .ok (.aload_n 0, 1) := by decide +kernel
theorem d_R_writeProphecy_41 : decode prog_14_method_130_code 41 = .ok (.bipush 58, 2) := by decide +kernel
theorem d_R_writeProphecy_43 : decode prog_14_method_130_code 43 = .ok (.invokevirtual 391, 3) := by decide +kernel
theorem d_R_writeProphecy_46 : decode prog_14_method_130_code 46 = .ok (.aload_n 0, 1) := by decide +kernel
theorem d_R_writeProphecy_47 : decode prog_14_method_130_code 47 = .ok (.iload_n 1, 1) := by decide +kernel
theorem d_R_writeProphecy_48 : decode prog_14_method_130_code 48 = .ok (.iconst 3, 1) := by decide +kernel
theorem d_R_writeProphecy_49 : decode prog_14_method_130_code 49 = .ok (.invokevirtual 84, 3) := by decide +kernel
theorem d_R_writeProphecy_52 : decode prog_14_method_130_code 52 = .ok (.iconst 1, 1) := by decide +kernel
theorem d_R_writeProphecy_53 : decode prog_14_method_130_code 53 = .ok (.if_icmp .ne 9, 3) := by decide +kernel
theorem d_R_writeProphecy_56 : decode prog_14_method_130_code 56 = .ok (.aload_n 0, 1) := by decide +kernel
theorem d_R_writeProphecy_57 : decode prog_14_method_130_code 57 = .ok (.bipush 33, 2) := by decide +kernel
theorem d_R_writeProphecy_59 : decode prog_14_method_130_code 59 = .ok (.invokevirtual 391, 3) := by decide +kernel
theorem d_R_writeProphecy_62 : decode prog_14_method_130_code 62 = .ok (.aload_n 0, 1) := by decide +kernel
theorem d_R_writeProphecy_63 : decode prog_14_method_130_code 63 = .ok (.aload_n 0, 1) := by decide +kernel
theorem d_R_writeProphecy_64 : decode prog_14_method_130_code 64 = .ok (.getfield 7, 3) := by decide +kernel
theorem d_R_writeProphecy_67 : decode prog_14_method_130_code 67 = .ok (.bipush 16, 2) := by decide +kernel
theorem d_R_writeProphecy_69 : decode prog_14_method_130_code 69 = .ok (.aload_n 0, 1) := by decide +kernel
theorem d_R_writeProphecy_70 : decode prog_14_method_130_code 70 = .ok (.iload_n 1, 1) := by decide +kernel
theorem d_R_writeProphecy_71 : decode prog_14_method_130_code 71 = .ok (.iconst 1, 1) := by decide +kernel
theorem d_R_writeProphecy_72 : decode prog_14_method_130_code 72 = .ok (.invokevirtual 84, 3) := by decide +kernel
theorem d_R_writeProphecy_75 : decode prog_14_method_130_code 75 = .ok (.iadd, 1) := by decide +kernel
theorem d_R_writeProphecy_76 : decode prog_14_method_130_code 76 = .ok (.iaload, 1) := by decide +kernel
theorem d_R_writeProphecy_77 : decode prog_14_method_130_code 77 = .ok (.invokevirtual 394, 3) := by decide +kernel
theorem d_R_writeProphecy_80 : decode prog_14_method_130_code 80 = .ok (.aload_n 0, 1) := by decide +kernel
theorem d_R_writeProphecy_81 : decode prog_14_method_130_code 81 = .ok (.bipush 64, 2) := by decide +kernel
theorem d_R_writeProphecy_83 : decode prog_14_method_130_code 83 = .ok (.invokevirtual 391, 3) := by decide +kernel
theorem d_R_writeProphecy_86 : decode prog_14_method_130_code 86 = .ok (.aload_n 0, 1) := by decide +kernel
theorem d_R_writeProphecy_87 : decode prog_14_method_130_code 87 = .ok (.iload_n 1, 1) := by decide +kernel
theorem d_R_writeProphecy_88 : decode prog_14_method_130_code 88 = .ok (.iconst 2, 1) := by decide +kernel
theorem d_R_writeProphecy_89 : decode prog_14_method_130_code 89 = .ok (.invokevirtual 84, 3) := by decide +kernel
theorem d_R_writeProphecy_92 : decode prog_14_method_130_code 92 = .ok (.iconst (-1), 1) := by decide +kernel
theorem d_R_writeProphecy_93 : decode prog_14_method_130_code 93 = .ok (.if_icmp .ne 12, 3) := by decide +kernel
theorem d_R_writeProphecy_96 : decode prog_14_method_130_code 96 = .ok (.aload_n 0, 1) := by decide +kernel
theorem d_R_writeProphecy_97 : decode prog_14_method_130_code 97 = .ok (.bipush 42, 2) := by decide +kernel
theorem d_R_writeProphecy_99 : decode prog_14_method_130_code 99 = .ok (.invokevirtual 391, 3) := by decide +kernel
theorem d_R_writeProphecy_102 : decode prog_14_method_130_code 102 = .ok (.goto 21, 3) := by decide +kernel
theorem d_R_writeProphecy_105 : decode prog_14_method_130_code 105 = .ok (.aload_n 0, 1) := by decide +kernel
theorem d_R_writeProphecy_106 : decode prog_14_method_130_code 106 = .ok (.aload_n 0, 1) := by decide +kernel
theorem d_R_writeProphecy_107 : decode prog_14_method_130_code 107 = .ok (.getfield 7, 3) := by decide +kernel
theorem d_R_writeProphecy_110 : decode prog_14_method_130_code 110 = .ok (.bipush 22, 2) := by decide +kernel
theorem d_R_writeProphecy_112 : decode prog_14_method_130_code 112 = .ok (.aload_n 0, 1) := by decide +kernel
theorem d_R_writeProphecy_113 : decode prog_14_method_130_code 113 = .ok (.iload_n 1, 1) := by decide +kernel
theorem d_R_writeProphecy_114 : decode prog_14_method_130_code 114 = .ok (.iconst 2, 1) := by decide +kernel
theorem d_R_writeProphecy_115 : decode prog_14_method_130_code 115 = .ok (.invokevirtual 84, 3) := by decide +kernel
theorem d_R_writeProphecy_118 : decode prog_14_method_130_code 118 = .ok (.iadd, 1) := by decide +kernel
theorem d_R_writeProphecy_119 : decode prog_14_method_130_code 119 = .ok (.iaload, 1) := by decide +kernel
theorem d_R_writeProphecy_120 : decode prog_14_method_130_code 120 = .ok (.invokevirtual 394, 3) := by decide +kernel
theorem d_R_writeProphecy_123 : decode prog_14_method_130_code 123 = .ok (.aload_n 0, 1) := by decide +kernel
theorem d_R_writeProphecy_124 : decode prog_14_method_130_code 124 = .ok (.bipush 32, 2) := by decide +kernel
theorem d_R_writeProphecy_126 : decode prog_14_method_130_code 126 = .ok (.invokevirtual 391, 3) := by decide +kernel
theorem d_R_writeProphecy_129 : decode prog_14_method_130_code 129 = .ok (.aload_n 0, 1) := by decide +kernel
theorem d_R_writeProphecy_130 : decode prog_14_method_130_code 130 = .ok (.aload_n 0, 1) := by decide +kernel
theorem d_R_writeProphecy_131 : decode prog_14_method_130_code 131 = .ok (.iload_n 1, 1) := by decide +kernel
theorem d_R_writeProphecy_132 : decode prog_14_method_130_code 132 = .ok (.iconst 4, 1) := by decide +kernel
theorem d_R_writeProphecy_133 : decode prog_14_method_130_code 133 = .ok (.invokevirtual 84, 3) := by decide +kernel
theorem d_R_writeProphecy_136 : decode prog_14_method_130_code 136 = .ok (.invokevirtual 397, 3) := by decide +kernel
theorem d_R_writeProphecy_139 : decode prog_14_method_130_code 139 = .ok (.aload_n 0, 1) := by decide +kernel
theorem d_R_writeProphecy_140 : decode prog_14_method_130_code 140 = .ok (.bipush 45, 2) := by decide +kernel
theorem d_R_writeProphecy_142 : decode prog_14_method_130_code 142 = .ok (.invokevirtual 391, 3) := by decide +kernel
theorem d_R_writeProphecy_145 : decode prog_14_method_130_code 145 = .ok (.aload_n 0, 1) := by decide +kernel
theorem d_R_writeProphecy_146 : decode prog_14_method_130_code 146 = .ok (.aload_n 0, 1) := by decide +kernel
theorem d_R_writeProphecy_147 : decode prog_14_method_130_code 147 = .ok (.iload_n 1, 1) := by decide +kernel
theorem d_R_writeProphecy_148 : decode prog_14_method_130_code 148 = .ok (.iconst 5, 1) := by decide +kernel
theorem d_R_writeProphecy_149 : decode prog_14_method_130_code 149 = .ok (.invokevirtual 84, 3) := by decide +kernel
theorem d_R_writeProphecy_152 : decode prog_14_method_130_code 152 = .ok (.invokevirtual 397, 3) := by decide +kernel
theorem d_R_writeProphecy_155 : decode prog_14_method_130_code 155 = .ok (.aload_n 0, 1) := by decide +kernel
theorem d_R_writeProphecy_156 : decode prog_14_method_130_code 156 = .ok (.getfield 388, 3) := by decide +kernel
theorem d_R_writeProphecy_159 : decode prog_14_method_130_code 159 = .ok (.ireturn, 1) := by decide +kernel
abbrev m_R_writeQueue : MI := (⟨"ProphecyShopModel", "writeQueue", "()I"⟩, prog_14_method_131_code, 2, (Option.some Jvm.ClassFile.FieldType.int), [])
theorem d_R_writeQueue_0 : decode prog_14_method_131_code 0 = .ok (.aload_n 0, 1) := by decide +kernel
theorem d_R_writeQueue_1 : decode prog_14_method_131_code 1 = .ok (.iconst 0, 1) := by decide +kernel
theorem d_R_writeQueue_2 : decode prog_14_method_131_code 2 = .ok (.putfield 73, 3) := by decide +kernel
theorem d_R_writeQueue_5 : decode prog_14_method_131_code 5 = .ok (.aload_n 0, 1) := by decide +kernel
theorem d_R_writeQueue_6 : decode prog_14_method_131_code 6 = .ok (.iconst 0, 1) := by decide +kernel
theorem d_R_writeQueue_7 : decode prog_14_method_131_code 7 = .ok (.putfield 388, 3) := by decide +kernel
theorem d_R_writeQueue_10 : decode prog_14_method_131_code 10 = .ok (.iconst 0, 1) := by decide +kernel
theorem d_R_writeQueue_11 : decode prog_14_method_131_code 11 = .ok (.istore_n 1, 1) := by decide +kernel
theorem d_R_writeQueue_12 : decode prog_14_method_131_code 12 = .ok (.iload_n 1, 1) := by decide +kernel
theorem d_R_writeQueue_13 : decode prog_14_method_131_code 13 = .ok (.aload_n 0, 1) := by decide +kernel
theorem d_R_writeQueue_14 : decode prog_14_method_131_code 14 = .ok (.getfield 7, 3) := by decide +kernel
theorem d_R_writeQueue_17 : decode prog_14_method_131_code 17 = .ok (.bipush 12, 2) := by decide +kernel
theorem d_R_writeQueue_19 : decode prog_14_method_131_code 19 = .ok (.iaload, 1) := by decide +kernel
theorem d_R_writeQueue_20 : decode prog_14_method_131_code 20 = .ok (.if_icmp .ge 33, 3) := by decide +kernel
theorem d_R_writeQueue_23 : decode prog_14_method_131_code 23 = .ok (.iload_n 1, 1) := by decide +kernel
theorem d_R_writeQueue_24 : decode prog_14_method_131_code 24 = .ok (.ifCond .le 9, 3) := by decide +kernel
theorem d_R_writeQueue_27 : decode prog_14_method_131_code 27 = .ok (.aload_n 0, 1) := by decide +kernel
theorem d_R_writeQueue_28 : decode prog_14_method_131_code 28 = .ok (.bipush 44, 2) := by decide +kernel
theorem d_R_writeQueue_30 : decode prog_14_method_131_code 30 = .ok (.invokevirtual 391, 3) := by decide +kernel
theorem d_R_writeQueue_33 : decode prog_14_method_131_code 33 = .ok (.aload_n 0, 1) := by decide +kernel
theorem d_R_writeQueue_34 : decode prog_14_method_131_code 34 = .ok (.aload_n 0, 1) := by decide +kernel
theorem d_R_writeQueue_35 : decode prog_14_method_131_code 35 = .ok (.getfield 7, 3) := by decide +kernel
theorem d_R_writeQueue_38 : decode prog_14_method_131_code 38 = .ok (.sipush 500, 3) := by decide +kernel
theorem d_R_writeQueue_41 : decode prog_14_method_131_code 41 = .ok (.iload_n 1, 1) := by decide +kernel
theorem d_R_writeQueue_42 : decode prog_14_method_131_code 42 = .ok (.iadd, 1) := by decide +kernel
theorem d_R_writeQueue_43 : decode prog_14_method_131_code 43 = .ok (.iaload, 1) := by decide +kernel
theorem d_R_writeQueue_44 : decode prog_14_method_131_code 44 = .ok (.invokevirtual 397, 3) := by decide +kernel
theorem d_R_writeQueue_47 : decode prog_14_method_131_code 47 = .ok (.iinc 1 1, 3) := by decide +kernel
theorem d_R_writeQueue_50 : decode prog_14_method_131_code 50 = .ok (.goto (-38), 3) := by decide +kernel
theorem d_R_writeQueue_53 : decode prog_14_method_131_code 53 = .ok (.aload_n 0, 1) := by decide +kernel
theorem d_R_writeQueue_54 : decode prog_14_method_131_code 54 = .ok (.getfield 388, 3) := by decide +kernel
theorem d_R_writeQueue_57 : decode prog_14_method_131_code 57 = .ok (.ireturn, 1) := by decide +kernel
abbrev m_R_outputByte : MI := (⟨"ProphecyShopModel", "outputByte", "(I)I"⟩, prog_14_method_132_code, 2, (Option.some Jvm.ClassFile.FieldType.int), [])
theorem d_R_outputByte_0 : decode prog_14_method_132_code 0 = .ok (.aload_n 0, 1) := by decide +kernel
theorem d_R_outputByte_1 : decode prog_14_method_132_code 1 = .ok (.iconst 0, 1) := by decide +kernel
theorem d_R_outputByte_2 : decode prog_14_method_132_code 2 = .ok (.putfield 73, 3) := by decide +kernel
theorem d_R_outputByte_5 : decode prog_14_method_132_code 5 = .ok (.iload_n 1, 1) := by decide +kernel
theorem d_R_outputByte_6 : decode prog_14_method_132_code 6 = .ok (.iconst 0, 1) := by decide +kernel
theorem d_R_outputByte_7 : decode prog_14_method_132_code 7 = .ok (.aload_n 0, 1) := by decide +kernel
theorem d_R_outputByte_8 : decode prog_14_method_132_code 8 = .ok (.getfield 388, 3) := by decide +kernel
theorem d_R_outputByte_11 : decode prog_14_method_132_code 11 = .ok (.iconst 1, 1) := by decide +kernel
theorem d_R_outputByte_12 : decode prog_14_method_132_code 12 = .ok (.isub, 1) := by decide +kernel
theorem d_R_outputByte_13 : decode prog_14_method_132_code 13 = .ok (.invokestatic 76, 3) := by decide +kernel
theorem d_R_outputByte_16 : decode prog_14_method_132_code 16 = .ok (.ifCond .eq 12, 3) := by decide +kernel
theorem d_R_outputByte_19 : decode prog_14_method_132_code 19 = .ok (.aload_n 0, 1) := by decide +kernel
theorem d_R_outputByte_20 : decode prog_14_method_132_code 20 = .ok (.getfield 42, 3) := by decide +kernel
theorem d_R_outputByte_23 : decode prog_14_method_132_code 23 = .ok (.iload_n 1, 1) := by decide +kernel
theorem d_R_outputByte_24 : decode prog_14_method_132_code 24 = .ok (.iaload, 1) := by decide +kernel
theorem d_R_outputByte_25 : decode prog_14_method_132_code 25 = .ok (.goto 4, 3) := by decide +kernel
theorem d_R_outputByte_28 : decode prog_14_method_132_code 28 = .ok (.iconst (-1), 1) := by decide +kernel
theorem d_R_outputByte_29 : decode prog_14_method_132_code 29 = .ok (.ireturn, 1) := by decide +kernel
theorem hd_R_writesName : hd0 m_R_writesName 1 := hd0_of (by decide +kernel) (by decide +kernel) (by decide +kernel) rfl rfl wg_2310
theorem lk_ProphecyShopModel_394 : LV "ProphecyShopModel" 394 13 1 m_R_writesName := ⟨hd_R_writesName, rfl, ⟨_, rfl, rfl⟩, wg_2307, wg_2309, ws_100, wg_18⟩
theorem hd_R_writesNumber : hd0 m_R_writesNumber 1 := hd0_of (by decide +kernel) (by decide +kernel) (by decide +kernel) rfl rfl wg_2318
theorem lk_ProphecyShopModel_397 : LV "ProphecyShopModel" 397 13 1 m_R_writesNumber := ⟨hd_R_writesNumber, rfl, ⟨_, rfl, rfl⟩, wg_2315, wg_2317, ws_102, wg_18⟩
/-- ProphecyShopModel.writeProphecy -/
def f_R_writeProphecy (x1 : Int32) (μ : Mem) : Option (Int32 × Mem) :=
  nm (st3 μ 13 0 7 0) (fun μ1 => ((f_R_isProphecy x1 μ1)).bind (fun r2 => ((f_R_right r2 1 μ1)).bind (fun r3 => if r3.1 = 0 then (some ((0, r3.2))) else (nm (st3 r3.2 13 0 28 0) (fun μ4 => ((f_R_of x1 0 μ4)).bind (fun r5 => ((f_R_ofCustomer r5 0 μ4)).bind (fun r6 => ((f_R_writesName r6 μ4)).bind (fun r7 => ((f_R_writes 58 r7)).bind (fun r8 => ((f_R_of x1 3 r8)).bind (fun r9 => ((if r9 = 1 then (((f_R_writes 33 r8)).bind (fun r27 => some (r27))) else (some (r8)) : Option (Mem))).bind (fun q10 => ((f_R_of x1 1 q10)).bind (fun r11 => chk (inb (16 + r11) 524) (((f_R_writesName (q10 40 0 (16 + r11).toNatClampNeg) q10)).bind (fun r13 => ((f_R_writes 64 r13)).bind (fun r14 => ((f_R_of x1 2 r14)).bind (fun r15 => ((if r15 = ((-1)) then (((f_R_writes 42 r14)).bind (fun r26 => some (r26))) else (((f_R_of x1 2 r14)).bind (fun r23 => chk (inb (22 + r23) 524) (((f_R_writesName (r14 40 0 (22 + r23).toNatClampNeg) r14)).bind (fun r25 => some (r25))))) : Option (Mem))).bind (fun q16 => ((f_R_writes 32 q16)).bind (fun r17 => ((f_R_of x1 4 r17)).bind (fun r18 => ((f_R_writesNumber r18 r17)).bind (fun r19 => ((f_R_writes 45 r19)).bind (fun r20 => ((f_R_of x1 5 r20)).bind (fun r21 => ((f_R_writesNumber r21 r20)).bind (fun r22 => some ((r22 13 0 28, r22)))))))))))))))))))))))))
set_option maxRecDepth 100000 in
set_option maxHeartbeats 4000000 in
theorem w_R_writeProphecy {g : GL} {F G : RG} {nx : Nat} (d : Nat) {x1 : Int32} {μ : Mem}   {o : Int32 × Mem} (hG : LM vr 535 547 μ F G) (h : f_R_writeProphecy x1 μ = some o) : Mt g (d + 2) m_R_writeProphecy [.inr (0, off 13 0), .inl (.int x1)] (G, nx) 0 0 (pRW vr 535 547 (rI o.1) o.2 F nx) := by
  unfold f_R_writeProphecy at h
  have kE : ∀ v, o = v → pRW vr 535 547 (rI o.1) o.2 F nx = pRW vr 535 547 (rI v.1) v.2 F nx := fun v e => by rw [e]
  refine Mt.of9 [some (.inr (0, off 13 0)), some (.inl (.int x1))] (by decide +kernel) rfl rfl rfl rfl ?_
  refine ev_aload_n (k0 := 0) rfl d_R_writeProphecy_0 ?_
  refine cw_iconst 0 d_R_writeProphecy_1 rfl ?_
  obtain ⟨μ1, e_μ1, h⟩ := nm_some h
  refine cv_put (.inl (.int 0)) 0 hG okR v_13 fl_ProphecyShopModel_73_13 rfl rfl okv_int d_R_writeProphecy_2 ?_
  intro G hG; rw [← e_μ1] at hG
  refine ev_aload_n (k0 := 0) rfl d_R_writeProphecy_5 ?_
  refine ev_aload_n (k0 := 0) rfl d_R_writeProphecy_6 ?_
  refine ev_iload_n (k0 := 1) rfl d_R_writeProphecy_7 ?_
  obtain ⟨r2, hr2, h⟩ := bind_some9 h
  refine cv_V (d := d + 1) (mc1 := 0) (ms1 := 0) (mc := 0) (ms := 0) [.inl (.int x1)] hG v_13 rfl lk_ProphecyShopModel_346 (w_R_isProphecy (d + 0) hG hr2) rfl rfl d_R_writeProphecy_8 (aft_ro ?_)
  refine Ev.at (pc' := 11) rfl (Ev.cong (st' := [.inl (.int r2), .inr (0, off 13 0)]) ?_ rfl rfl)
  refine cw_iconst 1 d_R_writeProphecy_11 rfl ?_
  obtain ⟨r3, hr3, h⟩ := bind_some9 h
  refine cv_V (d := d + 1) (mc1 := 0) (ms1 := 0) (mc := 0) (ms := 0) [.inl (.int r2), .inl (.int 1)] hG v_13 rfl lk_ProphecyShopModel_128 (w_R_right (d + 1) hG hr3) rfl rfl d_R_writeProphecy_12 (aft_rw (fun G hG => ?_))
  refine Ev.at (pc' := 15) rfl (Ev.cong (st' := [.inl (.int r3.1)]) ?_ rfl rfl)
  refine ev_if_ne (tgt := 20) (by decide) d_R_writeProphecy_15 (fun c => ?_) (fun c => ?_)
  · rw [if_neg c] at h
    refine ev_aload_n (k0 := 0) rfl d_R_writeProphecy_20 ?_
    refine cw_iconst 0 d_R_writeProphecy_21 rfl ?_
    obtain ⟨μ4, e_μ4, h⟩ := nm_some h
    refine cv_put (.inl (.int 0)) 0 hG okR v_13 fl_ProphecyShopModel_388_13 rfl rfl okv_int d_R_writeProphecy_22 ?_
    intro G hG; rw [← e_μ4] at hG
    refine ev_aload_n (k0 := 0) rfl d_R_writeProphecy_25 ?_
    refine ev_aload_n (k0 := 0) rfl d_R_writeProphecy_26 ?_
    refine ev_aload_n (k0 := 0) rfl d_R_writeProphecy_27 ?_
    refine ev_iload_n (k0 := 1) rfl d_R_writeProphecy_28 ?_
    refine cw_iconst 0 d_R_writeProphecy_29 rfl ?_
    obtain ⟨r5, hr5, h⟩ := bind_some9 h
    refine cv_V (d := d + 1) (mc1 := 0) (ms1 := 0) (mc := 0) (ms := 0) [.inl (.int x1), .inl (.int 0)] hG v_13 rfl lk_ProphecyShopModel_84 (w_R_of (d + 1) hG hr5) rfl rfl d_R_writeProphecy_30 (aft_ro ?_)
    refine Ev.at (pc' := 33) rfl (Ev.cong (st' := [.inl (.int r5), .inr (0, off 13 0), .inr (0, off 13 0)]) ?_ rfl rfl)
    refine cw_iconst 0 d_R_writeProphecy_33 rfl ?_
    obtain ⟨r6, hr6, h⟩ := bind_some9 h
    refine cv_V (d := d + 1) (mc1 := 0) (ms1 := 0) (mc := 0) (ms := 0) [.inl (.int r5), .inl (.int 0)] hG v_13 rfl lk_ProphecyShopModel_101 (w_R_ofCustomer (d + 1) hG hr6) rfl rfl d_R_writeProphecy_34 (aft_ro ?_)
    refine Ev.at (pc' := 37) rfl (Ev.cong (st' := [.inl (.int r6), .inr (0, off 13 0)]) ?_ rfl rfl)
    obtain ⟨r7, hr7, h⟩ := bind_some9 h
    refine cv_V (d := d + 1) (mc1 := 0) (ms1 := 0) (mc := 0) (ms := 0) [.inl (.int r6)] hG v_13 rfl lk_ProphecyShopModel_394 (w_R_writesName (d + 0) hG hr7) rfl rfl d_R_writeProphecy_37 (aft_rw (fun G hG => ?_))
    refine Ev.at (pc' := 40) rfl (Ev.cong (st' := []) ?_ rfl rfl)
    refine ev_aload_n (k0 := 0) rfl d_R_writeProphecy_40 ?_
    refine cw_bipush 58 d_R_writeProphecy_41 rfl ?_
    obtain ⟨r8, hr8, h⟩ := bind_some9 h
    refine cv_V (d := d + 1) (mc1 := 0) (ms1 := 0) (mc := 0) (ms := 0) [.inl (.int 58)] hG v_13 rfl lk_ProphecyShopModel_391 (w_R_writes (d + 1) hG hr8) rfl rfl d_R_writeProphecy_43 (aft_rw (fun G hG => ?_))
    refine Ev.at (pc' := 46) rfl (Ev.cong (st' := []) ?_ rfl rfl)
    refine ev_aload_n (k0 := 0) rfl d_R_writeProphecy_46 ?_
    refine ev_iload_n (k0 := 1) rfl d_R_writeProphecy_47 ?_
    refine cw_iconst 3 d_R_writeProphecy_48 rfl ?_
    obtain ⟨r9, hr9, h⟩ := bind_some9 h
    refine cv_V (d := d + 1) (mc1 := 0) (ms1 := 0) (mc := 0) (ms := 0) [.inl (.int x1), .inl (.int 3)] hG v_13 rfl lk_ProphecyShopModel_84 (w_R_of (d + 1) hG hr9) rfl rfl d_R_writeProphecy_49 (aft_ro ?_)
    refine Ev.at (pc' := 52) rfl (Ev.cong (st' := [.inl (.int r9)]) ?_ rfl rfl)
    refine cw_iconst 1 d_R_writeProphecy_52 rfl ?_
    obtain ⟨q10, hj, h⟩ := bind_some9 h
    have K_q10 : ∀ G, LM vr 535 547 q10 F G → Ev g (d + 2) m_R_writeProphecy 62 [some (.inr (0, off 13 0)), some (.inl (.int x1))] [] (G, nx) 0 0 (pRW vr 535 547 (rI o.1) o.2 F nx) := by
      intro G hG
      refine ev_aload_n (k0 := 0) rfl d_R_writeProphecy_62 ?_
      refine ev_aload_n (k0 := 0) rfl d_R_writeProphecy_63 ?_
      refine cv_get9 (.inr (0, off 40 0)) hG v_13 fg_ProphecyShopModel_7_13 rfl rfl d_R_writeProphecy_64 ?_
      refine cw_bipush 16 d_R_writeProphecy_67 rfl ?_
      refine ev_aload_n (k0 := 0) rfl d_R_writeProphecy_69 ?_
      refine ev_iload_n (k0 := 1) rfl d_R_writeProphecy_70 ?_
      refine cw_iconst 1 d_R_writeProphecy_71 rfl ?_
      obtain ⟨r11, hr11, h⟩ := bind_some9 h
      refine cv_V (d := d + 1) (mc1 := 0) (ms1 := 0) (mc := 0) (ms := 0) [.inl (.int x1), .inl (.int 1)] hG v_13 rfl lk_ProphecyShopModel_84 (w_R_of (d + 1) hG hr11) rfl rfl d_R_writeProphecy_72 (aft_ro ?_)
      refine Ev.at (pc' := 75) rfl (Ev.cong (st' := [.inl (.int r11), .inl (.int 16), .inr (0, off 40 0), .inr (0, off 13 0)]) ?_ rfl rfl)
      refine ev_iadd d_R_writeProphecy_75 ?_
      obtain ⟨b12, h⟩ := chk_some h
      refine cv_iald hG v_40 rfl rfl b12 rfl d_R_writeProphecy_76 ?_
      obtain ⟨r13, hr13, h⟩ := bind_some9 h
      refine cv_V (d := d + 1) (mc1 := 0) (ms1 := 0) (mc := 0) (ms := 0) [.inl (.int (q10 40 0 (16 + r11).toNatClampNeg))] hG v_13 rfl lk_ProphecyShopModel_394 (w_R_writesName (d + 0) hG hr13) rfl rfl d_R_writeProphecy_77 (aft_rw (fun G hG => ?_))
      refine Ev.at (pc' := 80) rfl (Ev.cong (st' := []) ?_ rfl rfl)
      refine ev_aload_n (k0 := 0) rfl d_R_writeProphecy_80 ?_
      refine cw_bipush 64 d_R_writeProphecy_81 rfl ?_
      obtain ⟨r14, hr14, h⟩ := bind_some9 h
      refine cv_V (d := d + 1) (mc1 := 0) (ms1 := 0) (mc := 0) (ms := 0) [.inl (.int 64)] hG v_13 rfl lk_ProphecyShopModel_391 (w_R_writes (d + 1) hG hr14) rfl rfl d_R_writeProphecy_83 (aft_rw (fun G hG => ?_))
      refine Ev.at (pc' := 86) rfl (Ev.cong (st' := []) ?_ rfl rfl)
      refine ev_aload_n (k0 := 0) rfl d_R_writeProphecy_86 ?_
      refine ev_iload_n (k0 := 1) rfl d_R_writeProphecy_87 ?_
      refine cw_iconst 2 d_R_writeProphecy_88 rfl ?_
      obtain ⟨r15, hr15, h⟩ := bind_some9 h
      refine cv_V (d := d + 1) (mc1 := 0) (ms1 := 0) (mc := 0) (ms := 0) [.inl (.int x1), .inl (.int 2)] hG v_13 rfl lk_ProphecyShopModel_84 (w_R_of (d + 1) hG hr15) rfl rfl d_R_writeProphecy_89 (aft_ro ?_)
      refine Ev.at (pc' := 92) rfl (Ev.cong (st' := [.inl (.int r15)]) ?_ rfl rfl)
      refine cw_iconst (-1) d_R_writeProphecy_92 rfl ?_
      obtain ⟨q16, hj, h⟩ := bind_some9 h
      have K_q16 : ∀ G, LM vr 535 547 q16 F G → Ev g (d + 2) m_R_writeProphecy 123 [some (.inr (0, off 13 0)), some (.inl (.int x1))] [] (G, nx) 0 0 (pRW vr 535 547 (rI o.1) o.2 F nx) := by
        intro G hG
        refine ev_aload_n (k0 := 0) rfl d_R_writeProphecy_123 ?_
        refine cw_bipush 32 d_R_writeProphecy_124 rfl ?_
        obtain ⟨r17, hr17, h⟩ := bind_some9 h
        refine cv_V (d := d + 1) (mc1 := 0) (ms1 := 0) (mc := 0) (ms := 0) [.inl (.int 32)] hG v_13 rfl lk_ProphecyShopModel_391 (w_R_writes (d + 1) hG hr17) rfl rfl d_R_writeProphecy_126 (aft_rw (fun G hG => ?_))
        refine Ev.at (pc' := 129) rfl (Ev.cong (st' := []) ?_ rfl rfl)
        refine ev_aload_n (k0 := 0) rfl d_R_writeProphecy_129 ?_
        refine ev_aload_n (k0 := 0) rfl d_R_writeProphecy_130 ?_
        refine ev_iload_n (k0 := 1) rfl d_R_writeProphecy_131 ?_
        refine cw_iconst 4 d_R_writeProphecy_132 rfl ?_
        obtain ⟨r18, hr18, h⟩ := bind_some9 h
        refine cv_V (d := d + 1) (mc1 := 0) (ms1 := 0) (mc := 0) (ms := 0) [.inl (.int x1), .inl (.int 4)] hG v_13 rfl lk_ProphecyShopModel_84 (w_R_of (d + 1) hG hr18) rfl rfl d_R_writeProphecy_133 (aft_ro ?_)
        refine Ev.at (pc' := 136) rfl (Ev.cong (st' := [.inl (.int r18), .inr (0, off 13 0)]) ?_ rfl rfl)
        obtain ⟨r19, hr19, h⟩ := bind_some9 h
        refine cv_V (d := d + 1) (mc1 := 0) (ms1 := 0) (mc := 0) (ms := 0) [.inl (.int r18)] hG v_13 rfl lk_ProphecyShopModel_397 (w_R_writesNumber (d + 0) hG hr19) rfl rfl d_R_writeProphecy_136 (aft_rw (fun G hG => ?_))
        refine Ev.at (pc' := 139) rfl (Ev.cong (st' := []) ?_ rfl rfl)
        refine ev_aload_n (k0 := 0) rfl d_R_writeProphecy_139 ?_
        refine cw_bipush 45 d_R_writeProphecy_140 rfl ?_
        obtain ⟨r20, hr20, h⟩ := bind_some9 h
        refine cv_V (d := d + 1) (mc1 := 0) (ms1 := 0) (mc := 0) (ms := 0) [.inl (.int 45)] hG v_13 rfl lk_ProphecyShopModel_391 (w_R_writes (d + 1) hG hr20) rfl rfl d_R_writeProphecy_142 (aft_rw (fun G hG => ?_))
        refine Ev.at (pc' := 145) rfl (Ev.cong (st' := []) ?_ rfl rfl)
        refine ev_aload_n (k0 := 0) rfl d_R_writeProphecy_145 ?_
        refine ev_aload_n (k0 := 0) rfl d_R_writeProphecy_146 ?_
        refine ev_iload_n (k0 := 1) rfl d_R_writeProphecy_147 ?_
        refine cw_iconst 5 d_R_writeProphecy_148 rfl ?_
        obtain ⟨r21, hr21, h⟩ := bind_some9 h
        refine cv_V (d := d + 1) (mc1 := 0) (ms1 := 0) (mc := 0) (ms := 0) [.inl (.int x1), .inl (.int 5)] hG v_13 rfl lk_ProphecyShopModel_84 (w_R_of (d + 1) hG hr21) rfl rfl d_R_writeProphecy_149 (aft_ro ?_)
        refine Ev.at (pc' := 152) rfl (Ev.cong (st' := [.inl (.int r21), .inr (0, off 13 0)]) ?_ rfl rfl)
        obtain ⟨r22, hr22, h⟩ := bind_some9 h
        refine cv_V (d := d + 1) (mc1 := 0) (ms1 := 0) (mc := 0) (ms := 0) [.inl (.int r21)] hG v_13 rfl lk_ProphecyShopModel_397 (w_R_writesNumber (d + 0) hG hr22) rfl rfl d_R_writeProphecy_152 (aft_rw (fun G hG => ?_))
        refine Ev.at (pc' := 155) rfl (Ev.cong (st' := []) ?_ rfl rfl)
        refine ev_aload_n (k0 := 0) rfl d_R_writeProphecy_155 ?_
        refine cv_get9 (.inl (.int (r22 13 0 28))) hG v_13 fg_ProphecyShopModel_388_13 rfl rfl d_R_writeProphecy_156 ?_
        have hP := kE _ (Option.some.inj h).symm
        exact ev_ireturn (st := []) rfl rfl d_R_writeProphecy_159 (by rw [hP]; exact ⟨rfl, hG, rfl⟩)
      clear h
      have h := hj
      refine ev_icmp_ne (tgt := 105) (by decide) d_R_writeProphecy_93 (fun c => ?_) (fun c => ?_)
      · rw [if_neg c] at h
        refine ev_aload_n (k0 := 0) rfl d_R_writeProphecy_105 ?_
        refine ev_aload_n (k0 := 0) rfl d_R_writeProphecy_106 ?_
        refine cv_get9 (.inr (0, off 40 0)) hG v_13 fg_ProphecyShopModel_7_13 rfl rfl d_R_writeProphecy_107 ?_
        refine cw_bipush 22 d_R_writeProphecy_110 rfl ?_
        refine ev_aload_n (k0 := 0) rfl d_R_writeProphecy_112 ?_
        refine ev_iload_n (k0 := 1) rfl d_R_writeProphecy_113 ?_
        refine cw_iconst 2 d_R_writeProphecy_114 rfl ?_
        obtain ⟨r23, hr23, h⟩ := bind_some9 h
        refine cv_V (d := d + 1) (mc1 := 0) (ms1 := 0) (mc := 0) (ms := 0) [.inl (.int x1), .inl (.int 2)] hG v_13 rfl lk_ProphecyShopModel_84 (w_R_of (d + 1) hG hr23) rfl rfl d_R_writeProphecy_115 (aft_ro ?_)
        refine Ev.at (pc' := 118) rfl (Ev.cong (st' := [.inl (.int r23), .inl (.int 22), .inr (0, off 40 0), .inr (0, off 13 0)]) ?_ rfl rfl)
        refine ev_iadd d_R_writeProphecy_118 ?_
        obtain ⟨b24, h⟩ := chk_some h
        refine cv_iald hG v_40 rfl rfl b24 rfl d_R_writeProphecy_119 ?_
        obtain ⟨r25, hr25, h⟩ := bind_some9 h
        refine cv_V (d := d + 1) (mc1 := 0) (ms1 := 0) (mc := 0) (ms := 0) [.inl (.int (r14 40 0 (22 + r23).toNatClampNeg))] hG v_13 rfl lk_ProphecyShopModel_394 (w_R_writesName (d + 0) hG hr25) rfl rfl d_R_writeProphecy_120 (aft_rw (fun G hG => ?_))
        refine Ev.at (pc' := 123) rfl (Ev.cong (st' := []) ?_ rfl rfl)
        obtain rfl := Option.some.inj h
        exact K_q16 G hG
      · rw [if_pos c] at h
        refine ev_aload_n (k0 := 0) rfl d_R_writeProphecy_96 ?_
        refine cw_bipush 42 d_R_writeProphecy_97 rfl ?_
        obtain ⟨r26, hr26, h⟩ := bind_some9 h
        refine cv_V (d := d + 1) (mc1 := 0) (ms1 := 0) (mc := 0) (ms := 0) [.inl (.int 42)] hG v_13 rfl lk_ProphecyShopModel_391 (w_R_writes (d + 1) hG hr26) rfl rfl d_R_writeProphecy_99 (aft_rw (fun G hG => ?_))
        refine Ev.at (pc' := 102) rfl (Ev.cong (st' := []) ?_ rfl rfl)
        refine ev_goto (tgt := 123) (by decide) d_R_writeProphecy_102 ?_
        obtain rfl := Option.some.inj h
        exact K_q16 G hG
    clear h
    have h := hj
    refine ev_icmp_ne (tgt := 62) (by decide) d_R_writeProphecy_53 (fun c => ?_) (fun c => ?_)
    · rw [if_neg c] at h
      obtain rfl := Option.some.inj h
      exact K_q10 G hG
    · rw [if_pos c] at h
      refine ev_aload_n (k0 := 0) rfl d_R_writeProphecy_56 ?_
      refine cw_bipush 33 d_R_writeProphecy_57 rfl ?_
      obtain ⟨r27, hr27, h⟩ := bind_some9 h
      refine cv_V (d := d + 1) (mc1 := 0) (ms1 := 0) (mc := 0) (ms := 0) [.inl (.int 33)] hG v_13 rfl lk_ProphecyShopModel_391 (w_R_writes (d + 1) hG hr27) rfl rfl d_R_writeProphecy_59 (aft_rw (fun G hG => ?_))
      refine Ev.at (pc' := 62) rfl (Ev.cong (st' := []) ?_ rfl rfl)
      obtain rfl := Option.some.inj h
      exact K_q10 G hG
  · rw [if_pos c] at h
    refine cw_iconst 0 d_R_writeProphecy_18 rfl ?_
    have hP := kE _ (Option.some.inj h).symm
    exact ev_ireturn (st := []) rfl rfl d_R_writeProphecy_19 (by rw [hP]; exact ⟨rfl, hG, rfl⟩)

/-- ProphecyShopModel.writeQueue -/
def s_R_writeQueue_12  (x1 : Int32) (μ : Mem) : Option ((Int32 × Mem) ⊕ (Mem)) :=
  chk (inb 12 524) (if (μ 40 0 (12 : Int32).toNatClampNeg) ≤ x1 then (some (.inr μ)) else (((if x1 ≤ 0 then (some (μ)) else (((f_R_writes 44 μ)).bind (fun r5 => some (r5))) : Option (Mem))).bind (fun q2 => chk (inb (500 + x1) 524) (((f_R_writesNumber (q2 40 0 (500 + x1).toNatClampNeg) q2)).bind (fun r4 => some (.inl ((x1 + 1, r4))))))))
def f_R_writeQueue  (μ : Mem) : Option (Int32 × Mem) :=
  nm (st3 μ 13 0 7 0) (fun μ1 => nm (st3 μ1 13 0 28 0) (fun μ2 => (it (fun (s : Int32 × Mem) => s_R_writeQueue_12 s.1 s.2) LIM ((0, μ2))).bind (fun q3 => some ((q3 13 0 28, q3)))))
set_option maxRecDepth 100000 in
set_option maxHeartbeats 4000000 in
theorem ws_R_writeQueue_12 {g : GL} {F G : RG} {nx mc ms : Nat} {Post : RO → RM → Prop} (d : Nat)  {x1 : Int32} {μ : Mem}   {o : (Int32 × Mem) ⊕ (Mem)} (hG : LM vr 535 547 μ F G) (h : s_R_writeQueue_12  x1 μ = some o)
    (kC : ∀ s', o = .inl s' → ∀ G, LM vr 535 547 s'.2 F G → Ev g (d + 2) m_R_writeQueue 12 [some (.inr (0, off 13 0)), some (.inl (.int s'.1))] [] (G, nx) mc ms Post)
    (kX : ∀ r, o = .inr r → ∀ G, LM vr 535 547 r F G → Ev g (d + 2) m_R_writeQueue 53 [some (.inr (0, off 13 0)), none] [] (G, nx) mc ms Post)
    : Ev g (d + 2) m_R_writeQueue 12 [some (.inr (0, off 13 0)), some (.inl (.int x1))] [] (G, nx) mc ms Post := by
  unfold s_R_writeQueue_12 at h
  refine ev_iload_n (k0 := 1) rfl d_R_writeQueue_12 ?_
  refine ev_aload_n (k0 := 0) rfl d_R_writeQueue_13 ?_
  refine cv_get9 (.inr (0, off 40 0)) hG v_13 fg_ProphecyShopModel_7_13 rfl rfl d_R_writeQueue_14 ?_
  refine cw_bipush 12 d_R_writeQueue_17 rfl ?_
  obtain ⟨b1, h⟩ := chk_some h
  refine cv_iald hG v_40 rfl rfl b1 rfl d_R_writeQueue_19 ?_
  refine ev_icmp_ge (tgt := 53) (by decide) d_R_writeQueue_20 (fun c => ?_) (fun c => ?_)
  · rw [if_pos c] at h
    exact Ev.sub (.s (.n LSb.z)) (kX _ (Option.some.inj h).symm G hG)
  · rw [if_neg c] at h
    refine ev_iload_n (k0 := 1) rfl d_R_writeQueue_23 ?_
    obtain ⟨q2, hj, h⟩ := bind_some9 h
    have K_q2 : ∀ G, LM vr 535 547 q2 F G → Ev g (d + 2) m_R_writeQueue 33 [some (.inr (0, off 13 0)), some (.inl (.int x1))] [] (G, nx) mc ms Post := by
      intro G hG
      refine ev_aload_n (k0 := 0) rfl d_R_writeQueue_33 ?_
      refine ev_aload_n (k0 := 0) rfl d_R_writeQueue_34 ?_
      refine cv_get9 (.inr (0, off 40 0)) hG v_13 fg_ProphecyShopModel_7_13 rfl rfl d_R_writeQueue_35 ?_
      refine cw_sipush 500 d_R_writeQueue_38 rfl ?_
      refine ev_iload_n (k0 := 1) rfl d_R_writeQueue_41 ?_
      refine ev_iadd d_R_writeQueue_42 ?_
      obtain ⟨b3, h⟩ := chk_some h
      refine cv_iald hG v_40 rfl rfl b3 rfl d_R_writeQueue_43 ?_
      obtain ⟨r4, hr4, h⟩ := bind_some9 h
      refine Ev.z9 ?_
      refine cv_V (d := d + 1) (mc1 := 0) (ms1 := 0) (mc := mc) (ms := ms) [.inl (.int (q2 40 0 (500 + x1).toNatClampNeg))] hG v_13 rfl lk_ProphecyShopModel_397 (w_R_writesNumber (d + 0) hG hr4) rfl rfl d_R_writeQueue_44 (aft_rw (fun G hG => ?_))
      refine Ev.at (pc' := 47) rfl (Ev.cong (st' := []) ?_ rfl rfl)
      refine cw_iincN 1 1 [some (.inr (0, off 13 0)), some (.inl (.int (x1 + 1)))] d_R_writeQueue_47 rfl rfl rfl rfl rfl ?_
      refine ev_goto (tgt := 12) (by decide) d_R_writeQueue_50 ?_
      exact kC _ (Option.some.inj h).symm G hG
    clear h
    have h := hj
    refine ev_if_le (tgt := 33) (by decide) d_R_writeQueue_24 (fun c => ?_) (fun c => ?_)
    · rw [if_pos c] at h
      obtain rfl := Option.some.inj h
      exact K_q2 G hG
    · rw [if_neg c] at h
      refine ev_aload_n (k0 := 0) rfl d_R_writeQueue_27 ?_
      refine cw_bipush 44 d_R_writeQueue_28 rfl ?_
      obtain ⟨r5, hr5, h⟩ := bind_some9 h
      refine Ev.z9 ?_
      refine cv_V (d := d + 1) (mc1 := 0) (ms1 := 0) (mc := mc) (ms := ms) [.inl (.int 44)] hG v_13 rfl lk_ProphecyShopModel_391 (w_R_writes (d + 1) hG hr5) rfl rfl d_R_writeQueue_30 (aft_rw (fun G hG => ?_))
      refine Ev.at (pc' := 33) rfl (Ev.cong (st' := []) ?_ rfl rfl)
      obtain rfl := Option.some.inj h
      exact K_q2 G hG
set_option maxRecDepth 100000 in
set_option maxHeartbeats 4000000 in
theorem w_R_writeQueue {g : GL} {F G : RG} {nx : Nat} (d : Nat)  {μ : Mem}   {o : Int32 × Mem} (hG : LM vr 535 547 μ F G) (h : f_R_writeQueue  μ = some o) : Mt g (d + 2) m_R_writeQueue [.inr (0, off 13 0)] (G, nx) 0 0 (pRW vr 535 547 (rI o.1) o.2 F nx) := by
  unfold f_R_writeQueue at h
  have kE : ∀ v, o = v → pRW vr 535 547 (rI o.1) o.2 F nx = pRW vr 535 547 (rI v.1) v.2 F nx := fun v e => by rw [e]
  refine Mt.of9 [some (.inr (0, off 13 0)), none] (by decide +kernel) rfl rfl rfl rfl ?_
  refine ev_aload_n (k0 := 0) rfl d_R_writeQueue_0 ?_
  refine cw_iconst 0 d_R_writeQueue_1 rfl ?_
  obtain ⟨μ1, e_μ1, h⟩ := nm_some h
  refine cv_put (.inl (.int 0)) 0 hG okR v_13 fl_ProphecyShopModel_73_13 rfl rfl okv_int d_R_writeQueue_2 ?_
  intro G hG; rw [← e_μ1] at hG
  refine ev_aload_n (k0 := 0) rfl d_R_writeQueue_5 ?_
  refine cw_iconst 0 d_R_writeQueue_6 rfl ?_
  obtain ⟨μ2, e_μ2, h⟩ := nm_some h
  refine cv_put (.inl (.int 0)) 0 hG okR v_13 fl_ProphecyShopModel_388_13 rfl rfl okv_int d_R_writeQueue_7 ?_
  intro G hG; rw [← e_μ2] at hG
  refine cw_iconst 0 d_R_writeQueue_10 rfl ?_
  refine cw_istoreN_n 1 0 rfl [some (.inr (0, off 13 0)), some (.inl (.int 0))] d_R_writeQueue_11 rfl rfl rfl ?_
  obtain ⟨q3, hl, h⟩ := bind_some9 h
  refine it_ev (W := fun (s : Int32 × Mem) => ∀ G, LM vr 535 547 s.2 F G → Ev g (d + 2) m_R_writeQueue 12 [some (.inr (0, off 13 0)), some (.inl (.int s.1))] [] (G, nx) 0 0 (pRW vr 535 547 (rI o.1) o.2 F nx)) (X := fun z => z = q3) rfl (fun s9 o9 hs kC9 kX9 => ?_) LIM _ hl G hG
  intro G hG
  refine ws_R_writeQueue_12 d  hG hs kC9 (fun r_ e G hG => ?_)
  · obtain rfl := (kX9 _ e).symm
    refine ev_aload_n (k0 := 0) rfl d_R_writeQueue_53 ?_
    refine cv_get9 (.inl (.int (q3 13 0 28))) hG v_13 fg_ProphecyShopModel_388_13 rfl rfl d_R_writeQueue_54 ?_
    have hP := kE _ (Option.some.inj h).symm
    exact ev_ireturn (st := []) rfl rfl d_R_writeQueue_57 (by rw [hP]; exact ⟨rfl, hG, rfl⟩)

/-- ProphecyShopModel.outputByte -/
def f_R_outputByte (x1 : Int32) (μ : Mem) : Option (Int32 × Mem) :=
  nm (st3 μ 13 0 7 0) (fun μ1 => ((f_R_in x1 0 ((μ1 13 0 28) - 1) μ1)).bind (fun r2 => if r2 = 0 then (some (((-1), μ1))) else (chk (inb x1 200) (some ((μ1 49 0 x1.toNatClampNeg, μ1))))))
set_option maxRecDepth 100000 in
set_option maxHeartbeats 4000000 in
theorem w_R_outputByte {g : GL} {F G : RG} {nx : Nat} (d : Nat) {x1 : Int32} {μ : Mem}   {o : Int32 × Mem} (hG : LM vr 535 547 μ F G) (h : f_R_outputByte x1 μ = some o) : Mt g (d + 1) m_R_outputByte [.inr (0, off 13 0), .inl (.int x1)] (G, nx) 0 0 (pRW vr 535 547 (rI o.1) o.2 F nx) := by
  unfold f_R_outputByte at h
  have kE : ∀ v, o = v → pRW vr 535 547 (rI o.1) o.2 F nx = pRW vr 535 547 (rI v.1) v.2 F nx := fun v e => by rw [e]
  refine Mt.of9 [some (.inr (0, off 13 0)), some (.inl (.int x1))] (by decide +kernel) rfl rfl rfl rfl ?_
  refine ev_aload_n (k0 := 0) rfl d_R_outputByte_0 ?_
  refine cw_iconst 0 d_R_outputByte_1 rfl ?_
  obtain ⟨μ1, e_μ1, h⟩ := nm_some h
  refine cv_put (.inl (.int 0)) 0 hG okR v_13 fl_ProphecyShopModel_73_13 rfl rfl okv_int d_R_outputByte_2 ?_
  intro G hG; rw [← e_μ1] at hG
  refine ev_iload_n (k0 := 1) rfl d_R_outputByte_5 ?_
  refine cw_iconst 0 d_R_outputByte_6 rfl ?_
  refine ev_aload_n (k0 := 0) rfl d_R_outputByte_7 ?_
  refine cv_get9 (.inl (.int (μ1 13 0 28))) hG v_13 fg_ProphecyShopModel_388_13 rfl rfl d_R_outputByte_8 ?_
  refine cw_iconst 1 d_R_outputByte_11 rfl ?_
  refine ev_isub d_R_outputByte_12 ?_
  obtain ⟨r2, hr2, h⟩ := bind_some9 h
  refine cw_S (d := d + 0) (mc1 := 0) (ms1 := 0) (mc := 0) (ms := 0) [.inl (.int x1), .inl (.int 0), .inl (.int ((μ1 13 0 28) - 1))] lk_ProphecyShopModel_76 (w_R_in (d + 0) hG hr2) rfl rfl d_R_outputByte_13 (aft_ro ?_)
  refine Ev.at (pc' := 16) rfl (Ev.cong (st' := [.inl (.int r2)]) ?_ rfl rfl)
  refine ev_if_eq (tgt := 28) (by decide) d_R_outputByte_16 (fun c => ?_) (fun c => ?_)
  · rw [if_pos c] at h
    refine cw_iconst (-1) d_R_outputByte_28 rfl ?_
    have hP := kE _ (Option.some.inj h).symm
    exact ev_ireturn (st := []) rfl rfl d_R_outputByte_29 (by rw [hP]; exact ⟨rfl, hG, rfl⟩)
  · rw [if_neg c] at h
    refine ev_aload_n (k0 := 0) rfl d_R_outputByte_19 ?_
    refine cv_get9 (.inr (0, off 49 0)) hG v_13 fg_ProphecyShopModel_42_13 rfl rfl d_R_outputByte_20 ?_
    refine ev_iload_n (k0 := 1) rfl d_R_outputByte_23 ?_
    obtain ⟨b3, h⟩ := chk_some h
    refine cv_iald hG v_49 rfl rfl b3 rfl d_R_outputByte_24 ?_
    refine ev_goto (tgt := 29) (by decide) d_R_outputByte_25 ?_
    have hP := kE _ (Option.some.inj h).symm
    exact ev_ireturn (st := []) rfl rfl d_R_outputByte_29 (by rw [hP]; exact ⟨rfl, hG, rfl⟩)
