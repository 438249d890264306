theorem d_History_forgetOldest_0 : decode prog_2_method_3_code 0 = .ok (.aload_n 0, 1) := by decide +kernel
theorem d_History_forgetOldest_1 : decode prog_2_method_3_code 1 = .ok (.getfield 11, 3) := by decide +kernel
theorem d_History_forgetOldest_4 : decode prog_2_method_3_code 4 = .ok (.iconst 0, 1) := by decide +kernel
theorem d_History_forgetOldest_5 : decode prog_2_method_3_code 5 = .ok (.aaload, 1) := by decide +kernel
theorem d_History_forgetOldest_6 : decode prog_2_method_3_code 6 = .ok (.astore_n 1, 1) := by decide +kernel
theorem d_History_forgetOldest_7 : decode prog_2_method_3_code 7 = .ok (.iconst 1, 1) := by decide +kernel
theorem d_History_forgetOldest_8 : decode prog_2_method_3_code 8 = .ok (.istore_n 2, 1) := by decide +kernel
theorem d_History_forgetOldest_9 : decode prog_2_method_3_code 9 = .ok (.iload_n 2, 1) := by decide +kernel
theorem d_History_forgetOldest_10 : decode prog_2_method_3_code 10 = .ok (.bipush 8, 2) := by decide +kernel
theorem d_History_forgetOldest_12 : decode prog_2_method_3_code 12 = .ok (.if_icmp .ge 23, 3) := by decide +kernel
theorem d_History_forgetOldest_15 : decode prog_2_method_3_code 15 = .ok (.aload_n 0, 1) := by decide +kernel
theorem d_History_forgetOldest_16 : decode prog_2_method_3_code 16 = .ok (.getfield 11, 3) := by decide +kernel
theorem d_History_forgetOldest_19 : decode prog_2_method_3_code 19 = .ok (.iload_n 2, 1) := by decide +kernel
theorem d_History_forgetOldest_20 : decode prog_2_method_3_code 20 = .ok (.iconst 1, 1) := by decide +kernel
theorem d_History_forgetOldest_21 : decode prog_2_method_3_code 21 = .ok (.isub, 1) := by decide +kernel
theorem d_History_forgetOldest_22 : decode prog_2_method_3_code 22 = .ok (.aload_n 0, 1) := by decide +kernel
theorem d_History_forgetOldest_23 : decode prog_2_method_3_code 23 = .ok (.getfield 11, 3) := by decide +kernel
theorem d_History_forgetOldest_26 : decode prog_2_method_3_code 26 = .ok (.iload_n 2, 1) := by decide +kernel
theorem d_History_forgetOldest_27 : decode prog_2_method_3_code 27 = .ok (.aaload, 1) := by decide +kernel
theorem d_History_forgetOldest_28 : decode prog_2_method_3_code 28 = .ok (.aastore, 1) := by decide +kernel
theorem d_History_forgetOldest_29 : decode prog_2_method_3_code 29 = .ok (.iinc 2 1, 3) := by decide +kernel
theorem d_History_forgetOldest_32 : decode prog_2_method_3_code 32 = .ok (.goto (-23), 3) := by decide +kernel
theorem d_History_forgetOldest_35 : decode prog_2_method_3_code 35 = .ok (.aload_n 0, 1) := by decide +kernel
theorem d_History_forgetOldest_36 : decode prog_2_method_3_code 36 = .ok (.getfield 11, 3) := by decide +kernel
theorem d_History_forgetOldest_39 : decode prog_2_method_3_code 39 = .ok (.bipush 7, 2) := by decide +kernel
theorem d_History_forgetOldest_41 : decode prog_2_method_3_code 41 = .ok (.aload_n 1, 1) := by decide +kernel
theorem d_History_forgetOldest_42 : decode prog_2_method_3_code 42 = .ok (.aastore, 1) := by decide +kernel
theorem d_History_forgetOldest_43 : decode prog_2_method_3_code 43 = .ok (.aload_n 0, 1) := by decide +kernel
theorem d_History_forgetOldest_44 : decode prog_2_method_3_code 44 = .ok (.bipush 7, 2) := by decide +kernel
theorem d_History_forgetOldest_46 : decode prog_2_method_3_code 46 = .ok (.putfield 17, 3) := by decide +kernel
theorem d_History_forgetOldest_49 : decode prog_2_method_3_code 49 = .ok (.return_, 1) := by decide +kernel
theorem d_Prophecy_copyFrom_0 : decode prog_5_method_2_code 0 = .ok (.aload_n 0, 1) := by decide +kernel
theorem d_Prophecy_copyFrom_1 : decode prog_5_method_2_code 1 = .ok (.aload_n 1, 1) := by decide +kernel
theorem d_Prophecy_copyFrom_2 : decode prog_5_method_2_code 2 = .ok (.getfield 9, 3) := by decide +kernel
theorem d_Prophecy_copyFrom_5 : decode prog_5_method_2_code 5 = .ok (.putfield 9, 3) := by decide +kernel
theorem d_Prophecy_copyFrom_8 : decode prog_5_method_2_code 8 = .ok (.aload_n 0, 1) := by decide +kernel
theorem d_Prophecy_copyFrom_9 : decode prog_5_method_2_code 9 = .ok (.aload_n 1, 1) := by decide +kernel
theorem d_Prophecy_copyFrom_10 : decode prog_5_method_2_code 10 = .ok (.getfield 15, 3) := by decide +kernel
theorem d_Prophecy_copyFrom_13 : decode prog_5_method_2_code 13 = .ok (.putfield 15, 3) := by decide +kernel
theorem d_Prophecy_copyFrom_16 : decode prog_5_method_2_code 16 = .ok (.aload_n 0, 1) := by decide +kernel
theorem d_Prophecy_copyFrom_17 : decode prog_5_method_2_code 17 = .ok (.aload_n 1, 1) := by decide +kernel
theorem d_Prophecy_copyFrom_18 : decode prog_5_method_2_code 18 = .ok (.getfield 18, 3) := by decide +kernel
theorem d_Prophecy_copyFrom_21 : decode prog_5_method_2_code 21 = .ok (.putfield 18, 3) := by decide +kernel
theorem d_Prophecy_copyFrom_24 : decode prog_5_method_2_code 24 = .ok (.aload_n 0, 1) := by decide +kernel
theorem d_Prophecy_copyFrom_25 : decode prog_5_method_2_code 25 = .ok (.aload_n 1, 1) := by decide +kernel
theorem d_Prophecy_copyFrom_26 : decode prog_5_method_2_code 26 = .ok (.getfield 21, 3) := by decide +kernel
theorem d_Prophecy_copyFrom_29 : decode prog_5_method_2_code 29 = .ok (.putfield 21, 3) := by decide +kernel
theorem d_Prophecy_copyFrom_32 : decode prog_5_method_2_code 32 = .ok (.aload_n 0, 1) := by decide +kernel
theorem d_Prophecy_copyFrom_33 : decode prog_5_method_2_code 33 = .ok (.aload_n 1, 1) := by decide +kernel
theorem d_Prophecy_copyFrom_34 : decode prog_5_method_2_code 34 = .ok (.getfield 24, 3) := by decide +kernel
theorem d_Prophecy_copyFrom_37 : decode prog_5_method_2_code 37 = .ok (.putfield 24, 3) := by decide +kernel
theorem d_Prophecy_copyFrom_40 : decode prog_5_method_2_code 40 = .ok (.aload_n 0, 1) := by decide +kernel
theorem d_Prophecy_copyFrom_41 : decode prog_5_method_2_code 41 = .ok (.aload_n 1, 1) := by decide +kernel
theorem d_Prophecy_copyFrom_42 : decode prog_5_method_2_code 42 = .ok (.getfield 27, 3) := by decide +kernel
theorem d_Prophecy_copyFrom_45 : decode prog_5_method_2_code 45 = .ok (.putfield 27, 3) := by decide +kernel
theorem d_Prophecy_copyFrom_48 : decode prog_5_method_2_code 48 = .ok (.aload_n 0, 1) := by decide +kernel
theorem d_Prophecy_copyFrom_49 : decode prog_5_method_2_code 49 = .ok (.aload_n 1, 1) := by decide +kernel
theorem d_Prophecy_copyFrom_50 : decode prog_5_method_2_code 50 = .ok (.getfield 30, 3) := by decide +kernel
theorem d_Prophecy_copyFrom_53 : decode prog_5_method_2_code 53 = .ok (.putfield 30, 3) := by decide +kernel
theorem d_Prophecy_copyFrom_56 : decode prog_5_method_2_code 56 = .ok (.aload_n 0, 1) := by decide +kernel
theorem d_Prophecy_copyFrom_57 : decode prog_5_method_2_code 57 = .ok (.aload_n 1, 1) := by decide +kernel
theorem d_Prophecy_copyFrom_58 : decode prog_5_method_2_code 58 = .ok (.getfield 33, 3) := by decide +kernel
theorem d_Prophecy_copyFrom_61 : decode prog_5_method_2_code 61 = .ok (.putfield 33, 3) := by decide +kernel
theorem d_Prophecy_copyFrom_64 : decode prog_5_method_2_code 64 = .ok (.aload_n 0, 1) := by decide +kernel
theorem d_Prophecy_copyFrom_65 : decode prog_5_method_2_code 65 = .ok (.aload_n 1, 1) := by decide +kernel
theorem d_Prophecy_copyFrom_66 : decode prog_5_method_2_code 66 = .ok (.getfield 36, 3) := by decide +kernel
theorem d_Prophecy_copyFrom_69 : decode prog_5_method_2_code 69 = .ok (.putfield 36, 3) := by decide +kernel
theorem d_Prophecy_copyFrom_72 : decode prog_5_method_2_code 72 = .ok (.aload_n 0, 1) := by decide +kernel
theorem d_Prophecy_copyFrom_73 : decode prog_5_method_2_code 73 = .ok (.aload_n 1, 1) := by decide +kernel
theorem d_Prophecy_copyFrom_74 : decode prog_5_method_2_code 74 = .ok (.getfield 39, 3) := by decide +kernel
theorem d_Prophecy_copyFrom_77 : decode prog_5_method_2_code 77 = .ok (.putfield 39, 3) := by decide +kernel
theorem d_Prophecy_copyFrom_80 : decode prog_5_method_2_code 80 = .ok (.return_, 1) := by decide +kernel
theorem d_Owl_copyFrom_0 : decode prog_4_method_2_code 0 = .ok (.aload_n 0, 1) := by decide +kernel
theorem d_Owl_copyFrom_1 : decode prog_4_method_2_code 1 = .ok (.aload_n 1, 1) := by decide +kernel
theorem d_Owl_copyFrom_2 : decode prog_4_method_2_code 2 = .ok (.getfield 9, 3) := by decide +kernel
theorem d_Owl_copyFrom_5 : decode prog_4_method_2_code 5 = .ok (.putfield 9, 3) := by decide +kernel
theorem d_Owl_copyFrom_8 : decode prog_4_method_2_code 8 = .ok (.aload_n 0, 1) := by decide +kernel
theorem d_Owl_copyFrom_9 : decode prog_4_method_2_code 9 = .ok (.aload_n 1, 1) := by decide +kernel
theorem d_Owl_copyFrom_10 : decode prog_4_method_2_code 10 = .ok (.getfield 15, 3) := by decide +kernel
theorem d_Owl_copyFrom_13 : decode prog_4_method_2_code 13 = .ok (.putfield 15, 3) := by decide +kernel
theorem d_Owl_copyFrom_16 : decode prog_4_method_2_code 16 = .ok (.aload_n 0, 1) := by decide +kernel
theorem d_Owl_copyFrom_17 : decode prog_4_method_2_code 17 = .ok (.aload_n 1, 1) := by decide +kernel
theorem d_Owl_copyFrom_18 : decode prog_4_method_2_code 18 = .ok (.getfield 18, 3) := by decide +kernel
theorem d_Owl_copyFrom_21 : decode prog_4_method_2_code 21 = .ok (.putfield 18, 3) := by decide +kernel
theorem d_Owl_copyFrom_24 : decode prog_4_method_2_code 24 = .ok (.aload_n 0, 1) := by decide +kernel
theorem d_Owl_copyFrom_25 : decode prog_4_method_2_code 25 = .ok (.aload_n 1, 1) := by decide +kernel
theorem d_Owl_copyFrom_26 : decode prog_4_method_2_code 26 = .ok (.getfield 21, 3) := by decide +kernel
theorem d_Owl_copyFrom_29 : decode prog_4_method_2_code 29 = .ok (.putfield 21, 3) := by decide +kernel
theorem d_Owl_copyFrom_32 : decode prog_4_method_2_code 32 = .ok (.aload_n 0, 1) := by decide +kernel
theorem d_Owl_copyFrom_33 : decode prog_4_method_2_code 33 = .ok (.aload_n 1, 1) := by decide +kernel
theorem d_Owl_copyFrom_34 : decode prog_4_method_2_code 34 = .ok (.getfield 24, 3) := by decide +kernel
theorem d_Owl_copyFrom_37 : decode prog_4_method_2_code 37 = .ok (.putfield 24, 3) := by decide +kernel
theorem d_Owl_copyFrom_40 : decode prog_4_method_2_code 40 = .ok (.return_, 1) := by decide +kernel
theorem d_Shop_copyFrom_0 : decode prog_10_method_3_code 0 = .ok (.aload_n 0, 1) := by decide +kernel
theorem d_Shop_copyFrom_1 : decode prog_10_method_3_code 1 = .ok (.aload_n 1, 1) := by decide +kernel
theorem d_Shop_copyFrom_2 : decode prog_10_method_3_code 2 = .ok (.getfield 61, 3) := by decide +kernel
theorem d_Shop_copyFrom_5 : decode prog_10_method_3_code 5 = .ok (.putfield 61, 3) := by decide +kernel
theorem d_Shop_copyFrom_8 : decode prog_10_method_3_code 8 = .ok (.aload_n 0, 1) := by decide +kernel
theorem d_Shop_copyFrom_9 : decode prog_10_method_3_code 9 = .ok (.aload_n 1, 1) := by decide +kernel
theorem d_Shop_copyFrom_10 : decode prog_10_method_3_code 10 = .ok (.getfield 9, 3) := by decide +kernel
theorem d_Shop_copyFrom_13 : decode prog_10_method_3_code 13 = .ok (.putfield 9, 3) := by decide +kernel
theorem d_Shop_copyFrom_16 : decode prog_10_method_3_code 16 = .ok (.aload_n 0, 1) := by decide +kernel
theorem d_Shop_copyFrom_17 : decode prog_10_method_3_code 17 = .ok (.aload_n 1, 1) := by decide +kernel
theorem d_Shop_copyFrom_18 : decode prog_10_method_3_code 18 = .ok (.getfield 15, 3) := by decide +kernel
theorem d_Shop_copyFrom_21 : decode prog_10_method_3_code 21 = .ok (.putfield 15, 3) := by decide +kernel
theorem d_Shop_copyFrom_24 : decode prog_10_method_3_code 24 = .ok (.aload_n 0, 1) := by decide +kernel
theorem d_Shop_copyFrom_25 : decode prog_10_method_3_code 25 = .ok (.aload_n 1, 1) := by decide +kernel
theorem d_Shop_copyFrom_26 : decode prog_10_method_3_code 26 = .ok (.getfield 28, 3) := by decide +kernel
theorem d_Shop_copyFrom_29 : decode prog_10_method_3_code 29 = .ok (.putfield 28, 3) := by decide +kernel
theorem d_Shop_copyFrom_32 : decode prog_10_method_3_code 32 = .ok (.aload_n 0, 1) := by decide +kernel
theorem d_Shop_copyFrom_33 : decode prog_10_method_3_code 33 = .ok (.aload_n 1, 1) := by decide +kernel
theorem d_Shop_copyFrom_34 : decode prog_10_method_3_code 34 = .ok (.getfield 40, 3) := by decide +kernel
theorem d_Shop_copyFrom_37 : decode prog_10_method_3_code 37 = .ok (.putfield 40, 3) := by decide +kernel
theorem d_Shop_copyFrom_40 : decode prog_10_method_3_code 40 = .ok (.aload_n 0, 1) := by decide +kernel
theorem d_Shop_copyFrom_41 : decode prog_10_method_3_code 41 = .ok (.aload_n 1, 1) := by decide +kernel
theorem d_Shop_copyFrom_42 : decode prog_10_method_3_code 42 = .ok (.getfield 52, 3) := by decide +kernel
theorem d_Shop_copyFrom_45 : decode prog_10_method_3_code 45 = .ok (.putfield 52, 3) := by decide +kernel
theorem d_Shop_copyFrom_48 : decode prog_10_method_3_code 48 = .ok (.aload_n 0, 1) := by decide +kernel
theorem d_Shop_copyFrom_49 : decode prog_10_method_3_code 49 = .ok (.aload_n 1, 1) := by decide +kernel
theorem d_Shop_copyFrom_50 : decode prog_10_method_3_code 50 = .ok (.getfield 55, 3) := by decide +kernel
theorem d_Shop_copyFrom_53 : decode prog_10_method_3_code 53 = .ok (.putfield 55, 3) := by decide +kernel
theorem d_Shop_copyFrom_56 : decode prog_10_method_3_code 56 = .ok (.aload_n 0, 1) := by decide +kernel
theorem d_Shop_copyFrom_57 : decode prog_10_method_3_code 57 = .ok (.aload_n 1, 1) := by decide +kernel
theorem d_Shop_copyFrom_58 : decode prog_10_method_3_code 58 = .ok (.getfield 58, 3) := by decide +kernel
theorem d_Shop_copyFrom_61 : decode prog_10_method_3_code 61 = .ok (.putfield 58, 3) := by decide +kernel
theorem d_Shop_copyFrom_64 : decode prog_10_method_3_code 64 = .ok (.aload_n 1, 1) := by decide +kernel
theorem d_Shop_copyFrom_65 : decode prog_10_method_3_code 65 = .ok (.getfield 18, 3) := by decide +kernel
theorem d_Shop_copyFrom_68 : decode prog_10_method_3_code 68 = .ok (.iconst 0, 1) := by decide +kernel
theorem d_Shop_copyFrom_69 : decode prog_10_method_3_code 69 = .ok (.aload_n 0, 1) := by decide +kernel
theorem d_Shop_copyFrom_70 : decode prog_10_method_3_code 70 = .ok (.getfield 18, 3) := by decide +kernel
theorem d_Shop_copyFrom_73 : decode prog_10_method_3_code 73 = .ok (.iconst 0, 1) := by decide +kernel
theorem d_Shop_copyFrom_74 : decode prog_10_method_3_code 74 = .ok (.bipush 8, 2) := by decide +kernel
theorem d_Shop_copyFrom_76 : decode prog_10_method_3_code 76 = .ok (.invokestatic 77, 3) := by decide +kernel
theorem d_Shop_copyFrom_79 : decode prog_10_method_3_code 79 = .ok (.aload_n 1, 1) := by decide +kernel
theorem d_Shop_copyFrom_80 : decode prog_10_method_3_code 80 = .ok (.getfield 37, 3) := by decide +kernel
theorem d_Shop_copyFrom_83 : decode prog_10_method_3_code 83 = .ok (.iconst 0, 1) := by decide +kernel
theorem d_Shop_copyFrom_84 : decode prog_10_method_3_code 84 = .ok (.aload_n 0, 1) := by decide +kernel
theorem d_Shop_copyFrom_85 : decode prog_10_method_3_code 85 = .ok (.getfield 37, 3) := by decide +kernel
theorem d_Shop_copyFrom_88 : decode prog_10_method_3_code 88 = .ok (.iconst 0, 1) := by decide +kernel
theorem d_Shop_copyFrom_89 : decode prog_10_method_3_code 89 = .ok (.bipush 24, 2) := by decide +kernel
theorem d_Shop_copyFrom_91 : decode prog_10_method_3_code 91 = .ok (.invokestatic 77, 3) := by decide +kernel
theorem d_Shop_copyFrom_94 : decode prog_10_method_3_code 94 = .ok (.aload_n 1, 1) := by decide +kernel
theorem d_Shop_copyFrom_95 : decode prog_10_method_3_code 95 = .ok (.getfield 43, 3) := by decide +kernel
theorem d_Shop_copyFrom_98 : decode prog_10_method_3_code 98 = .ok (.iconst 0, 1) := by decide +kernel
theorem d_Shop_copyFrom_99 : decode prog_10_method_3_code 99 = .ok (.aload_n 0, 1) := by decide +kernel
theorem d_Shop_copyFrom_100 : decode prog_10_method_3_code 100 = .ok (.getfield 43, 3) := by decide +kernel
theorem d_Shop_copyFrom_103 : decode prog_10_method_3_code 103 = .ok (.iconst 0, 1) := by decide +kernel
theorem d_Shop_copyFrom_104 : decode prog_10_method_3_code 104 = .ok (.bipush 60, 2) := by decide +kernel
theorem d_Shop_copyFrom_106 : decode prog_10_method_3_code 106 = .ok (.invokestatic 77, 3) := by decide +kernel
theorem d_Shop_copyFrom_109 : decode prog_10_method_3_code 109 = .ok (.aload_n 1, 1) := by decide +kernel
theorem d_Shop_copyFrom_110 : decode prog_10_method_3_code 110 = .ok (.getfield 46, 3) := by decide +kernel
theorem d_Shop_copyFrom_113 : decode prog_10_method_3_code 113 = .ok (.iconst 0, 1) := by decide +kernel
theorem d_Shop_copyFrom_114 : decode prog_10_method_3_code 114 = .ok (.aload_n 0, 1) := by decide +kernel
theorem d_Shop_copyFrom_115 : decode prog_10_method_3_code 115 = .ok (.getfield 46, 3) := by decide +kernel
theorem d_Shop_copyFrom_118 : decode prog_10_method_3_code 118 = .ok (.iconst 0, 1) := by decide +kernel
theorem d_Shop_copyFrom_119 : decode prog_10_method_3_code 119 = .ok (.bipush 60, 2) := by decide +kernel
theorem d_Shop_copyFrom_121 : decode prog_10_method_3_code 121 = .ok (.invokestatic 77, 3) := by decide +kernel
theorem d_Shop_copyFrom_124 : decode prog_10_method_3_code 124 = .ok (.aload_n 1, 1) := by decide +kernel
theorem d_Shop_copyFrom_125 : decode prog_10_method_3_code 125 = .ok (.getfield 49, 3) := by decide +kernel
theorem d_Shop_copyFrom_128 : decode prog_10_method_3_code 128 = .ok (.iconst 0, 1) := by decide +kernel
theorem d_Shop_copyFrom_129 : decode prog_10_method_3_code 129 = .ok (.aload_n 0, 1) := by decide +kernel
theorem d_Shop_copyFrom_130 : decode prog_10_method_3_code 130 = .ok (.getfield 49, 3) := by decide +kernel
theorem d_Shop_copyFrom_133 : decode prog_10_method_3_code 133 = .ok (.iconst 0, 1) := by decide +kernel
theorem d_Shop_copyFrom_134 : decode prog_10_method_3_code 134 = .ok (.bipush 60, 2) := by decide +kernel
theorem d_Shop_copyFrom_136 : decode prog_10_method_3_code 136 = .ok (.invokestatic 77, 3) := by decide +kernel
theorem d_Shop_copyFrom_139 : decode prog_10_method_3_code 139 = .ok (.iconst 0, 1) := by decide +kernel
theorem d_Shop_copyFrom_140 : decode prog_10_method_3_code 140 = .ok (.istore_n 2, 1) := by decide +kernel
theorem d_Shop_copyFrom_141 : decode prog_10_method_3_code 141 = .ok (.iload_n 2, 1) := by decide +kernel
theorem d_Shop_copyFrom_142 : decode prog_10_method_3_code 142 = .ok (.bipush 24, 2) := by decide +kernel
theorem d_Shop_copyFrom_144 : decode prog_10_method_3_code 144 = .ok (.if_icmp .ge 24, 3) := by decide +kernel
theorem d_Shop_copyFrom_147 : decode prog_10_method_3_code 147 = .ok (.aload_n 0, 1) := by decide +kernel
theorem d_Shop_copyFrom_148 : decode prog_10_method_3_code 148 = .ok (.getfield 24, 3) := by decide +kernel
theorem d_Shop_copyFrom_151 : decode prog_10_method_3_code 151 = .ok (.iload_n 2, 1) := by decide +kernel
theorem d_Shop_copyFrom_152 : decode prog_10_method_3_code 152 = .ok (.aaload, 1) := by decide +kernel
theorem d_Shop_copyFrom_153 : decode prog_10_method_3_code 153 = .ok (.aload_n 1, 1) := by decide +kernel
theorem d_Shop_copyFrom_154 : decode prog_10_method_3_code 154 = .ok (.getfield 24, 3) := by decide +kernel
theorem d_Shop_copyFrom_157 : decode prog_10_method_3_code 157 = .ok (.iload_n 2, 1) := by decide +kernel
theorem d_Shop_copyFrom_158 : decode prog_10_method_3_code 158 = .ok (.aaload, 1) := by decide +kernel
theorem d_Shop_copyFrom_159 : decode prog_10_method_3_code 159 = .ok (.invokevirtual 83, 3) := by decide +kernel
theorem d_Shop_copyFrom_162 : decode prog_10_method_3_code 162 = .ok (.iinc 2 1, 3) := by decide +kernel
theorem d_Shop_copyFrom_165 : decode prog_10_method_3_code 165 = .ok (.goto (-24), 3) := by decide +kernel
theorem d_Shop_copyFrom_168 : decode prog_10_method_3_code 168 = .ok (.iconst 0, 1) := by decide +kernel
theorem d_Shop_copyFrom_169 : decode prog_10_method_3_code 169 = .ok (.istore_n 2, 1) := by decide +kernel
theorem d_Shop_copyFrom_170 : decode prog_10_method_3_code 170 = .ok (.iload_n 2, 1) := by decide +kernel
theorem d_Shop_copyFrom_171 : decode prog_10_method_3_code 171 = .ok (.iconst 5, 1) := by decide +kernel
theorem d_Shop_copyFrom_172 : decode prog_10_method_3_code 172 = .ok (.if_icmp .ge 24, 3) := by decide +kernel
theorem d_Shop_copyFrom_175 : decode prog_10_method_3_code 175 = .ok (.aload_n 0, 1) := by decide +kernel
theorem d_Shop_copyFrom_176 : decode prog_10_method_3_code 176 = .ok (.getfield 33, 3) := by decide +kernel
theorem d_Shop_copyFrom_179 : decode prog_10_method_3_code 179 = .ok (.iload_n 2, 1) := by decide +kernel
theorem d_Shop_copyFrom_180 : decode prog_10_method_3_code 180 = .ok (.aaload, 1) := by decide +kernel
theorem d_Shop_copyFrom_181 : decode prog_10_method_3_code 181 = .ok (.aload_n 1, 1) := by decide +kernel
theorem d_Shop_copyFrom_182 : decode prog_10_method_3_code 182 = .ok (.getfield 33, 3) := by decide +kernel
theorem d_Shop_copyFrom_185 : decode prog_10_method_3_code 185 = .ok (.iload_n 2, 1) := by decide +kernel
theorem d_Shop_copyFrom_186 : decode prog_10_method_3_code 186 = .ok (.aaload, 1) := by decide +kernel
theorem d_Shop_copyFrom_187 : decode prog_10_method_3_code 187 = .ok (.invokevirtual 87, 3) := by decide +kernel
theorem d_Shop_copyFrom_190 : decode prog_10_method_3_code 190 = .ok (.iinc 2 1, 3) := by decide +kernel
theorem d_Shop_copyFrom_193 : decode prog_10_method_3_code 193 = .ok (.goto (-23), 3) := by decide +kernel
theorem d_Shop_copyFrom_196 : decode prog_10_method_3_code 196 = .ok (.return_, 1) := by decide +kernel
theorem d_History_record_0 : decode prog_2_method_2_code 0 = .ok (.aload_n 0, 1) := by decide +kernel
theorem d_History_record_1 : decode prog_2_method_2_code 1 = .ok (.getfield 17, 3) := by decide +kernel
theorem d_History_record_4 : decode prog_2_method_2_code 4 = .ok (.bipush 8, 2) := by decide +kernel
theorem d_History_record_6 : decode prog_2_method_2_code 6 = .ok (.if_icmp .lt 7, 3) := by decide +kernel
theorem d_History_record_9 : decode prog_2_method_2_code 9 = .ok (.aload_n 0, 1) := by decide +kernel
theorem d_History_record_10 : decode prog_2_method_2_code 10 = .ok (.invokevirtual 24, 3) := by decide +kernel
theorem d_History_record_13 : decode prog_2_method_2_code 13 = .ok (.aload_n 0, 1) := by decide +kernel
theorem d_History_record_14 : decode prog_2_method_2_code 14 = .ok (.getfield 11, 3) := by decide +kernel
theorem d_History_record_17 : decode prog_2_method_2_code 17 = .ok (.aload_n 0, 1) := by decide +kernel
theorem d_History_record_18 : decode prog_2_method_2_code 18 = .ok (.getfield 17, 3) := by decide +kernel
theorem d_History_record_21 : decode prog_2_method_2_code 21 = .ok (.aaload, 1) := by decide +kernel
theorem d_History_record_22 : decode prog_2_method_2_code 22 = .ok (.aload_n 1, 1) := by decide +kernel
theorem d_History_record_23 : decode prog_2_method_2_code 23 = .ok (.invokevirtual 27, 3) := by decide +kernel
theorem d_History_record_26 : decode prog_2_method_2_code 26 = .ok (.aload_n 0, 1) := by decide +kernel
theorem d_History_record_27 : decode prog_2_method_2_code 27 = .ok (.dup, 1) := by decide +kernel
theorem d_History_record_28 : decode prog_2_method_2_code 28 = .ok (.getfield 17, 3) := by decide +kernel
theorem d_History_record_31 : decode prog_2_method_2_code 31 = .ok (.iconst 1, 1) := by decide +kernel
theorem d_History_record_32 : decode prog_2_method_2_code 32 = .ok (.iadd, 1) := by decide +kernel
theorem d_History_record_33 : decode prog_2_method_2_code 33 = .ok (.putfield 17, 3) := by decide +kernel
theorem d_History_record_36 : decode prog_2_method_2_code 36 = .ok (.return_, 1) := by decide +kernel
theorem d_History_takeBack_0 : decode prog_2_method_4_code 0 = .ok (.aload_n 0, 1) := by decide +kernel
theorem d_History_takeBack_1 : decode prog_2_method_4_code 1 = .ok (.getfield 17, 3) := by decide +kernel
theorem d_History_takeBack_4 : decode prog_2_method_4_code 4 = .ok (.ifCond .le 26, 3) := by decide +kernel
theorem d_History_takeBack_7 : decode prog_2_method_4_code 7 = .ok (.aload_n 0, 1) := by decide +kernel
theorem d_History_takeBack_8 : decode prog_2_method_4_code 8 = .ok (.dup, 1) := by decide +kernel
theorem d_History_takeBack_9 : decode prog_2_method_4_code 9 = .ok (.getfield 17, 3) := by decide +kernel
theorem d_History_takeBack_12 : decode prog_2_method_4_code 12 = .ok (.iconst 1, 1) := by decide +kernel
theorem d_History_takeBack_13 : decode prog_2_method_4_code 13 = .ok (.isub, 1) := by decide +kernel
theorem d_History_takeBack_14 : decode prog_2_method_4_code 14 = .ok (.putfield 17, 3) := by decide +kernel
theorem d_History_takeBack_17 : decode prog_2_method_4_code 17 = .ok (.aload_n 1, 1) := by decide +kernel
theorem d_History_takeBack_18 : decode prog_2_method_4_code 18 = .ok (.aload_n 0, 1) := by decide +kernel
theorem d_History_takeBack_19 : decode prog_2_method_4_code 19 = .ok (.getfield 11, 3) := by decide +kernel
theorem d_History_takeBack_22 : decode prog_2_method_4_code 22 = .ok (.aload_n 0, 1) := by decide +kernel
theorem d_History_takeBack_23 : decode prog_2_method_4_code 23 = .ok (.getfield 17, 3) := by decide +kernel
theorem d_History_takeBack_26 : decode prog_2_method_4_code 26 = .ok (.aaload, 1) := by decide +kernel
theorem d_History_takeBack_27 : decode prog_2_method_4_code 27 = .ok (.invokevirtual 27, 3) := by decide +kernel
theorem d_History_takeBack_30 : decode prog_2_method_4_code 30 = .ok (.return_, 1) := by decide +kernel
theorem d_Text_at_0 : decode prog_12_method_3_code 0 = .ok (.iload_n 1, 1) := by decide +kernel
theorem d_Text_at_1 : decode prog_12_method_3_code 1 = .ok (.ifCond .lt 20, 3) := by decide +kernel
theorem d_Text_at_4 : decode prog_12_method_3_code 4 = .ok (.iload_n 1, 1) := by decide +kernel
theorem d_Text_at_5 : decode prog_12_method_3_code 5 = .ok (.aload_n 0, 1) := by decide +kernel
theorem d_Text_at_6 : decode prog_12_method_3_code 6 = .ok (.getfield 15, 3) := by decide +kernel
theorem d_Text_at_9 : decode prog_12_method_3_code 9 = .ok (.if_icmp .ge 12, 3) := by decide +kernel
theorem d_Text_at_12 : decode prog_12_method_3_code 12 = .ok (.aload_n 0, 1) := by decide +kernel
theorem d_Text_at_13 : decode prog_12_method_3_code 13 = .ok (.getfield 9, 3) := by decide +kernel
theorem d_Text_at_16 : decode prog_12_method_3_code 16 = .ok (.iload_n 1, 1) := by decide +kernel
theorem d_Text_at_17 : decode prog_12_method_3_code 17 = .ok (.iaload, 1) := by decide +kernel
theorem d_Text_at_18 : decode prog_12_method_3_code 18 = .ok (.goto 4, 3) := by decide +kernel
theorem d_Text_at_21 : decode prog_12_method_3_code 21 = .ok (.iconst (-1), 1) := by decide +kernel
theorem d_Text_at_22 : decode prog_12_method_3_code 22 = .ok (.ireturn, 1) := by decide +kernel
theorem d_Text_bytesIn_0 : decode prog_12_method_6_code 0 = .ok (.iconst 0, 1) := by decide +kernel
theorem d_Text_bytesIn_1 : decode prog_12_method_6_code 1 = .ok (.istore_n 1, 1) := by decide +kernel
theorem d_Text_bytesIn_2 : decode prog_12_method_6_code 2 = .ok (.bipush 24, 2) := by decide +kernel
theorem d_Text_bytesIn_4 : decode prog_12_method_6_code 4 = .ok (.istore_n 2, 1) := by decide +kernel
theorem d_Text_bytesIn_5 : decode prog_12_method_6_code 5 = .ok (.iload_n 2, 1) := by decide +kernel
theorem d_Text_bytesIn_6 : decode prog_12_method_6_code 6 = .ok (.ifCond .lt 22, 3) := by decide +kernel
theorem d_Text_bytesIn_9 : decode prog_12_method_6_code 9 = .ok (.iload_n 0, 1) := by decide +kernel
theorem d_Text_bytesIn_10 : decode prog_12_method_6_code 10 = .ok (.iload_n 2, 1) := by decide +kernel
theorem d_Text_bytesIn_11 : decode prog_12_method_6_code 11 = .ok (.iushr, 1) := by decide +kernel
theorem d_Text_bytesIn_12 : decode prog_12_method_6_code 12 = .ok (.sipush 255, 3) := by decide +kernel
theorem d_Text_bytesIn_15 : decode prog_12_method_6_code 15 = .ok (.iand, 1) := by decide +kernel
theorem d_Text_bytesIn_16 : decode prog_12_method_6_code 16 = .ok (.ifCond .eq 6, 3) := by decide +kernel
theorem d_Text_bytesIn_19 : decode prog_12_method_6_code 19 = .ok (.iinc 1 1, 3) := by decide +kernel
theorem d_Text_bytesIn_22 : decode prog_12_method_6_code 22 = .ok (.iinc 2 (-8), 3) := by decide +kernel
theorem d_Text_bytesIn_25 : decode prog_12_method_6_code 25 = .ok (.goto (-20), 3) := by decide +kernel
theorem d_Text_bytesIn_28 : decode prog_12_method_6_code 28 = .ok (.iload_n 1, 1) := by decide +kernel
theorem d_Text_bytesIn_29 : decode prog_12_method_6_code 29 = .ok (.ireturn, 1) := by decide +kernel
theorem d_Text_put_0 : decode prog_12_method_4_code 0 = .ok (.aload_n 0, 1) := by decide +kernel
theorem d_Text_put_1 : decode prog_12_method_4_code 1 = .ok (.getfield 15, 3) := by decide +kernel
theorem d_Text_put_4 : decode prog_12_method_4_code 4 = .ok (.sipush 800, 3) := by decide +kernel
theorem d_Text_put_7 : decode prog_12_method_4_code 7 = .ok (.if_icmp .ge 23, 3) := by decide +kernel
theorem d_Text_put_10 : decode prog_12_method_4_code 10 = .ok (.aload_n 0, 1) := by decide +kernel
theorem d_Text_put_11 : decode prog_12_method_4_code 11 = .ok (.getfield 9, 3) := by decide +kernel
theorem d_Text_put_14 : decode prog_12_method_4_code 14 = .ok (.aload_n 0, 1) := by decide +kernel
theorem d_Text_put_15 : decode prog_12_method_4_code 15 = .ok (.getfield 15, 3) := by decide +kernel
theorem d_Text_put_18 : decode prog_12_method_4_code 18 = .ok (.iload_n 1, 1) := by decide +kernel
theorem d_Text_put_19 : decode prog_12_method_4_code 19 = .ok (.iastore, 1) := by decide +kernel
theorem d_Text_put_20 : decode prog_12_method_4_code 20 = .ok (.aload_n 0, 1) := by decide +kernel
theorem d_Text_put_21 : decode prog_12_method_4_code 21 = .ok (.dup, 1) := by decide +kernel
theorem d_Text_put_22 : decode prog_12_method_4_code 22 = .ok (.getfield 15, 3) := by decide +kernel
theorem d_Text_put_25 : decode prog_12_method_4_code 25 = .ok (.iconst 1, 1) := by decide +kernel
theorem d_Text_put_26 : decode prog_12_method_4_code 26 = .ok (.iadd, 1) := by decide +kernel
theorem d_Text_put_27 : decode prog_12_method_4_code 27 = .ok (.putfield 15, 3) := by decide +kernel
theorem d_Text_put_30 : decode prog_12_method_4_code 30 = .ok (.return_, 1) := by decide +kernel
theorem d_Text_putBytesOf_0 : decode prog_12_method_7_code 0 = .ok (.bipush 24, 2) := by decide +kernel
theorem d_Text_putBytesOf_2 : decode prog_12_method_7_code 2 = .ok (.istore_n 2, 1) := by decide +kernel
theorem d_Text_putBytesOf_3 : decode prog_12_method_7_code 3 = .ok (.iload_n 2, 1) := by decide +kernel
theorem d_Text_putBytesOf_4 : decode prog_12_method_7_code 4 = .ok (.ifCond .lt 26, 3) := by decide +kernel
theorem d_Text_putBytesOf_7 : decode prog_12_method_7_code 7 = .ok (.iload_n 1, 1) := by decide +kernel
theorem d_Text_putBytesOf_8 : decode prog_12_method_7_code 8 = .ok (.iload_n 2, 1) := by decide +kernel
theorem d_Text_putBytesOf_9 : decode prog_12_method_7_code 9 = .ok (.iushr, 1) := by decide +kernel
theorem d_Text_putBytesOf_10 : decode prog_12_method_7_code 10 = .ok (.sipush 255, 3) := by decide +kernel
theorem d_Text_putBytesOf_13 : decode prog_12_method_7_code 13 = .ok (.iand, 1) := by decide +kernel
theorem d_Text_putBytesOf_14 : decode prog_12_method_7_code 14 = .ok (.istore_n 3, 1) := by decide +kernel
theorem d_Text_putBytesOf_15 : decode prog_12_method_7_code 15 = .ok (.iload_n 3, 1) := by decide +kernel
theorem d_Text_putBytesOf_16 : decode prog_12_method_7_code 16 = .ok (.ifCond .eq 8, 3) := by decide +kernel
theorem d_Text_putBytesOf_19 : decode prog_12_method_7_code 19 = .ok (.aload_n 0, 1) := by decide +kernel
theorem d_Text_putBytesOf_20 : decode prog_12_method_7_code 20 = .ok (.iload_n 3, 1) := by decide +kernel
theorem d_Text_putBytesOf_21 : decode prog_12_method_7_code 21 = .ok (.invokevirtual 19, 3) := by decide +kernel
theorem d_Text_putBytesOf_24 : decode prog_12_method_7_code 24 = .ok (.iinc 2 (-8), 3) := by decide +kernel
theorem d_Text_putBytesOf_27 : decode prog_12_method_7_code 27 = .ok (.goto (-24), 3) := by decide +kernel
theorem d_Text_putBytesOf_30 : decode prog_12_method_7_code 30 = .ok (.return_, 1) := by decide +kernel
theorem d_Text_shortenTo_0 : decode prog_12_method_5_code 0 = .ok (.aload_n 0, 1) := by decide +kernel
theorem d_Text_shortenTo_1 : decode prog_12_method_5_code 1 = .ok (.iload_n 1, 1) := by decide +kernel
theorem d_Text_shortenTo_2 : decode prog_12_method_5_code 2 = .ok (.putfield 15, 3) := by decide +kernel
theorem d_Text_shortenTo_5 : decode prog_12_method_5_code 5 = .ok (.return_, 1) := by decide +kernel
theorem d_Text_size_0 : decode prog_12_method_2_code 0 = .ok (.aload_n 0, 1) := by decide +kernel
theorem d_Text_size_1 : decode prog_12_method_2_code 1 = .ok (.getfield 15, 3) := by decide +kernel
theorem d_Text_size_4 : decode prog_12_method_2_code 4 = .ok (.ireturn, 1) := by decide +kernel
theorem d_P_isWithin_0 : decode prog_1_method_62_code 0 = .ok (.iload_n 0, 1) := by decide +kernel
theorem d_P_isWithin_1 : decode prog_1_method_62_code 1 = .ok (.iload_n 1, 1) := by decide +kernel
theorem d_P_isWithin_2 : decode prog_1_method_62_code 2 = .ok (.if_icmp .lt 12, 3) := by decide +kernel
theorem d_P_isWithin_5 : decode prog_1_method_62_code 5 = .ok (.iload_n 0, 1) := by decide +kernel
theorem d_P_isWithin_6 : decode prog_1_method_62_code 6 = .ok (.iload_n 2, 1) := by decide +kernel
theorem d_P_isWithin_7 : decode prog_1_method_62_code 7 = .ok (.if_icmp .gt 7, 3) := by decide +kernel
theorem d_P_isWithin_10 : decode prog_1_method_62_code 10 = .ok (.iconst 1, 1) := by decide +kernel
theorem d_P_isWithin_11 : decode prog_1_method_62_code 11 = .ok (.goto 4, 3) := by decide +kernel
theorem d_P_isWithin_14 : decode prog_1_method_62_code 14 = .ok (.iconst 0, 1) := by decide +kernel
theorem d_P_isWithin_15 : decode prog_1_method_62_code 15 = .ok (.ireturn, 1) := by decide +kernel
theorem d_Shop_faultOfDays_0 : decode prog_10_method_27_code 0 = .ok (.iload_n 1, 1) := by decide +kernel
theorem d_Shop_faultOfDays_1 : decode prog_10_method_27_code 1 = .ok (.iconst 1, 1) := by decide +kernel
theorem d_Shop_faultOfDays_2 : decode prog_10_method_27_code 2 = .ok (.bipush 60, 2) := by decide +kernel
theorem d_Shop_faultOfDays_4 : decode prog_10_method_27_code 4 = .ok (.invokestatic 109, 3) := by decide +kernel
theorem d_Shop_faultOfDays_7 : decode prog_10_method_27_code 7 = .ok (.ifCond .ne 5, 3) := by decide +kernel
theorem d_Shop_faultOfDays_10 : decode prog_10_method_27_code 10 = .ok (.iconst 2, 1) := by decide +kernel
theorem d_Shop_faultOfDays_11 : decode prog_10_method_27_code 11 = .ok (.ireturn, 1) := by decide +kernel
theorem d_Shop_faultOfDays_12 : decode prog_10_method_27_code 12 = .ok (.aload_n 0, 1) := by decide +kernel
theorem d_Shop_faultOfDays_13 : decode prog_10_method_27_code 13 = .ok (.getfield 9, 3) := by decide +kernel
theorem d_Shop_faultOfDays_16 : decode prog_10_method_27_code 16 = .ok (.iload_n 1, 1) := by decide +kernel
theorem d_Shop_faultOfDays_17 : decode prog_10_method_27_code 17 = .ok (.iadd, 1) := by decide +kernel
theorem d_Shop_faultOfDays_18 : decode prog_10_method_27_code 18 = .ok (.sipush 9999, 3) := by decide +kernel
theorem d_Shop_faultOfDays_21 : decode prog_10_method_27_code 21 = .ok (.if_icmp .le 7, 3) := by decide +kernel
theorem d_Shop_faultOfDays_24 : decode prog_10_method_27_code 24 = .ok (.iconst 3, 1) := by decide +kernel
theorem d_Shop_faultOfDays_25 : decode prog_10_method_27_code 25 = .ok (.goto 4, 3) := by decide +kernel
theorem d_Shop_faultOfDays_28 : decode prog_10_method_27_code 28 = .ok (.iconst 0, 1) := by decide +kernel
theorem d_Shop_faultOfDays_29 : decode prog_10_method_27_code 29 = .ok (.ireturn, 1) := by decide +kernel
theorem d_P_throwFor_0 : decode prog_1_method_61_code 0 = .ok (.iload_n 0, 1) := by decide +kernel
theorem d_P_throwFor_1 : decode prog_1_method_61_code 1 = .ok (.iconst 1, 1) := by decide +kernel
theorem d_P_throwFor_2 : decode prog_1_method_61_code 2 = .ok (.if_icmp .ne 14, 3) := by decide +kernel
theorem d_P_throwFor_5 : decode prog_1_method_61_code 5 = .ok (.new 368, 3) := by decide +kernel
theorem d_P_throwFor_8 : decode prog_1_method_61_code 8 = .ok (.dup, 1) := by decide +kernel
theorem d_P_throwFor_9 : decode prog_1_method_61_code 9 = .ok (.ldc_w 370, 3) := by decide +kernel
theorem d_P_throwFor_12 : decode prog_1_method_61_code 12 = .ok (.invokespecial 372, 3) := by decide +kernel
theorem d_P_throwFor_15 : decode prog_1_method_61_code 15 = .ok (.athrow, 1) := by decide +kernel
theorem d_P_throwFor_16 : decode prog_1_method_61_code 16 = .ok (.iload_n 0, 1) := by decide +kernel
theorem d_P_throwFor_17 : decode prog_1_method_61_code 17 = .ok (.iconst 2, 1) := by decide +kernel
theorem d_P_throwFor_18 : decode prog_1_method_61_code 18 = .ok (.if_icmp .ne 14, 3) := by decide +kernel
theorem d_P_throwFor_21 : decode prog_1_method_61_code 21 = .ok (.new 122, 3) := by decide +kernel
theorem d_P_throwFor_24 : decode prog_1_method_61_code 24 = .ok (.dup, 1) := by decide +kernel
theorem d_P_throwFor_25 : decode prog_1_method_61_code 25 = .ok (.ldc_w 373, 3) := by decide +kernel
theorem d_P_throwFor_28 : decode prog_1_method_61_code 28 = .ok (.invokespecial 126, 3) := by decide +kernel
theorem d_P_throwFor_31 : decode prog_1_method_61_code 31 = .ok (.athrow, 1) := by decide +kernel
theorem d_P_throwFor_32 : decode prog_1_method_61_code 32 = .ok (.iload_n 0, 1) := by decide +kernel
theorem d_P_throwFor_33 : decode prog_1_method_61_code 33 = .ok (.iconst 3, 1) := by decide +kernel
theorem d_P_throwFor_34 : decode prog_1_method_61_code 34 = .ok (.if_icmp .ne 14, 3) := by decide +kernel
theorem d_P_throwFor_37 : decode prog_1_method_61_code 37 = .ok (.new 108, 3) := by decide +kernel
theorem d_P_throwFor_40 : decode prog_1_method_61_code 40 = .ok (.dup, 1) := by decide +kernel
theorem d_P_throwFor_41 : decode prog_1_method_61_code 41 = .ok (.ldc_w 375, 3) := by decide +kernel
theorem d_P_throwFor_44 : decode prog_1_method_61_code 44 = .ok (.invokespecial 112, 3) := by decide +kernel
theorem d_P_throwFor_47 : decode prog_1_method_61_code 47 = .ok (.athrow, 1) := by decide +kernel
theorem d_P_throwFor_48 : decode prog_1_method_61_code 48 = .ok (.return_, 1) := by decide +kernel
theorem d_Prophecy_isOverdue_0 : decode prog_5_method_4_code 0 = .ok (.aload_n 0, 1) := by decide +kernel
theorem d_Prophecy_isOverdue_1 : decode prog_5_method_4_code 1 = .ok (.getfield 33, 3) := by decide +kernel
theorem d_Prophecy_isOverdue_4 : decode prog_5_method_4_code 4 = .ok (.ifCond .ne 15, 3) := by decide +kernel
theorem d_Prophecy_isOverdue_7 : decode prog_5_method_4_code 7 = .ok (.aload_n 0, 1) := by decide +kernel
theorem d_Prophecy_isOverdue_8 : decode prog_5_method_4_code 8 = .ok (.getfield 27, 3) := by decide +kernel
theorem d_Prophecy_isOverdue_11 : decode prog_5_method_4_code 11 = .ok (.iload_n 1, 1) := by decide +kernel
theorem d_Prophecy_isOverdue_12 : decode prog_5_method_4_code 12 = .ok (.if_icmp .ge 7, 3) := by decide +kernel
theorem d_Prophecy_isOverdue_15 : decode prog_5_method_4_code 15 = .ok (.iconst 1, 1) := by decide +kernel
theorem d_Prophecy_isOverdue_16 : decode prog_5_method_4_code 16 = .ok (.goto 4, 3) := by decide +kernel
theorem d_Prophecy_isOverdue_19 : decode prog_5_method_4_code 19 = .ok (.iconst 0, 1) := by decide +kernel
theorem d_Prophecy_isOverdue_20 : decode prog_5_method_4_code 20 = .ok (.ireturn, 1) := by decide +kernel
theorem d_Prophecy_decide_0 : decode prog_5_method_5_code 0 = .ok (.aload_n 0, 1) := by decide +kernel
theorem d_Prophecy_decide_1 : decode prog_5_method_5_code 1 = .ok (.iload_n 1, 1) := by decide +kernel
theorem d_Prophecy_decide_2 : decode prog_5_method_5_code 2 = .ok (.aload_n 0, 1) := by decide +kernel
theorem d_Prophecy_decide_3 : decode prog_5_method_5_code 3 = .ok (.getfield 15, 3) := by decide +kernel
theorem d_Prophecy_decide_6 : decode prog_5_method_5_code 6 = .ok (.iconst 2, 1) := by decide +kernel
theorem d_Prophecy_decide_7 : decode prog_5_method_5_code 7 = .ok (.if_icmp .eq 7, 3) := by decide +kernel
theorem d_Prophecy_decide_10 : decode prog_5_method_5_code 10 = .ok (.iconst 1, 1) := by decide +kernel
theorem d_Prophecy_decide_11 : decode prog_5_method_5_code 11 = .ok (.goto 4, 3) := by decide +kernel
theorem d_Prophecy_decide_14 : decode prog_5_method_5_code 14 = .ok (.iconst 0, 1) := by decide +kernel
theorem d_Prophecy_decide_15 : decode prog_5_method_5_code 15 = .ok (.if_icmp .ne 7, 3) := by decide +kernel
theorem d_Prophecy_decide_18 : decode prog_5_method_5_code 18 = .ok (.iconst 1, 1) := by decide +kernel
theorem d_Prophecy_decide_19 : decode prog_5_method_5_code 19 = .ok (.goto 4, 3) := by decide +kernel
theorem d_Prophecy_decide_22 : decode prog_5_method_5_code 22 = .ok (.iconst 2, 1) := by decide +kernel
theorem d_Prophecy_decide_23 : decode prog_5_method_5_code 23 = .ok (.putfield 33, 3) := by decide +kernel
theorem d_Prophecy_decide_26 : decode prog_5_method_5_code 26 = .ok (.aload_n 0, 1) := by decide +kernel
theorem d_Prophecy_decide_27 : decode prog_5_method_5_code 27 = .ok (.iload_n 2, 1) := by decide +kernel
theorem d_Prophecy_decide_28 : decode prog_5_method_5_code 28 = .ok (.putfield 36, 3) := by decide +kernel
theorem d_Prophecy_decide_31 : decode prog_5_method_5_code 31 = .ok (.return_, 1) := by decide +kernel
theorem d_Shop_decideOverdue_0 : decode prog_10_method_29_code 0 = .ok (.iconst 0, 1) := by decide +kernel
theorem d_Shop_decideOverdue_1 : decode prog_10_method_29_code 1 = .ok (.istore_n 1, 1) := by decide +kernel
theorem d_Shop_decideOverdue_2 : decode prog_10_method_29_code 2 = .ok (.iload_n 1, 1) := by decide +kernel
theorem d_Shop_decideOverdue_3 : decode prog_10_method_29_code 3 = .ok (.aload_n 0, 1) := by decide +kernel
theorem d_Shop_decideOverdue_4 : decode prog_10_method_29_code 4 = .ok (.getfield 28, 3) := by decide +kernel
theorem d_Shop_decideOverdue_7 : decode prog_10_method_29_code 7 = .ok (.if_icmp .ge 39, 3) := by decide +kernel
theorem d_Shop_decideOverdue_10 : decode prog_10_method_29_code 10 = .ok (.aload_n 0, 1) := by decide +kernel
theorem d_Shop_decideOverdue_11 : decode prog_10_method_29_code 11 = .ok (.getfield 24, 3) := by decide +kernel
theorem d_Shop_decideOverdue_14 : decode prog_10_method_29_code 14 = .ok (.iload_n 1, 1) := by decide +kernel
theorem d_Shop_decideOverdue_15 : decode prog_10_method_29_code 15 = .ok (.aaload, 1) := by decide +kernel
theorem d_Shop_decideOverdue_16 : decode prog_10_method_29_code 16 = .ok (.aload_n 0, 1) := by decide +kernel
theorem d_Shop_decideOverdue_17 : decode prog_10_method_29_code 17 = .ok (.getfield 9, 3) := by decide +kernel
theorem d_Shop_decideOverdue_20 : decode prog_10_method_29_code 20 = .ok (.invokevirtual 238, 3) := by decide +kernel
theorem d_Shop_decideOverdue_23 : decode prog_10_method_29_code 23 = .ok (.ifCond .eq 17, 3) := by decide +kernel
theorem d_Shop_decideOverdue_26 : decode prog_10_method_29_code 26 = .ok (.aload_n 0, 1) := by decide +kernel
theorem d_Shop_decideOverdue_27 : decode prog_10_method_29_code 27 = .ok (.getfield 24, 3) := by decide +kernel
theorem d_Shop_decideOverdue_30 : decode prog_10_method_29_code 30 = .ok (.iload_n 1, 1) := by decide +kernel
theorem d_Shop_decideOverdue_31 : decode prog_10_method_29_code 31 = .ok (.aaload, 1) := by decide +kernel
theorem d_Shop_decideOverdue_32 : decode prog_10_method_29_code 32 = .ok (.iconst 0, 1) := by decide +kernel
theorem d_Shop_decideOverdue_33 : decode prog_10_method_29_code 33 = .ok (.aload_n 0, 1) := by decide +kernel
theorem d_Shop_decideOverdue_34 : decode prog_10_method_29_code 34 = .ok (.getfield 9, 3) := by decide +kernel
theorem d_Shop_decideOverdue_37 : decode prog_10_method_29_code 37 = .ok (.invokevirtual 158, 3) := by decide +kernel
theorem d_Shop_decideOverdue_40 : decode prog_10_method_29_code 40 = .ok (.iinc 1 1, 3) := by decide +kernel
theorem d_Shop_decideOverdue_43 : decode prog_10_method_29_code 43 = .ok (.goto (-41), 3) := by decide +kernel
theorem d_Shop_decideOverdue_46 : decode prog_10_method_29_code 46 = .ok (.return_, 1) := by decide +kernel
theorem d_Owl_fly_0 : decode prog_4_method_5_code 0 = .ok (.aload_n 0, 1) := by decide +kernel
theorem d_Owl_fly_1 : decode prog_4_method_5_code 1 = .ok (.getfield 9, 3) := by decide +kernel
theorem d_Owl_fly_4 : decode prog_4_method_5_code 4 = .ok (.ifCond .ne 5, 3) := by decide +kernel
theorem d_Owl_fly_7 : decode prog_4_method_5_code 7 = .ok (.iconst (-1), 1) := by decide +kernel
theorem d_Owl_fly_8 : decode prog_4_method_5_code 8 = .ok (.ireturn, 1) := by decide +kernel
theorem d_Owl_fly_9 : decode prog_4_method_5_code 9 = .ok (.aload_n 0, 1) := by decide +kernel
theorem d_Owl_fly_10 : decode prog_4_method_5_code 10 = .ok (.dup, 1) := by decide +kernel
theorem d_Owl_fly_11 : decode prog_4_method_5_code 11 = .ok (.getfield 9, 3) := by decide +kernel
theorem d_Owl_fly_14 : decode prog_4_method_5_code 14 = .ok (.iconst 1, 1) := by decide +kernel
theorem d_Owl_fly_15 : decode prog_4_method_5_code 15 = .ok (.isub, 1) := by decide +kernel
theorem d_Owl_fly_16 : decode prog_4_method_5_code 16 = .ok (.putfield 9, 3) := by decide +kernel
theorem d_Owl_fly_19 : decode prog_4_method_5_code 19 = .ok (.aload_n 0, 1) := by decide +kernel
theorem d_Owl_fly_20 : decode prog_4_method_5_code 20 = .ok (.getfield 9, 3) := by decide +kernel
theorem d_Owl_fly_23 : decode prog_4_method_5_code 23 = .ok (.ifCond .gt 10, 3) := by decide +kernel
theorem d_Owl_fly_26 : decode prog_4_method_5_code 26 = .ok (.aload_n 0, 1) := by decide +kernel
theorem d_Owl_fly_27 : decode prog_4_method_5_code 27 = .ok (.getfield 24, 3) := by decide +kernel
theorem d_Owl_fly_30 : decode prog_4_method_5_code 30 = .ok (.ifCond .ne 5, 3) := by decide +kernel
theorem d_Owl_fly_33 : decode prog_4_method_5_code 33 = .ok (.iconst (-1), 1) := by decide +kernel
theorem d_Owl_fly_34 : decode prog_4_method_5_code 34 = .ok (.ireturn, 1) := by decide +kernel
theorem d_Owl_fly_35 : decode prog_4_method_5_code 35 = .ok (.aload_n 0, 1) := by decide +kernel
theorem d_Owl_fly_36 : decode prog_4_method_5_code 36 = .ok (.iconst 0, 1) := by decide +kernel
theorem d_Owl_fly_37 : decode prog_4_method_5_code 37 = .ok (.putfield 24, 3) := by decide +kernel
theorem d_Owl_fly_40 : decode prog_4_method_5_code 40 = .ok (.aload_n 0, 1) := by decide +kernel
theorem d_Owl_fly_41 : decode prog_4_method_5_code 41 = .ok (.aload_n 0, 1) := by decide +kernel
theorem d_Owl_fly_42 : decode prog_4_method_5_code 42 = .ok (.getfield 21, 3) := by decide +kernel
theorem d_Owl_fly_45 : decode prog_4_method_5_code 45 = .ok (.putfield 9, 3) := by decide +kernel
theorem d_Owl_fly_48 : decode prog_4_method_5_code 48 = .ok (.aload_n 0, 1) := by decide +kernel
theorem d_Owl_fly_49 : decode prog_4_method_5_code 49 = .ok (.getfield 18, 3) := by decide +kernel
theorem d_Owl_fly_52 : decode prog_4_method_5_code 52 = .ok (.ireturn, 1) := by decide +kernel
theorem d_Owl_handOver_0 : decode prog_4_method_6_code 0 = .ok (.aload_n 0, 1) := by decide +kernel
theorem d_Owl_handOver_1 : decode prog_4_method_6_code 1 = .ok (.getfield 15, 3) := by decide +kernel
theorem d_Owl_handOver_4 : decode prog_4_method_6_code 4 = .ok (.istore_n 1, 1) := by decide +kernel
theorem d_Owl_handOver_5 : decode prog_4_method_6_code 5 = .ok (.aload_n 0, 1) := by decide +kernel
theorem d_Owl_handOver_6 : decode prog_4_method_6_code 6 = .ok (.iconst 0, 1) := by decide +kernel
theorem d_Owl_handOver_7 : decode prog_4_method_6_code 7 = .ok (.putfield 15, 3) := by decide +kernel
theorem d_Owl_handOver_10 : decode prog_4_method_6_code 10 = .ok (.iload_n 1, 1) := by decide +kernel
theorem d_Owl_handOver_11 : decode prog_4_method_6_code 11 = .ok (.ireturn, 1) := by decide +kernel
theorem d_Shop_addCoins_0 : decode prog_10_method_7_code 0 = .ok (.iload_n 1, 1) := by decide +kernel
theorem d_Shop_addCoins_1 : decode prog_10_method_7_code 1 = .ok (.ifCond .lt 19, 3) := by decide +kernel
theorem d_Shop_addCoins_4 : decode prog_10_method_7_code 4 = .ok (.iload_n 1, 1) := by decide +kernel
theorem d_Shop_addCoins_5 : decode prog_10_method_7_code 5 = .ok (.bipush 8, 2) := by decide +kernel
theorem d_Shop_addCoins_7 : decode prog_10_method_7_code 7 = .ok (.if_icmp .ge 13, 3) := by decide +kernel
theorem d_Shop_addCoins_10 : decode prog_10_method_7_code 10 = .ok (.aload_n 0, 1) := by decide +kernel
theorem d_Shop_addCoins_11 : decode prog_10_method_7_code 11 = .ok (.getfield 18, 3) := by decide +kernel
theorem d_Shop_addCoins_14 : decode prog_10_method_7_code 14 = .ok (.iload_n 1, 1) := by decide +kernel
theorem d_Shop_addCoins_15 : decode prog_10_method_7_code 15 = .ok (.dup2, 1) := by decide +kernel
theorem d_Shop_addCoins_16 : decode prog_10_method_7_code 16 = .ok (.iaload, 1) := by decide +kernel
theorem d_Shop_addCoins_17 : decode prog_10_method_7_code 17 = .ok (.iload_n 2, 1) := by decide +kernel
theorem d_Shop_addCoins_18 : decode prog_10_method_7_code 18 = .ok (.iadd, 1) := by decide +kernel
theorem d_Shop_addCoins_19 : decode prog_10_method_7_code 19 = .ok (.iastore, 1) := by decide +kernel
theorem d_Shop_addCoins_20 : decode prog_10_method_7_code 20 = .ok (.return_, 1) := by decide +kernel
theorem d_Shop_moveOwls_0 : decode prog_10_method_26_code 0 = .ok (.iconst 0, 1) := by decide +kernel
theorem d_Shop_moveOwls_1 : decode prog_10_method_26_code 1 = .ok (.istore_n 1, 1) := by decide +kernel
theorem d_Shop_moveOwls_2 : decode prog_10_method_26_code 2 = .ok (.iload_n 1, 1) := by decide +kernel
theorem d_Shop_moveOwls_3 : decode prog_10_method_26_code 3 = .ok (.iconst 5, 1) := by decide +kernel
theorem d_Shop_moveOwls_4 : decode prog_10_method_26_code 4 = .ok (.if_icmp .ge 38, 3) := by decide +kernel
theorem d_Shop_moveOwls_7 : decode prog_10_method_26_code 7 = .ok (.aload_n 0, 1) := by decide +kernel
theorem d_Shop_moveOwls_8 : decode prog_10_method_26_code 8 = .ok (.getfield 33, 3) := by decide +kernel
theorem d_Shop_moveOwls_11 : decode prog_10_method_26_code 11 = .ok (.iload_n 1, 1) := by decide +kernel
theorem d_Shop_moveOwls_12 : decode prog_10_method_26_code 12 = .ok (.aaload, 1) := by decide +kernel
theorem d_Shop_moveOwls_13 : decode prog_10_method_26_code 13 = .ok (.invokevirtual 219, 3) := by decide +kernel
theorem d_Shop_moveOwls_16 : decode prog_10_method_26_code 16 = .ok (.istore_n 2, 1) := by decide +kernel
theorem d_Shop_moveOwls_17 : decode prog_10_method_26_code 17 = .ok (.iload_n 2, 1) := by decide +kernel
theorem d_Shop_moveOwls_18 : decode prog_10_method_26_code 18 = .ok (.iconst (-1), 1) := by decide +kernel
theorem d_Shop_moveOwls_19 : decode prog_10_method_26_code 19 = .ok (.if_icmp .eq 17, 3) := by decide +kernel
theorem d_Shop_moveOwls_22 : decode prog_10_method_26_code 22 = .ok (.aload_n 0, 1) := by decide +kernel
theorem d_Shop_moveOwls_23 : decode prog_10_method_26_code 23 = .ok (.iload_n 2, 1) := by decide +kernel
theorem d_Shop_moveOwls_24 : decode prog_10_method_26_code 24 = .ok (.aload_n 0, 1) := by decide +kernel
theorem d_Shop_moveOwls_25 : decode prog_10_method_26_code 25 = .ok (.getfield 33, 3) := by decide +kernel
theorem d_Shop_moveOwls_28 : decode prog_10_method_26_code 28 = .ok (.iload_n 1, 1) := by decide +kernel
theorem d_Shop_moveOwls_29 : decode prog_10_method_26_code 29 = .ok (.aaload, 1) := by decide +kernel
theorem d_Shop_moveOwls_30 : decode prog_10_method_26_code 30 = .ok (.invokevirtual 222, 3) := by decide +kernel
theorem d_Shop_moveOwls_33 : decode prog_10_method_26_code 33 = .ok (.invokevirtual 143, 3) := by decide +kernel
theorem d_Shop_moveOwls_36 : decode prog_10_method_26_code 36 = .ok (.iinc 1 1, 3) := by decide +kernel
theorem d_Shop_moveOwls_39 : decode prog_10_method_26_code 39 = .ok (.goto (-37), 3) := by decide +kernel
theorem d_Shop_moveOwls_42 : decode prog_10_method_26_code 42 = .ok (.return_, 1) := by decide +kernel
theorem d_Shop_requestAt_0 : decode prog_10_method_17_code 0 = .ok (.iload_n 1, 1) := by decide +kernel
theorem d_Shop_requestAt_1 : decode prog_10_method_17_code 1 = .ok (.ifCond .lt 26, 3) := by decide +kernel
theorem d_Shop_requestAt_4 : decode prog_10_method_17_code 4 = .ok (.iload_n 1, 1) := by decide +kernel
theorem d_Shop_requestAt_5 : decode prog_10_method_17_code 5 = .ok (.aload_n 0, 1) := by decide +kernel
theorem d_Shop_requestAt_6 : decode prog_10_method_17_code 6 = .ok (.getfield 40, 3) := by decide +kernel
theorem d_Shop_requestAt_9 : decode prog_10_method_17_code 9 = .ok (.if_icmp .ge 18, 3) := by decide +kernel
theorem d_Shop_requestAt_12 : decode prog_10_method_17_code 12 = .ok (.iload_n 1, 1) := by decide +kernel
theorem d_Shop_requestAt_13 : decode prog_10_method_17_code 13 = .ok (.bipush 24, 2) := by decide +kernel
theorem d_Shop_requestAt_15 : decode prog_10_method_17_code 15 = .ok (.if_icmp .ge 12, 3) := by decide +kernel
theorem d_Shop_requestAt_18 : decode prog_10_method_17_code 18 = .ok (.aload_n 0, 1) := by decide +kernel
theorem d_Shop_requestAt_19 : decode prog_10_method_17_code 19 = .ok (.getfield 37, 3) := by decide +kernel
theorem d_Shop_requestAt_22 : decode prog_10_method_17_code 22 = .ok (.iload_n 1, 1) := by decide +kernel
theorem d_Shop_requestAt_23 : decode prog_10_method_17_code 23 = .ok (.iaload, 1) := by decide +kernel
theorem d_Shop_requestAt_24 : decode prog_10_method_17_code 24 = .ok (.goto 4, 3) := by decide +kernel
theorem d_Shop_requestAt_27 : decode prog_10_method_17_code 27 = .ok (.iconst (-1), 1) := by decide +kernel
theorem d_Shop_requestAt_28 : decode prog_10_method_17_code 28 = .ok (.ireturn, 1) := by decide +kernel
theorem d_Shop_hasSold_0 : decode prog_10_method_4_code 0 = .ok (.iload_n 1, 1) := by decide +kernel
theorem d_Shop_hasSold_1 : decode prog_10_method_4_code 1 = .ok (.ifCond .lt 21, 3) := by decide +kernel
theorem d_Shop_hasSold_4 : decode prog_10_method_4_code 4 = .ok (.iload_n 1, 1) := by decide +kernel
theorem d_Shop_hasSold_5 : decode prog_10_method_4_code 5 = .ok (.aload_n 0, 1) := by decide +kernel
theorem d_Shop_hasSold_6 : decode prog_10_method_4_code 6 = .ok (.getfield 28, 3) := by decide +kernel
theorem d_Shop_hasSold_9 : decode prog_10_method_4_code 9 = .ok (.if_icmp .ge 13, 3) := by decide +kernel
theorem d_Shop_hasSold_12 : decode prog_10_method_4_code 12 = .ok (.iload_n 1, 1) := by decide +kernel
theorem d_Shop_hasSold_13 : decode prog_10_method_4_code 13 = .ok (.bipush 24, 2) := by decide +kernel
theorem d_Shop_hasSold_15 : decode prog_10_method_4_code 15 = .ok (.if_icmp .ge 7, 3) := by decide +kernel
theorem d_Shop_hasSold_18 : decode prog_10_method_4_code 18 = .ok (.iconst 1, 1) := by decide +kernel
theorem d_Shop_hasSold_19 : decode prog_10_method_4_code 19 = .ok (.goto 4, 3) := by decide +kernel
theorem d_Shop_hasSold_22 : decode prog_10_method_4_code 22 = .ok (.iconst 0, 1) := by decide +kernel
theorem d_Shop_hasSold_23 : decode prog_10_method_4_code 23 = .ok (.ireturn, 1) := by decide +kernel
theorem d_Shop_prophecyWith_0 : decode prog_10_method_5_code 0 = .ok (.aload_n 0, 1) := by decide +kernel
theorem d_Shop_prophecyWith_1 : decode prog_10_method_5_code 1 = .ok (.getfield 24, 3) := by decide +kernel
theorem d_Shop_prophecyWith_4 : decode prog_10_method_5_code 4 = .ok (.aload_n 0, 1) := by decide +kernel
theorem d_Shop_prophecyWith_5 : decode prog_10_method_5_code 5 = .ok (.iload_n 1, 1) := by decide +kernel
theorem d_Shop_prophecyWith_6 : decode prog_10_method_5_code 6 = .ok (.invokevirtual 90, 3) := by decide +kernel
theorem d_Shop_prophecyWith_9 : decode prog_10_method_5_code 9 = .ok (.ifCond .eq 7, 3) := by decide +kernel
theorem d_Shop_prophecyWith_12 : decode prog_10_method_5_code 12 = .ok (.iload_n 1, 1) := by decide +kernel
theorem d_Shop_prophecyWith_13 : decode prog_10_method_5_code 13 = .ok (.goto 4, 3) := by decide +kernel
theorem d_Shop_prophecyWith_16 : decode prog_10_method_5_code 16 = .ok (.iconst 0, 1) := by decide +kernel
theorem d_Shop_prophecyWith_17 : decode prog_10_method_5_code 17 = .ok (.aaload, 1) := by decide +kernel
theorem d_Shop_prophecyWith_18 : decode prog_10_method_5_code 18 = .ok (.areturn, 1) := by decide +kernel
theorem d_Shop_refundFor_0 : decode prog_10_method_15_code 0 = .ok (.aload_n 1, 1) := by decide +kernel
theorem d_Shop_refundFor_1 : decode prog_10_method_15_code 1 = .ok (.getfield 119, 3) := by decide +kernel
theorem d_Shop_refundFor_4 : decode prog_10_method_15_code 4 = .ok (.iconst 1, 1) := by decide +kernel
theorem d_Shop_refundFor_5 : decode prog_10_method_15_code 5 = .ok (.if_icmp .ne 13, 3) := by decide +kernel
theorem d_Shop_refundFor_8 : decode prog_10_method_15_code 8 = .ok (.aload_n 0, 1) := by decide +kernel
theorem d_Shop_refundFor_9 : decode prog_10_method_15_code 9 = .ok (.getfield 61, 3) := by decide +kernel
theorem d_Shop_refundFor_12 : decode prog_10_method_15_code 12 = .ok (.getfield 162, 3) := by decide +kernel
theorem d_Shop_refundFor_15 : decode prog_10_method_15_code 15 = .ok (.goto 10, 3) := by decide +kernel
theorem d_Shop_refundFor_18 : decode prog_10_method_15_code 18 = .ok (.aload_n 0, 1) := by decide +kernel
theorem d_Shop_refundFor_19 : decode prog_10_method_15_code 19 = .ok (.getfield 61, 3) := by decide +kernel
theorem d_Shop_refundFor_22 : decode prog_10_method_15_code 22 = .ok (.getfield 165, 3) := by decide +kernel
theorem d_Shop_refundFor_25 : decode prog_10_method_15_code 25 = .ok (.istore_n 2, 1) := by decide +kernel
theorem d_Shop_refundFor_26 : decode prog_10_method_15_code 26 = .ok (.aload_n 1, 1) := by decide +kernel
theorem d_Shop_refundFor_27 : decode prog_10_method_15_code 27 = .ok (.getfield 134, 3) := by decide +kernel
theorem d_Shop_refundFor_30 : decode prog_10_method_15_code 30 = .ok (.iload_n 2, 1) := by decide +kernel
theorem d_Shop_refundFor_31 : decode prog_10_method_15_code 31 = .ok (.imul, 1) := by decide +kernel
theorem d_Shop_refundFor_32 : decode prog_10_method_15_code 32 = .ok (.bipush 100, 2) := by decide +kernel
theorem d_Shop_refundFor_34 : decode prog_10_method_15_code 34 = .ok (.idiv, 1) := by decide +kernel
theorem d_Shop_refundFor_35 : decode prog_10_method_15_code 35 = .ok (.ireturn, 1) := by decide +kernel
theorem d_Shop_answerTo_0 : decode prog_10_method_16_code 0 = .ok (.aload_n 1, 1) := by decide +kernel
theorem d_Shop_answerTo_1 : decode prog_10_method_16_code 1 = .ok (.getfield 137, 3) := by decide +kernel
theorem d_Shop_answerTo_4 : decode prog_10_method_16_code 4 = .ok (.ifCond .ne 5, 3) := by decide +kernel
theorem d_Shop_answerTo_7 : decode prog_10_method_16_code 7 = .ok (.iconst 2, 1) := by decide +kernel
theorem d_Shop_answerTo_8 : decode prog_10_method_16_code 8 = .ok (.ireturn, 1) := by decide +kernel
theorem d_Shop_answerTo_9 : decode prog_10_method_16_code 9 = .ok (.aload_n 1, 1) := by decide +kernel
theorem d_Shop_answerTo_10 : decode prog_10_method_16_code 10 = .ok (.getfield 137, 3) := by decide +kernel
theorem d_Shop_answerTo_13 : decode prog_10_method_16_code 13 = .ok (.iconst 1, 1) := by decide +kernel
theorem d_Shop_answerTo_14 : decode prog_10_method_16_code 14 = .ok (.if_icmp .ne 5, 3) := by decide +kernel
theorem d_Shop_answerTo_17 : decode prog_10_method_16_code 17 = .ok (.iconst 3, 1) := by decide +kernel
theorem d_Shop_answerTo_18 : decode prog_10_method_16_code 18 = .ok (.ireturn, 1) := by decide +kernel
theorem d_Shop_answerTo_19 : decode prog_10_method_16_code 19 = .ok (.aload_n 1, 1) := by decide +kernel
theorem d_Shop_answerTo_20 : decode prog_10_method_16_code 20 = .ok (.getfield 137, 3) := by decide +kernel
theorem d_Shop_answerTo_23 : decode prog_10_method_16_code 23 = .ok (.iconst 3, 1) := by decide +kernel
theorem d_Shop_answerTo_24 : decode prog_10_method_16_code 24 = .ok (.if_icmp .ne 5, 3) := by decide +kernel
theorem d_Shop_answerTo_27 : decode prog_10_method_16_code 27 = .ok (.iconst 4, 1) := by decide +kernel
theorem d_Shop_answerTo_28 : decode prog_10_method_16_code 28 = .ok (.ireturn, 1) := by decide +kernel
theorem d_Shop_answerTo_29 : decode prog_10_method_16_code 29 = .ok (.aload_n 0, 1) := by decide +kernel
theorem d_Shop_answerTo_30 : decode prog_10_method_16_code 30 = .ok (.getfield 9, 3) := by decide +kernel
theorem d_Shop_answerTo_33 : decode prog_10_method_16_code 33 = .ok (.aload_n 1, 1) := by decide +kernel
theorem d_Shop_answerTo_34 : decode prog_10_method_16_code 34 = .ok (.getfield 168, 3) := by decide +kernel
theorem d_Shop_answerTo_37 : decode prog_10_method_16_code 37 = .ok (.isub, 1) := by decide +kernel
theorem d_Shop_answerTo_38 : decode prog_10_method_16_code 38 = .ok (.aload_n 0, 1) := by decide +kernel
theorem d_Shop_answerTo_39 : decode prog_10_method_16_code 39 = .ok (.getfield 61, 3) := by decide +kernel
theorem d_Shop_answerTo_42 : decode prog_10_method_16_code 42 = .ok (.getfield 171, 3) := by decide +kernel
theorem d_Shop_answerTo_45 : decode prog_10_method_16_code 45 = .ok (.if_icmp .le 5, 3) := by decide +kernel
theorem d_Shop_answerTo_48 : decode prog_10_method_16_code 48 = .ok (.iconst 5, 1) := by decide +kernel
theorem d_Shop_answerTo_49 : decode prog_10_method_16_code 49 = .ok (.ireturn, 1) := by decide +kernel
theorem d_Shop_answerTo_50 : decode prog_10_method_16_code 50 = .ok (.aload_n 0, 1) := by decide +kernel
theorem d_Shop_answerTo_51 : decode prog_10_method_16_code 51 = .ok (.getfield 15, 3) := by decide +kernel
theorem d_Shop_answerTo_54 : decode prog_10_method_16_code 54 = .ok (.aload_n 0, 1) := by decide +kernel
theorem d_Shop_answerTo_55 : decode prog_10_method_16_code 55 = .ok (.aload_n 1, 1) := by decide +kernel
theorem d_Shop_answerTo_56 : decode prog_10_method_16_code 56 = .ok (.invokevirtual 174, 3) := by decide +kernel
theorem d_Shop_answerTo_59 : decode prog_10_method_16_code 59 = .ok (.if_icmp .ge 8, 3) := by decide +kernel
theorem d_Shop_answerTo_62 : decode prog_10_method_16_code 62 = .ok (.bipush 6, 2) := by decide +kernel
theorem d_Shop_answerTo_64 : decode prog_10_method_16_code 64 = .ok (.goto 4, 3) := by decide +kernel
theorem d_Shop_answerTo_67 : decode prog_10_method_16_code 67 = .ok (.iconst 1, 1) := by decide +kernel
theorem d_Shop_answerTo_68 : decode prog_10_method_16_code 68 = .ok (.ireturn, 1) := by decide +kernel
theorem d_Shop_owlWith_0 : decode prog_10_method_24_code 0 = .ok (.aload_n 0, 1) := by decide +kernel
theorem d_Shop_owlWith_1 : decode prog_10_method_24_code 1 = .ok (.getfield 33, 3) := by decide +kernel
theorem d_Shop_owlWith_4 : decode prog_10_method_24_code 4 = .ok (.iload_n 1, 1) := by decide +kernel
theorem d_Shop_owlWith_5 : decode prog_10_method_24_code 5 = .ok (.ifCond .lt 12, 3) := by decide +kernel
theorem d_Shop_owlWith_8 : decode prog_10_method_24_code 8 = .ok (.iload_n 1, 1) := by decide +kernel
theorem d_Shop_owlWith_9 : decode prog_10_method_24_code 9 = .ok (.iconst 5, 1) := by decide +kernel
theorem d_Shop_owlWith_10 : decode prog_10_method_24_code 10 = .ok (.if_icmp .ge 7, 3) := by decide +kernel
theorem d_Shop_owlWith_13 : decode prog_10_method_24_code 13 = .ok (.iload_n 1, 1) := by decide +kernel
theorem d_Shop_owlWith_14 : decode prog_10_method_24_code 14 = .ok (.goto 4, 3) := by decide +kernel
theorem d_Shop_owlWith_17 : decode prog_10_method_24_code 17 = .ok (.iconst 0, 1) := by decide +kernel
theorem d_Shop_owlWith_18 : decode prog_10_method_24_code 18 = .ok (.aaload, 1) := by decide +kernel
theorem d_Shop_owlWith_19 : decode prog_10_method_24_code 19 = .ok (.areturn, 1) := by decide +kernel
theorem d_Shop_firstIdleOwl_0 : decode prog_10_method_25_code 0 = .ok (.iconst 0, 1) := by decide +kernel
theorem d_Shop_firstIdleOwl_1 : decode prog_10_method_25_code 1 = .ok (.istore_n 1, 1) := by decide +kernel
theorem d_Shop_firstIdleOwl_2 : decode prog_10_method_25_code 2 = .ok (.iload_n 1, 1) := by decide +kernel
theorem d_Shop_firstIdleOwl_3 : decode prog_10_method_25_code 3 = .ok (.aload_n 0, 1) := by decide +kernel
theorem d_Shop_firstIdleOwl_4 : decode prog_10_method_25_code 4 = .ok (.getfield 61, 3) := by decide +kernel
theorem d_Shop_firstIdleOwl_7 : decode prog_10_method_25_code 7 = .ok (.getfield 213, 3) := by decide +kernel
theorem d_Shop_firstIdleOwl_10 : decode prog_10_method_25_code 10 = .ok (.if_icmp .ge 22, 3) := by decide +kernel
theorem d_Shop_firstIdleOwl_13 : decode prog_10_method_25_code 13 = .ok (.aload_n 0, 1) := by decide +kernel
theorem d_Shop_firstIdleOwl_14 : decode prog_10_method_25_code 14 = .ok (.iload_n 1, 1) := by decide +kernel
theorem d_Shop_firstIdleOwl_15 : decode prog_10_method_25_code 15 = .ok (.invokevirtual 202, 3) := by decide +kernel
theorem d_Shop_firstIdleOwl_18 : decode prog_10_method_25_code 18 = .ok (.getfield 216, 3) := by decide +kernel
theorem d_Shop_firstIdleOwl_21 : decode prog_10_method_25_code 21 = .ok (.ifCond .ne 5, 3) := by decide +kernel
theorem d_Shop_firstIdleOwl_24 : decode prog_10_method_25_code 24 = .ok (.iload_n 1, 1) := by decide +kernel
theorem d_Shop_firstIdleOwl_25 : decode prog_10_method_25_code 25 = .ok (.ireturn, 1) := by decide +kernel
theorem d_Shop_firstIdleOwl_26 : decode prog_10_method_25_code 26 = .ok (.iinc 1 1, 3) := by decide +kernel
theorem d_Shop_firstIdleOwl_29 : decode prog_10_method_25_code 29 = .ok (.goto (-27), 3) := by decide +kernel
theorem d_Shop_firstIdleOwl_32 : decode prog_10_method_25_code 32 = .ok (.iconst (-1), 1) := by decide +kernel
theorem d_Shop_firstIdleOwl_33 : decode prog_10_method_25_code 33 = .ok (.ireturn, 1) := by decide +kernel
theorem d_Names_has_0 : decode prog_3_method_3_code 0 = .ok (.iload_n 1, 1) := by decide +kernel
theorem d_Names_has_1 : decode prog_3_method_3_code 1 = .ok (.ifCond .lt 15, 3) := by decide +kernel
theorem d_Names_has_4 : decode prog_3_method_3_code 4 = .ok (.iload_n 1, 1) := by decide +kernel
theorem d_Names_has_5 : decode prog_3_method_3_code 5 = .ok (.aload_n 0, 1) := by decide +kernel
theorem d_Names_has_6 : decode prog_3_method_3_code 6 = .ok (.getfield 15, 3) := by decide +kernel
theorem d_Names_has_9 : decode prog_3_method_3_code 9 = .ok (.if_icmp .ge 7, 3) := by decide +kernel
theorem d_Names_has_12 : decode prog_3_method_3_code 12 = .ok (.iconst 1, 1) := by decide +kernel
theorem d_Names_has_13 : decode prog_3_method_3_code 13 = .ok (.goto 4, 3) := by decide +kernel
theorem d_Names_has_16 : decode prog_3_method_3_code 16 = .ok (.iconst 0, 1) := by decide +kernel
theorem d_Names_has_17 : decode prog_3_method_3_code 17 = .ok (.ireturn, 1) := by decide +kernel
theorem d_Setup_flightDays_0 : decode prog_8_method_7_code 0 = .ok (.iload_n 1, 1) := by decide +kernel
theorem d_Setup_flightDays_1 : decode prog_8_method_7_code 1 = .ok (.ifCond .lt 20, 3) := by decide +kernel
theorem d_Setup_flightDays_4 : decode prog_8_method_7_code 4 = .ok (.iload_n 1, 1) := by decide +kernel
theorem d_Setup_flightDays_5 : decode prog_8_method_7_code 5 = .ok (.aload_n 0, 1) := by decide +kernel
theorem d_Setup_flightDays_6 : decode prog_8_method_7_code 6 = .ok (.getfield 50, 3) := by decide +kernel
theorem d_Setup_flightDays_9 : decode prog_8_method_7_code 9 = .ok (.if_icmp .ge 12, 3) := by decide +kernel
theorem d_Setup_flightDays_12 : decode prog_8_method_7_code 12 = .ok (.aload_n 0, 1) := by decide +kernel
theorem d_Setup_flightDays_13 : decode prog_8_method_7_code 13 = .ok (.getfield 47, 3) := by decide +kernel
theorem d_Setup_flightDays_16 : decode prog_8_method_7_code 16 = .ok (.iload_n 1, 1) := by decide +kernel
theorem d_Setup_flightDays_17 : decode prog_8_method_7_code 17 = .ok (.iaload, 1) := by decide +kernel
theorem d_Setup_flightDays_18 : decode prog_8_method_7_code 18 = .ok (.goto 4, 3) := by decide +kernel
theorem d_Setup_flightDays_21 : decode prog_8_method_7_code 21 = .ok (.iconst 0, 1) := by decide +kernel
theorem d_Setup_flightDays_22 : decode prog_8_method_7_code 22 = .ok (.istore_n 3, 1) := by decide +kernel
theorem d_Setup_flightDays_23 : decode prog_8_method_7_code 23 = .ok (.iload_n 3, 1) := by decide +kernel
theorem d_Setup_flightDays_24 : decode prog_8_method_7_code 24 = .ok (.iconst 1, 1) := by decide +kernel
theorem d_Setup_flightDays_25 : decode prog_8_method_7_code 25 = .ok (.if_icmp .lt 14, 3) := by decide +kernel
theorem d_Setup_flightDays_28 : decode prog_8_method_7_code 28 = .ok (.aload_n 0, 1) := by decide +kernel
theorem d_Setup_flightDays_29 : decode prog_8_method_7_code 29 = .ok (.getfield 37, 3) := by decide +kernel
theorem d_Setup_flightDays_32 : decode prog_8_method_7_code 32 = .ok (.iload_n 2, 1) := by decide +kernel
theorem d_Setup_flightDays_33 : decode prog_8_method_7_code 33 = .ok (.invokevirtual 60, 3) := by decide +kernel
theorem d_Setup_flightDays_36 : decode prog_8_method_7_code 36 = .ok (.ifCond .ne 5, 3) := by decide +kernel
theorem d_Setup_flightDays_39 : decode prog_8_method_7_code 39 = .ok (.iconst 0, 1) := by decide +kernel
theorem d_Setup_flightDays_40 : decode prog_8_method_7_code 40 = .ok (.ireturn, 1) := by decide +kernel
theorem d_Setup_flightDays_41 : decode prog_8_method_7_code 41 = .ok (.aload_n 0, 1) := by decide +kernel
theorem d_Setup_flightDays_42 : decode prog_8_method_7_code 42 = .ok (.getfield 44, 3) := by decide +kernel
theorem d_Setup_flightDays_45 : decode prog_8_method_7_code 45 = .ok (.iload_n 2, 1) := by decide +kernel
theorem d_Setup_flightDays_46 : decode prog_8_method_7_code 46 = .ok (.iaload, 1) := by decide +kernel
theorem d_Setup_flightDays_47 : decode prog_8_method_7_code 47 = .ok (.iload_n 3, 1) := by decide +kernel
theorem d_Setup_flightDays_48 : decode prog_8_method_7_code 48 = .ok (.iadd, 1) := by decide +kernel
theorem d_Setup_flightDays_49 : decode prog_8_method_7_code 49 = .ok (.iconst 1, 1) := by decide +kernel
theorem d_Setup_flightDays_50 : decode prog_8_method_7_code 50 = .ok (.isub, 1) := by decide +kernel
theorem d_Setup_flightDays_51 : decode prog_8_method_7_code 51 = .ok (.iload_n 3, 1) := by decide +kernel
theorem d_Setup_flightDays_52 : decode prog_8_method_7_code 52 = .ok (.idiv, 1) := by decide +kernel
theorem d_Setup_flightDays_53 : decode prog_8_method_7_code 53 = .ok (.ireturn, 1) := by decide +kernel
theorem d_Owl_leaveFor_0 : decode prog_4_method_4_code 0 = .ok (.aload_n 0, 1) := by decide +kernel
theorem d_Owl_leaveFor_1 : decode prog_4_method_4_code 1 = .ok (.iload_n 1, 1) := by decide +kernel
theorem d_Owl_leaveFor_2 : decode prog_4_method_4_code 2 = .ok (.putfield 18, 3) := by decide +kernel
theorem d_Owl_leaveFor_5 : decode prog_4_method_4_code 5 = .ok (.aload_n 0, 1) := by decide +kernel
theorem d_Owl_leaveFor_6 : decode prog_4_method_4_code 6 = .ok (.iload_n 2, 1) := by decide +kernel
theorem d_Owl_leaveFor_7 : decode prog_4_method_4_code 7 = .ok (.putfield 15, 3) := by decide +kernel
theorem d_Owl_leaveFor_10 : decode prog_4_method_4_code 10 = .ok (.aload_n 0, 1) := by decide +kernel
theorem d_Owl_leaveFor_11 : decode prog_4_method_4_code 11 = .ok (.iload_n 3, 1) := by decide +kernel
theorem d_Owl_leaveFor_12 : decode prog_4_method_4_code 12 = .ok (.putfield 21, 3) := by decide +kernel
theorem d_Owl_leaveFor_15 : decode prog_4_method_4_code 15 = .ok (.aload_n 0, 1) := by decide +kernel
theorem d_Owl_leaveFor_16 : decode prog_4_method_4_code 16 = .ok (.iload_n 3, 1) := by decide +kernel
theorem d_Owl_leaveFor_17 : decode prog_4_method_4_code 17 = .ok (.putfield 9, 3) := by decide +kernel
theorem d_Owl_leaveFor_20 : decode prog_4_method_4_code 20 = .ok (.aload_n 0, 1) := by decide +kernel
theorem d_Owl_leaveFor_21 : decode prog_4_method_4_code 21 = .ok (.iconst 1, 1) := by decide +kernel
theorem d_Owl_leaveFor_22 : decode prog_4_method_4_code 22 = .ok (.putfield 24, 3) := by decide +kernel
theorem d_Owl_leaveFor_25 : decode prog_4_method_4_code 25 = .ok (.return_, 1) := by decide +kernel
theorem d_Shop_pay_0 : decode prog_10_method_23_code 0 = .ok (.aload_n 0, 1) := by decide +kernel
theorem d_Shop_pay_1 : decode prog_10_method_23_code 1 = .ok (.aload_n 1, 1) := by decide +kernel
theorem d_Shop_pay_2 : decode prog_10_method_23_code 2 = .ok (.invokevirtual 174, 3) := by decide +kernel
theorem d_Shop_pay_5 : decode prog_10_method_23_code 5 = .ok (.istore_n 3, 1) := by decide +kernel
theorem d_Shop_pay_6 : decode prog_10_method_23_code 6 = .ok (.aload_n 0, 1) := by decide +kernel
theorem d_Shop_pay_7 : decode prog_10_method_23_code 7 = .ok (.dup, 1) := by decide +kernel
theorem d_Shop_pay_8 : decode prog_10_method_23_code 8 = .ok (.getfield 15, 3) := by decide +kernel
theorem d_Shop_pay_11 : decode prog_10_method_23_code 11 = .ok (.iload_n 3, 1) := by decide +kernel
theorem d_Shop_pay_12 : decode prog_10_method_23_code 12 = .ok (.isub, 1) := by decide +kernel
theorem d_Shop_pay_13 : decode prog_10_method_23_code 13 = .ok (.putfield 15, 3) := by decide +kernel
theorem d_Shop_pay_16 : decode prog_10_method_23_code 16 = .ok (.aload_n 0, 1) := by decide +kernel
theorem d_Shop_pay_17 : decode prog_10_method_23_code 17 = .ok (.dup, 1) := by decide +kernel
theorem d_Shop_pay_18 : decode prog_10_method_23_code 18 = .ok (.getfield 58, 3) := by decide +kernel
theorem d_Shop_pay_21 : decode prog_10_method_23_code 21 = .ok (.iload_n 3, 1) := by decide +kernel
theorem d_Shop_pay_22 : decode prog_10_method_23_code 22 = .ok (.iadd, 1) := by decide +kernel
theorem d_Shop_pay_23 : decode prog_10_method_23_code 23 = .ok (.putfield 58, 3) := by decide +kernel
theorem d_Shop_pay_26 : decode prog_10_method_23_code 26 = .ok (.aload_n 1, 1) := by decide +kernel
theorem d_Shop_pay_27 : decode prog_10_method_23_code 27 = .ok (.iconst 3, 1) := by decide +kernel
theorem d_Shop_pay_28 : decode prog_10_method_23_code 28 = .ok (.putfield 137, 3) := by decide +kernel
theorem d_Shop_pay_31 : decode prog_10_method_23_code 31 = .ok (.aload_n 0, 1) := by decide +kernel
theorem d_Shop_pay_32 : decode prog_10_method_23_code 32 = .ok (.iload_n 2, 1) := by decide +kernel
theorem d_Shop_pay_33 : decode prog_10_method_23_code 33 = .ok (.invokevirtual 202, 3) := by decide +kernel
theorem d_Shop_pay_36 : decode prog_10_method_23_code 36 = .ok (.aload_n 1, 1) := by decide +kernel
theorem d_Shop_pay_37 : decode prog_10_method_23_code 37 = .ok (.getfield 116, 3) := by decide +kernel
theorem d_Shop_pay_40 : decode prog_10_method_23_code 40 = .ok (.iload_n 3, 1) := by decide +kernel
theorem d_Shop_pay_41 : decode prog_10_method_23_code 41 = .ok (.aload_n 0, 1) := by decide +kernel
theorem d_Shop_pay_42 : decode prog_10_method_23_code 42 = .ok (.getfield 61, 3) := by decide +kernel
theorem d_Shop_pay_45 : decode prog_10_method_23_code 45 = .ok (.iload_n 2, 1) := by decide +kernel
theorem d_Shop_pay_46 : decode prog_10_method_23_code 46 = .ok (.aload_n 1, 1) := by decide +kernel
theorem d_Shop_pay_47 : decode prog_10_method_23_code 47 = .ok (.getfield 116, 3) := by decide +kernel
theorem d_Shop_pay_50 : decode prog_10_method_23_code 50 = .ok (.invokevirtual 206, 3) := by decide +kernel
theorem d_Shop_pay_53 : decode prog_10_method_23_code 53 = .ok (.invokevirtual 209, 3) := by decide +kernel
theorem d_Shop_pay_56 : decode prog_10_method_23_code 56 = .ok (.return_, 1) := by decide +kernel
theorem d_Shop_removeFirstRequest_0 : decode prog_10_method_21_code 0 = .ok (.iconst 1, 1) := by decide +kernel
theorem d_Shop_removeFirstRequest_1 : decode prog_10_method_21_code 1 = .ok (.istore_n 1, 1) := by decide +kernel
theorem d_Shop_removeFirstRequest_2 : decode prog_10_method_21_code 2 = .ok (.iload_n 1, 1) := by decide +kernel
theorem d_Shop_removeFirstRequest_3 : decode prog_10_method_21_code 3 = .ok (.aload_n 0, 1) := by decide +kernel
theorem d_Shop_removeFirstRequest_4 : decode prog_10_method_21_code 4 = .ok (.getfield 40, 3) := by decide +kernel
theorem d_Shop_removeFirstRequest_7 : decode prog_10_method_21_code 7 = .ok (.if_icmp .ge 23, 3) := by decide +kernel
theorem d_Shop_removeFirstRequest_10 : decode prog_10_method_21_code 10 = .ok (.aload_n 0, 1) := by decide +kernel
theorem d_Shop_removeFirstRequest_11 : decode prog_10_method_21_code 11 = .ok (.getfield 37, 3) := by decide +kernel
theorem d_Shop_removeFirstRequest_14 : decode prog_10_method_21_code 14 = .ok (.iload_n 1, 1) := by decide +kernel
theorem d_Shop_removeFirstRequest_15 : decode prog_10_method_21_code 15 = .ok (.iconst 1, 1) := by decide +kernel
theorem d_Shop_removeFirstRequest_16 : decode prog_10_method_21_code 16 = .ok (.isub, 1) := by decide +kernel
theorem d_Shop_removeFirstRequest_17 : decode prog_10_method_21_code 17 = .ok (.aload_n 0, 1) := by decide +kernel
theorem d_Shop_removeFirstRequest_18 : decode prog_10_method_21_code 18 = .ok (.getfield 37, 3) := by decide +kernel
theorem d_Shop_removeFirstRequest_21 : decode prog_10_method_21_code 21 = .ok (.iload_n 1, 1) := by decide +kernel
theorem d_Shop_removeFirstRequest_22 : decode prog_10_method_21_code 22 = .ok (.iaload, 1) := by decide +kernel
theorem d_Shop_removeFirstRequest_23 : decode prog_10_method_21_code 23 = .ok (.iastore, 1) := by decide +kernel
theorem d_Shop_removeFirstRequest_24 : decode prog_10_method_21_code 24 = .ok (.iinc 1 1, 3) := by decide +kernel
theorem d_Shop_removeFirstRequest_27 : decode prog_10_method_21_code 27 = .ok (.goto (-25), 3) := by decide +kernel
theorem d_Shop_removeFirstRequest_30 : decode prog_10_method_21_code 30 = .ok (.aload_n 0, 1) := by decide +kernel
theorem d_Shop_removeFirstRequest_31 : decode prog_10_method_21_code 31 = .ok (.dup, 1) := by decide +kernel
theorem d_Shop_removeFirstRequest_32 : decode prog_10_method_21_code 32 = .ok (.getfield 40, 3) := by decide +kernel
theorem d_Shop_removeFirstRequest_35 : decode prog_10_method_21_code 35 = .ok (.iconst 1, 1) := by decide +kernel
theorem d_Shop_removeFirstRequest_36 : decode prog_10_method_21_code 36 = .ok (.isub, 1) := by decide +kernel
theorem d_Shop_removeFirstRequest_37 : decode prog_10_method_21_code 37 = .ok (.putfield 40, 3) := by decide +kernel
theorem d_Shop_removeFirstRequest_40 : decode prog_10_method_21_code 40 = .ok (.return_, 1) := by decide +kernel
theorem d_Shop_handleFirstRequest_0 : decode prog_10_method_22_code 0 = .ok (.aload_n 0, 1) := by decide +kernel
theorem d_Shop_handleFirstRequest_1 : decode prog_10_method_22_code 1 = .ok (.iconst 0, 1) := by decide +kernel
theorem d_Shop_handleFirstRequest_2 : decode prog_10_method_22_code 2 = .ok (.invokevirtual 181, 3) := by decide +kernel
theorem d_Shop_handleFirstRequest_5 : decode prog_10_method_22_code 5 = .ok (.istore_n 1, 1) := by decide +kernel
theorem d_Shop_handleFirstRequest_6 : decode prog_10_method_22_code 6 = .ok (.aload_n 0, 1) := by decide +kernel
theorem d_Shop_handleFirstRequest_7 : decode prog_10_method_22_code 7 = .ok (.iload_n 1, 1) := by decide +kernel
theorem d_Shop_handleFirstRequest_8 : decode prog_10_method_22_code 8 = .ok (.invokevirtual 90, 3) := by decide +kernel
theorem d_Shop_handleFirstRequest_11 : decode prog_10_method_22_code 11 = .ok (.ifCond .ne 5, 3) := by decide +kernel
theorem d_Shop_handleFirstRequest_14 : decode prog_10_method_22_code 14 = .ok (.iconst 0, 1) := by decide +kernel
theorem d_Shop_handleFirstRequest_15 : decode prog_10_method_22_code 15 = .ok (.ireturn, 1) := by decide +kernel
theorem d_Shop_handleFirstRequest_16 : decode prog_10_method_22_code 16 = .ok (.aload_n 0, 1) := by decide +kernel
theorem d_Shop_handleFirstRequest_17 : decode prog_10_method_22_code 17 = .ok (.iload_n 1, 1) := by decide +kernel
theorem d_Shop_handleFirstRequest_18 : decode prog_10_method_22_code 18 = .ok (.invokevirtual 184, 3) := by decide +kernel
theorem d_Shop_handleFirstRequest_21 : decode prog_10_method_22_code 21 = .ok (.astore_n 2, 1) := by decide +kernel
theorem d_Shop_handleFirstRequest_22 : decode prog_10_method_22_code 22 = .ok (.aload_n 0, 1) := by decide +kernel
theorem d_Shop_handleFirstRequest_23 : decode prog_10_method_22_code 23 = .ok (.aload_n 2, 1) := by decide +kernel
theorem d_Shop_handleFirstRequest_24 : decode prog_10_method_22_code 24 = .ok (.invokevirtual 188, 3) := by decide +kernel
theorem d_Shop_handleFirstRequest_27 : decode prog_10_method_22_code 27 = .ok (.istore_n 3, 1) := by decide +kernel
theorem d_Shop_handleFirstRequest_28 : decode prog_10_method_22_code 28 = .ok (.iload_n 3, 1) := by decide +kernel
theorem d_Shop_handleFirstRequest_29 : decode prog_10_method_22_code 29 = .ok (.iconst 1, 1) := by decide +kernel
theorem d_Shop_handleFirstRequest_30 : decode prog_10_method_22_code 30 = .ok (.if_icmp .ne 24, 3) := by decide +kernel
theorem d_Shop_handleFirstRequest_33 : decode prog_10_method_22_code 33 = .ok (.aload_n 0, 1) := by decide +kernel
theorem d_Shop_handleFirstRequest_34 : decode prog_10_method_22_code 34 = .ok (.invokevirtual 191, 3) := by decide +kernel
theorem d_Shop_handleFirstRequest_37 : decode prog_10_method_22_code 37 = .ok (.istore 4, 2) := by decide +kernel
theorem d_Shop_handleFirstRequest_39 : decode prog_10_method_22_code 39 = .ok (.iload 4, 2) := by decide +kernel
theorem d_Shop_handleFirstRequest_41 : decode prog_10_method_22_code 41 = .ok (.iconst (-1), 1) := by decide +kernel
theorem d_Shop_handleFirstRequest_42 : decode prog_10_method_22_code 42 = .ok (.if_icmp .ne 5, 3) := by decide +kernel
theorem d_Shop_handleFirstRequest_45 : decode prog_10_method_22_code 45 = .ok (.iconst 0, 1) := by decide +kernel
theorem d_Shop_handleFirstRequest_46 : decode prog_10_method_22_code 46 = .ok (.ireturn, 1) := by decide +kernel
theorem d_Shop_handleFirstRequest_47 : decode prog_10_method_22_code 47 = .ok (.aload_n 0, 1) := by decide +kernel
theorem d_Shop_handleFirstRequest_48 : decode prog_10_method_22_code 48 = .ok (.aload_n 2, 1) := by decide +kernel
theorem d_Shop_handleFirstRequest_49 : decode prog_10_method_22_code 49 = .ok (.iload 4, 2) := by decide +kernel
theorem d_Shop_handleFirstRequest_51 : decode prog_10_method_22_code 51 = .ok (.invokevirtual 195, 3) := by decide +kernel
theorem d_Shop_handleFirstRequest_54 : decode prog_10_method_22_code 54 = .ok (.aload_n 2, 1) := by decide +kernel
theorem d_Shop_handleFirstRequest_55 : decode prog_10_method_22_code 55 = .ok (.iload_n 3, 1) := by decide +kernel
theorem d_Shop_handleFirstRequest_56 : decode prog_10_method_22_code 56 = .ok (.putfield 140, 3) := by decide +kernel
theorem d_Shop_handleFirstRequest_59 : decode prog_10_method_22_code 59 = .ok (.aload_n 0, 1) := by decide +kernel
theorem d_Shop_handleFirstRequest_60 : decode prog_10_method_22_code 60 = .ok (.invokevirtual 199, 3) := by decide +kernel
theorem d_Shop_handleFirstRequest_63 : decode prog_10_method_22_code 63 = .ok (.iconst 1, 1) := by decide +kernel
theorem d_Shop_handleFirstRequest_64 : decode prog_10_method_22_code 64 = .ok (.ireturn, 1) := by decide +kernel
theorem d_Shop_passDays_0 : decode prog_10_method_28_code 0 = .ok (.aload_n 0, 1) := by decide +kernel
theorem d_Shop_passDays_1 : decode prog_10_method_28_code 1 = .ok (.getfield 55, 3) := by decide +kernel
theorem d_Shop_passDays_4 : decode prog_10_method_28_code 4 = .ok (.istore_n 2, 1) := by decide +kernel
theorem d_Shop_passDays_5 : decode prog_10_method_28_code 5 = .ok (.iconst 0, 1) := by decide +kernel
theorem d_Shop_passDays_6 : decode prog_10_method_28_code 6 = .ok (.istore_n 3, 1) := by decide +kernel
theorem d_Shop_passDays_7 : decode prog_10_method_28_code 7 = .ok (.iload_n 3, 1) := by decide +kernel
theorem d_Shop_passDays_8 : decode prog_10_method_28_code 8 = .ok (.iload_n 1, 1) := by decide +kernel
theorem d_Shop_passDays_9 : decode prog_10_method_28_code 9 = .ok (.if_icmp .ge 65, 3) := by decide +kernel
theorem d_Shop_passDays_12 : decode prog_10_method_28_code 12 = .ok (.aload_n 0, 1) := by decide +kernel
theorem d_Shop_passDays_13 : decode prog_10_method_28_code 13 = .ok (.dup, 1) := by decide +kernel
theorem d_Shop_passDays_14 : decode prog_10_method_28_code 14 = .ok (.getfield 9, 3) := by decide +kernel
theorem d_Shop_passDays_17 : decode prog_10_method_28_code 17 = .ok (.iconst 1, 1) := by decide +kernel
theorem d_Shop_passDays_18 : decode prog_10_method_28_code 18 = .ok (.iadd, 1) := by decide +kernel
theorem d_Shop_passDays_19 : decode prog_10_method_28_code 19 = .ok (.putfield 9, 3) := by decide +kernel
theorem d_Shop_passDays_22 : decode prog_10_method_28_code 22 = .ok (.aload_n 0, 1) := by decide +kernel
theorem d_Shop_passDays_23 : decode prog_10_method_28_code 23 = .ok (.invokevirtual 225, 3) := by decide +kernel
theorem d_Shop_passDays_26 : decode prog_10_method_28_code 26 = .ok (.aload_n 0, 1) := by decide +kernel
theorem d_Shop_passDays_27 : decode prog_10_method_28_code 27 = .ok (.invokevirtual 228, 3) := by decide +kernel
theorem d_Shop_passDays_30 : decode prog_10_method_28_code 30 = .ok (.iconst 0, 1) := by decide +kernel
theorem d_Shop_passDays_31 : decode prog_10_method_28_code 31 = .ok (.istore 4, 2) := by decide +kernel
theorem d_Shop_passDays_33 : decode prog_10_method_28_code 33 = .ok (.iload 4, 2) := by decide +kernel
theorem d_Shop_passDays_35 : decode prog_10_method_28_code 35 = .ok (.aload_n 0, 1) := by decide +kernel
theorem d_Shop_passDays_36 : decode prog_10_method_28_code 36 = .ok (.getfield 61, 3) := by decide +kernel
theorem d_Shop_passDays_39 : decode prog_10_method_28_code 39 = .ok (.getfield 231, 3) := by decide +kernel
theorem d_Shop_passDays_42 : decode prog_10_method_28_code 42 = .ok (.if_icmp .ge 26, 3) := by decide +kernel
theorem d_Shop_passDays_45 : decode prog_10_method_28_code 45 = .ok (.aload_n 0, 1) := by decide +kernel
theorem d_Shop_passDays_46 : decode prog_10_method_28_code 46 = .ok (.invokevirtual 234, 3) := by decide +kernel
theorem d_Shop_passDays_49 : decode prog_10_method_28_code 49 = .ok (.ifCond .eq 19, 3) := by decide +kernel
theorem d_Shop_passDays_52 : decode prog_10_method_28_code 52 = .ok (.aload_n 0, 1) := by decide +kernel
theorem d_Shop_passDays_53 : decode prog_10_method_28_code 53 = .ok (.dup, 1) := by decide +kernel
theorem d_Shop_passDays_54 : decode prog_10_method_28_code 54 = .ok (.getfield 55, 3) := by decide +kernel
theorem d_Shop_passDays_57 : decode prog_10_method_28_code 57 = .ok (.iconst 1, 1) := by decide +kernel
theorem d_Shop_passDays_58 : decode prog_10_method_28_code 58 = .ok (.iadd, 1) := by decide +kernel
theorem d_Shop_passDays_59 : decode prog_10_method_28_code 59 = .ok (.putfield 55, 3) := by decide +kernel
theorem d_Shop_passDays_62 : decode prog_10_method_28_code 62 = .ok (.iinc 4 1, 3) := by decide +kernel
theorem d_Shop_passDays_65 : decode prog_10_method_28_code 65 = .ok (.goto (-32), 3) := by decide +kernel
theorem d_Shop_passDays_68 : decode prog_10_method_28_code 68 = .ok (.iinc 3 1, 3) := by decide +kernel
theorem d_Shop_passDays_71 : decode prog_10_method_28_code 71 = .ok (.goto (-64), 3) := by decide +kernel
theorem d_Shop_passDays_74 : decode prog_10_method_28_code 74 = .ok (.aload_n 0, 1) := by decide +kernel
theorem d_Shop_passDays_75 : decode prog_10_method_28_code 75 = .ok (.getfield 55, 3) := by decide +kernel
theorem d_Shop_passDays_78 : decode prog_10_method_28_code 78 = .ok (.iload_n 2, 1) := by decide +kernel
theorem d_Shop_passDays_79 : decode prog_10_method_28_code 79 = .ok (.isub, 1) := by decide +kernel
theorem d_Shop_passDays_80 : decode prog_10_method_28_code 80 = .ok (.ireturn, 1) := by decide +kernel
theorem d_P_advance_0 : decode prog_1_method_49_code 0 = .ok (.aload_n 0, 1) := by decide +kernel
theorem d_P_advance_1 : decode prog_1_method_49_code 1 = .ok (.getfield 47, 3) := by decide +kernel
theorem d_P_advance_4 : decode prog_1_method_49_code 4 = .ok (.iload_n 1, 1) := by decide +kernel
theorem d_P_advance_5 : decode prog_1_method_49_code 5 = .ok (.invokevirtual 324, 3) := by decide +kernel
theorem d_P_advance_8 : decode prog_1_method_49_code 8 = .ok (.invokestatic 312, 3) := by decide +kernel
theorem d_P_advance_11 : decode prog_1_method_49_code 11 = .ok (.aload_n 0, 1) := by decide +kernel
theorem d_P_advance_12 : decode prog_1_method_49_code 12 = .ok (.getfield 57, 3) := by decide +kernel
theorem d_P_advance_15 : decode prog_1_method_49_code 15 = .ok (.aload_n 0, 1) := by decide +kernel
theorem d_P_advance_16 : decode prog_1_method_49_code 16 = .ok (.getfield 47, 3) := by decide +kernel
theorem d_P_advance_19 : decode prog_1_method_49_code 19 = .ok (.invokevirtual 138, 3) := by decide +kernel
theorem d_P_advance_22 : decode prog_1_method_49_code 22 = .ok (.aload_n 0, 1) := by decide +kernel
theorem d_P_advance_23 : decode prog_1_method_49_code 23 = .ok (.getfield 47, 3) := by decide +kernel
theorem d_P_advance_26 : decode prog_1_method_49_code 26 = .ok (.iload_n 1, 1) := by decide +kernel
theorem d_P_advance_27 : decode prog_1_method_49_code 27 = .ok (.invokevirtual 300, 3) := by decide +kernel
theorem d_P_advance_30 : decode prog_1_method_49_code 30 = .ok (.ireturn, 1) := by decide +kernel
theorem d_P_throwIfMissing_0 : decode prog_1_method_60_code 0 = .ok (.iload_n 0, 1) := by decide +kernel
theorem d_P_throwIfMissing_1 : decode prog_1_method_60_code 1 = .ok (.ifCond .ne 14, 3) := by decide +kernel
theorem d_P_throwIfMissing_4 : decode prog_1_method_60_code 4 = .ok (.new 368, 3) := by decide +kernel
theorem d_P_throwIfMissing_7 : decode prog_1_method_60_code 7 = .ok (.dup, 1) := by decide +kernel
theorem d_P_throwIfMissing_8 : decode prog_1_method_60_code 8 = .ok (.ldc_w 370, 3) := by decide +kernel
theorem d_P_throwIfMissing_11 : decode prog_1_method_60_code 11 = .ok (.invokespecial 372, 3) := by decide +kernel
theorem d_P_throwIfMissing_14 : decode prog_1_method_60_code 14 = .ok (.athrow, 1) := by decide +kernel
theorem d_P_throwIfMissing_15 : decode prog_1_method_60_code 15 = .ok (.return_, 1) := by decide +kernel
theorem d_P_prophecyWith_0 : decode prog_1_method_59_code 0 = .ok (.aload_n 0, 1) := by decide +kernel
theorem d_P_prophecyWith_1 : decode prog_1_method_59_code 1 = .ok (.getfield 47, 3) := by decide +kernel
theorem d_P_prophecyWith_4 : decode prog_1_method_59_code 4 = .ok (.iload_n 1, 1) := by decide +kernel
theorem d_P_prophecyWith_5 : decode prog_1_method_59_code 5 = .ok (.invokevirtual 240, 3) := by decide +kernel
theorem d_P_prophecyWith_8 : decode prog_1_method_59_code 8 = .ok (.invokestatic 178, 3) := by decide +kernel
theorem d_P_prophecyWith_11 : decode prog_1_method_59_code 11 = .ok (.aload_n 0, 1) := by decide +kernel
theorem d_P_prophecyWith_12 : decode prog_1_method_59_code 12 = .ok (.getfield 47, 3) := by decide +kernel
theorem d_P_prophecyWith_15 : decode prog_1_method_59_code 15 = .ok (.iload_n 1, 1) := by decide +kernel
theorem d_P_prophecyWith_16 : decode prog_1_method_59_code 16 = .ok (.invokevirtual 299, 3) := by decide +kernel
theorem d_P_prophecyWith_19 : decode prog_1_method_59_code 19 = .ok (.areturn, 1) := by decide +kernel
theorem d_P_answerFor_0 : decode prog_1_method_30_code 0 = .ok (.aload_n 0, 1) := by decide +kernel
theorem d_P_answerFor_1 : decode prog_1_method_30_code 1 = .ok (.iload_n 1, 1) := by decide +kernel
theorem d_P_answerFor_2 : decode prog_1_method_30_code 2 = .ok (.invokevirtual 198, 3) := by decide +kernel
theorem d_P_answerFor_5 : decode prog_1_method_30_code 5 = .ok (.getfield 246, 3) := by decide +kernel
theorem d_P_answerFor_8 : decode prog_1_method_30_code 8 = .ok (.ireturn, 1) := by decide +kernel
theorem d_P_append_0 : decode prog_1_method_2_code 0 = .ok (.iload_n 1, 1) := by decide +kernel
theorem d_P_append_1 : decode prog_1_method_2_code 1 = .ok (.invokestatic 101, 3) := by decide +kernel
theorem d_P_append_4 : decode prog_1_method_2_code 4 = .ok (.iload_n 2, 1) := by decide +kernel
theorem d_P_append_5 : decode prog_1_method_2_code 5 = .ok (.invokestatic 101, 3) := by decide +kernel
theorem d_P_append_8 : decode prog_1_method_2_code 8 = .ok (.iadd, 1) := by decide +kernel
theorem d_P_append_9 : decode prog_1_method_2_code 9 = .ok (.iload_n 3, 1) := by decide +kernel
theorem d_P_append_10 : decode prog_1_method_2_code 10 = .ok (.invokestatic 101, 3) := by decide +kernel
theorem d_P_append_13 : decode prog_1_method_2_code 13 = .ok (.iadd, 1) := by decide +kernel
theorem d_P_append_14 : decode prog_1_method_2_code 14 = .ok (.iload 4, 2) := by decide +kernel
theorem d_P_append_16 : decode prog_1_method_2_code 16 = .ok (.invokestatic 101, 3) := by decide +kernel
theorem d_P_append_19 : decode prog_1_method_2_code 19 = .ok (.iadd, 1) := by decide +kernel
theorem d_P_append_20 : decode prog_1_method_2_code 20 = .ok (.iload 5, 2) := by decide +kernel
theorem d_P_append_22 : decode prog_1_method_2_code 22 = .ok (.invokestatic 101, 3) := by decide +kernel
theorem d_P_append_25 : decode prog_1_method_2_code 25 = .ok (.iadd, 1) := by decide +kernel
theorem d_P_append_26 : decode prog_1_method_2_code 26 = .ok (.istore 6, 2) := by decide +kernel
theorem d_P_append_28 : decode prog_1_method_2_code 28 = .ok (.aload_n 0, 1) := by decide +kernel
theorem d_P_append_29 : decode prog_1_method_2_code 29 = .ok (.getfield 10, 3) := by decide +kernel
theorem d_P_append_32 : decode prog_1_method_2_code 32 = .ok (.invokevirtual 105, 3) := by decide +kernel
theorem d_P_append_35 : decode prog_1_method_2_code 35 = .ok (.iload 6, 2) := by decide +kernel
theorem d_P_append_37 : decode prog_1_method_2_code 37 = .ok (.iadd, 1) := by decide +kernel
theorem d_P_append_38 : decode prog_1_method_2_code 38 = .ok (.sipush 800, 3) := by decide +kernel
theorem d_P_append_41 : decode prog_1_method_2_code 41 = .ok (.if_icmp .le 13, 3) := by decide +kernel
theorem d_P_append_44 : decode prog_1_method_2_code 44 = .ok (.new 108, 3) := by decide +kernel
theorem d_P_append_47 : decode prog_1_method_2_code 47 = .ok (.dup, 1) := by decide +kernel
theorem d_P_append_48 : decode prog_1_method_2_code 48 = .ok (.ldc 110, 2) := by decide +kernel
theorem d_P_append_50 : decode prog_1_method_2_code 50 = .ok (.invokespecial 112, 3) := by decide +kernel
theorem d_P_append_53 : decode prog_1_method_2_code 53 = .ok (.athrow, 1) := by decide +kernel
theorem d_P_append_54 : decode prog_1_method_2_code 54 = .ok (.aload_n 0, 1) := by decide +kernel
theorem d_P_append_55 : decode prog_1_method_2_code 55 = .ok (.getfield 10, 3) := by decide +kernel
theorem d_P_append_58 : decode prog_1_method_2_code 58 = .ok (.iload_n 1, 1) := by decide +kernel
theorem d_P_append_59 : decode prog_1_method_2_code 59 = .ok (.invokevirtual 115, 3) := by decide +kernel
theorem d_P_append_62 : decode prog_1_method_2_code 62 = .ok (.aload_n 0, 1) := by decide +kernel
theorem d_P_append_63 : decode prog_1_method_2_code 63 = .ok (.getfield 10, 3) := by decide +kernel
theorem d_P_append_66 : decode prog_1_method_2_code 66 = .ok (.iload_n 2, 1) := by decide +kernel
theorem d_P_append_67 : decode prog_1_method_2_code 67 = .ok (.invokevirtual 115, 3) := by decide +kernel
theorem d_P_append_70 : decode prog_1_method_2_code 70 = .ok (.aload_n 0, 1) := by decide +kernel
theorem d_P_append_71 : decode prog_1_method_2_code 71 = .ok (.getfield 10, 3) := by decide +kernel
theorem d_P_append_74 : decode prog_1_method_2_code 74 = .ok (.iload_n 3, 1) := by decide +kernel
theorem d_P_append_75 : decode prog_1_method_2_code 75 = .ok (.invokevirtual 115, 3) := by decide +kernel
theorem d_P_append_78 : decode prog_1_method_2_code 78 = .ok (.aload_n 0, 1) := by decide +kernel
theorem d_P_append_79 : decode prog_1_method_2_code 79 = .ok (.getfield 10, 3) := by decide +kernel
theorem d_P_append_82 : decode prog_1_method_2_code 82 = .ok (.iload 4, 2) := by decide +kernel
theorem d_P_append_84 : decode prog_1_method_2_code 84 = .ok (.invokevirtual 115, 3) := by decide +kernel
theorem d_P_append_87 : decode prog_1_method_2_code 87 = .ok (.aload_n 0, 1) := by decide +kernel
theorem d_P_append_88 : decode prog_1_method_2_code 88 = .ok (.getfield 10, 3) := by decide +kernel
theorem d_P_append_91 : decode prog_1_method_2_code 91 = .ok (.iload 5, 2) := by decide +kernel
theorem d_P_append_93 : decode prog_1_method_2_code 93 = .ok (.invokevirtual 115, 3) := by decide +kernel
theorem d_P_append_96 : decode prog_1_method_2_code 96 = .ok (.aload_n 0, 1) := by decide +kernel
theorem d_P_append_97 : decode prog_1_method_2_code 97 = .ok (.getfield 10, 3) := by decide +kernel
theorem d_P_append_100 : decode prog_1_method_2_code 100 = .ok (.invokevirtual 105, 3) := by decide +kernel
theorem d_P_append_103 : decode prog_1_method_2_code 103 = .ok (.ireturn, 1) := by decide +kernel
theorem d_Shop_requestsBefore_0 : decode prog_10_method_18_code 0 = .ok (.iconst 0, 1) := by decide +kernel
theorem d_Shop_requestsBefore_1 : decode prog_10_method_18_code 1 = .ok (.istore_n 2, 1) := by decide +kernel
theorem d_Shop_requestsBefore_2 : decode prog_10_method_18_code 2 = .ok (.iload_n 2, 1) := by decide +kernel
theorem d_Shop_requestsBefore_3 : decode prog_10_method_18_code 3 = .ok (.aload_n 0, 1) := by decide +kernel
theorem d_Shop_requestsBefore_4 : decode prog_10_method_18_code 4 = .ok (.getfield 40, 3) := by decide +kernel
theorem d_Shop_requestsBefore_7 : decode prog_10_method_18_code 7 = .ok (.if_icmp .ge 21, 3) := by decide +kernel
theorem d_Shop_requestsBefore_10 : decode prog_10_method_18_code 10 = .ok (.aload_n 0, 1) := by decide +kernel
theorem d_Shop_requestsBefore_11 : decode prog_10_method_18_code 11 = .ok (.getfield 37, 3) := by decide +kernel
theorem d_Shop_requestsBefore_14 : decode prog_10_method_18_code 14 = .ok (.iload_n 2, 1) := by decide +kernel
theorem d_Shop_requestsBefore_15 : decode prog_10_method_18_code 15 = .ok (.iaload, 1) := by decide +kernel
theorem d_Shop_requestsBefore_16 : decode prog_10_method_18_code 16 = .ok (.iload_n 1, 1) := by decide +kernel
theorem d_Shop_requestsBefore_17 : decode prog_10_method_18_code 17 = .ok (.if_icmp .ne 5, 3) := by decide +kernel
theorem d_Shop_requestsBefore_20 : decode prog_10_method_18_code 20 = .ok (.iload_n 2, 1) := by decide +kernel
theorem d_Shop_requestsBefore_21 : decode prog_10_method_18_code 21 = .ok (.ireturn, 1) := by decide +kernel
theorem d_Shop_requestsBefore_22 : decode prog_10_method_18_code 22 = .ok (.iinc 2 1, 3) := by decide +kernel
theorem d_Shop_requestsBefore_25 : decode prog_10_method_18_code 25 = .ok (.goto (-23), 3) := by decide +kernel
theorem d_Shop_requestsBefore_28 : decode prog_10_method_18_code 28 = .ok (.iconst (-1), 1) := by decide +kernel
theorem d_Shop_requestsBefore_29 : decode prog_10_method_18_code 29 = .ok (.ireturn, 1) := by decide +kernel
theorem d_Shop_faultOfRequest_0 : decode prog_10_method_19_code 0 = .ok (.aload_n 0, 1) := by decide +kernel
theorem d_Shop_faultOfRequest_1 : decode prog_10_method_19_code 1 = .ok (.iload_n 1, 1) := by decide +kernel
theorem d_Shop_faultOfRequest_2 : decode prog_10_method_19_code 2 = .ok (.invokevirtual 90, 3) := by decide +kernel
theorem d_Shop_faultOfRequest_5 : decode prog_10_method_19_code 5 = .ok (.ifCond .ne 5, 3) := by decide +kernel
theorem d_Shop_faultOfRequest_8 : decode prog_10_method_19_code 8 = .ok (.iconst 1, 1) := by decide +kernel
theorem d_Shop_faultOfRequest_9 : decode prog_10_method_19_code 9 = .ok (.ireturn, 1) := by decide +kernel
theorem d_Shop_faultOfRequest_10 : decode prog_10_method_19_code 10 = .ok (.aload_n 0, 1) := by decide +kernel
theorem d_Shop_faultOfRequest_11 : decode prog_10_method_19_code 11 = .ok (.iload_n 1, 1) := by decide +kernel
theorem d_Shop_faultOfRequest_12 : decode prog_10_method_19_code 12 = .ok (.invokevirtual 178, 3) := by decide +kernel
theorem d_Shop_faultOfRequest_15 : decode prog_10_method_19_code 15 = .ok (.iconst (-1), 1) := by decide +kernel
theorem d_Shop_faultOfRequest_16 : decode prog_10_method_19_code 16 = .ok (.if_icmp .eq 7, 3) := by decide +kernel
theorem d_Shop_faultOfRequest_19 : decode prog_10_method_19_code 19 = .ok (.iconst 3, 1) := by decide +kernel
theorem d_Shop_faultOfRequest_20 : decode prog_10_method_19_code 20 = .ok (.goto 4, 3) := by decide +kernel
theorem d_Shop_faultOfRequest_23 : decode prog_10_method_19_code 23 = .ok (.iconst 0, 1) := by decide +kernel
theorem d_Shop_faultOfRequest_24 : decode prog_10_method_19_code 24 = .ok (.ireturn, 1) := by decide +kernel
theorem d_Shop_addRequest_0 : decode prog_10_method_20_code 0 = .ok (.aload_n 0, 1) := by decide +kernel
theorem d_Shop_addRequest_1 : decode prog_10_method_20_code 1 = .ok (.getfield 40, 3) := by decide +kernel
theorem d_Shop_addRequest_4 : decode prog_10_method_20_code 4 = .ok (.bipush 24, 2) := by decide +kernel
theorem d_Shop_addRequest_6 : decode prog_10_method_20_code 6 = .ok (.if_icmp .ge 23, 3) := by decide +kernel
theorem d_Shop_addRequest_9 : decode prog_10_method_20_code 9 = .ok (.aload_n 0, 1) := by decide +kernel
theorem d_Shop_addRequest_10 : decode prog_10_method_20_code 10 = .ok (.getfield 37, 3) := by decide +kernel
theorem d_Shop_addRequest_13 : decode prog_10_method_20_code 13 = .ok (.aload_n 0, 1) := by decide +kernel
theorem d_Shop_addRequest_14 : decode prog_10_method_20_code 14 = .ok (.getfield 40, 3) := by decide +kernel
theorem d_Shop_addRequest_17 : decode prog_10_method_20_code 17 = .ok (.iload_n 1, 1) := by decide +kernel
theorem d_Shop_addRequest_18 : decode prog_10_method_20_code 18 = .ok (.iastore, 1) := by decide +kernel
theorem d_Shop_addRequest_19 : decode prog_10_method_20_code 19 = .ok (.aload_n 0, 1) := by decide +kernel
theorem d_Shop_addRequest_20 : decode prog_10_method_20_code 20 = .ok (.dup, 1) := by decide +kernel
theorem d_Shop_addRequest_21 : decode prog_10_method_20_code 21 = .ok (.getfield 40, 3) := by decide +kernel
theorem d_Shop_addRequest_24 : decode prog_10_method_20_code 24 = .ok (.iconst 1, 1) := by decide +kernel
theorem d_Shop_addRequest_25 : decode prog_10_method_20_code 25 = .ok (.iadd, 1) := by decide +kernel
theorem d_Shop_addRequest_26 : decode prog_10_method_20_code 26 = .ok (.putfield 40, 3) := by decide +kernel
theorem d_Shop_addRequest_29 : decode prog_10_method_20_code 29 = .ok (.aload_n 0, 1) := by decide +kernel
theorem d_Shop_addRequest_30 : decode prog_10_method_20_code 30 = .ok (.getfield 40, 3) := by decide +kernel
theorem d_Shop_addRequest_33 : decode prog_10_method_20_code 33 = .ok (.ireturn, 1) := by decide +kernel
theorem d_P_ask_0 : decode prog_1_method_48_code 0 = .ok (.aload_n 0, 1) := by decide +kernel
theorem d_P_ask_1 : decode prog_1_method_48_code 1 = .ok (.getfield 47, 3) := by decide +kernel
theorem d_P_ask_4 : decode prog_1_method_48_code 4 = .ok (.iload_n 1, 1) := by decide +kernel
theorem d_P_ask_5 : decode prog_1_method_48_code 5 = .ok (.invokevirtual 318, 3) := by decide +kernel
theorem d_P_ask_8 : decode prog_1_method_48_code 8 = .ok (.invokestatic 312, 3) := by decide +kernel
theorem d_P_ask_11 : decode prog_1_method_48_code 11 = .ok (.aload_n 0, 1) := by decide +kernel
theorem d_P_ask_12 : decode prog_1_method_48_code 12 = .ok (.getfield 57, 3) := by decide +kernel
theorem d_P_ask_15 : decode prog_1_method_48_code 15 = .ok (.aload_n 0, 1) := by decide +kernel
theorem d_P_ask_16 : decode prog_1_method_48_code 16 = .ok (.getfield 47, 3) := by decide +kernel
theorem d_P_ask_19 : decode prog_1_method_48_code 19 = .ok (.invokevirtual 138, 3) := by decide +kernel
theorem d_P_ask_22 : decode prog_1_method_48_code 22 = .ok (.aload_n 0, 1) := by decide +kernel
theorem d_P_ask_23 : decode prog_1_method_48_code 23 = .ok (.getfield 47, 3) := by decide +kernel
theorem d_P_ask_26 : decode prog_1_method_48_code 26 = .ok (.iload_n 1, 1) := by decide +kernel
theorem d_P_ask_27 : decode prog_1_method_48_code 27 = .ok (.invokevirtual 321, 3) := by decide +kernel
theorem d_P_ask_30 : decode prog_1_method_48_code 30 = .ok (.ireturn, 1) := by decide +kernel
theorem d_P_cash_0 : decode prog_1_method_9_code 0 = .ok (.aload_n 0, 1) := by decide +kernel
theorem d_P_cash_1 : decode prog_1_method_9_code 1 = .ok (.getfield 47, 3) := by decide +kernel
theorem d_P_cash_4 : decode prog_1_method_9_code 4 = .ok (.getfield 149, 3) := by decide +kernel
theorem d_P_cash_7 : decode prog_1_method_9_code 7 = .ok (.ireturn, 1) := by decide +kernel
theorem d_P_cashAfter_0 : decode prog_1_method_43_code 0 = .ok (.iload_n 1, 1) := by decide +kernel
theorem d_P_cashAfter_1 : decode prog_1_method_43_code 1 = .ok (.iconst 0, 1) := by decide +kernel
theorem d_P_cashAfter_2 : decode prog_1_method_43_code 2 = .ok (.sipush 300, 3) := by decide +kernel
theorem d_P_cashAfter_5 : decode prog_1_method_43_code 5 = .ok (.invokestatic 118, 3) := by decide +kernel
theorem d_P_cashAfter_8 : decode prog_1_method_43_code 8 = .ok (.ifCond .ne 14, 3) := by decide +kernel
theorem d_P_cashAfter_11 : decode prog_1_method_43_code 11 = .ok (.new 122, 3) := by decide +kernel
theorem d_P_cashAfter_14 : decode prog_1_method_43_code 14 = .ok (.dup, 1) := by decide +kernel
theorem d_P_cashAfter_15 : decode prog_1_method_43_code 15 = .ok (.ldc_w 303, 3) := by decide +kernel
theorem d_P_cashAfter_18 : decode prog_1_method_43_code 18 = .ok (.invokespecial 126, 3) := by decide +kernel
theorem d_P_cashAfter_21 : decode prog_1_method_43_code 21 = .ok (.athrow, 1) := by decide +kernel
theorem d_P_cashAfter_22 : decode prog_1_method_43_code 22 = .ok (.aload_n 0, 1) := by decide +kernel
theorem d_P_cashAfter_23 : decode prog_1_method_43_code 23 = .ok (.getfield 51, 3) := by decide +kernel
theorem d_P_cashAfter_26 : decode prog_1_method_43_code 26 = .ok (.aload_n 0, 1) := by decide +kernel
theorem d_P_cashAfter_27 : decode prog_1_method_43_code 27 = .ok (.getfield 47, 3) := by decide +kernel
theorem d_P_cashAfter_30 : decode prog_1_method_43_code 30 = .ok (.invokevirtual 296, 3) := by decide +kernel
theorem d_P_cashAfter_33 : decode prog_1_method_43_code 33 = .ok (.aload_n 0, 1) := by decide +kernel
theorem d_P_cashAfter_34 : decode prog_1_method_43_code 34 = .ok (.getfield 51, 3) := by decide +kernel
theorem d_P_cashAfter_37 : decode prog_1_method_43_code 37 = .ok (.iload_n 1, 1) := by decide +kernel
theorem d_P_cashAfter_38 : decode prog_1_method_43_code 38 = .ok (.invokevirtual 300, 3) := by decide +kernel
theorem d_P_cashAfter_41 : decode prog_1_method_43_code 41 = .ok (.pop, 1) := by decide +kernel
theorem d_P_cashAfter_42 : decode prog_1_method_43_code 42 = .ok (.aload_n 0, 1) := by decide +kernel
theorem d_P_cashAfter_43 : decode prog_1_method_43_code 43 = .ok (.getfield 51, 3) := by decide +kernel
theorem d_P_cashAfter_46 : decode prog_1_method_43_code 46 = .ok (.getfield 149, 3) := by decide +kernel
theorem d_P_cashAfter_49 : decode prog_1_method_43_code 49 = .ok (.ireturn, 1) := by decide +kernel
theorem d_Setup_firstCoinsOf_0 : decode prog_8_method_5_code 0 = .ok (.aload_n 0, 1) := by decide +kernel
theorem d_Setup_firstCoinsOf_1 : decode prog_8_method_5_code 1 = .ok (.getfield 37, 3) := by decide +kernel
theorem d_Setup_firstCoinsOf_4 : decode prog_8_method_5_code 4 = .ok (.iload_n 1, 1) := by decide +kernel
theorem d_Setup_firstCoinsOf_5 : decode prog_8_method_5_code 5 = .ok (.invokevirtual 60, 3) := by decide +kernel
theorem d_Setup_firstCoinsOf_8 : decode prog_8_method_5_code 8 = .ok (.ifCond .eq 12, 3) := by decide +kernel
theorem d_Setup_firstCoinsOf_11 : decode prog_8_method_5_code 11 = .ok (.aload_n 0, 1) := by decide +kernel
theorem d_Setup_firstCoinsOf_12 : decode prog_8_method_5_code 12 = .ok (.getfield 40, 3) := by decide +kernel
theorem d_Setup_firstCoinsOf_15 : decode prog_8_method_5_code 15 = .ok (.iload_n 1, 1) := by decide +kernel
theorem d_Setup_firstCoinsOf_16 : decode prog_8_method_5_code 16 = .ok (.iaload, 1) := by decide +kernel
theorem d_Setup_firstCoinsOf_17 : decode prog_8_method_5_code 17 = .ok (.goto 4, 3) := by decide +kernel
theorem d_Setup_firstCoinsOf_20 : decode prog_8_method_5_code 20 = .ok (.iconst 0, 1) := by decide +kernel
theorem d_Setup_firstCoinsOf_21 : decode prog_8_method_5_code 21 = .ok (.ireturn, 1) := by decide +kernel
theorem d_Setup_sumOfCoins_0 : decode prog_8_method_6_code 0 = .ok (.aload_n 0, 1) := by decide +kernel
theorem d_Setup_sumOfCoins_1 : decode prog_8_method_6_code 1 = .ok (.getfield 9, 3) := by decide +kernel
theorem d_Setup_sumOfCoins_4 : decode prog_8_method_6_code 4 = .ok (.istore_n 1, 1) := by decide +kernel
theorem d_Setup_sumOfCoins_5 : decode prog_8_method_6_code 5 = .ok (.iconst 0, 1) := by decide +kernel
theorem d_Setup_sumOfCoins_6 : decode prog_8_method_6_code 6 = .ok (.istore_n 2, 1) := by decide +kernel
theorem d_Setup_sumOfCoins_7 : decode prog_8_method_6_code 7 = .ok (.iload_n 2, 1) := by decide +kernel
theorem d_Setup_sumOfCoins_8 : decode prog_8_method_6_code 8 = .ok (.aload_n 0, 1) := by decide +kernel
theorem d_Setup_sumOfCoins_9 : decode prog_8_method_6_code 9 = .ok (.getfield 37, 3) := by decide +kernel
theorem d_Setup_sumOfCoins_12 : decode prog_8_method_6_code 12 = .ok (.getfield 53, 3) := by decide +kernel
theorem d_Setup_sumOfCoins_15 : decode prog_8_method_6_code 15 = .ok (.if_icmp .ge 17, 3) := by decide +kernel
theorem d_Setup_sumOfCoins_18 : decode prog_8_method_6_code 18 = .ok (.iload_n 1, 1) := by decide +kernel
theorem d_Setup_sumOfCoins_19 : decode prog_8_method_6_code 19 = .ok (.aload_n 0, 1) := by decide +kernel
theorem d_Setup_sumOfCoins_20 : decode prog_8_method_6_code 20 = .ok (.iload_n 2, 1) := by decide +kernel
theorem d_Setup_sumOfCoins_21 : decode prog_8_method_6_code 21 = .ok (.invokevirtual 64, 3) := by decide +kernel
theorem d_Setup_sumOfCoins_24 : decode prog_8_method_6_code 24 = .ok (.iadd, 1) := by decide +kernel
theorem d_Setup_sumOfCoins_25 : decode prog_8_method_6_code 25 = .ok (.istore_n 1, 1) := by decide +kernel
theorem d_Setup_sumOfCoins_26 : decode prog_8_method_6_code 26 = .ok (.iinc 2 1, 3) := by decide +kernel
theorem d_Setup_sumOfCoins_29 : decode prog_8_method_6_code 29 = .ok (.goto (-22), 3) := by decide +kernel
theorem d_Setup_sumOfCoins_32 : decode prog_8_method_6_code 32 = .ok (.iload_n 1, 1) := by decide +kernel
theorem d_Setup_sumOfCoins_33 : decode prog_8_method_6_code 33 = .ok (.ireturn, 1) := by decide +kernel
theorem d_Shop_sumOfCoins_0 : decode prog_10_method_34_code 0 = .ok (.aload_n 0, 1) := by decide +kernel
theorem d_Shop_sumOfCoins_1 : decode prog_10_method_34_code 1 = .ok (.getfield 15, 3) := by decide +kernel
theorem d_Shop_sumOfCoins_4 : decode prog_10_method_34_code 4 = .ok (.istore_n 1, 1) := by decide +kernel
theorem d_Shop_sumOfCoins_5 : decode prog_10_method_34_code 5 = .ok (.iconst 0, 1) := by decide +kernel
theorem d_Shop_sumOfCoins_6 : decode prog_10_method_34_code 6 = .ok (.istore_n 2, 1) := by decide +kernel
theorem d_Shop_sumOfCoins_7 : decode prog_10_method_34_code 7 = .ok (.iload_n 2, 1) := by decide +kernel
theorem d_Shop_sumOfCoins_8 : decode prog_10_method_34_code 8 = .ok (.bipush 8, 2) := by decide +kernel
theorem d_Shop_sumOfCoins_10 : decode prog_10_method_34_code 10 = .ok (.if_icmp .ge 18, 3) := by decide +kernel
theorem d_Shop_sumOfCoins_13 : decode prog_10_method_34_code 13 = .ok (.iload_n 1, 1) := by decide +kernel
theorem d_Shop_sumOfCoins_14 : decode prog_10_method_34_code 14 = .ok (.aload_n 0, 1) := by decide +kernel
theorem d_Shop_sumOfCoins_15 : decode prog_10_method_34_code 15 = .ok (.getfield 18, 3) := by decide +kernel
theorem d_Shop_sumOfCoins_18 : decode prog_10_method_34_code 18 = .ok (.iload_n 2, 1) := by decide +kernel
theorem d_Shop_sumOfCoins_19 : decode prog_10_method_34_code 19 = .ok (.iaload, 1) := by decide +kernel
theorem d_Shop_sumOfCoins_20 : decode prog_10_method_34_code 20 = .ok (.iadd, 1) := by decide +kernel
theorem d_Shop_sumOfCoins_21 : decode prog_10_method_34_code 21 = .ok (.istore_n 1, 1) := by decide +kernel
theorem d_Shop_sumOfCoins_22 : decode prog_10_method_34_code 22 = .ok (.iinc 2 1, 3) := by decide +kernel
theorem d_Shop_sumOfCoins_25 : decode prog_10_method_34_code 25 = .ok (.goto (-18), 3) := by decide +kernel
theorem d_Shop_sumOfCoins_28 : decode prog_10_method_34_code 28 = .ok (.iconst 0, 1) := by decide +kernel
theorem d_Shop_sumOfCoins_29 : decode prog_10_method_34_code 29 = .ok (.istore_n 2, 1) := by decide +kernel
theorem d_Shop_sumOfCoins_30 : decode prog_10_method_34_code 30 = .ok (.iload_n 2, 1) := by decide +kernel
theorem d_Shop_sumOfCoins_31 : decode prog_10_method_34_code 31 = .ok (.iconst 5, 1) := by decide +kernel
theorem d_Shop_sumOfCoins_32 : decode prog_10_method_34_code 32 = .ok (.if_icmp .ge 21, 3) := by decide +kernel
theorem d_Shop_sumOfCoins_35 : decode prog_10_method_34_code 35 = .ok (.iload_n 1, 1) := by decide +kernel
theorem d_Shop_sumOfCoins_36 : decode prog_10_method_34_code 36 = .ok (.aload_n 0, 1) := by decide +kernel
theorem d_Shop_sumOfCoins_37 : decode prog_10_method_34_code 37 = .ok (.getfield 33, 3) := by decide +kernel
theorem d_Shop_sumOfCoins_40 : decode prog_10_method_34_code 40 = .ok (.iload_n 2, 1) := by decide +kernel
theorem d_Shop_sumOfCoins_41 : decode prog_10_method_34_code 41 = .ok (.aaload, 1) := by decide +kernel
theorem d_Shop_sumOfCoins_42 : decode prog_10_method_34_code 42 = .ok (.getfield 241, 3) := by decide +kernel
theorem d_Shop_sumOfCoins_45 : decode prog_10_method_34_code 45 = .ok (.iadd, 1) := by decide +kernel
theorem d_Shop_sumOfCoins_46 : decode prog_10_method_34_code 46 = .ok (.istore_n 1, 1) := by decide +kernel
theorem d_Shop_sumOfCoins_47 : decode prog_10_method_34_code 47 = .ok (.iinc 2 1, 3) := by decide +kernel
theorem d_Shop_sumOfCoins_50 : decode prog_10_method_34_code 50 = .ok (.goto (-20), 3) := by decide +kernel
theorem d_Shop_sumOfCoins_53 : decode prog_10_method_34_code 53 = .ok (.iload_n 1, 1) := by decide +kernel
theorem d_Shop_sumOfCoins_54 : decode prog_10_method_34_code 54 = .ok (.ireturn, 1) := by decide +kernel
theorem d_Shop_sumOfRefunds_0 : decode prog_10_method_33_code 0 = .ok (.iconst 0, 1) := by decide +kernel
theorem d_Shop_sumOfRefunds_1 : decode prog_10_method_33_code 1 = .ok (.istore_n 1, 1) := by decide +kernel
theorem d_Shop_sumOfRefunds_2 : decode prog_10_method_33_code 2 = .ok (.iconst 0, 1) := by decide +kernel
theorem d_Shop_sumOfRefunds_3 : decode prog_10_method_33_code 3 = .ok (.istore_n 2, 1) := by decide +kernel
theorem d_Shop_sumOfRefunds_4 : decode prog_10_method_33_code 4 = .ok (.iload_n 2, 1) := by decide +kernel
theorem d_Shop_sumOfRefunds_5 : decode prog_10_method_33_code 5 = .ok (.aload_n 0, 1) := by decide +kernel
theorem d_Shop_sumOfRefunds_6 : decode prog_10_method_33_code 6 = .ok (.getfield 28, 3) := by decide +kernel
theorem d_Shop_sumOfRefunds_9 : decode prog_10_method_33_code 9 = .ok (.if_icmp .ge 35, 3) := by decide +kernel
theorem d_Shop_sumOfRefunds_12 : decode prog_10_method_33_code 12 = .ok (.aload_n 0, 1) := by decide +kernel
theorem d_Shop_sumOfRefunds_13 : decode prog_10_method_33_code 13 = .ok (.getfield 24, 3) := by decide +kernel
theorem d_Shop_sumOfRefunds_16 : decode prog_10_method_33_code 16 = .ok (.iload_n 2, 1) := by decide +kernel
theorem d_Shop_sumOfRefunds_17 : decode prog_10_method_33_code 17 = .ok (.aaload, 1) := by decide +kernel
theorem d_Shop_sumOfRefunds_18 : decode prog_10_method_33_code 18 = .ok (.getfield 137, 3) := by decide +kernel
theorem d_Shop_sumOfRefunds_21 : decode prog_10_method_33_code 21 = .ok (.iconst 3, 1) := by decide +kernel
theorem d_Shop_sumOfRefunds_22 : decode prog_10_method_33_code 22 = .ok (.if_icmp .ne 16, 3) := by decide +kernel
theorem d_Shop_sumOfRefunds_25 : decode prog_10_method_33_code 25 = .ok (.iload_n 1, 1) := by decide +kernel
theorem d_Shop_sumOfRefunds_26 : decode prog_10_method_33_code 26 = .ok (.aload_n 0, 1) := by decide +kernel
theorem d_Shop_sumOfRefunds_27 : decode prog_10_method_33_code 27 = .ok (.aload_n 0, 1) := by decide +kernel
theorem d_Shop_sumOfRefunds_28 : decode prog_10_method_33_code 28 = .ok (.getfield 24, 3) := by decide +kernel
theorem d_Shop_sumOfRefunds_31 : decode prog_10_method_33_code 31 = .ok (.iload_n 2, 1) := by decide +kernel
theorem d_Shop_sumOfRefunds_32 : decode prog_10_method_33_code 32 = .ok (.aaload, 1) := by decide +kernel
theorem d_Shop_sumOfRefunds_33 : decode prog_10_method_33_code 33 = .ok (.invokevirtual 174, 3) := by decide +kernel
theorem d_Shop_sumOfRefunds_36 : decode prog_10_method_33_code 36 = .ok (.iadd, 1) := by decide +kernel
theorem d_Shop_sumOfRefunds_37 : decode prog_10_method_33_code 37 = .ok (.istore_n 1, 1) := by decide +kernel
theorem d_Shop_sumOfRefunds_38 : decode prog_10_method_33_code 38 = .ok (.iinc 2 1, 3) := by decide +kernel
theorem d_Shop_sumOfRefunds_41 : decode prog_10_method_33_code 41 = .ok (.goto (-37), 3) := by decide +kernel
theorem d_Shop_sumOfRefunds_44 : decode prog_10_method_33_code 44 = .ok (.iload_n 1, 1) := by decide +kernel
theorem d_Shop_sumOfRefunds_45 : decode prog_10_method_33_code 45 = .ok (.ireturn, 1) := by decide +kernel
theorem d_Shop_countOverdue_0 : decode prog_10_method_31_code 0 = .ok (.iconst 0, 1) := by decide +kernel
theorem d_Shop_countOverdue_1 : decode prog_10_method_31_code 1 = .ok (.istore_n 1, 1) := by decide +kernel
theorem d_Shop_countOverdue_2 : decode prog_10_method_31_code 2 = .ok (.iconst 0, 1) := by decide +kernel
theorem d_Shop_countOverdue_3 : decode prog_10_method_31_code 3 = .ok (.istore_n 2, 1) := by decide +kernel
theorem d_Shop_countOverdue_4 : decode prog_10_method_31_code 4 = .ok (.iload_n 2, 1) := by decide +kernel
theorem d_Shop_countOverdue_5 : decode prog_10_method_31_code 5 = .ok (.aload_n 0, 1) := by decide +kernel
theorem d_Shop_countOverdue_6 : decode prog_10_method_31_code 6 = .ok (.getfield 28, 3) := by decide +kernel
theorem d_Shop_countOverdue_9 : decode prog_10_method_31_code 9 = .ok (.if_icmp .ge 28, 3) := by decide +kernel
theorem d_Shop_countOverdue_12 : decode prog_10_method_31_code 12 = .ok (.aload_n 0, 1) := by decide +kernel
theorem d_Shop_countOverdue_13 : decode prog_10_method_31_code 13 = .ok (.getfield 24, 3) := by decide +kernel
theorem d_Shop_countOverdue_16 : decode prog_10_method_31_code 16 = .ok (.iload_n 2, 1) := by decide +kernel
theorem d_Shop_countOverdue_17 : decode prog_10_method_31_code 17 = .ok (.aaload, 1) := by decide +kernel
theorem d_Shop_countOverdue_18 : decode prog_10_method_31_code 18 = .ok (.aload_n 0, 1) := by decide +kernel
theorem d_Shop_countOverdue_19 : decode prog_10_method_31_code 19 = .ok (.getfield 9, 3) := by decide +kernel
theorem d_Shop_countOverdue_22 : decode prog_10_method_31_code 22 = .ok (.invokevirtual 238, 3) := by decide +kernel
theorem d_Shop_countOverdue_25 : decode prog_10_method_31_code 25 = .ok (.ifCond .eq 6, 3) := by decide +kernel
theorem d_Shop_countOverdue_28 : decode prog_10_method_31_code 28 = .ok (.iinc 1 1, 3) := by decide +kernel
