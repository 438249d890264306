/-! Decode rows. -/
theorem d_PL_isForetold_4 : decode method_11_code 4 = .ok (.astore 4, 2) := by decide +kernel
theorem d_PL_isForetold_6 : decode method_11_code 6 = .ok (.iconst (-1), 1) := by decide +kernel
theorem d_PL_isForetold_7 : decode method_11_code 7 = .ok (.istore 5, 2) := by decide +kernel
theorem d_PL_isForetold_9 : decode method_11_code 9 = .ok (.iconst 0, 1) := by decide +kernel
theorem d_PL_isForetold_10 : decode method_11_code 10 = .ok (.istore 6, 2) := by decide +kernel
theorem d_PL_isForetold_12 : decode method_11_code 12 = .ok (.iload 6, 2) := by decide +kernel
theorem d_PL_isForetold_14 : decode method_11_code 14 = .ok (.sipush 300, 3) := by decide +kernel
theorem d_PL_isForetold_17 : decode method_11_code 17 = .ok (.if_icmp .gt 69, 3) := by decide +kernel
theorem d_PL_isForetold_20 : decode method_11_code 20 = .ok (.iload 5, 2) := by decide +kernel
theorem d_PL_isForetold_22 : decode method_11_code 22 = .ok (.ifCond .ge 27, 3) := by decide +kernel
theorem d_PL_isForetold_25 : decode method_11_code 25 = .ok (.iload_n 2, 1) := by decide +kernel
theorem d_PL_isForetold_26 : decode method_11_code 26 = .ok (.aload_n 1, 1) := by decide +kernel
theorem d_PL_isForetold_27 : decode method_11_code 27 = .ok (.getfield 190, 3) := by decide +kernel
theorem d_PL_isForetold_30 : decode method_11_code 30 = .ok (.if_icmp .ge 19, 3) := by decide +kernel
theorem d_PL_isForetold_33 : decode method_11_code 33 = .ok (.aload 4, 2) := by decide +kernel
theorem d_PL_isForetold_35 : decode method_11_code 35 = .ok (.getfield 115, 3) := by decide +kernel
theorem d_PL_isForetold_38 : decode method_11_code 38 = .ok (.iload_n 2, 1) := by decide +kernel
theorem d_PL_isForetold_39 : decode method_11_code 39 = .ok (.iaload, 1) := by decide +kernel
theorem d_PL_isForetold_40 : decode method_11_code 40 = .ok (.iconst 3, 1) := by decide +kernel
theorem d_PL_isForetold_41 : decode method_11_code 41 = .ok (.if_icmp .ne 8, 3) := by decide +kernel
theorem d_PL_isForetold_44 : decode method_11_code 44 = .ok (.iload 6, 2) := by decide +kernel
theorem d_PL_isForetold_46 : decode method_11_code 46 = .ok (.goto 5, 3) := by decide +kernel
theorem d_PL_isForetold_49 : decode method_11_code 49 = .ok (.iload 5, 2) := by decide +kernel
theorem d_PL_isForetold_51 : decode method_11_code 51 = .ok (.istore 5, 2) := by decide +kernel
theorem d_PL_isForetold_53 : decode method_11_code 53 = .ok (.iload 6, 2) := by decide +kernel
theorem d_PL_isForetold_55 : decode method_11_code 55 = .ok (.iload_n 3, 1) := by decide +kernel
theorem d_PL_isForetold_56 : decode method_11_code 56 = .ok (.if_icmp .ne 19, 3) := by decide +kernel
theorem d_PL_isForetold_59 : decode method_11_code 59 = .ok (.aload_n 0, 1) := by decide +kernel
theorem d_PL_isForetold_60 : decode method_11_code 60 = .ok (.iload 6, 2) := by decide +kernel
theorem d_PL_isForetold_62 : decode method_11_code 62 = .ok (.invokevirtual 306, 3) := by decide +kernel
theorem d_PL_isForetold_65 : decode method_11_code 65 = .ok (.aload 4, 2) := by decide +kernel
theorem d_PL_isForetold_67 : decode method_11_code 67 = .ok (.getfield 244, 3) := by decide +kernel
theorem d_PL_isForetold_70 : decode method_11_code 70 = .ok (.if_icmp .eq 5, 3) := by decide +kernel
theorem d_PL_isForetold_73 : decode method_11_code 73 = .ok (.iconst 0, 1) := by decide +kernel
theorem d_PL_isForetold_74 : decode method_11_code 74 = .ok (.ireturn, 1) := by decide +kernel
theorem d_PL_isForetold_75 : decode method_11_code 75 = .ok (.aload 4, 2) := by decide +kernel
theorem d_PL_isForetold_77 : decode method_11_code 77 = .ok (.invokevirtual 309, 3) := by decide +kernel
theorem d_PL_isForetold_80 : decode method_11_code 80 = .ok (.iinc 6 1, 3) := by decide +kernel
theorem d_PL_isForetold_83 : decode method_11_code 83 = .ok (.goto (-71), 3) := by decide +kernel
theorem d_PL_isForetold_86 : decode method_11_code 86 = .ok (.iload_n 2, 1) := by decide +kernel
theorem d_PL_isForetold_87 : decode method_11_code 87 = .ok (.aload_n 1, 1) := by decide +kernel
theorem d_PL_isForetold_88 : decode method_11_code 88 = .ok (.getfield 190, 3) := by decide +kernel
theorem d_PL_isForetold_91 : decode method_11_code 91 = .ok (.if_icmp .ge 13, 3) := by decide +kernel
theorem d_PL_isForetold_94 : decode method_11_code 94 = .ok (.aload_n 0, 1) := by decide +kernel
theorem d_PL_isForetold_95 : decode method_11_code 95 = .ok (.iload_n 2, 1) := by decide +kernel
theorem d_PL_isForetold_96 : decode method_11_code 96 = .ok (.invokevirtual 312, 3) := by decide +kernel
theorem d_PL_isForetold_99 : decode method_11_code 99 = .ok (.iload 5, 2) := by decide +kernel
theorem d_PL_isForetold_101 : decode method_11_code 101 = .ok (.if_icmp .ne 7, 3) := by decide +kernel
theorem d_PL_isForetold_104 : decode method_11_code 104 = .ok (.iconst 1, 1) := by decide +kernel
theorem d_PL_isForetold_105 : decode method_11_code 105 = .ok (.goto 4, 3) := by decide +kernel
theorem d_PL_isForetold_108 : decode method_11_code 108 = .ok (.iconst 0, 1) := by decide +kernel
theorem d_PL_isForetold_109 : decode method_11_code 109 = .ok (.ireturn, 1) := by decide +kernel
theorem d_PL_sells_0 : decode method_12_code 0 = .ok (.iload_n 3, 1) := by decide +kernel
theorem d_PL_sells_1 : decode method_12_code 1 = .ok (.iconst 3, 1) := by decide +kernel
theorem d_PL_sells_2 : decode method_12_code 2 = .ok (.irem, 1) := by decide +kernel
theorem d_PL_sells_3 : decode method_12_code 3 = .ok (.istore 5, 2) := by decide +kernel
theorem d_PL_sells_5 : decode method_12_code 5 = .ok (.iload_n 3, 1) := by decide +kernel
theorem d_PL_sells_6 : decode method_12_code 6 = .ok (.iconst 3, 1) := by decide +kernel
theorem d_PL_sells_7 : decode method_12_code 7 = .ok (.idiv, 1) := by decide +kernel
theorem d_PL_sells_8 : decode method_12_code 8 = .ok (.aload_n 1, 1) := by decide +kernel
theorem d_PL_sells_9 : decode method_12_code 9 = .ok (.getfield 165, 3) := by decide +kernel
theorem d_PL_sells_12 : decode method_12_code 12 = .ok (.irem, 1) := by decide +kernel
theorem d_PL_sells_13 : decode method_12_code 13 = .ok (.istore 6, 2) := by decide +kernel
theorem d_PL_sells_15 : decode method_12_code 15 = .ok (.iload_n 3, 1) := by decide +kernel
theorem d_PL_sells_16 : decode method_12_code 16 = .ok (.bipush 18, 2) := by decide +kernel
theorem d_PL_sells_18 : decode method_12_code 18 = .ok (.idiv, 1) := by decide +kernel
theorem d_PL_sells_19 : decode method_12_code 19 = .ok (.aload_n 1, 1) := by decide +kernel
theorem d_PL_sells_20 : decode method_12_code 20 = .ok (.getfield 162, 3) := by decide +kernel
theorem d_PL_sells_23 : decode method_12_code 23 = .ok (.irem, 1) := by decide +kernel
theorem d_PL_sells_24 : decode method_12_code 24 = .ok (.istore 7, 2) := by decide +kernel
theorem d_PL_sells_26 : decode method_12_code 26 = .ok (.iload 4, 2) := by decide +kernel
theorem d_PL_sells_28 : decode method_12_code 28 = .ok (.iconst 4, 1) := by decide +kernel
theorem d_PL_sells_29 : decode method_12_code 29 = .ok (.irem, 1) := by decide +kernel
theorem d_PL_sells_30 : decode method_12_code 30 = .ok (.istore 8, 2) := by decide +kernel
theorem d_PL_sells_32 : decode method_12_code 32 = .ok (.iconst 1, 1) := by decide +kernel
theorem d_PL_sells_33 : decode method_12_code 33 = .ok (.iload 4, 2) := by decide +kernel
theorem d_PL_sells_35 : decode method_12_code 35 = .ok (.iconst 4, 1) := by decide +kernel
theorem d_PL_sells_36 : decode method_12_code 36 = .ok (.idiv, 1) := by decide +kernel
theorem d_PL_sells_37 : decode method_12_code 37 = .ok (.bipush 12, 2) := by decide +kernel
theorem d_PL_sells_39 : decode method_12_code 39 = .ok (.irem, 1) := by decide +kernel
theorem d_PL_sells_40 : decode method_12_code 40 = .ok (.iadd, 1) := by decide +kernel
theorem d_PL_sells_41 : decode method_12_code 41 = .ok (.istore 9, 2) := by decide +kernel
theorem d_PL_sells_43 : decode method_12_code 43 = .ok (.iconst 1, 1) := by decide +kernel
theorem d_PL_sells_44 : decode method_12_code 44 = .ok (.iload 4, 2) := by decide +kernel
theorem d_PL_sells_46 : decode method_12_code 46 = .ok (.bipush 48, 2) := by decide +kernel
theorem d_PL_sells_48 : decode method_12_code 48 = .ok (.idiv, 1) := by decide +kernel
theorem d_PL_sells_49 : decode method_12_code 49 = .ok (.bipush 60, 2) := by decide +kernel
theorem d_PL_sells_51 : decode method_12_code 51 = .ok (.irem, 1) := by decide +kernel
theorem d_PL_sells_52 : decode method_12_code 52 = .ok (.iadd, 1) := by decide +kernel
theorem d_PL_sells_53 : decode method_12_code 53 = .ok (.istore 10, 2) := by decide +kernel
theorem d_PL_sells_55 : decode method_12_code 55 = .ok (.aload_n 1, 1) := by decide +kernel
theorem d_PL_sells_56 : decode method_12_code 56 = .ok (.getfield 190, 3) := by decide +kernel
theorem d_PL_sells_59 : decode method_12_code 59 = .ok (.bipush 24, 2) := by decide +kernel
theorem d_PL_sells_61 : decode method_12_code 61 = .ok (.if_icmp .eq 14, 3) := by decide +kernel
theorem d_PL_sells_64 : decode method_12_code 64 = .ok (.aload_n 1, 1) := by decide +kernel
theorem d_PL_sells_65 : decode method_12_code 65 = .ok (.getfield 209, 3) := by decide +kernel
theorem d_PL_sells_68 : decode method_12_code 68 = .ok (.iload_n 2, 1) := by decide +kernel
theorem d_PL_sells_69 : decode method_12_code 69 = .ok (.iaload, 1) := by decide +kernel
theorem d_PL_sells_70 : decode method_12_code 70 = .ok (.iload 10, 2) := by decide +kernel
theorem d_PL_sells_72 : decode method_12_code 72 = .ok (.if_icmp .ge 5, 3) := by decide +kernel
theorem d_PL_sells_75 : decode method_12_code 75 = .ok (.iconst (-1), 1) := by decide +kernel
theorem d_PL_sells_76 : decode method_12_code 76 = .ok (.ireturn, 1) := by decide +kernel
theorem d_PL_sells_77 : decode method_12_code 77 = .ok (.aload_n 1, 1) := by decide +kernel
theorem d_PL_sells_78 : decode method_12_code 78 = .ok (.getfield 190, 3) := by decide +kernel
theorem d_PL_sells_81 : decode method_12_code 81 = .ok (.istore 11, 2) := by decide +kernel
theorem d_PL_sells_83 : decode method_12_code 83 = .ok (.aload_n 1, 1) := by decide +kernel
theorem d_PL_sells_84 : decode method_12_code 84 = .ok (.dup, 1) := by decide +kernel
theorem d_PL_sells_85 : decode method_12_code 85 = .ok (.getfield 190, 3) := by decide +kernel
theorem d_PL_sells_88 : decode method_12_code 88 = .ok (.iconst 1, 1) := by decide +kernel
theorem d_PL_sells_89 : decode method_12_code 89 = .ok (.iadd, 1) := by decide +kernel
theorem d_PL_sells_90 : decode method_12_code 90 = .ok (.putfield 190, 3) := by decide +kernel
theorem d_PL_sells_93 : decode method_12_code 93 = .ok (.aload_n 1, 1) := by decide +kernel
theorem d_PL_sells_94 : decode method_12_code 94 = .ok (.getfield 54, 3) := by decide +kernel
theorem d_PL_sells_97 : decode method_12_code 97 = .ok (.iload 11, 2) := by decide +kernel
theorem d_PL_sells_99 : decode method_12_code 99 = .ok (.iload_n 2, 1) := by decide +kernel
theorem d_PL_sells_100 : decode method_12_code 100 = .ok (.iastore, 1) := by decide +kernel
theorem d_PL_sells_101 : decode method_12_code 101 = .ok (.aload_n 1, 1) := by decide +kernel
theorem d_PL_sells_102 : decode method_12_code 102 = .ok (.getfield 74, 3) := by decide +kernel
theorem d_PL_sells_105 : decode method_12_code 105 = .ok (.iload 11, 2) := by decide +kernel
theorem d_PL_sells_107 : decode method_12_code 107 = .ok (.iload 6, 2) := by decide +kernel
theorem d_PL_sells_109 : decode method_12_code 109 = .ok (.iastore, 1) := by decide +kernel
theorem d_PL_sells_110 : decode method_12_code 110 = .ok (.aload_n 1, 1) := by decide +kernel
theorem d_PL_sells_111 : decode method_12_code 111 = .ok (.getfield 77, 3) := by decide +kernel
theorem d_PL_sells_114 : decode method_12_code 114 = .ok (.iload 11, 2) := by decide +kernel
theorem d_PL_sells_116 : decode method_12_code 116 = .ok (.iload 5, 2) := by decide +kernel
theorem d_PL_sells_118 : decode method_12_code 118 = .ok (.iconst 1, 1) := by decide +kernel
theorem d_PL_sells_119 : decode method_12_code 119 = .ok (.if_icmp .ne 7, 3) := by decide +kernel
theorem d_PL_sells_122 : decode method_12_code 122 = .ok (.iconst (-1), 1) := by decide +kernel
theorem d_PL_sells_123 : decode method_12_code 123 = .ok (.goto 5, 3) := by decide +kernel
theorem d_PL_sells_126 : decode method_12_code 126 = .ok (.iload 7, 2) := by decide +kernel
theorem d_PL_sells_128 : decode method_12_code 128 = .ok (.iastore, 1) := by decide +kernel
theorem d_PL_sells_129 : decode method_12_code 129 = .ok (.aload_n 1, 1) := by decide +kernel
theorem d_PL_sells_130 : decode method_12_code 130 = .ok (.getfield 64, 3) := by decide +kernel
theorem d_PL_sells_133 : decode method_12_code 133 = .ok (.iload 11, 2) := by decide +kernel
theorem d_PL_sells_135 : decode method_12_code 135 = .ok (.iload 5, 2) := by decide +kernel
theorem d_PL_sells_137 : decode method_12_code 137 = .ok (.iconst 2, 1) := by decide +kernel
theorem d_PL_sells_138 : decode method_12_code 138 = .ok (.if_icmp .ne 7, 3) := by decide +kernel
theorem d_PL_sells_141 : decode method_12_code 141 = .ok (.iconst 1, 1) := by decide +kernel
theorem d_PL_sells_142 : decode method_12_code 142 = .ok (.goto 4, 3) := by decide +kernel
theorem d_PL_sells_145 : decode method_12_code 145 = .ok (.iconst 0, 1) := by decide +kernel
theorem d_PL_sells_146 : decode method_12_code 146 = .ok (.bastore, 1) := by decide +kernel
theorem d_PL_sells_147 : decode method_12_code 147 = .ok (.aload_n 1, 1) := by decide +kernel
theorem d_PL_sells_148 : decode method_12_code 148 = .ok (.getfield 84, 3) := by decide +kernel
theorem d_PL_sells_151 : decode method_12_code 151 = .ok (.iload 11, 2) := by decide +kernel
theorem d_PL_sells_153 : decode method_12_code 153 = .ok (.aload_n 1, 1) := by decide +kernel
theorem d_PL_sells_154 : decode method_12_code 154 = .ok (.getfield 151, 3) := by decide +kernel
theorem d_PL_sells_157 : decode method_12_code 157 = .ok (.iload 8, 2) := by decide +kernel
theorem d_PL_sells_159 : decode method_12_code 159 = .ok (.iadd, 1) := by decide +kernel
theorem d_PL_sells_160 : decode method_12_code 160 = .ok (.iastore, 1) := by decide +kernel
theorem d_PL_sells_161 : decode method_12_code 161 = .ok (.aload_n 1, 1) := by decide +kernel
theorem d_PL_sells_162 : decode method_12_code 162 = .ok (.getfield 90, 3) := by decide +kernel
theorem d_PL_sells_165 : decode method_12_code 165 = .ok (.iload 11, 2) := by decide +kernel
theorem d_PL_sells_167 : decode method_12_code 167 = .ok (.aload_n 1, 1) := by decide +kernel
theorem d_PL_sells_168 : decode method_12_code 168 = .ok (.getfield 151, 3) := by decide +kernel
theorem d_PL_sells_171 : decode method_12_code 171 = .ok (.iload 8, 2) := by decide +kernel
theorem d_PL_sells_173 : decode method_12_code 173 = .ok (.iadd, 1) := by decide +kernel
theorem d_PL_sells_174 : decode method_12_code 174 = .ok (.iload 9, 2) := by decide +kernel
theorem d_PL_sells_176 : decode method_12_code 176 = .ok (.iadd, 1) := by decide +kernel
theorem d_PL_sells_177 : decode method_12_code 177 = .ok (.iconst 1, 1) := by decide +kernel
theorem d_PL_sells_178 : decode method_12_code 178 = .ok (.isub, 1) := by decide +kernel
theorem d_PL_sells_179 : decode method_12_code 179 = .ok (.iastore, 1) := by decide +kernel
theorem d_PL_sells_180 : decode method_12_code 180 = .ok (.aload_n 1, 1) := by decide +kernel
theorem d_PL_sells_181 : decode method_12_code 181 = .ok (.getfield 196, 3) := by decide +kernel
theorem d_PL_sells_184 : decode method_12_code 184 = .ok (.iload 11, 2) := by decide +kernel
theorem d_PL_sells_186 : decode method_12_code 186 = .ok (.iload 10, 2) := by decide +kernel
theorem d_PL_sells_188 : decode method_12_code 188 = .ok (.iastore, 1) := by decide +kernel
theorem d_PL_sells_189 : decode method_12_code 189 = .ok (.aload_n 1, 1) := by decide +kernel
theorem d_PL_sells_190 : decode method_12_code 190 = .ok (.getfield 115, 3) := by decide +kernel
theorem d_PL_sells_193 : decode method_12_code 193 = .ok (.iload 11, 2) := by decide +kernel
theorem d_PL_sells_195 : decode method_12_code 195 = .ok (.iconst 0, 1) := by decide +kernel
theorem d_PL_sells_196 : decode method_12_code 196 = .ok (.iastore, 1) := by decide +kernel
theorem d_PL_sells_197 : decode method_12_code 197 = .ok (.aload_n 1, 1) := by decide +kernel
theorem d_PL_sells_198 : decode method_12_code 198 = .ok (.getfield 139, 3) := by decide +kernel
theorem d_PL_sells_201 : decode method_12_code 201 = .ok (.iload 11, 2) := by decide +kernel
theorem d_PL_sells_203 : decode method_12_code 203 = .ok (.iconst 0, 1) := by decide +kernel
theorem d_PL_sells_204 : decode method_12_code 204 = .ok (.iastore, 1) := by decide +kernel
theorem d_PL_sells_205 : decode method_12_code 205 = .ok (.aload_n 1, 1) := by decide +kernel
theorem d_PL_sells_206 : decode method_12_code 206 = .ok (.getfield 209, 3) := by decide +kernel
theorem d_PL_sells_209 : decode method_12_code 209 = .ok (.iload_n 2, 1) := by decide +kernel
theorem d_PL_sells_210 : decode method_12_code 210 = .ok (.dup2, 1) := by decide +kernel
theorem d_PL_sells_211 : decode method_12_code 211 = .ok (.iaload, 1) := by decide +kernel
theorem d_PL_sells_212 : decode method_12_code 212 = .ok (.iload 10, 2) := by decide +kernel
theorem d_PL_sells_214 : decode method_12_code 214 = .ok (.isub, 1) := by decide +kernel
theorem d_PL_sells_215 : decode method_12_code 215 = .ok (.iastore, 1) := by decide +kernel
theorem d_PL_sells_216 : decode method_12_code 216 = .ok (.aload_n 1, 1) := by decide +kernel
theorem d_PL_sells_217 : decode method_12_code 217 = .ok (.dup, 1) := by decide +kernel
theorem d_PL_sells_218 : decode method_12_code 218 = .ok (.getfield 244, 3) := by decide +kernel
theorem d_PL_sells_221 : decode method_12_code 221 = .ok (.iload 10, 2) := by decide +kernel
theorem d_PL_sells_223 : decode method_12_code 223 = .ok (.iadd, 1) := by decide +kernel
theorem d_PL_sells_224 : decode method_12_code 224 = .ok (.putfield 244, 3) := by decide +kernel
theorem d_PL_sells_227 : decode method_12_code 227 = .ok (.iload 5, 2) := by decide +kernel
theorem d_PL_sells_229 : decode method_12_code 229 = .ok (.ifCond .ne 21, 3) := by decide +kernel
theorem d_PL_sells_232 : decode method_12_code 232 = .ok (.aload_n 0, 1) := by decide +kernel
theorem d_PL_sells_233 : decode method_12_code 233 = .ok (.iload_n 2, 1) := by decide +kernel
theorem d_PL_sells_234 : decode method_12_code 234 = .ok (.iload 6, 2) := by decide +kernel
theorem d_PL_sells_236 : decode method_12_code 236 = .ok (.iload 7, 2) := by decide +kernel
theorem d_PL_sells_238 : decode method_12_code 238 = .ok (.iload 8, 2) := by decide +kernel
theorem d_PL_sells_240 : decode method_12_code 240 = .ok (.iload 9, 2) := by decide +kernel
theorem d_PL_sells_242 : decode method_12_code 242 = .ok (.iload 10, 2) := by decide +kernel
theorem d_PL_sells_244 : decode method_12_code 244 = .ok (.invokevirtual 315, 3) := by decide +kernel
theorem d_PL_sells_247 : decode method_12_code 247 = .ok (.goto 40, 3) := by decide +kernel
theorem d_PL_sells_250 : decode method_12_code 250 = .ok (.iload 5, 2) := by decide +kernel
theorem d_PL_sells_252 : decode method_12_code 252 = .ok (.iconst 1, 1) := by decide +kernel
theorem d_PL_sells_253 : decode method_12_code 253 = .ok (.if_icmp .ne 19, 3) := by decide +kernel
theorem d_PL_sells_256 : decode method_12_code 256 = .ok (.aload_n 0, 1) := by decide +kernel
theorem d_PL_sells_257 : decode method_12_code 257 = .ok (.iload_n 2, 1) := by decide +kernel
theorem d_PL_sells_258 : decode method_12_code 258 = .ok (.iload 6, 2) := by decide +kernel
theorem d_PL_sells_260 : decode method_12_code 260 = .ok (.iload 8, 2) := by decide +kernel
theorem d_PL_sells_262 : decode method_12_code 262 = .ok (.iload 9, 2) := by decide +kernel
theorem d_PL_sells_264 : decode method_12_code 264 = .ok (.iload 10, 2) := by decide +kernel
theorem d_PL_sells_266 : decode method_12_code 266 = .ok (.invokevirtual 319, 3) := by decide +kernel
theorem d_PL_sells_269 : decode method_12_code 269 = .ok (.goto 18, 3) := by decide +kernel
theorem d_PL_sells_272 : decode method_12_code 272 = .ok (.aload_n 0, 1) := by decide +kernel
theorem d_PL_sells_273 : decode method_12_code 273 = .ok (.iload_n 2, 1) := by decide +kernel
theorem d_PL_sells_274 : decode method_12_code 274 = .ok (.iload 6, 2) := by decide +kernel
theorem d_PL_sells_276 : decode method_12_code 276 = .ok (.iload 7, 2) := by decide +kernel
theorem d_PL_sells_278 : decode method_12_code 278 = .ok (.iload 8, 2) := by decide +kernel
theorem d_PL_sells_280 : decode method_12_code 280 = .ok (.iload 9, 2) := by decide +kernel
theorem d_PL_sells_282 : decode method_12_code 282 = .ok (.iload 10, 2) := by decide +kernel
theorem d_PL_sells_284 : decode method_12_code 284 = .ok (.invokevirtual 322, 3) := by decide +kernel
theorem d_PL_sells_287 : decode method_12_code 287 = .ok (.iload 11, 2) := by decide +kernel
theorem d_PL_sells_289 : decode method_12_code 289 = .ok (.if_icmp .ne 7, 3) := by decide +kernel
theorem d_PL_sells_292 : decode method_12_code 292 = .ok (.iconst 1, 1) := by decide +kernel
theorem d_PL_sells_293 : decode method_12_code 293 = .ok (.goto 4, 3) := by decide +kernel
theorem d_PL_sells_296 : decode method_12_code 296 = .ok (.iconst 0, 1) := by decide +kernel
theorem d_PL_sells_297 : decode method_12_code 297 = .ok (.ireturn, 1) := by decide +kernel
theorem d_PL_acts_0 : decode method_13_code 0 = .ok (.aload_n 2, 1) := by decide +kernel
theorem d_PL_acts_1 : decode method_13_code 1 = .ok (.iload_n 3, 1) := by decide +kernel
theorem d_PL_acts_2 : decode method_13_code 2 = .ok (.bipush 16, 2) := by decide +kernel
theorem d_PL_acts_4 : decode method_13_code 4 = .ok (.invokestatic 325, 3) := by decide +kernel
theorem d_PL_acts_7 : decode method_13_code 7 = .ok (.istore 4, 2) := by decide +kernel
theorem d_PL_acts_9 : decode method_13_code 9 = .ok (.aload_n 2, 1) := by decide +kernel
theorem d_PL_acts_10 : decode method_13_code 10 = .ok (.iload_n 3, 1) := by decide +kernel
theorem d_PL_acts_11 : decode method_13_code 11 = .ok (.iconst 1, 1) := by decide +kernel
theorem d_PL_acts_12 : decode method_13_code 12 = .ok (.iadd, 1) := by decide +kernel
theorem d_PL_acts_13 : decode method_13_code 13 = .ok (.sipush 10000, 3) := by decide +kernel
theorem d_PL_acts_16 : decode method_13_code 16 = .ok (.invokestatic 325, 3) := by decide +kernel
theorem d_PL_acts_19 : decode method_13_code 19 = .ok (.istore 5, 2) := by decide +kernel
theorem d_PL_acts_21 : decode method_13_code 21 = .ok (.aload_n 2, 1) := by decide +kernel
theorem d_PL_acts_22 : decode method_13_code 22 = .ok (.iload_n 3, 1) := by decide +kernel
theorem d_PL_acts_23 : decode method_13_code 23 = .ok (.iconst 2, 1) := by decide +kernel
theorem d_PL_acts_24 : decode method_13_code 24 = .ok (.iadd, 1) := by decide +kernel
theorem d_PL_acts_25 : decode method_13_code 25 = .ok (.sipush 10000, 3) := by decide +kernel
theorem d_PL_acts_28 : decode method_13_code 28 = .ok (.invokestatic 325, 3) := by decide +kernel
theorem d_PL_acts_31 : decode method_13_code 31 = .ok (.istore 6, 2) := by decide +kernel
theorem d_PL_acts_33 : decode method_13_code 33 = .ok (.iload 4, 2) := by decide +kernel
theorem d_PL_acts_35 : decode method_13_code 35 = .ok (.iconst 5, 1) := by decide +kernel
theorem d_PL_acts_36 : decode method_13_code 36 = .ok (.if_icmp .ge 34, 3) := by decide +kernel
theorem d_PL_acts_39 : decode method_13_code 39 = .ok (.aload_n 1, 1) := by decide +kernel
theorem d_PL_acts_40 : decode method_13_code 40 = .ok (.getfield 203, 3) := by decide +kernel
theorem d_PL_acts_43 : decode method_13_code 43 = .ok (.ifCond .ne 7, 3) := by decide +kernel
theorem d_PL_acts_46 : decode method_13_code 46 = .ok (.iconst (-1), 1) := by decide +kernel
theorem d_PL_acts_47 : decode method_13_code 47 = .ok (.goto 22, 3) := by decide +kernel
theorem d_PL_acts_50 : decode method_13_code 50 = .ok (.aload_n 0, 1) := by decide +kernel
theorem d_PL_acts_51 : decode method_13_code 51 = .ok (.aload_n 1, 1) := by decide +kernel
theorem d_PL_acts_52 : decode method_13_code 52 = .ok (.iload 5, 2) := by decide +kernel
theorem d_PL_acts_54 : decode method_13_code 54 = .ok (.bipush 108, 2) := by decide +kernel
theorem d_PL_acts_56 : decode method_13_code 56 = .ok (.idiv, 1) := by decide +kernel
theorem d_PL_acts_57 : decode method_13_code 57 = .ok (.aload_n 1, 1) := by decide +kernel
theorem d_PL_acts_58 : decode method_13_code 58 = .ok (.getfield 203, 3) := by decide +kernel
theorem d_PL_acts_61 : decode method_13_code 61 = .ok (.irem, 1) := by decide +kernel
theorem d_PL_acts_62 : decode method_13_code 62 = .ok (.iload 5, 2) := by decide +kernel
theorem d_PL_acts_64 : decode method_13_code 64 = .ok (.iload 6, 2) := by decide +kernel
theorem d_PL_acts_66 : decode method_13_code 66 = .ok (.invokestatic 329, 3) := by decide +kernel
theorem d_PL_acts_69 : decode method_13_code 69 = .ok (.ireturn, 1) := by decide +kernel
theorem d_PL_acts_70 : decode method_13_code 70 = .ok (.iload 4, 2) := by decide +kernel
theorem d_PL_acts_72 : decode method_13_code 72 = .ok (.bipush 8, 2) := by decide +kernel
theorem d_PL_acts_74 : decode method_13_code 74 = .ok (.if_icmp .ge 72, 3) := by decide +kernel
theorem d_PL_acts_77 : decode method_13_code 77 = .ok (.iload 5, 2) := by decide +kernel
theorem d_PL_acts_79 : decode method_13_code 79 = .ok (.aload_n 1, 1) := by decide +kernel
theorem d_PL_acts_80 : decode method_13_code 80 = .ok (.getfield 165, 3) := by decide +kernel
theorem d_PL_acts_83 : decode method_13_code 83 = .ok (.irem, 1) := by decide +kernel
theorem d_PL_acts_84 : decode method_13_code 84 = .ok (.istore 7, 2) := by decide +kernel
theorem d_PL_acts_86 : decode method_13_code 86 = .ok (.iload 6, 2) := by decide +kernel
theorem d_PL_acts_88 : decode method_13_code 88 = .ok (.aload_n 1, 1) := by decide +kernel
theorem d_PL_acts_89 : decode method_13_code 89 = .ok (.getfield 162, 3) := by decide +kernel
theorem d_PL_acts_92 : decode method_13_code 92 = .ok (.irem, 1) := by decide +kernel
theorem d_PL_acts_93 : decode method_13_code 93 = .ok (.istore 8, 2) := by decide +kernel
theorem d_PL_acts_95 : decode method_13_code 95 = .ok (.aload_n 1, 1) := by decide +kernel
theorem d_PL_acts_96 : decode method_13_code 96 = .ok (.getfield 333, 3) := by decide +kernel
theorem d_PL_acts_99 : decode method_13_code 99 = .ok (.bipush 60, 2) := by decide +kernel
theorem d_PL_acts_101 : decode method_13_code 101 = .ok (.if_icmp .eq 18, 3) := by decide +kernel
theorem d_PL_acts_104 : decode method_13_code 104 = .ok (.aload_n 1, 1) := by decide +kernel
theorem d_PL_acts_105 : decode method_13_code 105 = .ok (.iload 7, 2) := by decide +kernel
theorem d_PL_acts_107 : decode method_13_code 107 = .ok (.iload 8, 2) := by decide +kernel
theorem d_PL_acts_109 : decode method_13_code 109 = .ok (.aload_n 1, 1) := by decide +kernel
theorem d_PL_acts_110 : decode method_13_code 110 = .ok (.getfield 151, 3) := by decide +kernel
theorem d_PL_acts_113 : decode method_13_code 113 = .ok (.invokevirtual 179, 3) := by decide +kernel
theorem d_PL_acts_116 : decode method_13_code 116 = .ok (.ifCond .eq 5, 3) := by decide +kernel
theorem d_PL_acts_119 : decode method_13_code 119 = .ok (.iconst (-1), 1) := by decide +kernel
theorem d_PL_acts_120 : decode method_13_code 120 = .ok (.ireturn, 1) := by decide +kernel
theorem d_PL_acts_121 : decode method_13_code 121 = .ok (.aload_n 0, 1) := by decide +kernel
theorem d_PL_acts_122 : decode method_13_code 122 = .ok (.iload 7, 2) := by decide +kernel
theorem d_PL_acts_124 : decode method_13_code 124 = .ok (.iload 8, 2) := by decide +kernel
theorem d_PL_acts_126 : decode method_13_code 126 = .ok (.invokevirtual 336, 3) := by decide +kernel
theorem d_PL_acts_129 : decode method_13_code 129 = .ok (.aload_n 1, 1) := by decide +kernel
theorem d_PL_acts_130 : decode method_13_code 130 = .ok (.iload 7, 2) := by decide +kernel
theorem d_PL_acts_132 : decode method_13_code 132 = .ok (.iload 8, 2) := by decide +kernel
theorem d_PL_acts_134 : decode method_13_code 134 = .ok (.invokevirtual 339, 3) := by decide +kernel
theorem d_PL_acts_137 : decode method_13_code 137 = .ok (.if_icmp .ne 7, 3) := by decide +kernel
theorem d_PL_acts_140 : decode method_13_code 140 = .ok (.iconst 1, 1) := by decide +kernel
theorem d_PL_acts_141 : decode method_13_code 141 = .ok (.goto 4, 3) := by decide +kernel
theorem d_PL_acts_144 : decode method_13_code 144 = .ok (.iconst 0, 1) := by decide +kernel
theorem d_PL_acts_145 : decode method_13_code 145 = .ok (.ireturn, 1) := by decide +kernel
theorem d_PL_acts_146 : decode method_13_code 146 = .ok (.iload 4, 2) := by decide +kernel
theorem d_PL_acts_148 : decode method_13_code 148 = .ok (.bipush 12, 2) := by decide +kernel
theorem d_PL_acts_150 : decode method_13_code 150 = .ok (.if_icmp .ge 112, 3) := by decide +kernel
theorem d_PL_acts_153 : decode method_13_code 153 = .ok (.iload 5, 2) := by decide +kernel
theorem d_PL_acts_155 : decode method_13_code 155 = .ok (.iconst 1, 1) := by decide +kernel
theorem d_PL_acts_156 : decode method_13_code 156 = .ok (.aload_n 1, 1) := by decide +kernel
theorem d_PL_acts_157 : decode method_13_code 157 = .ok (.getfield 190, 3) := by decide +kernel
theorem d_PL_acts_160 : decode method_13_code 160 = .ok (.invokestatic 182, 3) := by decide +kernel
theorem d_PL_acts_163 : decode method_13_code 163 = .ok (.irem, 1) := by decide +kernel
theorem d_PL_acts_164 : decode method_13_code 164 = .ok (.istore 7, 2) := by decide +kernel
theorem d_PL_acts_166 : decode method_13_code 166 = .ok (.iconst 0, 1) := by decide +kernel
theorem d_PL_acts_167 : decode method_13_code 167 = .ok (.istore 8, 2) := by decide +kernel
theorem d_PL_acts_169 : decode method_13_code 169 = .ok (.iload 8, 2) := by decide +kernel
theorem d_PL_acts_171 : decode method_13_code 171 = .ok (.aload_n 1, 1) := by decide +kernel
theorem d_PL_acts_172 : decode method_13_code 172 = .ok (.getfield 190, 3) := by decide +kernel
theorem d_PL_acts_175 : decode method_13_code 175 = .ok (.if_icmp .ge 29, 3) := by decide +kernel
theorem d_PL_acts_178 : decode method_13_code 178 = .ok (.aload_n 1, 1) := by decide +kernel
theorem d_PL_acts_179 : decode method_13_code 179 = .ok (.iload 7, 2) := by decide +kernel
theorem d_PL_acts_181 : decode method_13_code 181 = .ok (.invokevirtual 133, 3) := by decide +kernel
theorem d_PL_acts_184 : decode method_13_code 184 = .ok (.ifCond .lt 20, 3) := by decide +kernel
theorem d_PL_acts_187 : decode method_13_code 187 = .ok (.iload 7, 2) := by decide +kernel
theorem d_PL_acts_189 : decode method_13_code 189 = .ok (.iconst 1, 1) := by decide +kernel
theorem d_PL_acts_190 : decode method_13_code 190 = .ok (.iadd, 1) := by decide +kernel
theorem d_PL_acts_191 : decode method_13_code 191 = .ok (.aload_n 1, 1) := by decide +kernel
theorem d_PL_acts_192 : decode method_13_code 192 = .ok (.getfield 190, 3) := by decide +kernel
theorem d_PL_acts_195 : decode method_13_code 195 = .ok (.irem, 1) := by decide +kernel
theorem d_PL_acts_196 : decode method_13_code 196 = .ok (.istore 7, 2) := by decide +kernel
theorem d_PL_acts_198 : decode method_13_code 198 = .ok (.iinc 8 1, 3) := by decide +kernel
theorem d_PL_acts_201 : decode method_13_code 201 = .ok (.goto (-32), 3) := by decide +kernel
theorem d_PL_acts_204 : decode method_13_code 204 = .ok (.aload_n 1, 1) := by decide +kernel
theorem d_PL_acts_205 : decode method_13_code 205 = .ok (.getfield 190, 3) := by decide +kernel
theorem d_PL_acts_208 : decode method_13_code 208 = .ok (.ifCond .eq 12, 3) := by decide +kernel
theorem d_PL_acts_211 : decode method_13_code 211 = .ok (.aload_n 1, 1) := by decide +kernel
theorem d_PL_acts_212 : decode method_13_code 212 = .ok (.iload 7, 2) := by decide +kernel
theorem d_PL_acts_214 : decode method_13_code 214 = .ok (.invokevirtual 133, 3) := by decide +kernel
theorem d_PL_acts_217 : decode method_13_code 217 = .ok (.ifCond .lt 5, 3) := by decide +kernel
theorem d_PL_acts_220 : decode method_13_code 220 = .ok (.iconst (-1), 1) := by decide +kernel
theorem d_PL_acts_221 : decode method_13_code 221 = .ok (.ireturn, 1) := by decide +kernel
theorem d_PL_acts_222 : decode method_13_code 222 = .ok (.aload_n 1, 1) := by decide +kernel
theorem d_PL_acts_223 : decode method_13_code 223 = .ok (.getfield 236, 3) := by decide +kernel
theorem d_PL_acts_226 : decode method_13_code 226 = .ok (.aload_n 1, 1) := by decide +kernel
theorem d_PL_acts_227 : decode method_13_code 227 = .ok (.getfield 229, 3) := by decide +kernel
theorem d_PL_acts_230 : decode method_13_code 230 = .ok (.iload 7, 2) := by decide +kernel
theorem d_PL_acts_232 : decode method_13_code 232 = .ok (.iastore, 1) := by decide +kernel
theorem d_PL_acts_233 : decode method_13_code 233 = .ok (.aload_n 1, 1) := by decide +kernel
theorem d_PL_acts_234 : decode method_13_code 234 = .ok (.dup, 1) := by decide +kernel
theorem d_PL_acts_235 : decode method_13_code 235 = .ok (.getfield 229, 3) := by decide +kernel
theorem d_PL_acts_238 : decode method_13_code 238 = .ok (.iconst 1, 1) := by decide +kernel
theorem d_PL_acts_239 : decode method_13_code 239 = .ok (.iadd, 1) := by decide +kernel
theorem d_PL_acts_240 : decode method_13_code 240 = .ok (.putfield 229, 3) := by decide +kernel
theorem d_PL_acts_243 : decode method_13_code 243 = .ok (.aload_n 0, 1) := by decide +kernel
theorem d_PL_acts_244 : decode method_13_code 244 = .ok (.iload 7, 2) := by decide +kernel
theorem d_PL_acts_246 : decode method_13_code 246 = .ok (.invokevirtual 342, 3) := by decide +kernel
theorem d_PL_acts_249 : decode method_13_code 249 = .ok (.aload_n 1, 1) := by decide +kernel
theorem d_PL_acts_250 : decode method_13_code 250 = .ok (.getfield 229, 3) := by decide +kernel
theorem d_PL_acts_253 : decode method_13_code 253 = .ok (.if_icmp .ne 7, 3) := by decide +kernel
theorem d_PL_acts_256 : decode method_13_code 256 = .ok (.iconst 1, 1) := by decide +kernel
theorem d_PL_acts_257 : decode method_13_code 257 = .ok (.goto 4, 3) := by decide +kernel
theorem d_PL_acts_260 : decode method_13_code 260 = .ok (.iconst 0, 1) := by decide +kernel
theorem d_PL_acts_261 : decode method_13_code 261 = .ok (.ireturn, 1) := by decide +kernel
theorem d_PL_acts_262 : decode method_13_code 262 = .ok (.aload_n 1, 1) := by decide +kernel
theorem d_PL_acts_263 : decode method_13_code 263 = .ok (.getfield 270, 3) := by decide +kernel
theorem d_PL_acts_266 : decode method_13_code 266 = .ok (.istore 7, 2) := by decide +kernel
theorem d_PL_acts_268 : decode method_13_code 268 = .ok (.iload 4, 2) := by decide +kernel
theorem d_PL_acts_270 : decode method_13_code 270 = .ok (.bipush 12, 2) := by decide +kernel
theorem d_PL_acts_272 : decode method_13_code 272 = .ok (.if_icmp .ne 13, 3) := by decide +kernel
theorem d_PL_acts_275 : decode method_13_code 275 = .ok (.iconst 1, 1) := by decide +kernel
theorem d_PL_acts_276 : decode method_13_code 276 = .ok (.iload 5, 2) := by decide +kernel
theorem d_PL_acts_278 : decode method_13_code 278 = .ok (.bipush 60, 2) := by decide +kernel
theorem d_PL_acts_280 : decode method_13_code 280 = .ok (.irem, 1) := by decide +kernel
theorem d_PL_acts_281 : decode method_13_code 281 = .ok (.iadd, 1) := by decide +kernel
theorem d_PL_acts_282 : decode method_13_code 282 = .ok (.goto 9, 3) := by decide +kernel
theorem d_PL_acts_285 : decode method_13_code 285 = .ok (.iconst 1, 1) := by decide +kernel
theorem d_PL_acts_286 : decode method_13_code 286 = .ok (.iload 5, 2) := by decide +kernel
theorem d_PL_acts_288 : decode method_13_code 288 = .ok (.iconst 5, 1) := by decide +kernel
theorem d_PL_acts_289 : decode method_13_code 289 = .ok (.irem, 1) := by decide +kernel
theorem d_PL_acts_290 : decode method_13_code 290 = .ok (.iadd, 1) := by decide +kernel
theorem d_PL_acts_291 : decode method_13_code 291 = .ok (.istore 8, 2) := by decide +kernel
theorem d_PL_acts_293 : decode method_13_code 293 = .ok (.iconst 0, 1) := by decide +kernel
theorem d_PL_acts_294 : decode method_13_code 294 = .ok (.istore 9, 2) := by decide +kernel
theorem d_PL_acts_296 : decode method_13_code 296 = .ok (.iload 9, 2) := by decide +kernel
theorem d_PL_acts_298 : decode method_13_code 298 = .ok (.iload 8, 2) := by decide +kernel
theorem d_PL_acts_300 : decode method_13_code 300 = .ok (.if_icmp .ge 13, 3) := by decide +kernel
theorem d_PL_acts_303 : decode method_13_code 303 = .ok (.aload_n 1, 1) := by decide +kernel
theorem d_PL_acts_304 : decode method_13_code 304 = .ok (.invokevirtual 309, 3) := by decide +kernel
theorem d_PL_acts_307 : decode method_13_code 307 = .ok (.iinc 9 1, 3) := by decide +kernel
theorem d_PL_acts_310 : decode method_13_code 310 = .ok (.goto (-14), 3) := by decide +kernel
theorem d_PL_acts_313 : decode method_13_code 313 = .ok (.aload_n 0, 1) := by decide +kernel
theorem d_PL_acts_314 : decode method_13_code 314 = .ok (.iload 8, 2) := by decide +kernel
theorem d_PL_acts_316 : decode method_13_code 316 = .ok (.invokevirtual 345, 3) := by decide +kernel
theorem d_PL_acts_319 : decode method_13_code 319 = .ok (.aload_n 1, 1) := by decide +kernel
theorem d_PL_acts_320 : decode method_13_code 320 = .ok (.getfield 270, 3) := by decide +kernel
theorem d_PL_acts_323 : decode method_13_code 323 = .ok (.iload 7, 2) := by decide +kernel
theorem d_PL_acts_325 : decode method_13_code 325 = .ok (.isub, 1) := by decide +kernel
theorem d_PL_acts_326 : decode method_13_code 326 = .ok (.if_icmp .ne 7, 3) := by decide +kernel
theorem d_PL_acts_329 : decode method_13_code 329 = .ok (.iconst 1, 1) := by decide +kernel
theorem d_PL_acts_330 : decode method_13_code 330 = .ok (.goto 4, 3) := by decide +kernel
theorem d_PL_acts_333 : decode method_13_code 333 = .ok (.iconst 0, 1) := by decide +kernel
theorem d_PL_acts_334 : decode method_13_code 334 = .ok (.ireturn, 1) := by decide +kernel
theorem d_PL_begins_0 : decode method_14_code 0 = .ok (.aload_n 1, 1) := by decide +kernel
theorem d_PL_begins_1 : decode method_14_code 1 = .ok (.aload_n 2, 1) := by decide +kernel
theorem d_PL_begins_2 : decode method_14_code 2 = .ok (.iconst 0, 1) := by decide +kernel
theorem d_PL_begins_3 : decode method_14_code 3 = .ok (.bipush 120, 2) := by decide +kernel
theorem d_PL_begins_5 : decode method_14_code 5 = .ok (.invokestatic 325, 3) := by decide +kernel
theorem d_PL_begins_8 : decode method_14_code 8 = .ok (.putfield 244, 3) := by decide +kernel
theorem d_PL_begins_11 : decode method_14_code 11 = .ok (.aload_n 1, 1) := by decide +kernel
theorem d_PL_begins_12 : decode method_14_code 12 = .ok (.iconst 1, 1) := by decide +kernel
theorem d_PL_begins_13 : decode method_14_code 13 = .ok (.aload_n 2, 1) := by decide +kernel
theorem d_PL_begins_14 : decode method_14_code 14 = .ok (.iconst 1, 1) := by decide +kernel
theorem d_PL_begins_15 : decode method_14_code 15 = .ok (.iconst 4, 1) := by decide +kernel
theorem d_PL_begins_16 : decode method_14_code 16 = .ok (.invokestatic 325, 3) := by decide +kernel
theorem d_PL_begins_19 : decode method_14_code 19 = .ok (.iadd, 1) := by decide +kernel
theorem d_PL_begins_20 : decode method_14_code 20 = .ok (.putfield 348, 3) := by decide +kernel
theorem d_PL_begins_23 : decode method_14_code 23 = .ok (.aload_n 1, 1) := by decide +kernel
theorem d_PL_begins_24 : decode method_14_code 24 = .ok (.aload_n 2, 1) := by decide +kernel
theorem d_PL_begins_25 : decode method_14_code 25 = .ok (.iconst 2, 1) := by decide +kernel
theorem d_PL_begins_26 : decode method_14_code 26 = .ok (.bipush 20, 2) := by decide +kernel
theorem d_PL_begins_28 : decode method_14_code 28 = .ok (.invokestatic 325, 3) := by decide +kernel
theorem d_PL_begins_31 : decode method_14_code 31 = .ok (.putfield 351, 3) := by decide +kernel
theorem d_PL_begins_34 : decode method_14_code 34 = .ok (.aload_n 1, 1) := by decide +kernel
theorem d_PL_begins_35 : decode method_14_code 35 = .ok (.aload_n 2, 1) := by decide +kernel
theorem d_PL_begins_36 : decode method_14_code 36 = .ok (.iconst 3, 1) := by decide +kernel
theorem d_PL_begins_37 : decode method_14_code 37 = .ok (.sipush 201, 3) := by decide +kernel
theorem d_PL_begins_40 : decode method_14_code 40 = .ok (.invokestatic 325, 3) := by decide +kernel
theorem d_PL_begins_43 : decode method_14_code 43 = .ok (.putfield 354, 3) := by decide +kernel
theorem d_PL_begins_46 : decode method_14_code 46 = .ok (.aload_n 1, 1) := by decide +kernel
theorem d_PL_begins_47 : decode method_14_code 47 = .ok (.aload_n 2, 1) := by decide +kernel
theorem d_PL_begins_48 : decode method_14_code 48 = .ok (.iconst 4, 1) := by decide +kernel
theorem d_PL_begins_49 : decode method_14_code 49 = .ok (.sipush 201, 3) := by decide +kernel
theorem d_PL_begins_52 : decode method_14_code 52 = .ok (.invokestatic 325, 3) := by decide +kernel
theorem d_PL_begins_55 : decode method_14_code 55 = .ok (.putfield 357, 3) := by decide +kernel
theorem d_PL_begins_58 : decode method_14_code 58 = .ok (.aload_n 1, 1) := by decide +kernel
theorem d_PL_begins_59 : decode method_14_code 59 = .ok (.iconst 1, 1) := by decide +kernel
theorem d_PL_begins_60 : decode method_14_code 60 = .ok (.aload_n 2, 1) := by decide +kernel
theorem d_PL_begins_61 : decode method_14_code 61 = .ok (.iconst 5, 1) := by decide +kernel
theorem d_PL_begins_62 : decode method_14_code 62 = .ok (.bipush 6, 2) := by decide +kernel
theorem d_PL_begins_64 : decode method_14_code 64 = .ok (.invokestatic 325, 3) := by decide +kernel
theorem d_PL_begins_67 : decode method_14_code 67 = .ok (.iadd, 1) := by decide +kernel
theorem d_PL_begins_68 : decode method_14_code 68 = .ok (.putfield 165, 3) := by decide +kernel
theorem d_PL_begins_71 : decode method_14_code 71 = .ok (.aload_n 1, 1) := by decide +kernel
theorem d_PL_begins_72 : decode method_14_code 72 = .ok (.iconst 1, 1) := by decide +kernel
theorem d_PL_begins_73 : decode method_14_code 73 = .ok (.aload_n 2, 1) := by decide +kernel
theorem d_PL_begins_74 : decode method_14_code 74 = .ok (.bipush 6, 2) := by decide +kernel
theorem d_PL_begins_76 : decode method_14_code 76 = .ok (.bipush 6, 2) := by decide +kernel
theorem d_PL_begins_78 : decode method_14_code 78 = .ok (.invokestatic 325, 3) := by decide +kernel
theorem d_PL_begins_81 : decode method_14_code 81 = .ok (.iadd, 1) := by decide +kernel
theorem d_PL_begins_82 : decode method_14_code 82 = .ok (.putfield 162, 3) := by decide +kernel
theorem d_PL_begins_85 : decode method_14_code 85 = .ok (.aload_n 1, 1) := by decide +kernel
theorem d_PL_begins_86 : decode method_14_code 86 = .ok (.aload_n 2, 1) := by decide +kernel
theorem d_PL_begins_87 : decode method_14_code 87 = .ok (.bipush 7, 2) := by decide +kernel
theorem d_PL_begins_89 : decode method_14_code 89 = .ok (.bipush 9, 2) := by decide +kernel
theorem d_PL_begins_91 : decode method_14_code 91 = .ok (.invokestatic 325, 3) := by decide +kernel
theorem d_PL_begins_94 : decode method_14_code 94 = .ok (.putfield 203, 3) := by decide +kernel
theorem d_PL_begins_97 : decode method_14_code 97 = .ok (.aload_n 1, 1) := by decide +kernel
theorem d_PL_begins_98 : decode method_14_code 98 = .ok (.aload_n 2, 1) := by decide +kernel
theorem d_PL_begins_99 : decode method_14_code 99 = .ok (.bipush 8, 2) := by decide +kernel
theorem d_PL_begins_101 : decode method_14_code 101 = .ok (.bipush 6, 2) := by decide +kernel
theorem d_PL_begins_103 : decode method_14_code 103 = .ok (.invokestatic 325, 3) := by decide +kernel
theorem d_PL_begins_106 : decode method_14_code 106 = .ok (.putfield 211, 3) := by decide +kernel
theorem d_PL_begins_109 : decode method_14_code 109 = .ok (.new 35, 3) := by decide +kernel
theorem d_PL_begins_112 : decode method_14_code 112 = .ok (.dup, 1) := by decide +kernel
theorem d_PL_begins_113 : decode method_14_code 113 = .ok (.ldc_w 360, 3) := by decide +kernel
theorem d_PL_begins_116 : decode method_14_code 116 = .ok (.invokespecial 362, 3) := by decide +kernel
theorem d_PL_begins_119 : decode method_14_code 119 = .ok (.aload_n 1, 1) := by decide +kernel
theorem d_PL_begins_120 : decode method_14_code 120 = .ok (.getfield 244, 3) := by decide +kernel
theorem d_PL_begins_123 : decode method_14_code 123 = .ok (.invokevirtual 87, 3) := by decide +kernel
theorem d_PL_begins_126 : decode method_14_code 126 = .ok (.bipush 32, 2) := by decide +kernel
theorem d_PL_begins_128 : decode method_14_code 128 = .ok (.invokevirtual 41, 3) := by decide +kernel
theorem d_PL_begins_131 : decode method_14_code 131 = .ok (.aload_n 1, 1) := by decide +kernel
theorem d_PL_begins_132 : decode method_14_code 132 = .ok (.getfield 348, 3) := by decide +kernel
theorem d_PL_begins_135 : decode method_14_code 135 = .ok (.invokevirtual 87, 3) := by decide +kernel
theorem d_PL_begins_138 : decode method_14_code 138 = .ok (.bipush 32, 2) := by decide +kernel
theorem d_PL_begins_140 : decode method_14_code 140 = .ok (.invokevirtual 41, 3) := by decide +kernel
theorem d_PL_begins_143 : decode method_14_code 143 = .ok (.aload_n 1, 1) := by decide +kernel
theorem d_PL_begins_144 : decode method_14_code 144 = .ok (.getfield 351, 3) := by decide +kernel
theorem d_PL_begins_147 : decode method_14_code 147 = .ok (.invokevirtual 87, 3) := by decide +kernel
theorem d_PL_begins_150 : decode method_14_code 150 = .ok (.bipush 32, 2) := by decide +kernel
theorem d_PL_begins_152 : decode method_14_code 152 = .ok (.invokevirtual 41, 3) := by decide +kernel
theorem d_PL_begins_155 : decode method_14_code 155 = .ok (.aload_n 1, 1) := by decide +kernel
theorem d_PL_begins_156 : decode method_14_code 156 = .ok (.getfield 354, 3) := by decide +kernel
theorem d_PL_begins_159 : decode method_14_code 159 = .ok (.invokevirtual 87, 3) := by decide +kernel
theorem d_PL_begins_162 : decode method_14_code 162 = .ok (.bipush 32, 2) := by decide +kernel
theorem d_PL_begins_164 : decode method_14_code 164 = .ok (.invokevirtual 41, 3) := by decide +kernel
theorem d_PL_begins_167 : decode method_14_code 167 = .ok (.aload_n 1, 1) := by decide +kernel
theorem d_PL_begins_168 : decode method_14_code 168 = .ok (.getfield 357, 3) := by decide +kernel
theorem d_PL_begins_171 : decode method_14_code 171 = .ok (.invokevirtual 87, 3) := by decide +kernel
theorem d_PL_begins_174 : decode method_14_code 174 = .ok (.bipush 59, 2) := by decide +kernel
theorem d_PL_begins_176 : decode method_14_code 176 = .ok (.invokevirtual 41, 3) := by decide +kernel
theorem d_PL_begins_179 : decode method_14_code 179 = .ok (.astore_n 3, 1) := by decide +kernel
theorem d_PL_begins_180 : decode method_14_code 180 = .ok (.iconst 0, 1) := by decide +kernel
theorem d_PL_begins_181 : decode method_14_code 181 = .ok (.istore 4, 2) := by decide +kernel
theorem d_PL_begins_183 : decode method_14_code 183 = .ok (.iload 4, 2) := by decide +kernel
theorem d_PL_begins_185 : decode method_14_code 185 = .ok (.aload_n 1, 1) := by decide +kernel
theorem d_PL_begins_186 : decode method_14_code 186 = .ok (.getfield 165, 3) := by decide +kernel
theorem d_PL_begins_189 : decode method_14_code 189 = .ok (.if_icmp .ge 32, 3) := by decide +kernel
theorem d_PL_begins_192 : decode method_14_code 192 = .ok (.aload_n 3, 1) := by decide +kernel
theorem d_PL_begins_193 : decode method_14_code 193 = .ok (.ldc_w 365, 3) := by decide +kernel
theorem d_PL_begins_196 : decode method_14_code 196 = .ok (.invokevirtual 38, 3) := by decide +kernel
theorem d_PL_begins_199 : decode method_14_code 199 = .ok (.ldc 72, 2) := by decide +kernel
theorem d_PL_begins_201 : decode method_14_code 201 = .ok (.iload 4, 2) := by decide +kernel
theorem d_PL_begins_203 : decode method_14_code 203 = .ok (.invokestatic 60, 3) := by decide +kernel
theorem d_PL_begins_206 : decode method_14_code 206 = .ok (.invokevirtual 38, 3) := by decide +kernel
theorem d_PL_begins_209 : decode method_14_code 209 = .ok (.bipush 59, 2) := by decide +kernel
theorem d_PL_begins_211 : decode method_14_code 211 = .ok (.invokevirtual 41, 3) := by decide +kernel
theorem d_PL_begins_214 : decode method_14_code 214 = .ok (.pop, 1) := by decide +kernel
theorem d_PL_begins_215 : decode method_14_code 215 = .ok (.iinc 4 1, 3) := by decide +kernel
theorem d_PL_begins_218 : decode method_14_code 218 = .ok (.goto (-35), 3) := by decide +kernel
theorem d_PL_begins_221 : decode method_14_code 221 = .ok (.iconst 0, 1) := by decide +kernel
theorem d_PL_begins_222 : decode method_14_code 222 = .ok (.istore 4, 2) := by decide +kernel
theorem d_PL_begins_224 : decode method_14_code 224 = .ok (.iload 4, 2) := by decide +kernel
theorem d_PL_begins_226 : decode method_14_code 226 = .ok (.aload_n 1, 1) := by decide +kernel
theorem d_PL_begins_227 : decode method_14_code 227 = .ok (.getfield 162, 3) := by decide +kernel
theorem d_PL_begins_230 : decode method_14_code 230 = .ok (.if_icmp .ge 32, 3) := by decide +kernel
theorem d_PL_begins_233 : decode method_14_code 233 = .ok (.aload_n 3, 1) := by decide +kernel
theorem d_PL_begins_234 : decode method_14_code 234 = .ok (.ldc_w 367, 3) := by decide +kernel
theorem d_PL_begins_237 : decode method_14_code 237 = .ok (.invokevirtual 38, 3) := by decide +kernel
theorem d_PL_begins_240 : decode method_14_code 240 = .ok (.ldc 82, 2) := by decide +kernel
theorem d_PL_begins_242 : decode method_14_code 242 = .ok (.iload 4, 2) := by decide +kernel
theorem d_PL_begins_244 : decode method_14_code 244 = .ok (.invokestatic 60, 3) := by decide +kernel
theorem d_PL_begins_247 : decode method_14_code 247 = .ok (.invokevirtual 38, 3) := by decide +kernel
theorem d_PL_begins_250 : decode method_14_code 250 = .ok (.bipush 59, 2) := by decide +kernel
theorem d_PL_begins_252 : decode method_14_code 252 = .ok (.invokevirtual 41, 3) := by decide +kernel
theorem d_PL_begins_255 : decode method_14_code 255 = .ok (.pop, 1) := by decide +kernel
theorem d_PL_begins_256 : decode method_14_code 256 = .ok (.iinc 4 1, 3) := by decide +kernel
theorem d_PL_begins_259 : decode method_14_code 259 = .ok (.goto (-35), 3) := by decide +kernel
theorem d_PL_begins_262 : decode method_14_code 262 = .ok (.iconst 0, 1) := by decide +kernel
theorem d_PL_begins_263 : decode method_14_code 263 = .ok (.istore 4, 2) := by decide +kernel
theorem d_PL_begins_265 : decode method_14_code 265 = .ok (.iload 4, 2) := by decide +kernel
theorem d_PL_begins_267 : decode method_14_code 267 = .ok (.aload_n 1, 1) := by decide +kernel
theorem d_PL_begins_268 : decode method_14_code 268 = .ok (.getfield 203, 3) := by decide +kernel
theorem d_PL_begins_271 : decode method_14_code 271 = .ok (.if_icmp .ge 105, 3) := by decide +kernel
theorem d_PL_begins_274 : decode method_14_code 274 = .ok (.aload_n 1, 1) := by decide +kernel
theorem d_PL_begins_275 : decode method_14_code 275 = .ok (.getfield 209, 3) := by decide +kernel
theorem d_PL_begins_278 : decode method_14_code 278 = .ok (.iload 4, 2) := by decide +kernel
theorem d_PL_begins_280 : decode method_14_code 280 = .ok (.aload_n 2, 1) := by decide +kernel
theorem d_PL_begins_281 : decode method_14_code 281 = .ok (.bipush 9, 2) := by decide +kernel
theorem d_PL_begins_283 : decode method_14_code 283 = .ok (.iconst 2, 1) := by decide +kernel
theorem d_PL_begins_284 : decode method_14_code 284 = .ok (.iload 4, 2) := by decide +kernel
theorem d_PL_begins_286 : decode method_14_code 286 = .ok (.imul, 1) := by decide +kernel
theorem d_PL_begins_287 : decode method_14_code 287 = .ok (.iadd, 1) := by decide +kernel
theorem d_PL_begins_288 : decode method_14_code 288 = .ok (.sipush 400, 3) := by decide +kernel
theorem d_PL_begins_291 : decode method_14_code 291 = .ok (.invokestatic 325, 3) := by decide +kernel
theorem d_PL_begins_294 : decode method_14_code 294 = .ok (.iastore, 1) := by decide +kernel
theorem d_PL_begins_295 : decode method_14_code 295 = .ok (.aload_n 1, 1) := by decide +kernel
theorem d_PL_begins_296 : decode method_14_code 296 = .ok (.getfield 369, 3) := by decide +kernel
theorem d_PL_begins_299 : decode method_14_code 299 = .ok (.iload 4, 2) := by decide +kernel
theorem d_PL_begins_301 : decode method_14_code 301 = .ok (.iconst 1, 1) := by decide +kernel
theorem d_PL_begins_302 : decode method_14_code 302 = .ok (.aload_n 2, 1) := by decide +kernel
theorem d_PL_begins_303 : decode method_14_code 303 = .ok (.bipush 10, 2) := by decide +kernel
theorem d_PL_begins_305 : decode method_14_code 305 = .ok (.iconst 2, 1) := by decide +kernel
theorem d_PL_begins_306 : decode method_14_code 306 = .ok (.iload 4, 2) := by decide +kernel
theorem d_PL_begins_308 : decode method_14_code 308 = .ok (.imul, 1) := by decide +kernel
theorem d_PL_begins_309 : decode method_14_code 309 = .ok (.iadd, 1) := by decide +kernel
theorem d_PL_begins_310 : decode method_14_code 310 = .ok (.bipush 30, 2) := by decide +kernel
theorem d_PL_begins_312 : decode method_14_code 312 = .ok (.invokestatic 325, 3) := by decide +kernel
theorem d_PL_begins_315 : decode method_14_code 315 = .ok (.iadd, 1) := by decide +kernel
theorem d_PL_begins_316 : decode method_14_code 316 = .ok (.iastore, 1) := by decide +kernel
theorem d_PL_begins_317 : decode method_14_code 317 = .ok (.aload_n 3, 1) := by decide +kernel
theorem d_PL_begins_318 : decode method_14_code 318 = .ok (.ldc_w 372, 3) := by decide +kernel
theorem d_PL_begins_321 : decode method_14_code 321 = .ok (.invokevirtual 38, 3) := by decide +kernel
theorem d_PL_begins_324 : decode method_14_code 324 = .ok (.ldc 52, 2) := by decide +kernel
theorem d_PL_begins_326 : decode method_14_code 326 = .ok (.iload 4, 2) := by decide +kernel
theorem d_PL_begins_328 : decode method_14_code 328 = .ok (.invokestatic 60, 3) := by decide +kernel
theorem d_PL_begins_331 : decode method_14_code 331 = .ok (.invokevirtual 38, 3) := by decide +kernel
theorem d_PL_begins_334 : decode method_14_code 334 = .ok (.bipush 32, 2) := by decide +kernel
theorem d_PL_begins_336 : decode method_14_code 336 = .ok (.invokevirtual 41, 3) := by decide +kernel
theorem d_PL_begins_339 : decode method_14_code 339 = .ok (.aload_n 1, 1) := by decide +kernel
theorem d_PL_begins_340 : decode method_14_code 340 = .ok (.getfield 209, 3) := by decide +kernel
theorem d_PL_begins_343 : decode method_14_code 343 = .ok (.iload 4, 2) := by decide +kernel
theorem d_PL_begins_345 : decode method_14_code 345 = .ok (.iaload, 1) := by decide +kernel
theorem d_PL_begins_346 : decode method_14_code 346 = .ok (.invokevirtual 87, 3) := by decide +kernel
theorem d_PL_begins_349 : decode method_14_code 349 = .ok (.bipush 32, 2) := by decide +kernel
theorem d_PL_begins_351 : decode method_14_code 351 = .ok (.invokevirtual 41, 3) := by decide +kernel
theorem d_PL_begins_354 : decode method_14_code 354 = .ok (.aload_n 1, 1) := by decide +kernel
theorem d_PL_begins_355 : decode method_14_code 355 = .ok (.getfield 369, 3) := by decide +kernel
theorem d_PL_begins_358 : decode method_14_code 358 = .ok (.iload 4, 2) := by decide +kernel
theorem d_PL_begins_360 : decode method_14_code 360 = .ok (.iaload, 1) := by decide +kernel
theorem d_PL_begins_361 : decode method_14_code 361 = .ok (.invokevirtual 87, 3) := by decide +kernel
theorem d_PL_begins_364 : decode method_14_code 364 = .ok (.bipush 59, 2) := by decide +kernel
theorem d_PL_begins_366 : decode method_14_code 366 = .ok (.invokevirtual 41, 3) := by decide +kernel
theorem d_PL_begins_369 : decode method_14_code 369 = .ok (.pop, 1) := by decide +kernel
theorem d_PL_begins_370 : decode method_14_code 370 = .ok (.iinc 4 1, 3) := by decide +kernel
theorem d_PL_begins_373 : decode method_14_code 373 = .ok (.goto (-108), 3) := by decide +kernel
theorem d_PL_begins_376 : decode method_14_code 376 = .ok (.iconst 0, 1) := by decide +kernel
theorem d_PL_begins_377 : decode method_14_code 377 = .ok (.istore 4, 2) := by decide +kernel
theorem d_PL_begins_379 : decode method_14_code 379 = .ok (.iload 4, 2) := by decide +kernel
theorem d_PL_begins_381 : decode method_14_code 381 = .ok (.aload_n 1, 1) := by decide +kernel
theorem d_PL_begins_382 : decode method_14_code 382 = .ok (.getfield 211, 3) := by decide +kernel
theorem d_PL_begins_385 : decode method_14_code 385 = .ok (.if_icmp .ge 60, 3) := by decide +kernel
theorem d_PL_begins_388 : decode method_14_code 388 = .ok (.aload_n 1, 1) := by decide +kernel
theorem d_PL_begins_389 : decode method_14_code 389 = .ok (.getfield 374, 3) := by decide +kernel
theorem d_PL_begins_392 : decode method_14_code 392 = .ok (.iload 4, 2) := by decide +kernel
theorem d_PL_begins_394 : decode method_14_code 394 = .ok (.iconst 1, 1) := by decide +kernel
theorem d_PL_begins_395 : decode method_14_code 395 = .ok (.aload_n 2, 1) := by decide +kernel
theorem d_PL_begins_396 : decode method_14_code 396 = .ok (.bipush 25, 2) := by decide +kernel
theorem d_PL_begins_398 : decode method_14_code 398 = .ok (.iload 4, 2) := by decide +kernel
theorem d_PL_begins_400 : decode method_14_code 400 = .ok (.iadd, 1) := by decide +kernel
theorem d_PL_begins_401 : decode method_14_code 401 = .ok (.bipush 9, 2) := by decide +kernel
theorem d_PL_begins_403 : decode method_14_code 403 = .ok (.invokestatic 325, 3) := by decide +kernel
theorem d_PL_begins_406 : decode method_14_code 406 = .ok (.iadd, 1) := by decide +kernel
theorem d_PL_begins_407 : decode method_14_code 407 = .ok (.iastore, 1) := by decide +kernel
theorem d_PL_begins_408 : decode method_14_code 408 = .ok (.aload_n 1, 1) := by decide +kernel
theorem d_PL_begins_409 : decode method_14_code 409 = .ok (.getfield 377, 3) := by decide +kernel
theorem d_PL_begins_412 : decode method_14_code 412 = .ok (.iload 4, 2) := by decide +kernel
theorem d_PL_begins_414 : decode method_14_code 414 = .ok (.iconst (-1), 1) := by decide +kernel
theorem d_PL_begins_415 : decode method_14_code 415 = .ok (.iastore, 1) := by decide +kernel
theorem d_PL_begins_416 : decode method_14_code 416 = .ok (.aload_n 3, 1) := by decide +kernel
theorem d_PL_begins_417 : decode method_14_code 417 = .ok (.ldc_w 380, 3) := by decide +kernel
theorem d_PL_begins_420 : decode method_14_code 420 = .ok (.invokevirtual 38, 3) := by decide +kernel
theorem d_PL_begins_423 : decode method_14_code 423 = .ok (.aload_n 1, 1) := by decide +kernel
theorem d_PL_begins_424 : decode method_14_code 424 = .ok (.getfield 374, 3) := by decide +kernel
theorem d_PL_begins_427 : decode method_14_code 427 = .ok (.iload 4, 2) := by decide +kernel
theorem d_PL_begins_429 : decode method_14_code 429 = .ok (.iaload, 1) := by decide +kernel
theorem d_PL_begins_430 : decode method_14_code 430 = .ok (.invokevirtual 87, 3) := by decide +kernel
theorem d_PL_begins_433 : decode method_14_code 433 = .ok (.bipush 59, 2) := by decide +kernel
theorem d_PL_begins_435 : decode method_14_code 435 = .ok (.invokevirtual 41, 3) := by decide +kernel
theorem d_PL_begins_438 : decode method_14_code 438 = .ok (.pop, 1) := by decide +kernel
theorem d_PL_begins_439 : decode method_14_code 439 = .ok (.iinc 4 1, 3) := by decide +kernel
theorem d_PL_begins_442 : decode method_14_code 442 = .ok (.goto (-63), 3) := by decide +kernel
theorem d_PL_begins_445 : decode method_14_code 445 = .ok (.aload_n 0, 1) := by decide +kernel
theorem d_PL_begins_446 : decode method_14_code 446 = .ok (.aload_n 3, 1) := by decide +kernel
theorem d_PL_begins_447 : decode method_14_code 447 = .ok (.invokevirtual 44, 3) := by decide +kernel
theorem d_PL_begins_450 : decode method_14_code 450 = .ok (.invokestatic 382, 3) := by decide +kernel
theorem d_PL_begins_453 : decode method_14_code 453 = .ok (.ifCond .eq 22, 3) := by decide +kernel
theorem d_PL_begins_456 : decode method_14_code 456 = .ok (.aload_n 0, 1) := by decide +kernel
theorem d_PL_begins_457 : decode method_14_code 457 = .ok (.invokevirtual 386, 3) := by decide +kernel
theorem d_PL_begins_460 : decode method_14_code 460 = .ok (.ifCond .ne 15, 3) := by decide +kernel
theorem d_PL_begins_463 : decode method_14_code 463 = .ok (.aload_n 0, 1) := by decide +kernel
theorem d_PL_begins_464 : decode method_14_code 464 = .ok (.invokevirtual 389, 3) := by decide +kernel
theorem d_PL_begins_467 : decode method_14_code 467 = .ok (.iconst (-1), 1) := by decide +kernel
theorem d_PL_begins_468 : decode method_14_code 468 = .ok (.if_icmp .ne 7, 3) := by decide +kernel
theorem d_PL_begins_471 : decode method_14_code 471 = .ok (.iconst 1, 1) := by decide +kernel
theorem d_PL_begins_472 : decode method_14_code 472 = .ok (.goto 4, 3) := by decide +kernel
theorem d_PL_begins_475 : decode method_14_code 475 = .ok (.iconst 0, 1) := by decide +kernel
theorem d_PL_begins_476 : decode method_14_code 476 = .ok (.ireturn, 1) := by decide +kernel
theorem d_law_0 : decode code 0 = .ok (.new 30, 3) := by decide +kernel
theorem d_law_3 : decode code 3 = .ok (.dup, 1) := by decide +kernel
theorem d_law_4 : decode code 4 = .ok (.invokespecial 392, 3) := by decide +kernel
theorem d_law_7 : decode code 7 = .ok (.astore_n 1, 1) := by decide +kernel
theorem d_law_8 : decode code 8 = .ok (.new 55, 3) := by decide +kernel
theorem d_law_11 : decode code 11 = .ok (.dup, 1) := by decide +kernel
theorem d_law_12 : decode code 12 = .ok (.invokespecial 393, 3) := by decide +kernel
theorem d_law_15 : decode code 15 = .ok (.astore_n 2, 1) := by decide +kernel
theorem d_law_16 : decode code 16 = .ok (.aload_n 1, 1) := by decide +kernel
theorem d_law_17 : decode code 17 = .ok (.aload_n 2, 1) := by decide +kernel
theorem d_law_18 : decode code 18 = .ok (.aload_n 0, 1) := by decide +kernel
theorem d_law_19 : decode code 19 = .ok (.invokestatic 394, 3) := by decide +kernel
theorem d_law_22 : decode code 22 = .ok (.ifCond .ne 5, 3) := by decide +kernel
theorem d_law_25 : decode code 25 = .ok (.iconst 0, 1) := by decide +kernel
theorem d_law_26 : decode code 26 = .ok (.ireturn, 1) := by decide +kernel
theorem d_law_27 : decode code 27 = .ok (.bipush 52, 2) := by decide +kernel
theorem d_law_29 : decode code 29 = .ok (.anewarray 55, 3) := by decide +kernel
theorem d_law_32 : decode code 32 = .ok (.astore_n 3, 1) := by decide +kernel
theorem d_law_33 : decode code 33 = .ok (.iconst 0, 1) := by decide +kernel
theorem d_law_34 : decode code 34 = .ok (.istore 4, 2) := by decide +kernel
theorem d_law_36 : decode code 36 = .ok (.iconst 0, 1) := by decide +kernel
theorem d_law_37 : decode code 37 = .ok (.istore 5, 2) := by decide +kernel
theorem d_law_39 : decode code 39 = .ok (.iload 5, 2) := by decide +kernel
theorem d_law_41 : decode code 41 = .ok (.bipush 50, 2) := by decide +kernel
theorem d_law_43 : decode code 43 = .ok (.if_icmp .ge 146, 3) := by decide +kernel
theorem d_law_46 : decode code 46 = .ok (.bipush 30, 2) := by decide +kernel
theorem d_law_48 : decode code 48 = .ok (.iconst 4, 1) := by decide +kernel
theorem d_law_49 : decode code 49 = .ok (.iload 5, 2) := by decide +kernel
theorem d_law_51 : decode code 51 = .ok (.imul, 1) := by decide +kernel
theorem d_law_52 : decode code 52 = .ok (.iadd, 1) := by decide +kernel
theorem d_law_53 : decode code 53 = .ok (.istore 6, 2) := by decide +kernel
theorem d_law_55 : decode code 55 = .ok (.aload_n 1, 1) := by decide +kernel
theorem d_law_56 : decode code 56 = .ok (.aload_n 2, 1) := by decide +kernel
theorem d_law_57 : decode code 57 = .ok (.aload_n 0, 1) := by decide +kernel
theorem d_law_58 : decode code 58 = .ok (.iload 6, 2) := by decide +kernel
theorem d_law_60 : decode code 60 = .ok (.iconst 3, 1) := by decide +kernel
theorem d_law_61 : decode code 61 = .ok (.iadd, 1) := by decide +kernel
theorem d_law_62 : decode code 62 = .ok (.aload_n 2, 1) := by decide +kernel
theorem d_law_63 : decode code 63 = .ok (.getfield 151, 3) := by decide +kernel
theorem d_law_66 : decode code 66 = .ok (.iconst 2, 1) := by decide +kernel
theorem d_law_67 : decode code 67 = .ok (.iadd, 1) := by decide +kernel
theorem d_law_68 : decode code 68 = .ok (.invokestatic 325, 3) := by decide +kernel
theorem d_law_71 : decode code 71 = .ok (.iconst 1, 1) := by decide +kernel
theorem d_law_72 : decode code 72 = .ok (.isub, 1) := by decide +kernel
theorem d_law_73 : decode code 73 = .ok (.invokestatic 398, 3) := by decide +kernel
theorem d_law_76 : decode code 76 = .ok (.ifCond .eq 46, 3) := by decide +kernel
theorem d_law_79 : decode code 79 = .ok (.iload 5, 2) := by decide +kernel
theorem d_law_81 : decode code 81 = .ok (.bipush 8, 2) := by decide +kernel
theorem d_law_83 : decode code 83 = .ok (.irem, 1) := by decide +kernel
theorem d_law_84 : decode code 84 = .ok (.bipush 7, 2) := by decide +kernel
theorem d_law_86 : decode code 86 = .ok (.if_icmp .ne 38, 3) := by decide +kernel
theorem d_law_89 : decode code 89 = .ok (.aload_n 1, 1) := by decide +kernel
theorem d_law_90 : decode code 90 = .ok (.aload_n 2, 1) := by decide +kernel
theorem d_law_91 : decode code 91 = .ok (.aload_n 0, 1) := by decide +kernel
theorem d_law_92 : decode code 92 = .ok (.iload 6, 2) := by decide +kernel
theorem d_law_94 : decode code 94 = .ok (.iconst 3, 1) := by decide +kernel
theorem d_law_95 : decode code 95 = .ok (.iadd, 1) := by decide +kernel
theorem d_law_96 : decode code 96 = .ok (.aload_n 2, 1) := by decide +kernel
theorem d_law_97 : decode code 97 = .ok (.getfield 190, 3) := by decide +kernel
theorem d_law_100 : decode code 100 = .ok (.iconst 1, 1) := by decide +kernel
theorem d_law_101 : decode code 101 = .ok (.iadd, 1) := by decide +kernel
theorem d_law_102 : decode code 102 = .ok (.invokestatic 325, 3) := by decide +kernel
theorem d_law_105 : decode code 105 = .ok (.aload_n 0, 1) := by decide +kernel
theorem d_law_106 : decode code 106 = .ok (.iload 6, 2) := by decide +kernel
theorem d_law_108 : decode code 108 = .ok (.iconst 3, 1) := by decide +kernel
theorem d_law_109 : decode code 109 = .ok (.iadd, 1) := by decide +kernel
theorem d_law_110 : decode code 110 = .ok (.sipush 301, 3) := by decide +kernel
theorem d_law_113 : decode code 113 = .ok (.invokestatic 325, 3) := by decide +kernel
theorem d_law_116 : decode code 116 = .ok (.invokestatic 401, 3) := by decide +kernel
theorem d_law_119 : decode code 119 = .ok (.ifCond .ne 5, 3) := by decide +kernel
theorem d_law_122 : decode code 122 = .ok (.iconst 0, 1) := by decide +kernel
theorem d_law_123 : decode code 123 = .ok (.ireturn, 1) := by decide +kernel
theorem d_law_124 : decode code 124 = .ok (.aload_n 2, 1) := by decide +kernel
theorem d_law_125 : decode code 125 = .ok (.invokevirtual 302, 3) := by decide +kernel
theorem d_law_128 : decode code 128 = .ok (.astore 7, 2) := by decide +kernel
theorem d_law_130 : decode code 130 = .ok (.aload_n 1, 1) := by decide +kernel
theorem d_law_131 : decode code 131 = .ok (.aload 7, 2) := by decide +kernel
theorem d_law_133 : decode code 133 = .ok (.aload_n 0, 1) := by decide +kernel
theorem d_law_134 : decode code 134 = .ok (.iload 6, 2) := by decide +kernel
theorem d_law_136 : decode code 136 = .ok (.invokestatic 405, 3) := by decide +kernel
theorem d_law_139 : decode code 139 = .ok (.istore 8, 2) := by decide +kernel
theorem d_law_141 : decode code 141 = .ok (.iload 8, 2) := by decide +kernel
theorem d_law_143 : decode code 143 = .ok (.ifCond .ne 5, 3) := by decide +kernel
theorem d_law_146 : decode code 146 = .ok (.iconst 0, 1) := by decide +kernel
theorem d_law_147 : decode code 147 = .ok (.ireturn, 1) := by decide +kernel
theorem d_law_148 : decode code 148 = .ok (.iload 8, 2) := by decide +kernel
theorem d_law_150 : decode code 150 = .ok (.ifCond .ge 6, 3) := by decide +kernel
theorem d_law_153 : decode code 153 = .ok (.goto 30, 3) := by decide +kernel
theorem d_law_156 : decode code 156 = .ok (.aload_n 3, 1) := by decide +kernel
theorem d_law_157 : decode code 157 = .ok (.iload 4, 2) := by decide +kernel
theorem d_law_159 : decode code 159 = .ok (.aload_n 2, 1) := by decide +kernel
theorem d_law_160 : decode code 160 = .ok (.aastore, 1) := by decide +kernel
theorem d_law_161 : decode code 161 = .ok (.iinc 4 1, 3) := by decide +kernel
theorem d_law_164 : decode code 164 = .ok (.aload 7, 2) := by decide +kernel
theorem d_law_166 : decode code 166 = .ok (.astore_n 2, 1) := by decide +kernel
theorem d_law_167 : decode code 167 = .ok (.aload_n 1, 1) := by decide +kernel
theorem d_law_168 : decode code 168 = .ok (.invokevirtual 409, 3) := by decide +kernel
theorem d_law_171 : decode code 171 = .ok (.bipush 8, 2) := by decide +kernel
theorem d_law_173 : decode code 173 = .ok (.iload 4, 2) := by decide +kernel
theorem d_law_175 : decode code 175 = .ok (.invokestatic 412, 3) := by decide +kernel
theorem d_law_178 : decode code 178 = .ok (.if_icmp .eq 5, 3) := by decide +kernel
theorem d_law_181 : decode code 181 = .ok (.iconst 0, 1) := by decide +kernel
theorem d_law_182 : decode code 182 = .ok (.ireturn, 1) := by decide +kernel
theorem d_law_183 : decode code 183 = .ok (.iinc 5 1, 3) := by decide +kernel
theorem d_law_186 : decode code 186 = .ok (.goto (-147), 3) := by decide +kernel
theorem d_law_189 : decode code 189 = .ok (.aload_n 1, 1) := by decide +kernel
theorem d_law_190 : decode code 190 = .ok (.aload_n 2, 1) := by decide +kernel
theorem d_law_191 : decode code 191 = .ok (.aload_n 2, 1) := by decide +kernel
theorem d_law_192 : decode code 192 = .ok (.getfield 151, 3) := by decide +kernel
theorem d_law_195 : decode code 195 = .ok (.iconst 1, 1) := by decide +kernel
theorem d_law_196 : decode code 196 = .ok (.iadd, 1) := by decide +kernel
theorem d_law_197 : decode code 197 = .ok (.invokestatic 398, 3) := by decide +kernel
theorem d_law_200 : decode code 200 = .ok (.ifCond .ne 5, 3) := by decide +kernel
theorem d_law_203 : decode code 203 = .ok (.iconst 0, 1) := by decide +kernel
theorem d_law_204 : decode code 204 = .ok (.ireturn, 1) := by decide +kernel
theorem d_law_205 : decode code 205 = .ok (.bipush 8, 2) := by decide +kernel
theorem d_law_207 : decode code 207 = .ok (.iload 4, 2) := by decide +kernel
theorem d_law_209 : decode code 209 = .ok (.invokestatic 412, 3) := by decide +kernel
theorem d_law_212 : decode code 212 = .ok (.istore 5, 2) := by decide +kernel
theorem d_law_214 : decode code 214 = .ok (.iload 4, 2) := by decide +kernel
theorem d_law_216 : decode code 216 = .ok (.iconst 1, 1) := by decide +kernel
theorem d_law_217 : decode code 217 = .ok (.isub, 1) := by decide +kernel
theorem d_law_218 : decode code 218 = .ok (.istore 6, 2) := by decide +kernel
theorem d_law_220 : decode code 220 = .ok (.iload 5, 2) := by decide +kernel
theorem d_law_222 : decode code 222 = .ok (.ifCond .le 35, 3) := by decide +kernel
theorem d_law_225 : decode code 225 = .ok (.iinc 5 (-1), 3) := by decide +kernel
theorem d_law_228 : decode code 228 = .ok (.aload_n 1, 1) := by decide +kernel
theorem d_law_229 : decode code 229 = .ok (.invokevirtual 415, 3) := by decide +kernel
theorem d_law_232 : decode code 232 = .ok (.iload 5, 2) := by decide +kernel
theorem d_law_234 : decode code 234 = .ok (.if_icmp .ne 15, 3) := by decide +kernel
theorem d_law_237 : decode code 237 = .ok (.aload_n 1, 1) := by decide +kernel
theorem d_law_238 : decode code 238 = .ok (.aload_n 3, 1) := by decide +kernel
theorem d_law_239 : decode code 239 = .ok (.iload 6, 2) := by decide +kernel
theorem d_law_241 : decode code 241 = .ok (.aaload, 1) := by decide +kernel
theorem d_law_242 : decode code 242 = .ok (.iconst 0, 1) := by decide +kernel
theorem d_law_243 : decode code 243 = .ok (.invokestatic 398, 3) := by decide +kernel
theorem d_law_246 : decode code 246 = .ok (.ifCond .ne 5, 3) := by decide +kernel
theorem d_law_249 : decode code 249 = .ok (.iconst 0, 1) := by decide +kernel
theorem d_law_250 : decode code 250 = .ok (.ireturn, 1) := by decide +kernel
theorem d_law_251 : decode code 251 = .ok (.iinc 6 (-1), 3) := by decide +kernel
theorem d_law_254 : decode code 254 = .ok (.goto (-34), 3) := by decide +kernel
theorem d_law_257 : decode code 257 = .ok (.aload_n 1, 1) := by decide +kernel
theorem d_law_258 : decode code 258 = .ok (.invokevirtual 409, 3) := by decide +kernel
theorem d_law_261 : decode code 261 = .ok (.ifCond .ne 7, 3) := by decide +kernel
theorem d_law_264 : decode code 264 = .ok (.iconst 1, 1) := by decide +kernel
theorem d_law_265 : decode code 265 = .ok (.goto 4, 3) := by decide +kernel
theorem d_law_268 : decode code 268 = .ok (.iconst 0, 1) := by decide +kernel
theorem d_law_269 : decode code 269 = .ok (.ireturn, 1) := by decide +kernel
