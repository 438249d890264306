theorem d_R_laid_11 : decode prog_14_method_60_code 11 = .ok (.ireturn, 1) := by decide +kernel
theorem d_R_lengths_0 : decode prog_14_method_116_code 0 = .ok (.aload_n 0, 1) := by decide +kernel
theorem d_R_lengths_1 : decode prog_14_method_116_code 1 = .ok (.iload_n 1, 1) := by decide +kernel
theorem d_R_lengths_2 : decode prog_14_method_116_code 2 = .ok (.putfield 373, 3) := by decide +kernel
theorem d_R_lengths_5 : decode prog_14_method_116_code 5 = .ok (.aload_n 0, 1) := by decide +kernel
theorem d_R_lengths_6 : decode prog_14_method_116_code 6 = .ok (.iload_n 2, 1) := by decide +kernel
theorem d_R_lengths_7 : decode prog_14_method_116_code 7 = .ok (.putfield 376, 3) := by decide +kernel
theorem d_R_lengths_10 : decode prog_14_method_116_code 10 = .ok (.aload_n 0, 1) := by decide +kernel
theorem d_R_lengths_11 : decode prog_14_method_116_code 11 = .ok (.iload_n 3, 1) := by decide +kernel
theorem d_R_lengths_12 : decode prog_14_method_116_code 12 = .ok (.putfield 379, 3) := by decide +kernel
theorem d_R_lengths_15 : decode prog_14_method_116_code 15 = .ok (.return_, 1) := by decide +kernel
theorem d_R_isCustomer_0 : decode prog_14_method_14_code 0 = .ok (.iload_n 1, 1) := by decide +kernel
theorem d_R_isCustomer_1 : decode prog_14_method_14_code 1 = .ok (.iconst 0, 1) := by decide +kernel
theorem d_R_isCustomer_2 : decode prog_14_method_14_code 2 = .ok (.aload_n 0, 1) := by decide +kernel
theorem d_R_isCustomer_3 : decode prog_14_method_14_code 3 = .ok (.getfield 7, 3) := by decide +kernel
theorem d_R_isCustomer_6 : decode prog_14_method_14_code 6 = .ok (.bipush 8, 2) := by decide +kernel
theorem d_R_isCustomer_8 : decode prog_14_method_14_code 8 = .ok (.iaload, 1) := by decide +kernel
theorem d_R_isCustomer_9 : decode prog_14_method_14_code 9 = .ok (.iconst 1, 1) := by decide +kernel
theorem d_R_isCustomer_10 : decode prog_14_method_14_code 10 = .ok (.isub, 1) := by decide +kernel
theorem d_R_isCustomer_11 : decode prog_14_method_14_code 11 = .ok (.invokestatic 76, 3) := by decide +kernel
theorem d_R_isCustomer_14 : decode prog_14_method_14_code 14 = .ok (.ireturn, 1) := by decide +kernel
theorem d_R_isEvent_0 : decode prog_14_method_12_code 0 = .ok (.iload_n 1, 1) := by decide +kernel
theorem d_R_isEvent_1 : decode prog_14_method_12_code 1 = .ok (.iconst 0, 1) := by decide +kernel
theorem d_R_isEvent_2 : decode prog_14_method_12_code 2 = .ok (.aload_n 0, 1) := by decide +kernel
theorem d_R_isEvent_3 : decode prog_14_method_12_code 3 = .ok (.getfield 7, 3) := by decide +kernel
theorem d_R_isEvent_6 : decode prog_14_method_12_code 6 = .ok (.bipush 6, 2) := by decide +kernel
theorem d_R_isEvent_8 : decode prog_14_method_12_code 8 = .ok (.iaload, 1) := by decide +kernel
theorem d_R_isEvent_9 : decode prog_14_method_12_code 9 = .ok (.iconst 1, 1) := by decide +kernel
theorem d_R_isEvent_10 : decode prog_14_method_12_code 10 = .ok (.isub, 1) := by decide +kernel
theorem d_R_isEvent_11 : decode prog_14_method_12_code 11 = .ok (.invokestatic 76, 3) := by decide +kernel
theorem d_R_isEvent_14 : decode prog_14_method_12_code 14 = .ok (.ireturn, 1) := by decide +kernel
theorem d_R_isPlace_0 : decode prog_14_method_13_code 0 = .ok (.iload_n 1, 1) := by decide +kernel
theorem d_R_isPlace_1 : decode prog_14_method_13_code 1 = .ok (.iconst 0, 1) := by decide +kernel
theorem d_R_isPlace_2 : decode prog_14_method_13_code 2 = .ok (.aload_n 0, 1) := by decide +kernel
theorem d_R_isPlace_3 : decode prog_14_method_13_code 3 = .ok (.getfield 7, 3) := by decide +kernel
theorem d_R_isPlace_6 : decode prog_14_method_13_code 6 = .ok (.bipush 7, 2) := by decide +kernel
theorem d_R_isPlace_8 : decode prog_14_method_13_code 8 = .ok (.iaload, 1) := by decide +kernel
theorem d_R_isPlace_9 : decode prog_14_method_13_code 9 = .ok (.iconst 1, 1) := by decide +kernel
theorem d_R_isPlace_10 : decode prog_14_method_13_code 10 = .ok (.isub, 1) := by decide +kernel
theorem d_R_isPlace_11 : decode prog_14_method_13_code 11 = .ok (.invokestatic 76, 3) := by decide +kernel
theorem d_R_isPlace_14 : decode prog_14_method_13_code 14 = .ok (.ireturn, 1) := by decide +kernel
theorem d_R_selling_0 : decode prog_14_method_117_code 0 = .ok (.aload_n 0, 1) := by decide +kernel
theorem d_R_selling_1 : decode prog_14_method_117_code 1 = .ok (.aload_n 0, 1) := by decide +kernel
theorem d_R_selling_2 : decode prog_14_method_117_code 2 = .ok (.iload_n 1, 1) := by decide +kernel
theorem d_R_selling_3 : decode prog_14_method_117_code 3 = .ok (.invokevirtual 327, 3) := by decide +kernel
theorem d_R_selling_6 : decode prog_14_method_117_code 6 = .ok (.ifCond .eq 29, 3) := by decide +kernel
theorem d_R_selling_9 : decode prog_14_method_117_code 9 = .ok (.aload_n 0, 1) := by decide +kernel
theorem d_R_selling_10 : decode prog_14_method_117_code 10 = .ok (.iload_n 2, 1) := by decide +kernel
theorem d_R_selling_11 : decode prog_14_method_117_code 11 = .ok (.invokevirtual 330, 3) := by decide +kernel
theorem d_R_selling_14 : decode prog_14_method_117_code 14 = .ok (.ifCond .eq 21, 3) := by decide +kernel
theorem d_R_selling_17 : decode prog_14_method_117_code 17 = .ok (.iload 4, 2) := by decide +kernel
theorem d_R_selling_19 : decode prog_14_method_117_code 19 = .ok (.iconst 1, 1) := by decide +kernel
theorem d_R_selling_20 : decode prog_14_method_117_code 20 = .ok (.if_icmp .eq 11, 3) := by decide +kernel
theorem d_R_selling_23 : decode prog_14_method_117_code 23 = .ok (.aload_n 0, 1) := by decide +kernel
theorem d_R_selling_24 : decode prog_14_method_117_code 24 = .ok (.iload_n 3, 1) := by decide +kernel
theorem d_R_selling_25 : decode prog_14_method_117_code 25 = .ok (.invokevirtual 333, 3) := by decide +kernel
theorem d_R_selling_28 : decode prog_14_method_117_code 28 = .ok (.ifCond .eq 7, 3) := by decide +kernel
theorem d_R_selling_31 : decode prog_14_method_117_code 31 = .ok (.iconst 1, 1) := by decide +kernel
theorem d_R_selling_32 : decode prog_14_method_117_code 32 = .ok (.goto 4, 3) := by decide +kernel
theorem d_R_selling_35 : decode prog_14_method_117_code 35 = .ok (.iconst 0, 1) := by decide +kernel
theorem d_R_selling_36 : decode prog_14_method_117_code 36 = .ok (.iconst 1, 1) := by decide +kernel
theorem d_R_selling_37 : decode prog_14_method_117_code 37 = .ok (.invokevirtual 128, 3) := by decide +kernel
theorem d_R_selling_40 : decode prog_14_method_117_code 40 = .ok (.ifCond .eq 56, 3) := by decide +kernel
theorem d_R_selling_43 : decode prog_14_method_117_code 43 = .ok (.aload_n 0, 1) := by decide +kernel
theorem d_R_selling_44 : decode prog_14_method_117_code 44 = .ok (.aload_n 0, 1) := by decide +kernel
theorem d_R_selling_45 : decode prog_14_method_117_code 45 = .ok (.getfield 373, 3) := by decide +kernel
theorem d_R_selling_48 : decode prog_14_method_117_code 48 = .ok (.iconst 0, 1) := by decide +kernel
theorem d_R_selling_49 : decode prog_14_method_117_code 49 = .ok (.bipush 99, 2) := by decide +kernel
theorem d_R_selling_51 : decode prog_14_method_117_code 51 = .ok (.invokestatic 76, 3) := by decide +kernel
theorem d_R_selling_54 : decode prog_14_method_117_code 54 = .ok (.ifCond .eq 34, 3) := by decide +kernel
theorem d_R_selling_57 : decode prog_14_method_117_code 57 = .ok (.aload_n 0, 1) := by decide +kernel
theorem d_R_selling_58 : decode prog_14_method_117_code 58 = .ok (.getfield 376, 3) := by decide +kernel
theorem d_R_selling_61 : decode prog_14_method_117_code 61 = .ok (.iconst 1, 1) := by decide +kernel
theorem d_R_selling_62 : decode prog_14_method_117_code 62 = .ok (.bipush 60, 2) := by decide +kernel
theorem d_R_selling_64 : decode prog_14_method_117_code 64 = .ok (.invokestatic 76, 3) := by decide +kernel
theorem d_R_selling_67 : decode prog_14_method_117_code 67 = .ok (.ifCond .eq 21, 3) := by decide +kernel
theorem d_R_selling_70 : decode prog_14_method_117_code 70 = .ok (.aload_n 0, 1) := by decide +kernel
theorem d_R_selling_71 : decode prog_14_method_117_code 71 = .ok (.getfield 379, 3) := by decide +kernel
theorem d_R_selling_74 : decode prog_14_method_117_code 74 = .ok (.iconst 1, 1) := by decide +kernel
theorem d_R_selling_75 : decode prog_14_method_117_code 75 = .ok (.sipush 999, 3) := by decide +kernel
theorem d_R_selling_78 : decode prog_14_method_117_code 78 = .ok (.invokestatic 76, 3) := by decide +kernel
theorem d_R_selling_81 : decode prog_14_method_117_code 81 = .ok (.ifCond .eq 7, 3) := by decide +kernel
theorem d_R_selling_84 : decode prog_14_method_117_code 84 = .ok (.iconst 1, 1) := by decide +kernel
theorem d_R_selling_85 : decode prog_14_method_117_code 85 = .ok (.goto 4, 3) := by decide +kernel
theorem d_R_selling_88 : decode prog_14_method_117_code 88 = .ok (.iconst 0, 1) := by decide +kernel
theorem d_R_selling_89 : decode prog_14_method_117_code 89 = .ok (.iconst 2, 1) := by decide +kernel
theorem d_R_selling_90 : decode prog_14_method_117_code 90 = .ok (.invokevirtual 128, 3) := by decide +kernel
theorem d_R_selling_93 : decode prog_14_method_117_code 93 = .ok (.ifCond .ne 5, 3) := by decide +kernel
theorem d_R_selling_96 : decode prog_14_method_117_code 96 = .ok (.iconst 0, 1) := by decide +kernel
theorem d_R_selling_97 : decode prog_14_method_117_code 97 = .ok (.ireturn, 1) := by decide +kernel
theorem d_R_selling_98 : decode prog_14_method_117_code 98 = .ok (.aload_n 0, 1) := by decide +kernel
theorem d_R_selling_99 : decode prog_14_method_117_code 99 = .ok (.aload_n 0, 1) := by decide +kernel
theorem d_R_selling_100 : decode prog_14_method_117_code 100 = .ok (.getfield 7, 3) := by decide +kernel
theorem d_R_selling_103 : decode prog_14_method_117_code 103 = .ok (.bipush 10, 2) := by decide +kernel
theorem d_R_selling_105 : decode prog_14_method_117_code 105 = .ok (.iaload, 1) := by decide +kernel
theorem d_R_selling_106 : decode prog_14_method_117_code 106 = .ok (.bipush 24, 2) := by decide +kernel
theorem d_R_selling_108 : decode prog_14_method_117_code 108 = .ok (.if_icmp .ge 20, 3) := by decide +kernel
theorem d_R_selling_111 : decode prog_14_method_117_code 111 = .ok (.aload_n 0, 1) := by decide +kernel
theorem d_R_selling_112 : decode prog_14_method_117_code 112 = .ok (.iload_n 1, 1) := by decide +kernel
theorem d_R_selling_113 : decode prog_14_method_117_code 113 = .ok (.iconst 1, 1) := by decide +kernel
theorem d_R_selling_114 : decode prog_14_method_117_code 114 = .ok (.invokevirtual 101, 3) := by decide +kernel
theorem d_R_selling_117 : decode prog_14_method_117_code 117 = .ok (.aload_n 0, 1) := by decide +kernel
theorem d_R_selling_118 : decode prog_14_method_117_code 118 = .ok (.getfield 379, 3) := by decide +kernel
theorem d_R_selling_121 : decode prog_14_method_117_code 121 = .ok (.if_icmp .lt 7, 3) := by decide +kernel
theorem d_R_selling_124 : decode prog_14_method_117_code 124 = .ok (.iconst 1, 1) := by decide +kernel
theorem d_R_selling_125 : decode prog_14_method_117_code 125 = .ok (.goto 4, 3) := by decide +kernel
theorem d_R_selling_128 : decode prog_14_method_117_code 128 = .ok (.iconst 0, 1) := by decide +kernel
theorem d_R_selling_129 : decode prog_14_method_117_code 129 = .ok (.iconst 3, 1) := by decide +kernel
theorem d_R_selling_130 : decode prog_14_method_117_code 130 = .ok (.invokevirtual 128, 3) := by decide +kernel
theorem d_R_selling_133 : decode prog_14_method_117_code 133 = .ok (.ifCond .ne 5, 3) := by decide +kernel
theorem d_R_selling_136 : decode prog_14_method_117_code 136 = .ok (.iconst 0, 1) := by decide +kernel
theorem d_R_selling_137 : decode prog_14_method_117_code 137 = .ok (.ireturn, 1) := by decide +kernel
theorem d_R_selling_138 : decode prog_14_method_117_code 138 = .ok (.aload_n 0, 1) := by decide +kernel
theorem d_R_selling_139 : decode prog_14_method_117_code 139 = .ok (.invokevirtual 382, 3) := by decide +kernel
theorem d_R_selling_142 : decode prog_14_method_117_code 142 = .ok (.aload_n 0, 1) := by decide +kernel
theorem d_R_selling_143 : decode prog_14_method_117_code 143 = .ok (.getfield 7, 3) := by decide +kernel
theorem d_R_selling_146 : decode prog_14_method_117_code 146 = .ok (.bipush 10, 2) := by decide +kernel
theorem d_R_selling_148 : decode prog_14_method_117_code 148 = .ok (.iaload, 1) := by decide +kernel
theorem d_R_selling_149 : decode prog_14_method_117_code 149 = .ok (.istore 5, 2) := by decide +kernel
theorem d_R_selling_151 : decode prog_14_method_117_code 151 = .ok (.aload_n 0, 1) := by decide +kernel
theorem d_R_selling_152 : decode prog_14_method_117_code 152 = .ok (.getfield 7, 3) := by decide +kernel
theorem d_R_selling_155 : decode prog_14_method_117_code 155 = .ok (.bipush 10, 2) := by decide +kernel
theorem d_R_selling_157 : decode prog_14_method_117_code 157 = .ok (.dup2, 1) := by decide +kernel
theorem d_R_selling_158 : decode prog_14_method_117_code 158 = .ok (.iaload, 1) := by decide +kernel
theorem d_R_selling_159 : decode prog_14_method_117_code 159 = .ok (.iconst 1, 1) := by decide +kernel
theorem d_R_selling_160 : decode prog_14_method_117_code 160 = .ok (.iadd, 1) := by decide +kernel
theorem d_R_selling_161 : decode prog_14_method_117_code 161 = .ok (.iastore, 1) := by decide +kernel
theorem d_R_selling_162 : decode prog_14_method_117_code 162 = .ok (.aload_n 0, 1) := by decide +kernel
theorem d_R_selling_163 : decode prog_14_method_117_code 163 = .ok (.getfield 7, 3) := by decide +kernel
theorem d_R_selling_166 : decode prog_14_method_117_code 166 = .ok (.bipush 28, 2) := by decide +kernel
theorem d_R_selling_168 : decode prog_14_method_117_code 168 = .ok (.iconst 3, 1) := by decide +kernel
theorem d_R_selling_169 : decode prog_14_method_117_code 169 = .ok (.iload_n 1, 1) := by decide +kernel
theorem d_R_selling_170 : decode prog_14_method_117_code 170 = .ok (.imul, 1) := by decide +kernel
theorem d_R_selling_171 : decode prog_14_method_117_code 171 = .ok (.iadd, 1) := by decide +kernel
theorem d_R_selling_172 : decode prog_14_method_117_code 172 = .ok (.iconst 1, 1) := by decide +kernel
theorem d_R_selling_173 : decode prog_14_method_117_code 173 = .ok (.iadd, 1) := by decide +kernel
theorem d_R_selling_174 : decode prog_14_method_117_code 174 = .ok (.dup2, 1) := by decide +kernel
theorem d_R_selling_175 : decode prog_14_method_117_code 175 = .ok (.iaload, 1) := by decide +kernel
theorem d_R_selling_176 : decode prog_14_method_117_code 176 = .ok (.aload_n 0, 1) := by decide +kernel
theorem d_R_selling_177 : decode prog_14_method_117_code 177 = .ok (.getfield 379, 3) := by decide +kernel
theorem d_R_selling_180 : decode prog_14_method_117_code 180 = .ok (.isub, 1) := by decide +kernel
theorem d_R_selling_181 : decode prog_14_method_117_code 181 = .ok (.iastore, 1) := by decide +kernel
theorem d_R_selling_182 : decode prog_14_method_117_code 182 = .ok (.aload_n 0, 1) := by decide +kernel
theorem d_R_selling_183 : decode prog_14_method_117_code 183 = .ok (.getfield 7, 3) := by decide +kernel
theorem d_R_selling_186 : decode prog_14_method_117_code 186 = .ok (.iconst 0, 1) := by decide +kernel
theorem d_R_selling_187 : decode prog_14_method_117_code 187 = .ok (.dup2, 1) := by decide +kernel
theorem d_R_selling_188 : decode prog_14_method_117_code 188 = .ok (.iaload, 1) := by decide +kernel
theorem d_R_selling_189 : decode prog_14_method_117_code 189 = .ok (.aload_n 0, 1) := by decide +kernel
theorem d_R_selling_190 : decode prog_14_method_117_code 190 = .ok (.getfield 379, 3) := by decide +kernel
theorem d_R_selling_193 : decode prog_14_method_117_code 193 = .ok (.iadd, 1) := by decide +kernel
theorem d_R_selling_194 : decode prog_14_method_117_code 194 = .ok (.iastore, 1) := by decide +kernel
theorem d_R_selling_195 : decode prog_14_method_117_code 195 = .ok (.aload_n 0, 1) := by decide +kernel
theorem d_R_selling_196 : decode prog_14_method_117_code 196 = .ok (.iload 5, 2) := by decide +kernel
theorem d_R_selling_198 : decode prog_14_method_117_code 198 = .ok (.iconst 0, 1) := by decide +kernel
theorem d_R_selling_199 : decode prog_14_method_117_code 199 = .ok (.iload_n 1, 1) := by decide +kernel
theorem d_R_selling_200 : decode prog_14_method_117_code 200 = .ok (.invokevirtual 80, 3) := by decide +kernel
theorem d_R_selling_203 : decode prog_14_method_117_code 203 = .ok (.aload_n 0, 1) := by decide +kernel
theorem d_R_selling_204 : decode prog_14_method_117_code 204 = .ok (.iload 5, 2) := by decide +kernel
theorem d_R_selling_206 : decode prog_14_method_117_code 206 = .ok (.iconst 1, 1) := by decide +kernel
theorem d_R_selling_207 : decode prog_14_method_117_code 207 = .ok (.iload_n 2, 1) := by decide +kernel
theorem d_R_selling_208 : decode prog_14_method_117_code 208 = .ok (.invokevirtual 80, 3) := by decide +kernel
theorem d_R_selling_211 : decode prog_14_method_117_code 211 = .ok (.aload_n 0, 1) := by decide +kernel
theorem d_R_selling_212 : decode prog_14_method_117_code 212 = .ok (.iload 5, 2) := by decide +kernel
theorem d_R_selling_214 : decode prog_14_method_117_code 214 = .ok (.iconst 2, 1) := by decide +kernel
theorem d_R_selling_215 : decode prog_14_method_117_code 215 = .ok (.iload_n 3, 1) := by decide +kernel
theorem d_R_selling_216 : decode prog_14_method_117_code 216 = .ok (.invokevirtual 80, 3) := by decide +kernel
theorem d_R_selling_219 : decode prog_14_method_117_code 219 = .ok (.aload_n 0, 1) := by decide +kernel
theorem d_R_selling_220 : decode prog_14_method_117_code 220 = .ok (.iload 5, 2) := by decide +kernel
theorem d_R_selling_222 : decode prog_14_method_117_code 222 = .ok (.iconst 3, 1) := by decide +kernel
theorem d_R_selling_223 : decode prog_14_method_117_code 223 = .ok (.iload 4, 2) := by decide +kernel
theorem d_R_selling_225 : decode prog_14_method_117_code 225 = .ok (.iconst 2, 1) := by decide +kernel
theorem d_R_selling_226 : decode prog_14_method_117_code 226 = .ok (.if_icmp .ne 7, 3) := by decide +kernel
theorem d_R_selling_229 : decode prog_14_method_117_code 229 = .ok (.iconst 1, 1) := by decide +kernel
theorem d_R_selling_230 : decode prog_14_method_117_code 230 = .ok (.goto 4, 3) := by decide +kernel
theorem d_R_selling_233 : decode prog_14_method_117_code 233 = .ok (.iconst 0, 1) := by decide +kernel
theorem d_R_selling_234 : decode prog_14_method_117_code 234 = .ok (.invokevirtual 80, 3) := by decide +kernel
theorem d_R_selling_237 : decode prog_14_method_117_code 237 = .ok (.aload_n 0, 1) := by decide +kernel
theorem d_R_selling_238 : decode prog_14_method_117_code 238 = .ok (.iload 5, 2) := by decide +kernel
theorem d_R_selling_240 : decode prog_14_method_117_code 240 = .ok (.iconst 4, 1) := by decide +kernel
theorem d_R_selling_241 : decode prog_14_method_117_code 241 = .ok (.aload_n 0, 1) := by decide +kernel
theorem d_R_selling_242 : decode prog_14_method_117_code 242 = .ok (.getfield 7, 3) := by decide +kernel
theorem d_R_selling_245 : decode prog_14_method_117_code 245 = .ok (.iconst 5, 1) := by decide +kernel
theorem d_R_selling_246 : decode prog_14_method_117_code 246 = .ok (.iaload, 1) := by decide +kernel
theorem d_R_selling_247 : decode prog_14_method_117_code 247 = .ok (.aload_n 0, 1) := by decide +kernel
theorem d_R_selling_248 : decode prog_14_method_117_code 248 = .ok (.getfield 373, 3) := by decide +kernel
theorem d_R_selling_251 : decode prog_14_method_117_code 251 = .ok (.iadd, 1) := by decide +kernel
theorem d_R_selling_252 : decode prog_14_method_117_code 252 = .ok (.invokevirtual 80, 3) := by decide +kernel
theorem d_R_selling_255 : decode prog_14_method_117_code 255 = .ok (.aload_n 0, 1) := by decide +kernel
theorem d_R_selling_256 : decode prog_14_method_117_code 256 = .ok (.iload 5, 2) := by decide +kernel
theorem d_R_selling_258 : decode prog_14_method_117_code 258 = .ok (.iconst 5, 1) := by decide +kernel
theorem d_R_selling_259 : decode prog_14_method_117_code 259 = .ok (.aload_n 0, 1) := by decide +kernel
theorem d_R_selling_260 : decode prog_14_method_117_code 260 = .ok (.getfield 7, 3) := by decide +kernel
theorem d_R_selling_263 : decode prog_14_method_117_code 263 = .ok (.iconst 5, 1) := by decide +kernel
theorem d_R_selling_264 : decode prog_14_method_117_code 264 = .ok (.iaload, 1) := by decide +kernel
theorem d_R_selling_265 : decode prog_14_method_117_code 265 = .ok (.aload_n 0, 1) := by decide +kernel
theorem d_R_selling_266 : decode prog_14_method_117_code 266 = .ok (.getfield 373, 3) := by decide +kernel
theorem d_R_selling_269 : decode prog_14_method_117_code 269 = .ok (.iadd, 1) := by decide +kernel
theorem d_R_selling_270 : decode prog_14_method_117_code 270 = .ok (.aload_n 0, 1) := by decide +kernel
theorem d_R_selling_271 : decode prog_14_method_117_code 271 = .ok (.getfield 376, 3) := by decide +kernel
theorem d_R_selling_274 : decode prog_14_method_117_code 274 = .ok (.iadd, 1) := by decide +kernel
theorem d_R_selling_275 : decode prog_14_method_117_code 275 = .ok (.iconst 1, 1) := by decide +kernel
theorem d_R_selling_276 : decode prog_14_method_117_code 276 = .ok (.isub, 1) := by decide +kernel
theorem d_R_selling_277 : decode prog_14_method_117_code 277 = .ok (.invokevirtual 80, 3) := by decide +kernel
theorem d_R_selling_280 : decode prog_14_method_117_code 280 = .ok (.aload_n 0, 1) := by decide +kernel
theorem d_R_selling_281 : decode prog_14_method_117_code 281 = .ok (.iload 5, 2) := by decide +kernel
theorem d_R_selling_283 : decode prog_14_method_117_code 283 = .ok (.bipush 6, 2) := by decide +kernel
theorem d_R_selling_285 : decode prog_14_method_117_code 285 = .ok (.aload_n 0, 1) := by decide +kernel
theorem d_R_selling_286 : decode prog_14_method_117_code 286 = .ok (.getfield 379, 3) := by decide +kernel
theorem d_R_selling_289 : decode prog_14_method_117_code 289 = .ok (.invokevirtual 80, 3) := by decide +kernel
theorem d_R_selling_292 : decode prog_14_method_117_code 292 = .ok (.aload_n 0, 1) := by decide +kernel
theorem d_R_selling_293 : decode prog_14_method_117_code 293 = .ok (.iload 5, 2) := by decide +kernel
theorem d_R_selling_295 : decode prog_14_method_117_code 295 = .ok (.bipush 7, 2) := by decide +kernel
theorem d_R_selling_297 : decode prog_14_method_117_code 297 = .ok (.iconst 0, 1) := by decide +kernel
theorem d_R_selling_298 : decode prog_14_method_117_code 298 = .ok (.invokevirtual 80, 3) := by decide +kernel
theorem d_R_selling_301 : decode prog_14_method_117_code 301 = .ok (.aload_n 0, 1) := by decide +kernel
theorem d_R_selling_302 : decode prog_14_method_117_code 302 = .ok (.iload 5, 2) := by decide +kernel
theorem d_R_selling_304 : decode prog_14_method_117_code 304 = .ok (.bipush 8, 2) := by decide +kernel
theorem d_R_selling_306 : decode prog_14_method_117_code 306 = .ok (.iconst 0, 1) := by decide +kernel
theorem d_R_selling_307 : decode prog_14_method_117_code 307 = .ok (.invokevirtual 80, 3) := by decide +kernel
theorem d_R_selling_310 : decode prog_14_method_117_code 310 = .ok (.aload_n 0, 1) := by decide +kernel
theorem d_R_selling_311 : decode prog_14_method_117_code 311 = .ok (.iload 5, 2) := by decide +kernel
theorem d_R_selling_313 : decode prog_14_method_117_code 313 = .ok (.bipush 9, 2) := by decide +kernel
theorem d_R_selling_315 : decode prog_14_method_117_code 315 = .ok (.iconst 0, 1) := by decide +kernel
theorem d_R_selling_316 : decode prog_14_method_117_code 316 = .ok (.invokevirtual 80, 3) := by decide +kernel
theorem d_R_selling_319 : decode prog_14_method_117_code 319 = .ok (.iload 5, 2) := by decide +kernel
theorem d_R_selling_321 : decode prog_14_method_117_code 321 = .ok (.ireturn, 1) := by decide +kernel
theorem d_R_hits_0 : decode prog_14_method_17_code 0 = .ok (.aload_n 0, 1) := by decide +kernel
theorem d_R_hits_1 : decode prog_14_method_17_code 1 = .ok (.iload_n 1, 1) := by decide +kernel
theorem d_R_hits_2 : decode prog_14_method_17_code 2 = .ok (.bipush 7, 2) := by decide +kernel
theorem d_R_hits_4 : decode prog_14_method_17_code 4 = .ok (.invokevirtual 84, 3) := by decide +kernel
theorem d_R_hits_7 : decode prog_14_method_17_code 7 = .ok (.ifCond .ne 52, 3) := by decide +kernel
theorem d_R_hits_10 : decode prog_14_method_17_code 10 = .ok (.aload_n 0, 1) := by decide +kernel
theorem d_R_hits_11 : decode prog_14_method_17_code 11 = .ok (.iload_n 1, 1) := by decide +kernel
theorem d_R_hits_12 : decode prog_14_method_17_code 12 = .ok (.iconst 1, 1) := by decide +kernel
theorem d_R_hits_13 : decode prog_14_method_17_code 13 = .ok (.invokevirtual 84, 3) := by decide +kernel
theorem d_R_hits_16 : decode prog_14_method_17_code 16 = .ok (.iload_n 2, 1) := by decide +kernel
theorem d_R_hits_17 : decode prog_14_method_17_code 17 = .ok (.if_icmp .ne 42, 3) := by decide +kernel
theorem d_R_hits_20 : decode prog_14_method_17_code 20 = .ok (.aload_n 0, 1) := by decide +kernel
theorem d_R_hits_21 : decode prog_14_method_17_code 21 = .ok (.iload_n 1, 1) := by decide +kernel
theorem d_R_hits_22 : decode prog_14_method_17_code 22 = .ok (.iconst 4, 1) := by decide +kernel
theorem d_R_hits_23 : decode prog_14_method_17_code 23 = .ok (.invokevirtual 84, 3) := by decide +kernel
theorem d_R_hits_26 : decode prog_14_method_17_code 26 = .ok (.aload_n 0, 1) := by decide +kernel
theorem d_R_hits_27 : decode prog_14_method_17_code 27 = .ok (.getfield 7, 3) := by decide +kernel
theorem d_R_hits_30 : decode prog_14_method_17_code 30 = .ok (.iconst 5, 1) := by decide +kernel
theorem d_R_hits_31 : decode prog_14_method_17_code 31 = .ok (.iaload, 1) := by decide +kernel
theorem d_R_hits_32 : decode prog_14_method_17_code 32 = .ok (.if_icmp .gt 27, 3) := by decide +kernel
theorem d_R_hits_35 : decode prog_14_method_17_code 35 = .ok (.aload_n 0, 1) := by decide +kernel
theorem d_R_hits_36 : decode prog_14_method_17_code 36 = .ok (.iload_n 1, 1) := by decide +kernel
theorem d_R_hits_37 : decode prog_14_method_17_code 37 = .ok (.iconst 2, 1) := by decide +kernel
theorem d_R_hits_38 : decode prog_14_method_17_code 38 = .ok (.invokevirtual 84, 3) := by decide +kernel
theorem d_R_hits_41 : decode prog_14_method_17_code 41 = .ok (.iconst (-1), 1) := by decide +kernel
theorem d_R_hits_42 : decode prog_14_method_17_code 42 = .ok (.if_icmp .eq 13, 3) := by decide +kernel
theorem d_R_hits_45 : decode prog_14_method_17_code 45 = .ok (.aload_n 0, 1) := by decide +kernel
theorem d_R_hits_46 : decode prog_14_method_17_code 46 = .ok (.iload_n 1, 1) := by decide +kernel
theorem d_R_hits_47 : decode prog_14_method_17_code 47 = .ok (.iconst 2, 1) := by decide +kernel
theorem d_R_hits_48 : decode prog_14_method_17_code 48 = .ok (.invokevirtual 84, 3) := by decide +kernel
theorem d_R_hits_51 : decode prog_14_method_17_code 51 = .ok (.iload_n 3, 1) := by decide +kernel
theorem d_R_hits_52 : decode prog_14_method_17_code 52 = .ok (.if_icmp .ne 7, 3) := by decide +kernel
theorem d_R_hits_55 : decode prog_14_method_17_code 55 = .ok (.iconst 1, 1) := by decide +kernel
theorem d_R_hits_56 : decode prog_14_method_17_code 56 = .ok (.goto 4, 3) := by decide +kernel
theorem d_R_hits_59 : decode prog_14_method_17_code 59 = .ok (.iconst 0, 1) := by decide +kernel
theorem d_R_hits_60 : decode prog_14_method_17_code 60 = .ok (.ireturn, 1) := by decide +kernel
theorem d_R_happening_0 : decode prog_14_method_121_code 0 = .ok (.aload_n 0, 1) := by decide +kernel
theorem d_R_happening_1 : decode prog_14_method_121_code 1 = .ok (.aload_n 0, 1) := by decide +kernel
theorem d_R_happening_2 : decode prog_14_method_121_code 2 = .ok (.iload_n 1, 1) := by decide +kernel
theorem d_R_happening_3 : decode prog_14_method_121_code 3 = .ok (.invokevirtual 330, 3) := by decide +kernel
theorem d_R_happening_6 : decode prog_14_method_121_code 6 = .ok (.ifCond .eq 15, 3) := by decide +kernel
theorem d_R_happening_9 : decode prog_14_method_121_code 9 = .ok (.aload_n 0, 1) := by decide +kernel
theorem d_R_happening_10 : decode prog_14_method_121_code 10 = .ok (.iload_n 2, 1) := by decide +kernel
theorem d_R_happening_11 : decode prog_14_method_121_code 11 = .ok (.invokevirtual 333, 3) := by decide +kernel
theorem d_R_happening_14 : decode prog_14_method_121_code 14 = .ok (.ifCond .eq 7, 3) := by decide +kernel
theorem d_R_happening_17 : decode prog_14_method_121_code 17 = .ok (.iconst 1, 1) := by decide +kernel
theorem d_R_happening_18 : decode prog_14_method_121_code 18 = .ok (.goto 4, 3) := by decide +kernel
theorem d_R_happening_21 : decode prog_14_method_121_code 21 = .ok (.iconst 0, 1) := by decide +kernel
theorem d_R_happening_22 : decode prog_14_method_121_code 22 = .ok (.iconst 1, 1) := by decide +kernel
theorem d_R_happening_23 : decode prog_14_method_121_code 23 = .ok (.invokevirtual 128, 3) := by decide +kernel
theorem d_R_happening_26 : decode prog_14_method_121_code 26 = .ok (.ifCond .eq 43, 3) := by decide +kernel
theorem d_R_happening_29 : decode prog_14_method_121_code 29 = .ok (.aload_n 0, 1) := by decide +kernel
theorem d_R_happening_30 : decode prog_14_method_121_code 30 = .ok (.aload_n 0, 1) := by decide +kernel
theorem d_R_happening_31 : decode prog_14_method_121_code 31 = .ok (.iload_n 1, 1) := by decide +kernel
theorem d_R_happening_32 : decode prog_14_method_121_code 32 = .ok (.iload_n 2, 1) := by decide +kernel
theorem d_R_happening_33 : decode prog_14_method_121_code 33 = .ok (.aload_n 0, 1) := by decide +kernel
theorem d_R_happening_34 : decode prog_14_method_121_code 34 = .ok (.getfield 7, 3) := by decide +kernel
theorem d_R_happening_37 : decode prog_14_method_121_code 37 = .ok (.iconst 5, 1) := by decide +kernel
theorem d_R_happening_38 : decode prog_14_method_121_code 38 = .ok (.iaload, 1) := by decide +kernel
theorem d_R_happening_39 : decode prog_14_method_121_code 39 = .ok (.invokevirtual 339, 3) := by decide +kernel
theorem d_R_happening_42 : decode prog_14_method_121_code 42 = .ok (.ifCond .ne 19, 3) := by decide +kernel
theorem d_R_happening_45 : decode prog_14_method_121_code 45 = .ok (.aload_n 0, 1) := by decide +kernel
theorem d_R_happening_46 : decode prog_14_method_121_code 46 = .ok (.getfield 7, 3) := by decide +kernel
theorem d_R_happening_49 : decode prog_14_method_121_code 49 = .ok (.bipush 11, 2) := by decide +kernel
theorem d_R_happening_51 : decode prog_14_method_121_code 51 = .ok (.iaload, 1) := by decide +kernel
theorem d_R_happening_52 : decode prog_14_method_121_code 52 = .ok (.bipush 60, 2) := by decide +kernel
theorem d_R_happening_54 : decode prog_14_method_121_code 54 = .ok (.if_icmp .ge 7, 3) := by decide +kernel
theorem d_R_happening_57 : decode prog_14_method_121_code 57 = .ok (.iconst 1, 1) := by decide +kernel
theorem d_R_happening_58 : decode prog_14_method_121_code 58 = .ok (.goto 4, 3) := by decide +kernel
theorem d_R_happening_61 : decode prog_14_method_121_code 61 = .ok (.iconst 0, 1) := by decide +kernel
theorem d_R_happening_62 : decode prog_14_method_121_code 62 = .ok (.iconst 2, 1) := by decide +kernel
theorem d_R_happening_63 : decode prog_14_method_121_code 63 = .ok (.invokevirtual 128, 3) := by decide +kernel
theorem d_R_happening_66 : decode prog_14_method_121_code 66 = .ok (.ifCond .ne 5, 3) := by decide +kernel
theorem d_R_happening_69 : decode prog_14_method_121_code 69 = .ok (.iconst 0, 1) := by decide +kernel
theorem d_R_happening_70 : decode prog_14_method_121_code 70 = .ok (.ireturn, 1) := by decide +kernel
theorem d_R_happening_71 : decode prog_14_method_121_code 71 = .ok (.aload_n 0, 1) := by decide +kernel
theorem d_R_happening_72 : decode prog_14_method_121_code 72 = .ok (.invokevirtual 382, 3) := by decide +kernel
theorem d_R_happening_75 : decode prog_14_method_121_code 75 = .ok (.sipush 320, 3) := by decide +kernel
theorem d_R_happening_78 : decode prog_14_method_121_code 78 = .ok (.iconst 3, 1) := by decide +kernel
theorem d_R_happening_79 : decode prog_14_method_121_code 79 = .ok (.aload_n 0, 1) := by decide +kernel
theorem d_R_happening_80 : decode prog_14_method_121_code 80 = .ok (.getfield 7, 3) := by decide +kernel
theorem d_R_happening_83 : decode prog_14_method_121_code 83 = .ok (.bipush 11, 2) := by decide +kernel
theorem d_R_happening_85 : decode prog_14_method_121_code 85 = .ok (.iaload, 1) := by decide +kernel
theorem d_R_happening_86 : decode prog_14_method_121_code 86 = .ok (.imul, 1) := by decide +kernel
theorem d_R_happening_87 : decode prog_14_method_121_code 87 = .ok (.iadd, 1) := by decide +kernel
theorem d_R_happening_88 : decode prog_14_method_121_code 88 = .ok (.istore_n 3, 1) := by decide +kernel
theorem d_R_happening_89 : decode prog_14_method_121_code 89 = .ok (.aload_n 0, 1) := by decide +kernel
theorem d_R_happening_90 : decode prog_14_method_121_code 90 = .ok (.getfield 7, 3) := by decide +kernel
theorem d_R_happening_93 : decode prog_14_method_121_code 93 = .ok (.iload_n 3, 1) := by decide +kernel
theorem d_R_happening_94 : decode prog_14_method_121_code 94 = .ok (.iload_n 1, 1) := by decide +kernel
theorem d_R_happening_95 : decode prog_14_method_121_code 95 = .ok (.iastore, 1) := by decide +kernel
theorem d_R_happening_96 : decode prog_14_method_121_code 96 = .ok (.aload_n 0, 1) := by decide +kernel
theorem d_R_happening_97 : decode prog_14_method_121_code 97 = .ok (.getfield 7, 3) := by decide +kernel
theorem d_R_happening_100 : decode prog_14_method_121_code 100 = .ok (.iload_n 3, 1) := by decide +kernel
theorem d_R_happening_101 : decode prog_14_method_121_code 101 = .ok (.iconst 1, 1) := by decide +kernel
theorem d_R_happening_102 : decode prog_14_method_121_code 102 = .ok (.iadd, 1) := by decide +kernel
theorem d_R_happening_103 : decode prog_14_method_121_code 103 = .ok (.iload_n 2, 1) := by decide +kernel
theorem d_R_happening_104 : decode prog_14_method_121_code 104 = .ok (.iastore, 1) := by decide +kernel
theorem d_R_happening_105 : decode prog_14_method_121_code 105 = .ok (.aload_n 0, 1) := by decide +kernel
theorem d_R_happening_106 : decode prog_14_method_121_code 106 = .ok (.getfield 7, 3) := by decide +kernel
theorem d_R_happening_109 : decode prog_14_method_121_code 109 = .ok (.iload_n 3, 1) := by decide +kernel
theorem d_R_happening_110 : decode prog_14_method_121_code 110 = .ok (.iconst 2, 1) := by decide +kernel
theorem d_R_happening_111 : decode prog_14_method_121_code 111 = .ok (.iadd, 1) := by decide +kernel
theorem d_R_happening_112 : decode prog_14_method_121_code 112 = .ok (.aload_n 0, 1) := by decide +kernel
theorem d_R_happening_113 : decode prog_14_method_121_code 113 = .ok (.getfield 7, 3) := by decide +kernel
theorem d_R_happening_116 : decode prog_14_method_121_code 116 = .ok (.iconst 5, 1) := by decide +kernel
theorem d_R_happening_117 : decode prog_14_method_121_code 117 = .ok (.iaload, 1) := by decide +kernel
theorem d_R_happening_118 : decode prog_14_method_121_code 118 = .ok (.iastore, 1) := by decide +kernel
theorem d_R_happening_119 : decode prog_14_method_121_code 119 = .ok (.aload_n 0, 1) := by decide +kernel
theorem d_R_happening_120 : decode prog_14_method_121_code 120 = .ok (.getfield 7, 3) := by decide +kernel
theorem d_R_happening_123 : decode prog_14_method_121_code 123 = .ok (.bipush 11, 2) := by decide +kernel
theorem d_R_happening_125 : decode prog_14_method_121_code 125 = .ok (.dup2, 1) := by decide +kernel
theorem d_R_happening_126 : decode prog_14_method_121_code 126 = .ok (.iaload, 1) := by decide +kernel
theorem d_R_happening_127 : decode prog_14_method_121_code 127 = .ok (.iconst 1, 1) := by decide +kernel
theorem d_R_happening_128 : decode prog_14_method_121_code 128 = .ok (.iadd, 1) := by decide +kernel
theorem d_R_happening_129 : decode prog_14_method_121_code 129 = .ok (.iastore, 1) := by decide +kernel
theorem d_R_happening_130 : decode prog_14_method_121_code 130 = .ok (.iconst 0, 1) := by decide +kernel
theorem d_R_happening_131 : decode prog_14_method_121_code 131 = .ok (.istore 4, 2) := by decide +kernel
theorem d_R_happening_133 : decode prog_14_method_121_code 133 = .ok (.iconst 0, 1) := by decide +kernel
theorem d_R_happening_134 : decode prog_14_method_121_code 134 = .ok (.istore 5, 2) := by decide +kernel
theorem d_R_happening_136 : decode prog_14_method_121_code 136 = .ok (.iload 5, 2) := by decide +kernel
theorem d_R_happening_138 : decode prog_14_method_121_code 138 = .ok (.aload_n 0, 1) := by decide +kernel
theorem d_R_happening_139 : decode prog_14_method_121_code 139 = .ok (.getfield 7, 3) := by decide +kernel
theorem d_R_happening_142 : decode prog_14_method_121_code 142 = .ok (.bipush 10, 2) := by decide +kernel
theorem d_R_happening_144 : decode prog_14_method_121_code 144 = .ok (.iaload, 1) := by decide +kernel
theorem d_R_happening_145 : decode prog_14_method_121_code 145 = .ok (.if_icmp .ge 47, 3) := by decide +kernel
theorem d_R_happening_148 : decode prog_14_method_121_code 148 = .ok (.aload_n 0, 1) := by decide +kernel
theorem d_R_happening_149 : decode prog_14_method_121_code 149 = .ok (.iload 5, 2) := by decide +kernel
theorem d_R_happening_151 : decode prog_14_method_121_code 151 = .ok (.iload_n 1, 1) := by decide +kernel
theorem d_R_happening_152 : decode prog_14_method_121_code 152 = .ok (.iload_n 2, 1) := by decide +kernel
theorem d_R_happening_153 : decode prog_14_method_121_code 153 = .ok (.invokevirtual 385, 3) := by decide +kernel
theorem d_R_happening_156 : decode prog_14_method_121_code 156 = .ok (.ifCond .ne 6, 3) := by decide +kernel
theorem d_R_happening_159 : decode prog_14_method_121_code 159 = .ok (.goto 27, 3) := by decide +kernel
theorem d_R_happening_162 : decode prog_14_method_121_code 162 = .ok (.aload_n 0, 1) := by decide +kernel
theorem d_R_happening_163 : decode prog_14_method_121_code 163 = .ok (.iload 5, 2) := by decide +kernel
theorem d_R_happening_165 : decode prog_14_method_121_code 165 = .ok (.aload_n 0, 1) := by decide +kernel
theorem d_R_happening_166 : decode prog_14_method_121_code 166 = .ok (.iload 5, 2) := by decide +kernel
theorem d_R_happening_168 : decode prog_14_method_121_code 168 = .ok (.iconst 3, 1) := by decide +kernel
theorem d_R_happening_169 : decode prog_14_method_121_code 169 = .ok (.invokevirtual 84, 3) := by decide +kernel
theorem d_R_happening_172 : decode prog_14_method_121_code 172 = .ok (.ifCond .ne 7, 3) := by decide +kernel
theorem d_R_happening_175 : decode prog_14_method_121_code 175 = .ok (.iconst 1, 1) := by decide +kernel
theorem d_R_happening_176 : decode prog_14_method_121_code 176 = .ok (.goto 4, 3) := by decide +kernel
theorem d_R_happening_179 : decode prog_14_method_121_code 179 = .ok (.iconst 0, 1) := by decide +kernel
theorem d_R_happening_180 : decode prog_14_method_121_code 180 = .ok (.invokevirtual 114, 3) := by decide +kernel
theorem d_R_happening_183 : decode prog_14_method_121_code 183 = .ok (.iinc 4 1, 3) := by decide +kernel
theorem d_R_happening_186 : decode prog_14_method_121_code 186 = .ok (.iinc 5 1, 3) := by decide +kernel
theorem d_R_happening_189 : decode prog_14_method_121_code 189 = .ok (.goto (-53), 3) := by decide +kernel
theorem d_R_happening_192 : decode prog_14_method_121_code 192 = .ok (.iload 4, 2) := by decide +kernel
theorem d_R_happening_194 : decode prog_14_method_121_code 194 = .ok (.ireturn, 1) := by decide +kernel
theorem d_R_does_0 : decode prog_14_method_68_code 0 = .ok (.aload_n 0, 1) := by decide +kernel
theorem d_R_does_1 : decode prog_14_method_68_code 1 = .ok (.iconst 0, 1) := by decide +kernel
theorem d_R_does_2 : decode prog_14_method_68_code 2 = .ok (.putfield 73, 3) := by decide +kernel
theorem d_R_does_5 : decode prog_14_method_68_code 5 = .ok (.aload_n 0, 1) := by decide +kernel
theorem d_R_does_6 : decode prog_14_method_68_code 6 = .ok (.getfield 36, 3) := by decide +kernel
theorem d_R_does_9 : decode prog_14_method_68_code 9 = .ok (.iload_n 1, 1) := by decide +kernel
theorem d_R_does_10 : decode prog_14_method_68_code 10 = .ok (.iaload, 1) := by decide +kernel
theorem d_R_does_11 : decode prog_14_method_68_code 11 = .ok (.tableswitch 105 0 2 #[25, 77, 94], 25) := by decide +kernel
theorem d_R_does_36 : decode prog_14_method_68_code 36 = .ok (.aload_n 0, 1) := by decide +kernel
theorem d_R_does_37 : decode prog_14_method_68_code 37 = .ok (.aload_n 0, 1) := by decide +kernel
theorem d_R_does_38 : decode prog_14_method_68_code 38 = .ok (.iload_n 1, 1) := by decide +kernel
theorem d_R_does_39 : decode prog_14_method_68_code 39 = .ok (.iconst 4, 1) := by decide +kernel
theorem d_R_does_40 : decode prog_14_method_68_code 40 = .ok (.invokevirtual 289, 3) := by decide +kernel
theorem d_R_does_43 : decode prog_14_method_68_code 43 = .ok (.aload_n 0, 1) := by decide +kernel
theorem d_R_does_44 : decode prog_14_method_68_code 44 = .ok (.iload_n 1, 1) := by decide +kernel
theorem d_R_does_45 : decode prog_14_method_68_code 45 = .ok (.iconst 5, 1) := by decide +kernel
theorem d_R_does_46 : decode prog_14_method_68_code 46 = .ok (.invokevirtual 289, 3) := by decide +kernel
theorem d_R_does_49 : decode prog_14_method_68_code 49 = .ok (.aload_n 0, 1) := by decide +kernel
theorem d_R_does_50 : decode prog_14_method_68_code 50 = .ok (.iload_n 1, 1) := by decide +kernel
theorem d_R_does_51 : decode prog_14_method_68_code 51 = .ok (.bipush 6, 2) := by decide +kernel
theorem d_R_does_53 : decode prog_14_method_68_code 53 = .ok (.invokevirtual 289, 3) := by decide +kernel
theorem d_R_does_56 : decode prog_14_method_68_code 56 = .ok (.invokevirtual 292, 3) := by decide +kernel
theorem d_R_does_59 : decode prog_14_method_68_code 59 = .ok (.aload_n 0, 1) := by decide +kernel
theorem d_R_does_60 : decode prog_14_method_68_code 60 = .ok (.aload_n 0, 1) := by decide +kernel
theorem d_R_does_61 : decode prog_14_method_68_code 61 = .ok (.iload_n 1, 1) := by decide +kernel
theorem d_R_does_62 : decode prog_14_method_68_code 62 = .ok (.iconst 0, 1) := by decide +kernel
theorem d_R_does_63 : decode prog_14_method_68_code 63 = .ok (.invokevirtual 289, 3) := by decide +kernel
theorem d_R_does_66 : decode prog_14_method_68_code 66 = .ok (.aload_n 0, 1) := by decide +kernel
theorem d_R_does_67 : decode prog_14_method_68_code 67 = .ok (.iload_n 1, 1) := by decide +kernel
theorem d_R_does_68 : decode prog_14_method_68_code 68 = .ok (.iconst 1, 1) := by decide +kernel
theorem d_R_does_69 : decode prog_14_method_68_code 69 = .ok (.invokevirtual 289, 3) := by decide +kernel
theorem d_R_does_72 : decode prog_14_method_68_code 72 = .ok (.aload_n 0, 1) := by decide +kernel
theorem d_R_does_73 : decode prog_14_method_68_code 73 = .ok (.iload_n 1, 1) := by decide +kernel
theorem d_R_does_74 : decode prog_14_method_68_code 74 = .ok (.iconst 2, 1) := by decide +kernel
theorem d_R_does_75 : decode prog_14_method_68_code 75 = .ok (.invokevirtual 289, 3) := by decide +kernel
theorem d_R_does_78 : decode prog_14_method_68_code 78 = .ok (.aload_n 0, 1) := by decide +kernel
theorem d_R_does_79 : decode prog_14_method_68_code 79 = .ok (.iload_n 1, 1) := by decide +kernel
theorem d_R_does_80 : decode prog_14_method_68_code 80 = .ok (.iconst 3, 1) := by decide +kernel
theorem d_R_does_81 : decode prog_14_method_68_code 81 = .ok (.invokevirtual 289, 3) := by decide +kernel
theorem d_R_does_84 : decode prog_14_method_68_code 84 = .ok (.invokevirtual 295, 3) := by decide +kernel
theorem d_R_does_87 : decode prog_14_method_68_code 87 = .ok (.ireturn, 1) := by decide +kernel
theorem d_R_does_88 : decode prog_14_method_68_code 88 = .ok (.aload_n 0, 1) := by decide +kernel
theorem d_R_does_89 : decode prog_14_method_68_code 89 = .ok (.aload_n 0, 1) := by decide +kernel
theorem d_R_does_90 : decode prog_14_method_68_code 90 = .ok (.iload_n 1, 1) := by decide +kernel
theorem d_R_does_91 : decode prog_14_method_68_code 91 = .ok (.iconst 1, 1) := by decide +kernel
theorem d_R_does_92 : decode prog_14_method_68_code 92 = .ok (.invokevirtual 289, 3) := by decide +kernel
theorem d_R_does_95 : decode prog_14_method_68_code 95 = .ok (.aload_n 0, 1) := by decide +kernel
theorem d_R_does_96 : decode prog_14_method_68_code 96 = .ok (.iload_n 1, 1) := by decide +kernel
theorem d_R_does_97 : decode prog_14_method_68_code 97 = .ok (.iconst 2, 1) := by decide +kernel
theorem d_R_does_98 : decode prog_14_method_68_code 98 = .ok (.invokevirtual 289, 3) := by decide +kernel
theorem d_R_does_101 : decode prog_14_method_68_code 101 = .ok (.invokevirtual 298, 3) := by decide +kernel
theorem d_R_does_104 : decode prog_14_method_68_code 104 = .ok (.ireturn, 1) := by decide +kernel
theorem d_R_does_105 : decode prog_14_method_68_code 105 = .ok (.aload_n 0, 1) := by decide +kernel
theorem d_R_does_106 : decode prog_14_method_68_code 106 = .ok (.aload_n 0, 1) := by decide +kernel
theorem d_R_does_107 : decode prog_14_method_68_code 107 = .ok (.iload_n 1, 1) := by decide +kernel
theorem d_R_does_108 : decode prog_14_method_68_code 108 = .ok (.iconst 0, 1) := by decide +kernel
theorem d_R_does_109 : decode prog_14_method_68_code 109 = .ok (.invokevirtual 289, 3) := by decide +kernel
theorem d_R_does_112 : decode prog_14_method_68_code 112 = .ok (.invokevirtual 301, 3) := by decide +kernel
theorem d_R_does_115 : decode prog_14_method_68_code 115 = .ok (.ireturn, 1) := by decide +kernel
theorem d_R_does_116 : decode prog_14_method_68_code 116 = .ok (.aload_n 0, 1) := by decide +kernel
theorem d_R_does_117 : decode prog_14_method_68_code 117 = .ok (.aload_n 0, 1) := by decide +kernel
theorem d_R_does_118 : decode prog_14_method_68_code 118 = .ok (.iload_n 1, 1) := by decide +kernel
theorem d_R_does_119 : decode prog_14_method_68_code 119 = .ok (.iconst 0, 1) := by decide +kernel
theorem d_R_does_120 : decode prog_14_method_68_code 120 = .ok (.invokevirtual 289, 3) := by decide +kernel
theorem d_R_does_123 : decode prog_14_method_68_code 123 = .ok (.invokevirtual 304, 3) := by decide +kernel
theorem d_R_does_126 : decode prog_14_method_68_code 126 = .ok (.ireturn, 1) := by decide +kernel
theorem d_R_errorCode_0 : decode prog_14_method_31_code 0 = .ok (.aload_n 0, 1) := by decide +kernel
theorem d_R_errorCode_1 : decode prog_14_method_31_code 1 = .ok (.iconst 0, 1) := by decide +kernel
theorem d_R_errorCode_2 : decode prog_14_method_31_code 2 = .ok (.putfield 73, 3) := by decide +kernel
theorem d_R_errorCode_5 : decode prog_14_method_31_code 5 = .ok (.aload_n 0, 1) := by decide +kernel
theorem d_R_errorCode_6 : decode prog_14_method_31_code 6 = .ok (.getfield 132, 3) := by decide +kernel
theorem d_R_errorCode_9 : decode prog_14_method_31_code 9 = .ok (.ireturn, 1) := by decide +kernel
theorem d_R_errorPosition_0 : decode prog_14_method_32_code 0 = .ok (.aload_n 0, 1) := by decide +kernel
theorem d_R_errorPosition_1 : decode prog_14_method_32_code 1 = .ok (.iconst 0, 1) := by decide +kernel
theorem d_R_errorPosition_2 : decode prog_14_method_32_code 2 = .ok (.putfield 73, 3) := by decide +kernel
theorem d_R_errorPosition_5 : decode prog_14_method_32_code 5 = .ok (.aload_n 0, 1) := by decide +kernel
theorem d_R_errorPosition_6 : decode prog_14_method_32_code 6 = .ok (.getfield 32, 3) := by decide +kernel
theorem d_R_errorPosition_9 : decode prog_14_method_32_code 9 = .ok (.ireturn, 1) := by decide +kernel
theorem d_R_eventCount_0 : decode prog_14_method_74_code 0 = .ok (.aload_n 0, 1) := by decide +kernel
theorem d_R_eventCount_1 : decode prog_14_method_74_code 1 = .ok (.bipush 6, 2) := by decide +kernel
theorem d_R_eventCount_3 : decode prog_14_method_74_code 3 = .ok (.invokevirtual 324, 3) := by decide +kernel
theorem d_R_eventCount_6 : decode prog_14_method_74_code 6 = .ok (.ireturn, 1) := by decide +kernel
theorem d_R_eventNamed_0 : decode prog_14_method_45_code 0 = .ok (.aload_n 0, 1) := by decide +kernel
theorem d_R_eventNamed_1 : decode prog_14_method_45_code 1 = .ok (.iload_n 1, 1) := by decide +kernel
theorem d_R_eventNamed_2 : decode prog_14_method_45_code 2 = .ok (.bipush 16, 2) := by decide +kernel
theorem d_R_eventNamed_4 : decode prog_14_method_45_code 4 = .ok (.iconst 1, 1) := by decide +kernel
theorem d_R_eventNamed_5 : decode prog_14_method_45_code 5 = .ok (.aload_n 0, 1) := by decide +kernel
theorem d_R_eventNamed_6 : decode prog_14_method_45_code 6 = .ok (.getfield 7, 3) := by decide +kernel
theorem d_R_eventNamed_9 : decode prog_14_method_45_code 9 = .ok (.bipush 6, 2) := by decide +kernel
theorem d_R_eventNamed_11 : decode prog_14_method_45_code 11 = .ok (.iaload, 1) := by decide +kernel
theorem d_R_eventNamed_12 : decode prog_14_method_45_code 12 = .ok (.invokevirtual 178, 3) := by decide +kernel
theorem d_R_eventNamed_15 : decode prog_14_method_45_code 15 = .ok (.ireturn, 1) := by decide +kernel
theorem d_R_eventOf_0 : decode prog_14_method_87_code 0 = .ok (.aload_n 0, 1) := by decide +kernel
theorem d_R_eventOf_1 : decode prog_14_method_87_code 1 = .ok (.iload_n 1, 1) := by decide +kernel
theorem d_R_eventOf_2 : decode prog_14_method_87_code 2 = .ok (.iconst 1, 1) := by decide +kernel
theorem d_R_eventOf_3 : decode prog_14_method_87_code 3 = .ok (.invokevirtual 349, 3) := by decide +kernel
theorem d_R_eventOf_6 : decode prog_14_method_87_code 6 = .ok (.ireturn, 1) := by decide +kernel
theorem d_R_expectedAnswer_0 : decode prog_14_method_99_code 0 = .ok (.aload_n 0, 1) := by decide +kernel
theorem d_R_expectedAnswer_1 : decode prog_14_method_99_code 1 = .ok (.iconst 0, 1) := by decide +kernel
theorem d_R_expectedAnswer_2 : decode prog_14_method_99_code 2 = .ok (.putfield 73, 3) := by decide +kernel
theorem d_R_expectedAnswer_5 : decode prog_14_method_99_code 5 = .ok (.aload_n 0, 1) := by decide +kernel
theorem d_R_expectedAnswer_6 : decode prog_14_method_99_code 6 = .ok (.aload_n 0, 1) := by decide +kernel
theorem d_R_expectedAnswer_7 : decode prog_14_method_99_code 7 = .ok (.iload_n 1, 1) := by decide +kernel
theorem d_R_expectedAnswer_8 : decode prog_14_method_99_code 8 = .ok (.invokevirtual 346, 3) := by decide +kernel
theorem d_R_expectedAnswer_11 : decode prog_14_method_99_code 11 = .ok (.iconst 1, 1) := by decide +kernel
theorem d_R_expectedAnswer_12 : decode prog_14_method_99_code 12 = .ok (.invokevirtual 128, 3) := by decide +kernel
theorem d_R_expectedAnswer_15 : decode prog_14_method_99_code 15 = .ok (.ifCond .eq 11, 3) := by decide +kernel
theorem d_R_expectedAnswer_18 : decode prog_14_method_99_code 18 = .ok (.aload_n 0, 1) := by decide +kernel
theorem d_R_expectedAnswer_19 : decode prog_14_method_99_code 19 = .ok (.iload_n 1, 1) := by decide +kernel
theorem d_R_expectedAnswer_20 : decode prog_14_method_99_code 20 = .ok (.invokevirtual 107, 3) := by decide +kernel
theorem d_R_expectedAnswer_23 : decode prog_14_method_99_code 23 = .ok (.goto 4, 3) := by decide +kernel
theorem d_R_expectedAnswer_26 : decode prog_14_method_99_code 26 = .ok (.iconst 0, 1) := by decide +kernel
theorem d_R_expectedAnswer_27 : decode prog_14_method_99_code 27 = .ok (.ireturn, 1) := by decide +kernel
theorem d_R_packed_0 : decode prog_14_method_42_code 0 = .ok (.iconst 0, 1) := by decide +kernel
theorem d_R_packed_1 : decode prog_14_method_42_code 1 = .ok (.istore_n 3, 1) := by decide +kernel
theorem d_R_packed_2 : decode prog_14_method_42_code 2 = .ok (.iconst 0, 1) := by decide +kernel
theorem d_R_packed_3 : decode prog_14_method_42_code 3 = .ok (.istore 4, 2) := by decide +kernel
theorem d_R_packed_5 : decode prog_14_method_42_code 5 = .ok (.iload 4, 2) := by decide +kernel
theorem d_R_packed_7 : decode prog_14_method_42_code 7 = .ok (.iload_n 2, 1) := by decide +kernel
theorem d_R_packed_8 : decode prog_14_method_42_code 8 = .ok (.if_icmp .ge 27, 3) := by decide +kernel
theorem d_R_packed_11 : decode prog_14_method_42_code 11 = .ok (.bipush 27, 2) := by decide +kernel
theorem d_R_packed_13 : decode prog_14_method_42_code 13 = .ok (.iload_n 3, 1) := by decide +kernel
theorem d_R_packed_14 : decode prog_14_method_42_code 14 = .ok (.imul, 1) := by decide +kernel
theorem d_R_packed_15 : decode prog_14_method_42_code 15 = .ok (.aload_n 0, 1) := by decide +kernel
theorem d_R_packed_16 : decode prog_14_method_42_code 16 = .ok (.getfield 29, 3) := by decide +kernel
theorem d_R_packed_19 : decode prog_14_method_42_code 19 = .ok (.iload_n 1, 1) := by decide +kernel
theorem d_R_packed_20 : decode prog_14_method_42_code 20 = .ok (.iload 4, 2) := by decide +kernel
theorem d_R_packed_22 : decode prog_14_method_42_code 22 = .ok (.iadd, 1) := by decide +kernel
theorem d_R_packed_23 : decode prog_14_method_42_code 23 = .ok (.iaload, 1) := by decide +kernel
theorem d_R_packed_24 : decode prog_14_method_42_code 24 = .ok (.iadd, 1) := by decide +kernel
theorem d_R_packed_25 : decode prog_14_method_42_code 25 = .ok (.bipush 96, 2) := by decide +kernel
theorem d_R_packed_27 : decode prog_14_method_42_code 27 = .ok (.isub, 1) := by decide +kernel
theorem d_R_packed_28 : decode prog_14_method_42_code 28 = .ok (.istore_n 3, 1) := by decide +kernel
theorem d_R_packed_29 : decode prog_14_method_42_code 29 = .ok (.iinc 4 1, 3) := by decide +kernel
theorem d_R_packed_32 : decode prog_14_method_42_code 32 = .ok (.goto (-27), 3) := by decide +kernel
theorem d_R_packed_35 : decode prog_14_method_42_code 35 = .ok (.iload_n 3, 1) := by decide +kernel
theorem d_R_packed_36 : decode prog_14_method_42_code 36 = .ok (.ireturn, 1) := by decide +kernel
theorem d_R_findCustomer_0 : decode prog_14_method_77_code 0 = .ok (.aload_n 0, 1) := by decide +kernel
theorem d_R_findCustomer_1 : decode prog_14_method_77_code 1 = .ok (.iconst 0, 1) := by decide +kernel
theorem d_R_findCustomer_2 : decode prog_14_method_77_code 2 = .ok (.putfield 73, 3) := by decide +kernel
theorem d_R_findCustomer_5 : decode prog_14_method_77_code 5 = .ok (.aload_n 0, 1) := by decide +kernel
theorem d_R_findCustomer_6 : decode prog_14_method_77_code 6 = .ok (.getfield 64, 3) := by decide +kernel
theorem d_R_findCustomer_9 : decode prog_14_method_77_code 9 = .ok (.iconst 1, 1) := by decide +kernel
theorem d_R_findCustomer_10 : decode prog_14_method_77_code 10 = .ok (.bipush 6, 2) := by decide +kernel
theorem d_R_findCustomer_12 : decode prog_14_method_77_code 12 = .ok (.invokestatic 76, 3) := by decide +kernel
theorem d_R_findCustomer_15 : decode prog_14_method_77_code 15 = .ok (.ifCond .ne 5, 3) := by decide +kernel
theorem d_R_findCustomer_18 : decode prog_14_method_77_code 18 = .ok (.iconst (-1), 1) := by decide +kernel
theorem d_R_findCustomer_19 : decode prog_14_method_77_code 19 = .ok (.ireturn, 1) := by decide +kernel
theorem d_R_findCustomer_20 : decode prog_14_method_77_code 20 = .ok (.iconst 0, 1) := by decide +kernel
theorem d_R_findCustomer_21 : decode prog_14_method_77_code 21 = .ok (.istore_n 1, 1) := by decide +kernel
theorem d_R_findCustomer_22 : decode prog_14_method_77_code 22 = .ok (.iload_n 1, 1) := by decide +kernel
theorem d_R_findCustomer_23 : decode prog_14_method_77_code 23 = .ok (.aload_n 0, 1) := by decide +kernel
theorem d_R_findCustomer_24 : decode prog_14_method_77_code 24 = .ok (.getfield 64, 3) := by decide +kernel
theorem d_R_findCustomer_27 : decode prog_14_method_77_code 27 = .ok (.if_icmp .ge 27, 3) := by decide +kernel
theorem d_R_findCustomer_30 : decode prog_14_method_77_code 30 = .ok (.aload_n 0, 1) := by decide +kernel
theorem d_R_findCustomer_31 : decode prog_14_method_77_code 31 = .ok (.getfield 29, 3) := by decide +kernel
theorem d_R_findCustomer_34 : decode prog_14_method_77_code 34 = .ok (.iload_n 1, 1) := by decide +kernel
theorem d_R_findCustomer_35 : decode prog_14_method_77_code 35 = .ok (.iaload, 1) := by decide +kernel
theorem d_R_findCustomer_36 : decode prog_14_method_77_code 36 = .ok (.bipush 97, 2) := by decide +kernel
theorem d_R_findCustomer_38 : decode prog_14_method_77_code 38 = .ok (.bipush 122, 2) := by decide +kernel
theorem d_R_findCustomer_40 : decode prog_14_method_77_code 40 = .ok (.invokestatic 76, 3) := by decide +kernel
theorem d_R_findCustomer_43 : decode prog_14_method_77_code 43 = .ok (.ifCond .ne 5, 3) := by decide +kernel
theorem d_R_findCustomer_46 : decode prog_14_method_77_code 46 = .ok (.iconst (-1), 1) := by decide +kernel
theorem d_R_findCustomer_47 : decode prog_14_method_77_code 47 = .ok (.ireturn, 1) := by decide +kernel
theorem d_R_findCustomer_48 : decode prog_14_method_77_code 48 = .ok (.iinc 1 1, 3) := by decide +kernel
theorem d_R_findCustomer_51 : decode prog_14_method_77_code 51 = .ok (.goto (-29), 3) := by decide +kernel
theorem d_R_findCustomer_54 : decode prog_14_method_77_code 54 = .ok (.aload_n 0, 1) := by decide +kernel
theorem d_R_findCustomer_55 : decode prog_14_method_77_code 55 = .ok (.aload_n 0, 1) := by decide +kernel
theorem d_R_findCustomer_56 : decode prog_14_method_77_code 56 = .ok (.iconst 0, 1) := by decide +kernel
theorem d_R_findCustomer_57 : decode prog_14_method_77_code 57 = .ok (.aload_n 0, 1) := by decide +kernel
theorem d_R_findCustomer_58 : decode prog_14_method_77_code 58 = .ok (.getfield 64, 3) := by decide +kernel
theorem d_R_findCustomer_61 : decode prog_14_method_77_code 61 = .ok (.invokevirtual 175, 3) := by decide +kernel
theorem d_R_findCustomer_64 : decode prog_14_method_77_code 64 = .ok (.invokevirtual 195, 3) := by decide +kernel
theorem d_R_findCustomer_67 : decode prog_14_method_77_code 67 = .ok (.ireturn, 1) := by decide +kernel
theorem d_R_finds_0 : decode prog_14_method_79_code 0 = .ok (.aload_n 0, 1) := by decide +kernel
theorem d_R_finds_1 : decode prog_14_method_79_code 1 = .ok (.iconst 0, 1) := by decide +kernel
theorem d_R_finds_2 : decode prog_14_method_79_code 2 = .ok (.putfield 73, 3) := by decide +kernel
theorem d_R_finds_5 : decode prog_14_method_79_code 5 = .ok (.aload_n 0, 1) := by decide +kernel
theorem d_R_finds_6 : decode prog_14_method_79_code 6 = .ok (.aload_n 0, 1) := by decide +kernel
theorem d_R_finds_7 : decode prog_14_method_79_code 7 = .ok (.iload_n 1, 1) := by decide +kernel
theorem d_R_finds_8 : decode prog_14_method_79_code 8 = .ok (.invokevirtual 330, 3) := by decide +kernel
theorem d_R_finds_11 : decode prog_14_method_79_code 11 = .ok (.ifCond .eq 15, 3) := by decide +kernel
theorem d_R_finds_14 : decode prog_14_method_79_code 14 = .ok (.aload_n 0, 1) := by decide +kernel
theorem d_R_finds_15 : decode prog_14_method_79_code 15 = .ok (.iload_n 2, 1) := by decide +kernel
theorem d_R_finds_16 : decode prog_14_method_79_code 16 = .ok (.invokevirtual 333, 3) := by decide +kernel
theorem d_R_finds_19 : decode prog_14_method_79_code 19 = .ok (.ifCond .eq 7, 3) := by decide +kernel
theorem d_R_finds_22 : decode prog_14_method_79_code 22 = .ok (.iconst 1, 1) := by decide +kernel
theorem d_R_finds_23 : decode prog_14_method_79_code 23 = .ok (.goto 4, 3) := by decide +kernel
theorem d_R_finds_26 : decode prog_14_method_79_code 26 = .ok (.iconst 0, 1) := by decide +kernel
theorem d_R_finds_27 : decode prog_14_method_79_code 27 = .ok (.iconst 1, 1) := by decide +kernel
theorem d_R_finds_28 : decode prog_14_method_79_code 28 = .ok (.invokevirtual 128, 3) := by decide +kernel
theorem d_R_finds_31 : decode prog_14_method_79_code 31 = .ok (.ireturn, 1) := by decide +kernel
theorem d_R_firstDay_0 : decode prog_14_method_90_code 0 = .ok (.aload_n 0, 1) := by decide +kernel
theorem d_R_firstDay_1 : decode prog_14_method_90_code 1 = .ok (.iload_n 1, 1) := by decide +kernel
theorem d_R_firstDay_2 : decode prog_14_method_90_code 2 = .ok (.iconst 4, 1) := by decide +kernel
theorem d_R_firstDay_3 : decode prog_14_method_90_code 3 = .ok (.invokevirtual 349, 3) := by decide +kernel
theorem d_R_firstDay_6 : decode prog_14_method_90_code 6 = .ok (.ireturn, 1) := by decide +kernel
theorem d_R_seen_0 : decode prog_14_method_33_code 0 = .ok (.iload_n 1, 1) := by decide +kernel
theorem d_R_seen_1 : decode prog_14_method_33_code 1 = .ok (.aload_n 0, 1) := by decide +kernel
theorem d_R_seen_2 : decode prog_14_method_33_code 2 = .ok (.getfield 64, 3) := by decide +kernel
theorem d_R_seen_5 : decode prog_14_method_33_code 5 = .ok (.if_icmp .ge 12, 3) := by decide +kernel
theorem d_R_seen_8 : decode prog_14_method_33_code 8 = .ok (.aload_n 0, 1) := by decide +kernel
theorem d_R_seen_9 : decode prog_14_method_33_code 9 = .ok (.getfield 29, 3) := by decide +kernel
theorem d_R_seen_12 : decode prog_14_method_33_code 12 = .ok (.iload_n 1, 1) := by decide +kernel
theorem d_R_seen_13 : decode prog_14_method_33_code 13 = .ok (.iaload, 1) := by decide +kernel
theorem d_R_seen_14 : decode prog_14_method_33_code 14 = .ok (.goto 4, 3) := by decide +kernel
theorem d_R_seen_17 : decode prog_14_method_33_code 17 = .ok (.iconst (-1), 1) := by decide +kernel
theorem d_R_seen_18 : decode prog_14_method_33_code 18 = .ok (.ireturn, 1) := by decide +kernel
theorem d_R_reads_0 : decode prog_14_method_34_code 0 = .ok (.aload_n 0, 1) := by decide +kernel
theorem d_R_reads_1 : decode prog_14_method_34_code 1 = .ok (.aload_n 0, 1) := by decide +kernel
theorem d_R_reads_2 : decode prog_14_method_34_code 2 = .ok (.getfield 135, 3) := by decide +kernel
theorem d_R_reads_5 : decode prog_14_method_34_code 5 = .ok (.invokevirtual 138, 3) := by decide +kernel
theorem d_R_reads_8 : decode prog_14_method_34_code 8 = .ok (.bipush 32, 2) := by decide +kernel
theorem d_R_reads_10 : decode prog_14_method_34_code 10 = .ok (.if_icmp .eq 16, 3) := by decide +kernel
theorem d_R_reads_13 : decode prog_14_method_34_code 13 = .ok (.aload_n 0, 1) := by decide +kernel
theorem d_R_reads_14 : decode prog_14_method_34_code 14 = .ok (.aload_n 0, 1) := by decide +kernel
theorem d_R_reads_15 : decode prog_14_method_34_code 15 = .ok (.getfield 135, 3) := by decide +kernel
theorem d_R_reads_18 : decode prog_14_method_34_code 18 = .ok (.invokevirtual 138, 3) := by decide +kernel
theorem d_R_reads_21 : decode prog_14_method_34_code 21 = .ok (.bipush 10, 2) := by decide +kernel
theorem d_R_reads_23 : decode prog_14_method_34_code 23 = .ok (.if_icmp .ne 16, 3) := by decide +kernel
theorem d_R_reads_26 : decode prog_14_method_34_code 26 = .ok (.aload_n 0, 1) := by decide +kernel
theorem d_R_reads_27 : decode prog_14_method_34_code 27 = .ok (.dup, 1) := by decide +kernel
theorem d_R_reads_28 : decode prog_14_method_34_code 28 = .ok (.getfield 135, 3) := by decide +kernel
theorem d_R_reads_31 : decode prog_14_method_34_code 31 = .ok (.iconst 1, 1) := by decide +kernel
theorem d_R_reads_32 : decode prog_14_method_34_code 32 = .ok (.iadd, 1) := by decide +kernel
theorem d_R_reads_33 : decode prog_14_method_34_code 33 = .ok (.putfield 135, 3) := by decide +kernel
theorem d_R_reads_36 : decode prog_14_method_34_code 36 = .ok (.goto (-36), 3) := by decide +kernel
theorem d_R_reads_39 : decode prog_14_method_34_code 39 = .ok (.aload_n 0, 1) := by decide +kernel
theorem d_R_reads_40 : decode prog_14_method_34_code 40 = .ok (.aload_n 0, 1) := by decide +kernel
theorem d_R_reads_41 : decode prog_14_method_34_code 41 = .ok (.getfield 135, 3) := by decide +kernel
theorem d_R_reads_44 : decode prog_14_method_34_code 44 = .ok (.putfield 141, 3) := by decide +kernel
theorem d_R_reads_47 : decode prog_14_method_34_code 47 = .ok (.aload_n 0, 1) := by decide +kernel
theorem d_R_reads_48 : decode prog_14_method_34_code 48 = .ok (.aload_n 0, 1) := by decide +kernel
theorem d_R_reads_49 : decode prog_14_method_34_code 49 = .ok (.getfield 135, 3) := by decide +kernel
theorem d_R_reads_52 : decode prog_14_method_34_code 52 = .ok (.invokevirtual 138, 3) := by decide +kernel
theorem d_R_reads_55 : decode prog_14_method_34_code 55 = .ok (.istore_n 1, 1) := by decide +kernel
theorem d_R_reads_56 : decode prog_14_method_34_code 56 = .ok (.iload_n 1, 1) := by decide +kernel
theorem d_R_reads_57 : decode prog_14_method_34_code 57 = .ok (.iconst (-1), 1) := by decide +kernel
theorem d_R_reads_58 : decode prog_14_method_34_code 58 = .ok (.if_icmp .ne 11, 3) := by decide +kernel
theorem d_R_reads_61 : decode prog_14_method_34_code 61 = .ok (.aload_n 0, 1) := by decide +kernel
theorem d_R_reads_62 : decode prog_14_method_34_code 62 = .ok (.iconst 0, 1) := by decide +kernel
theorem d_R_reads_63 : decode prog_14_method_34_code 63 = .ok (.putfield 144, 3) := by decide +kernel
theorem d_R_reads_66 : decode prog_14_method_34_code 66 = .ok (.goto 167, 3) := by decide +kernel
theorem d_R_reads_69 : decode prog_14_method_34_code 69 = .ok (.iload_n 1, 1) := by decide +kernel
theorem d_R_reads_70 : decode prog_14_method_34_code 70 = .ok (.bipush 97, 2) := by decide +kernel
theorem d_R_reads_72 : decode prog_14_method_34_code 72 = .ok (.bipush 122, 2) := by decide +kernel
theorem d_R_reads_74 : decode prog_14_method_34_code 74 = .ok (.invokestatic 76, 3) := by decide +kernel
theorem d_R_reads_77 : decode prog_14_method_34_code 77 = .ok (.ifCond .eq 39, 3) := by decide +kernel
theorem d_R_reads_80 : decode prog_14_method_34_code 80 = .ok (.aload_n 0, 1) := by decide +kernel
theorem d_R_reads_81 : decode prog_14_method_34_code 81 = .ok (.iconst 1, 1) := by decide +kernel
theorem d_R_reads_82 : decode prog_14_method_34_code 82 = .ok (.putfield 144, 3) := by decide +kernel
theorem d_R_reads_85 : decode prog_14_method_34_code 85 = .ok (.aload_n 0, 1) := by decide +kernel
theorem d_R_reads_86 : decode prog_14_method_34_code 86 = .ok (.aload_n 0, 1) := by decide +kernel
theorem d_R_reads_87 : decode prog_14_method_34_code 87 = .ok (.getfield 135, 3) := by decide +kernel
theorem d_R_reads_90 : decode prog_14_method_34_code 90 = .ok (.invokevirtual 138, 3) := by decide +kernel
theorem d_R_reads_93 : decode prog_14_method_34_code 93 = .ok (.bipush 97, 2) := by decide +kernel
theorem d_R_reads_95 : decode prog_14_method_34_code 95 = .ok (.bipush 122, 2) := by decide +kernel
theorem d_R_reads_97 : decode prog_14_method_34_code 97 = .ok (.invokestatic 76, 3) := by decide +kernel
theorem d_R_reads_100 : decode prog_14_method_34_code 100 = .ok (.ifCond .eq 133, 3) := by decide +kernel
theorem d_R_reads_103 : decode prog_14_method_34_code 103 = .ok (.aload_n 0, 1) := by decide +kernel
theorem d_R_reads_104 : decode prog_14_method_34_code 104 = .ok (.dup, 1) := by decide +kernel
theorem d_R_reads_105 : decode prog_14_method_34_code 105 = .ok (.getfield 135, 3) := by decide +kernel
theorem d_R_reads_108 : decode prog_14_method_34_code 108 = .ok (.iconst 1, 1) := by decide +kernel
theorem d_R_reads_109 : decode prog_14_method_34_code 109 = .ok (.iadd, 1) := by decide +kernel
theorem d_R_reads_110 : decode prog_14_method_34_code 110 = .ok (.putfield 135, 3) := by decide +kernel
theorem d_R_reads_113 : decode prog_14_method_34_code 113 = .ok (.goto (-28), 3) := by decide +kernel
theorem d_R_reads_116 : decode prog_14_method_34_code 116 = .ok (.iload_n 1, 1) := by decide +kernel
theorem d_R_reads_117 : decode prog_14_method_34_code 117 = .ok (.bipush 48, 2) := by decide +kernel
theorem d_R_reads_119 : decode prog_14_method_34_code 119 = .ok (.bipush 57, 2) := by decide +kernel
theorem d_R_reads_121 : decode prog_14_method_34_code 121 = .ok (.invokestatic 76, 3) := by decide +kernel
theorem d_R_reads_124 : decode prog_14_method_34_code 124 = .ok (.ifCond .eq 72, 3) := by decide +kernel
theorem d_R_reads_127 : decode prog_14_method_34_code 127 = .ok (.aload_n 0, 1) := by decide +kernel
theorem d_R_reads_128 : decode prog_14_method_34_code 128 = .ok (.iconst 2, 1) := by decide +kernel
theorem d_R_reads_129 : decode prog_14_method_34_code 129 = .ok (.putfield 144, 3) := by decide +kernel
theorem d_R_reads_132 : decode prog_14_method_34_code 132 = .ok (.aload_n 0, 1) := by decide +kernel
theorem d_R_reads_133 : decode prog_14_method_34_code 133 = .ok (.iconst 0, 1) := by decide +kernel
theorem d_R_reads_134 : decode prog_14_method_34_code 134 = .ok (.putfield 147, 3) := by decide +kernel
theorem d_R_reads_137 : decode prog_14_method_34_code 137 = .ok (.aload_n 0, 1) := by decide +kernel
theorem d_R_reads_138 : decode prog_14_method_34_code 138 = .ok (.aload_n 0, 1) := by decide +kernel
theorem d_R_reads_139 : decode prog_14_method_34_code 139 = .ok (.getfield 135, 3) := by decide +kernel
theorem d_R_reads_142 : decode prog_14_method_34_code 142 = .ok (.invokevirtual 138, 3) := by decide +kernel
theorem d_R_reads_145 : decode prog_14_method_34_code 145 = .ok (.bipush 48, 2) := by decide +kernel
theorem d_R_reads_147 : decode prog_14_method_34_code 147 = .ok (.bipush 57, 2) := by decide +kernel
theorem d_R_reads_149 : decode prog_14_method_34_code 149 = .ok (.invokestatic 76, 3) := by decide +kernel
theorem d_R_reads_152 : decode prog_14_method_34_code 152 = .ok (.ifCond .eq 81, 3) := by decide +kernel
theorem d_R_reads_155 : decode prog_14_method_34_code 155 = .ok (.aload_n 0, 1) := by decide +kernel
theorem d_R_reads_156 : decode prog_14_method_34_code 156 = .ok (.ldc 150, 2) := by decide +kernel
theorem d_R_reads_158 : decode prog_14_method_34_code 158 = .ok (.bipush 10, 2) := by decide +kernel
theorem d_R_reads_160 : decode prog_14_method_34_code 160 = .ok (.aload_n 0, 1) := by decide +kernel
theorem d_R_reads_161 : decode prog_14_method_34_code 161 = .ok (.getfield 147, 3) := by decide +kernel
theorem d_R_reads_164 : decode prog_14_method_34_code 164 = .ok (.imul, 1) := by decide +kernel
theorem d_R_reads_165 : decode prog_14_method_34_code 165 = .ok (.aload_n 0, 1) := by decide +kernel
theorem d_R_reads_166 : decode prog_14_method_34_code 166 = .ok (.aload_n 0, 1) := by decide +kernel
theorem d_R_reads_167 : decode prog_14_method_34_code 167 = .ok (.getfield 135, 3) := by decide +kernel
theorem d_R_reads_170 : decode prog_14_method_34_code 170 = .ok (.invokevirtual 138, 3) := by decide +kernel
theorem d_R_reads_173 : decode prog_14_method_34_code 173 = .ok (.iadd, 1) := by decide +kernel
theorem d_R_reads_174 : decode prog_14_method_34_code 174 = .ok (.bipush 48, 2) := by decide +kernel
theorem d_R_reads_176 : decode prog_14_method_34_code 176 = .ok (.isub, 1) := by decide +kernel
theorem d_R_reads_177 : decode prog_14_method_34_code 177 = .ok (.invokestatic 151, 3) := by decide +kernel
theorem d_R_reads_180 : decode prog_14_method_34_code 180 = .ok (.putfield 147, 3) := by decide +kernel
theorem d_R_reads_183 : decode prog_14_method_34_code 183 = .ok (.aload_n 0, 1) := by decide +kernel
theorem d_R_reads_184 : decode prog_14_method_34_code 184 = .ok (.dup, 1) := by decide +kernel
theorem d_R_reads_185 : decode prog_14_method_34_code 185 = .ok (.getfield 135, 3) := by decide +kernel
theorem d_R_reads_188 : decode prog_14_method_34_code 188 = .ok (.iconst 1, 1) := by decide +kernel
theorem d_R_reads_189 : decode prog_14_method_34_code 189 = .ok (.iadd, 1) := by decide +kernel
theorem d_R_reads_190 : decode prog_14_method_34_code 190 = .ok (.putfield 135, 3) := by decide +kernel
theorem d_R_reads_193 : decode prog_14_method_34_code 193 = .ok (.goto (-56), 3) := by decide +kernel
theorem d_R_reads_196 : decode prog_14_method_34_code 196 = .ok (.aload_n 0, 1) := by decide +kernel
theorem d_R_reads_197 : decode prog_14_method_34_code 197 = .ok (.iload_n 1, 1) := by decide +kernel
theorem d_R_reads_198 : decode prog_14_method_34_code 198 = .ok (.bipush 59, 2) := by decide +kernel
theorem d_R_reads_200 : decode prog_14_method_34_code 200 = .ok (.if_icmp .eq 15, 3) := by decide +kernel
theorem d_R_reads_203 : decode prog_14_method_34_code 203 = .ok (.iload_n 1, 1) := by decide +kernel
theorem d_R_reads_204 : decode prog_14_method_34_code 204 = .ok (.bipush 40, 2) := by decide +kernel
theorem d_R_reads_206 : decode prog_14_method_34_code 206 = .ok (.if_icmp .eq 9, 3) := by decide +kernel
theorem d_R_reads_209 : decode prog_14_method_34_code 209 = .ok (.iload_n 1, 1) := by decide +kernel
theorem d_R_reads_210 : decode prog_14_method_34_code 210 = .ok (.bipush 41, 2) := by decide +kernel
theorem d_R_reads_212 : decode prog_14_method_34_code 212 = .ok (.if_icmp .ne 7, 3) := by decide +kernel
theorem d_R_reads_215 : decode prog_14_method_34_code 215 = .ok (.iconst 3, 1) := by decide +kernel
theorem d_R_reads_216 : decode prog_14_method_34_code 216 = .ok (.goto 4, 3) := by decide +kernel
theorem d_R_reads_219 : decode prog_14_method_34_code 219 = .ok (.iconst 4, 1) := by decide +kernel
theorem d_R_reads_220 : decode prog_14_method_34_code 220 = .ok (.putfield 144, 3) := by decide +kernel
theorem d_R_reads_223 : decode prog_14_method_34_code 223 = .ok (.aload_n 0, 1) := by decide +kernel
theorem d_R_reads_224 : decode prog_14_method_34_code 224 = .ok (.dup, 1) := by decide +kernel
theorem d_R_reads_225 : decode prog_14_method_34_code 225 = .ok (.getfield 135, 3) := by decide +kernel
theorem d_R_reads_228 : decode prog_14_method_34_code 228 = .ok (.iconst 1, 1) := by decide +kernel
theorem d_R_reads_229 : decode prog_14_method_34_code 229 = .ok (.iadd, 1) := by decide +kernel
theorem d_R_reads_230 : decode prog_14_method_34_code 230 = .ok (.putfield 135, 3) := by decide +kernel
theorem d_R_reads_233 : decode prog_14_method_34_code 233 = .ok (.return_, 1) := by decide +kernel
theorem d_R_goesOn_0 : decode prog_14_method_37_code 0 = .ok (.aload_n 0, 1) := by decide +kernel
theorem d_R_goesOn_1 : decode prog_14_method_37_code 1 = .ok (.getfield 156, 3) := by decide +kernel
theorem d_R_goesOn_4 : decode prog_14_method_37_code 4 = .ok (.ifCond .ne 7, 3) := by decide +kernel
theorem d_R_goesOn_7 : decode prog_14_method_37_code 7 = .ok (.aload_n 0, 1) := by decide +kernel
theorem d_R_goesOn_8 : decode prog_14_method_37_code 8 = .ok (.invokevirtual 162, 3) := by decide +kernel
theorem d_R_goesOn_11 : decode prog_14_method_37_code 11 = .ok (.return_, 1) := by decide +kernel
theorem d_R_handledRequests_0 : decode prog_14_method_106_code 0 = .ok (.aload_n 0, 1) := by decide +kernel
theorem d_R_handledRequests_1 : decode prog_14_method_106_code 1 = .ok (.bipush 13, 2) := by decide +kernel
theorem d_R_handledRequests_3 : decode prog_14_method_106_code 3 = .ok (.invokevirtual 324, 3) := by decide +kernel
theorem d_R_handledRequests_6 : decode prog_14_method_106_code 6 = .ok (.ireturn, 1) := by decide +kernel
theorem d_R_happen_0 : decode prog_14_method_122_code 0 = .ok (.aload_n 0, 1) := by decide +kernel
theorem d_R_happen_1 : decode prog_14_method_122_code 1 = .ok (.iconst 0, 1) := by decide +kernel
theorem d_R_happen_2 : decode prog_14_method_122_code 2 = .ok (.putfield 73, 3) := by decide +kernel
theorem d_R_happen_5 : decode prog_14_method_122_code 5 = .ok (.aload_n 0, 1) := by decide +kernel
theorem d_R_happen_6 : decode prog_14_method_122_code 6 = .ok (.iload_n 1, 1) := by decide +kernel
theorem d_R_happen_7 : decode prog_14_method_122_code 7 = .ok (.iload_n 2, 1) := by decide +kernel
theorem d_R_happen_8 : decode prog_14_method_122_code 8 = .ok (.invokevirtual 298, 3) := by decide +kernel
theorem d_R_happen_11 : decode prog_14_method_122_code 11 = .ok (.ireturn, 1) := by decide +kernel
theorem d_R_hasHappened_0 : decode prog_14_method_81_code 0 = .ok (.aload_n 0, 1) := by decide +kernel
theorem d_R_hasHappened_1 : decode prog_14_method_81_code 1 = .ok (.iload_n 1, 1) := by decide +kernel
theorem d_R_hasHappened_2 : decode prog_14_method_81_code 2 = .ok (.iload_n 2, 1) := by decide +kernel
theorem d_R_hasHappened_3 : decode prog_14_method_81_code 3 = .ok (.invokevirtual 336, 3) := by decide +kernel
theorem d_R_hasHappened_6 : decode prog_14_method_81_code 6 = .ok (.ifCond .eq 21, 3) := by decide +kernel
theorem d_R_hasHappened_9 : decode prog_14_method_81_code 9 = .ok (.iload_n 3, 1) := by decide +kernel
theorem d_R_hasHappened_10 : decode prog_14_method_81_code 10 = .ok (.ifCond .lt 17, 3) := by decide +kernel
theorem d_R_hasHappened_13 : decode prog_14_method_81_code 13 = .ok (.aload_n 0, 1) := by decide +kernel
theorem d_R_hasHappened_14 : decode prog_14_method_81_code 14 = .ok (.iload_n 1, 1) := by decide +kernel
theorem d_R_hasHappened_15 : decode prog_14_method_81_code 15 = .ok (.iload_n 2, 1) := by decide +kernel
theorem d_R_hasHappened_16 : decode prog_14_method_81_code 16 = .ok (.iload_n 3, 1) := by decide +kernel
theorem d_R_hasHappened_17 : decode prog_14_method_81_code 17 = .ok (.invokevirtual 339, 3) := by decide +kernel
theorem d_R_hasHappened_20 : decode prog_14_method_81_code 20 = .ok (.ifCond .le 7, 3) := by decide +kernel
theorem d_R_hasHappened_23 : decode prog_14_method_81_code 23 = .ok (.iconst 1, 1) := by decide +kernel
theorem d_R_hasHappened_24 : decode prog_14_method_81_code 24 = .ok (.goto 4, 3) := by decide +kernel
theorem d_R_hasHappened_27 : decode prog_14_method_81_code 27 = .ok (.iconst 0, 1) := by decide +kernel
theorem d_R_hasHappened_28 : decode prog_14_method_81_code 28 = .ok (.ireturn, 1) := by decide +kernel
theorem d_R_idleOwls_0 : decode prog_14_method_100_code 0 = .ok (.aload_n 0, 1) := by decide +kernel
theorem d_R_idleOwls_1 : decode prog_14_method_100_code 1 = .ok (.iconst 0, 1) := by decide +kernel
theorem d_R_idleOwls_2 : decode prog_14_method_100_code 2 = .ok (.putfield 73, 3) := by decide +kernel
theorem d_R_idleOwls_5 : decode prog_14_method_100_code 5 = .ok (.iconst 0, 1) := by decide +kernel
theorem d_R_idleOwls_6 : decode prog_14_method_100_code 6 = .ok (.istore_n 1, 1) := by decide +kernel
theorem d_R_idleOwls_7 : decode prog_14_method_100_code 7 = .ok (.iconst 0, 1) := by decide +kernel
theorem d_R_idleOwls_8 : decode prog_14_method_100_code 8 = .ok (.istore_n 2, 1) := by decide +kernel
theorem d_R_idleOwls_9 : decode prog_14_method_100_code 9 = .ok (.iload_n 2, 1) := by decide +kernel
theorem d_R_idleOwls_10 : decode prog_14_method_100_code 10 = .ok (.aload_n 0, 1) := by decide +kernel
theorem d_R_idleOwls_11 : decode prog_14_method_100_code 11 = .ok (.getfield 7, 3) := by decide +kernel
theorem d_R_idleOwls_14 : decode prog_14_method_100_code 14 = .ok (.bipush 9, 2) := by decide +kernel
theorem d_R_idleOwls_16 : decode prog_14_method_100_code 16 = .ok (.iaload, 1) := by decide +kernel
theorem d_R_idleOwls_17 : decode prog_14_method_100_code 17 = .ok (.if_icmp .ge 21, 3) := by decide +kernel
theorem d_R_idleOwls_20 : decode prog_14_method_100_code 20 = .ok (.aload_n 0, 1) := by decide +kernel
theorem d_R_idleOwls_21 : decode prog_14_method_100_code 21 = .ok (.iload_n 2, 1) := by decide +kernel
theorem d_R_idleOwls_22 : decode prog_14_method_100_code 22 = .ok (.iconst 1, 1) := by decide +kernel
theorem d_R_idleOwls_23 : decode prog_14_method_100_code 23 = .ok (.invokevirtual 95, 3) := by decide +kernel
theorem d_R_idleOwls_26 : decode prog_14_method_100_code 26 = .ok (.ifCond .ne 6, 3) := by decide +kernel
theorem d_R_idleOwls_29 : decode prog_14_method_100_code 29 = .ok (.iinc 1 1, 3) := by decide +kernel
theorem d_R_idleOwls_32 : decode prog_14_method_100_code 32 = .ok (.iinc 2 1, 3) := by decide +kernel
theorem d_R_idleOwls_35 : decode prog_14_method_100_code 35 = .ok (.goto (-26), 3) := by decide +kernel
theorem d_R_idleOwls_38 : decode prog_14_method_100_code 38 = .ok (.iload_n 1, 1) := by decide +kernel
theorem d_R_idleOwls_39 : decode prog_14_method_100_code 39 = .ok (.ireturn, 1) := by decide +kernel
theorem d_R_isDenial_0 : decode prog_14_method_89_code 0 = .ok (.aload_n 0, 1) := by decide +kernel
theorem d_R_isDenial_1 : decode prog_14_method_89_code 1 = .ok (.iload_n 1, 1) := by decide +kernel
theorem d_R_isDenial_2 : decode prog_14_method_89_code 2 = .ok (.iconst 3, 1) := by decide +kernel
theorem d_R_isDenial_3 : decode prog_14_method_89_code 3 = .ok (.invokevirtual 349, 3) := by decide +kernel
theorem d_R_isDenial_6 : decode prog_14_method_89_code 6 = .ok (.iconst 1, 1) := by decide +kernel
theorem d_R_isDenial_7 : decode prog_14_method_89_code 7 = .ok (.if_icmp .ne 7, 3) := by decide +kernel
theorem d_R_isDenial_10 : decode prog_14_method_89_code 10 = .ok (.iconst 1, 1) := by decide +kernel
theorem d_R_isDenial_11 : decode prog_14_method_89_code 11 = .ok (.goto 4, 3) := by decide +kernel
theorem d_R_isDenial_14 : decode prog_14_method_89_code 14 = .ok (.iconst 0, 1) := by decide +kernel
theorem d_R_isDenial_15 : decode prog_14_method_89_code 15 = .ok (.ireturn, 1) := by decide +kernel
theorem d_R_isSign_0 : decode prog_14_method_38_code 0 = .ok (.aload_n 0, 1) := by decide +kernel
theorem d_R_isSign_1 : decode prog_14_method_38_code 1 = .ok (.getfield 156, 3) := by decide +kernel
theorem d_R_isSign_4 : decode prog_14_method_38_code 4 = .ok (.ifCond .ne 27, 3) := by decide +kernel
theorem d_R_isSign_7 : decode prog_14_method_38_code 7 = .ok (.aload_n 0, 1) := by decide +kernel
theorem d_R_isSign_8 : decode prog_14_method_38_code 8 = .ok (.getfield 144, 3) := by decide +kernel
theorem d_R_isSign_11 : decode prog_14_method_38_code 11 = .ok (.iconst 3, 1) := by decide +kernel
theorem d_R_isSign_12 : decode prog_14_method_38_code 12 = .ok (.if_icmp .ne 19, 3) := by decide +kernel
theorem d_R_isSign_15 : decode prog_14_method_38_code 15 = .ok (.aload_n 0, 1) := by decide +kernel
theorem d_R_isSign_16 : decode prog_14_method_38_code 16 = .ok (.aload_n 0, 1) := by decide +kernel
theorem d_R_isSign_17 : decode prog_14_method_38_code 17 = .ok (.getfield 141, 3) := by decide +kernel
theorem d_R_isSign_20 : decode prog_14_method_38_code 20 = .ok (.invokevirtual 138, 3) := by decide +kernel
theorem d_R_isSign_23 : decode prog_14_method_38_code 23 = .ok (.iload_n 1, 1) := by decide +kernel
theorem d_R_isSign_24 : decode prog_14_method_38_code 24 = .ok (.if_icmp .ne 7, 3) := by decide +kernel
theorem d_R_isSign_27 : decode prog_14_method_38_code 27 = .ok (.iconst 1, 1) := by decide +kernel
theorem d_R_isSign_28 : decode prog_14_method_38_code 28 = .ok (.goto 4, 3) := by decide +kernel
theorem d_R_isSign_31 : decode prog_14_method_38_code 31 = .ok (.iconst 0, 1) := by decide +kernel
theorem d_R_isSign_32 : decode prog_14_method_38_code 32 = .ok (.ireturn, 1) := by decide +kernel
theorem d_R_isWhole_0 : decode prog_14_method_52_code 0 = .ok (.aload_n 0, 1) := by decide +kernel
theorem d_R_isWhole_1 : decode prog_14_method_52_code 1 = .ok (.iconst 0, 1) := by decide +kernel
theorem d_R_isWhole_2 : decode prog_14_method_52_code 2 = .ok (.putfield 64, 3) := by decide +kernel
theorem d_R_isWhole_5 : decode prog_14_method_52_code 5 = .ok (.aload_n 0, 1) := by decide +kernel
theorem d_R_isWhole_6 : decode prog_14_method_52_code 6 = .ok (.aload_n 0, 1) := by decide +kernel
theorem d_R_isWhole_7 : decode prog_14_method_52_code 7 = .ok (.getfield 156, 3) := by decide +kernel
theorem d_R_isWhole_10 : decode prog_14_method_52_code 10 = .ok (.putfield 132, 3) := by decide +kernel
theorem d_R_isWhole_13 : decode prog_14_method_52_code 13 = .ok (.aload_n 0, 1) := by decide +kernel
theorem d_R_isWhole_14 : decode prog_14_method_52_code 14 = .ok (.aload_n 0, 1) := by decide +kernel
theorem d_R_isWhole_15 : decode prog_14_method_52_code 15 = .ok (.getfield 159, 3) := by decide +kernel
theorem d_R_isWhole_18 : decode prog_14_method_52_code 18 = .ok (.putfield 32, 3) := by decide +kernel
theorem d_R_isWhole_21 : decode prog_14_method_52_code 21 = .ok (.aload_n 0, 1) := by decide +kernel
theorem d_R_isWhole_22 : decode prog_14_method_52_code 22 = .ok (.getfield 156, 3) := by decide +kernel
theorem d_R_isWhole_25 : decode prog_14_method_52_code 25 = .ok (.ifCond .ne 7, 3) := by decide +kernel
theorem d_R_isWhole_28 : decode prog_14_method_52_code 28 = .ok (.iconst 1, 1) := by decide +kernel
theorem d_R_isWhole_29 : decode prog_14_method_52_code 29 = .ok (.goto 4, 3) := by decide +kernel
theorem d_R_isWhole_32 : decode prog_14_method_52_code 32 = .ok (.iconst 0, 1) := by decide +kernel
theorem d_R_isWhole_33 : decode prog_14_method_52_code 33 = .ok (.ireturn, 1) := by decide +kernel
theorem d_R_lastDay_0 : decode prog_14_method_91_code 0 = .ok (.aload_n 0, 1) := by decide +kernel
theorem d_R_lastDay_1 : decode prog_14_method_91_code 1 = .ok (.iload_n 1, 1) := by decide +kernel
theorem d_R_lastDay_2 : decode prog_14_method_91_code 2 = .ok (.iconst 5, 1) := by decide +kernel
theorem d_R_lastDay_3 : decode prog_14_method_91_code 3 = .ok (.invokevirtual 349, 3) := by decide +kernel
theorem d_R_lastDay_6 : decode prog_14_method_91_code 6 = .ok (.ireturn, 1) := by decide +kernel
theorem d_R_lays_0 : decode prog_14_method_59_code 0 = .ok (.aload_n 0, 1) := by decide +kernel
theorem d_R_lays_1 : decode prog_14_method_59_code 1 = .ok (.getfield 39, 3) := by decide +kernel
theorem d_R_lays_4 : decode prog_14_method_59_code 4 = .ok (.bipush 7, 2) := by decide +kernel
theorem d_R_lays_6 : decode prog_14_method_59_code 6 = .ok (.iload_n 1, 1) := by decide +kernel
theorem d_R_lays_7 : decode prog_14_method_59_code 7 = .ok (.imul, 1) := by decide +kernel
theorem d_R_lays_8 : decode prog_14_method_59_code 8 = .ok (.iload_n 2, 1) := by decide +kernel
theorem d_R_lays_9 : decode prog_14_method_59_code 9 = .ok (.iadd, 1) := by decide +kernel
theorem d_R_lays_10 : decode prog_14_method_59_code 10 = .ok (.iload_n 3, 1) := by decide +kernel
theorem d_R_lays_11 : decode prog_14_method_59_code 11 = .ok (.iastore, 1) := by decide +kernel
theorem d_R_lays_12 : decode prog_14_method_59_code 12 = .ok (.return_, 1) := by decide +kernel
theorem d_R_liveliestPlace_0 : decode prog_14_method_83_code 0 = .ok (.aload_n 0, 1) := by decide +kernel
theorem d_R_liveliestPlace_1 : decode prog_14_method_83_code 1 = .ok (.iconst 0, 1) := by decide +kernel
theorem d_R_liveliestPlace_2 : decode prog_14_method_83_code 2 = .ok (.putfield 73, 3) := by decide +kernel
theorem d_R_liveliestPlace_5 : decode prog_14_method_83_code 5 = .ok (.iconst 0, 1) := by decide +kernel
theorem d_R_liveliestPlace_6 : decode prog_14_method_83_code 6 = .ok (.istore_n 1, 1) := by decide +kernel
theorem d_R_liveliestPlace_7 : decode prog_14_method_83_code 7 = .ok (.iconst 1, 1) := by decide +kernel
theorem d_R_liveliestPlace_8 : decode prog_14_method_83_code 8 = .ok (.istore_n 2, 1) := by decide +kernel
theorem d_R_liveliestPlace_9 : decode prog_14_method_83_code 9 = .ok (.iload_n 2, 1) := by decide +kernel
theorem d_R_liveliestPlace_10 : decode prog_14_method_83_code 10 = .ok (.aload_n 0, 1) := by decide +kernel
theorem d_R_liveliestPlace_11 : decode prog_14_method_83_code 11 = .ok (.getfield 7, 3) := by decide +kernel
theorem d_R_liveliestPlace_14 : decode prog_14_method_83_code 14 = .ok (.bipush 7, 2) := by decide +kernel
theorem d_R_liveliestPlace_16 : decode prog_14_method_83_code 16 = .ok (.iaload, 1) := by decide +kernel
theorem d_R_liveliestPlace_17 : decode prog_14_method_83_code 17 = .ok (.if_icmp .ge 24, 3) := by decide +kernel
theorem d_R_liveliestPlace_20 : decode prog_14_method_83_code 20 = .ok (.aload_n 0, 1) := by decide +kernel
theorem d_R_liveliestPlace_21 : decode prog_14_method_83_code 21 = .ok (.iload_n 2, 1) := by decide +kernel
theorem d_R_liveliestPlace_22 : decode prog_14_method_83_code 22 = .ok (.invokevirtual 343, 3) := by decide +kernel
theorem d_R_liveliestPlace_25 : decode prog_14_method_83_code 25 = .ok (.aload_n 0, 1) := by decide +kernel
theorem d_R_liveliestPlace_26 : decode prog_14_method_83_code 26 = .ok (.iload_n 1, 1) := by decide +kernel
theorem d_R_liveliestPlace_27 : decode prog_14_method_83_code 27 = .ok (.invokevirtual 343, 3) := by decide +kernel
theorem d_R_liveliestPlace_30 : decode prog_14_method_83_code 30 = .ok (.if_icmp .le 5, 3) := by decide +kernel
theorem d_R_liveliestPlace_33 : decode prog_14_method_83_code 33 = .ok (.iload_n 2, 1) := by decide +kernel
theorem d_R_liveliestPlace_34 : decode prog_14_method_83_code 34 = .ok (.istore_n 1, 1) := by decide +kernel
theorem d_R_liveliestPlace_35 : decode prog_14_method_83_code 35 = .ok (.iinc 2 1, 3) := by decide +kernel
theorem d_R_liveliestPlace_38 : decode prog_14_method_83_code 38 = .ok (.goto (-29), 3) := by decide +kernel
theorem d_R_liveliestPlace_41 : decode prog_14_method_83_code 41 = .ok (.iload_n 1, 1) := by decide +kernel
theorem d_R_liveliestPlace_42 : decode prog_14_method_83_code 42 = .ok (.ireturn, 1) := by decide +kernel
theorem d_R_starts_0 : decode prog_14_method_35_code 0 = .ok (.aload_n 0, 1) := by decide +kernel
theorem d_R_starts_1 : decode prog_14_method_35_code 1 = .ok (.iconst 0, 1) := by decide +kernel
theorem d_R_starts_2 : decode prog_14_method_35_code 2 = .ok (.putfield 135, 3) := by decide +kernel
theorem d_R_starts_5 : decode prog_14_method_35_code 5 = .ok (.aload_n 0, 1) := by decide +kernel
theorem d_R_starts_6 : decode prog_14_method_35_code 6 = .ok (.iconst 0, 1) := by decide +kernel
theorem d_R_starts_7 : decode prog_14_method_35_code 7 = .ok (.putfield 156, 3) := by decide +kernel
theorem d_R_starts_10 : decode prog_14_method_35_code 10 = .ok (.aload_n 0, 1) := by decide +kernel
theorem d_R_starts_11 : decode prog_14_method_35_code 11 = .ok (.iconst (-1), 1) := by decide +kernel
theorem d_R_starts_12 : decode prog_14_method_35_code 12 = .ok (.putfield 159, 3) := by decide +kernel
theorem d_R_starts_15 : decode prog_14_method_35_code 15 = .ok (.aload_n 0, 1) := by decide +kernel
theorem d_R_starts_16 : decode prog_14_method_35_code 16 = .ok (.invokevirtual 162, 3) := by decide +kernel
theorem d_R_starts_19 : decode prog_14_method_35_code 19 = .ok (.return_, 1) := by decide +kernel
theorem d_R_must_0 : decode prog_14_method_36_code 0 = .ok (.aload_n 0, 1) := by decide +kernel
theorem d_R_must_1 : decode prog_14_method_36_code 1 = .ok (.getfield 156, 3) := by decide +kernel
theorem d_R_must_4 : decode prog_14_method_36_code 4 = .ok (.ifCond .ne 20, 3) := by decide +kernel
theorem d_R_must_7 : decode prog_14_method_36_code 7 = .ok (.iload_n 1, 1) := by decide +kernel
theorem d_R_must_8 : decode prog_14_method_36_code 8 = .ok (.ifCond .ne 16, 3) := by decide +kernel
theorem d_R_must_11 : decode prog_14_method_36_code 11 = .ok (.aload_n 0, 1) := by decide +kernel
theorem d_R_must_12 : decode prog_14_method_36_code 12 = .ok (.iload_n 2, 1) := by decide +kernel
theorem d_R_must_13 : decode prog_14_method_36_code 13 = .ok (.putfield 156, 3) := by decide +kernel
theorem d_R_must_16 : decode prog_14_method_36_code 16 = .ok (.aload_n 0, 1) := by decide +kernel
theorem d_R_must_17 : decode prog_14_method_36_code 17 = .ok (.aload_n 0, 1) := by decide +kernel
theorem d_R_must_18 : decode prog_14_method_36_code 18 = .ok (.getfield 141, 3) := by decide +kernel
theorem d_R_must_21 : decode prog_14_method_36_code 21 = .ok (.putfield 159, 3) := by decide +kernel
theorem d_R_must_24 : decode prog_14_method_36_code 24 = .ok (.aload_n 0, 1) := by decide +kernel
theorem d_R_must_25 : decode prog_14_method_36_code 25 = .ok (.getfield 156, 3) := by decide +kernel
theorem d_R_must_28 : decode prog_14_method_36_code 28 = .ok (.ifCond .ne 7, 3) := by decide +kernel
theorem d_R_must_31 : decode prog_14_method_36_code 31 = .ok (.iconst 1, 1) := by decide +kernel
theorem d_R_must_32 : decode prog_14_method_36_code 32 = .ok (.goto 4, 3) := by decide +kernel
theorem d_R_must_35 : decode prog_14_method_36_code 35 = .ok (.iconst 0, 1) := by decide +kernel
theorem d_R_must_36 : decode prog_14_method_36_code 36 = .ok (.ireturn, 1) := by decide +kernel
theorem d_R_number_0 : decode prog_14_method_41_code 0 = .ok (.aload_n 0, 1) := by decide +kernel
theorem d_R_number_1 : decode prog_14_method_41_code 1 = .ok (.aload_n 0, 1) := by decide +kernel
theorem d_R_number_2 : decode prog_14_method_41_code 2 = .ok (.getfield 144, 3) := by decide +kernel
theorem d_R_number_5 : decode prog_14_method_41_code 5 = .ok (.iconst 2, 1) := by decide +kernel
theorem d_R_number_6 : decode prog_14_method_41_code 6 = .ok (.if_icmp .ne 7, 3) := by decide +kernel
theorem d_R_number_9 : decode prog_14_method_41_code 9 = .ok (.iconst 1, 1) := by decide +kernel
theorem d_R_number_10 : decode prog_14_method_41_code 10 = .ok (.goto 4, 3) := by decide +kernel
theorem d_R_number_13 : decode prog_14_method_41_code 13 = .ok (.iconst 0, 1) := by decide +kernel
theorem d_R_number_14 : decode prog_14_method_41_code 14 = .ok (.iconst 1, 1) := by decide +kernel
theorem d_R_number_15 : decode prog_14_method_41_code 15 = .ok (.invokevirtual 169, 3) := by decide +kernel
theorem d_R_number_18 : decode prog_14_method_41_code 18 = .ok (.ifCond .eq 18, 3) := by decide +kernel
theorem d_R_number_21 : decode prog_14_method_41_code 21 = .ok (.aload_n 0, 1) := by decide +kernel
theorem d_R_number_22 : decode prog_14_method_41_code 22 = .ok (.aload_n 0, 1) := by decide +kernel
theorem d_R_number_23 : decode prog_14_method_41_code 23 = .ok (.getfield 147, 3) := by decide +kernel
theorem d_R_number_26 : decode prog_14_method_41_code 26 = .ok (.iload_n 1, 1) := by decide +kernel
theorem d_R_number_27 : decode prog_14_method_41_code 27 = .ok (.iload_n 2, 1) := by decide +kernel
theorem d_R_number_28 : decode prog_14_method_41_code 28 = .ok (.invokestatic 76, 3) := by decide +kernel
theorem d_R_number_31 : decode prog_14_method_41_code 31 = .ok (.iconst 2, 1) := by decide +kernel
theorem d_R_number_32 : decode prog_14_method_41_code 32 = .ok (.invokevirtual 169, 3) := by decide +kernel
theorem d_R_number_35 : decode prog_14_method_41_code 35 = .ok (.pop, 1) := by decide +kernel
theorem d_R_number_36 : decode prog_14_method_41_code 36 = .ok (.aload_n 0, 1) := by decide +kernel
theorem d_R_number_37 : decode prog_14_method_41_code 37 = .ok (.getfield 147, 3) := by decide +kernel
theorem d_R_number_40 : decode prog_14_method_41_code 40 = .ok (.istore_n 3, 1) := by decide +kernel
theorem d_R_number_41 : decode prog_14_method_41_code 41 = .ok (.aload_n 0, 1) := by decide +kernel
theorem d_R_number_42 : decode prog_14_method_41_code 42 = .ok (.invokevirtual 172, 3) := by decide +kernel
theorem d_R_number_45 : decode prog_14_method_41_code 45 = .ok (.iload_n 3, 1) := by decide +kernel
theorem d_R_number_46 : decode prog_14_method_41_code 46 = .ok (.ireturn, 1) := by decide +kernel
theorem d_R_takesSign_0 : decode prog_14_method_40_code 0 = .ok (.aload_n 0, 1) := by decide +kernel
theorem d_R_takesSign_1 : decode prog_14_method_40_code 1 = .ok (.aload_n 0, 1) := by decide +kernel
theorem d_R_takesSign_2 : decode prog_14_method_40_code 2 = .ok (.iload_n 1, 1) := by decide +kernel
theorem d_R_takesSign_3 : decode prog_14_method_40_code 3 = .ok (.invokevirtual 165, 3) := by decide +kernel
theorem d_R_takesSign_6 : decode prog_14_method_40_code 6 = .ok (.iconst 1, 1) := by decide +kernel
theorem d_R_takesSign_7 : decode prog_14_method_40_code 7 = .ok (.invokevirtual 169, 3) := by decide +kernel
theorem d_R_takesSign_10 : decode prog_14_method_40_code 10 = .ok (.pop, 1) := by decide +kernel
theorem d_R_takesSign_11 : decode prog_14_method_40_code 11 = .ok (.aload_n 0, 1) := by decide +kernel
theorem d_R_takesSign_12 : decode prog_14_method_40_code 12 = .ok (.invokevirtual 172, 3) := by decide +kernel
theorem d_R_takesSign_15 : decode prog_14_method_40_code 15 = .ok (.return_, 1) := by decide +kernel
theorem d_R_looksAtName_0 : decode prog_14_method_43_code 0 = .ok (.aload_n 0, 1) := by decide +kernel
theorem d_R_looksAtName_1 : decode prog_14_method_43_code 1 = .ok (.aload_n 0, 1) := by decide +kernel
theorem d_R_looksAtName_2 : decode prog_14_method_43_code 2 = .ok (.getfield 144, 3) := by decide +kernel
theorem d_R_looksAtName_5 : decode prog_14_method_43_code 5 = .ok (.iconst 1, 1) := by decide +kernel
theorem d_R_looksAtName_6 : decode prog_14_method_43_code 6 = .ok (.if_icmp .ne 7, 3) := by decide +kernel
theorem d_R_looksAtName_9 : decode prog_14_method_43_code 9 = .ok (.iconst 1, 1) := by decide +kernel
theorem d_R_looksAtName_10 : decode prog_14_method_43_code 10 = .ok (.goto 4, 3) := by decide +kernel
theorem d_R_looksAtName_13 : decode prog_14_method_43_code 13 = .ok (.iconst 0, 1) := by decide +kernel
theorem d_R_looksAtName_14 : decode prog_14_method_43_code 14 = .ok (.iconst 1, 1) := by decide +kernel
theorem d_R_looksAtName_15 : decode prog_14_method_43_code 15 = .ok (.invokevirtual 169, 3) := by decide +kernel
theorem d_R_looksAtName_18 : decode prog_14_method_43_code 18 = .ok (.ifCond .eq 28, 3) := by decide +kernel
theorem d_R_looksAtName_21 : decode prog_14_method_43_code 21 = .ok (.aload_n 0, 1) := by decide +kernel
theorem d_R_looksAtName_22 : decode prog_14_method_43_code 22 = .ok (.aload_n 0, 1) := by decide +kernel
theorem d_R_looksAtName_23 : decode prog_14_method_43_code 23 = .ok (.getfield 135, 3) := by decide +kernel
theorem d_R_looksAtName_26 : decode prog_14_method_43_code 26 = .ok (.aload_n 0, 1) := by decide +kernel
theorem d_R_looksAtName_27 : decode prog_14_method_43_code 27 = .ok (.getfield 141, 3) := by decide +kernel
theorem d_R_looksAtName_30 : decode prog_14_method_43_code 30 = .ok (.isub, 1) := by decide +kernel
theorem d_R_looksAtName_31 : decode prog_14_method_43_code 31 = .ok (.bipush 6, 2) := by decide +kernel
theorem d_R_looksAtName_33 : decode prog_14_method_43_code 33 = .ok (.if_icmp .gt 7, 3) := by decide +kernel
theorem d_R_looksAtName_36 : decode prog_14_method_43_code 36 = .ok (.iconst 1, 1) := by decide +kernel
theorem d_R_looksAtName_37 : decode prog_14_method_43_code 37 = .ok (.goto 4, 3) := by decide +kernel
theorem d_R_looksAtName_40 : decode prog_14_method_43_code 40 = .ok (.iconst 0, 1) := by decide +kernel
theorem d_R_looksAtName_41 : decode prog_14_method_43_code 41 = .ok (.iconst 2, 1) := by decide +kernel
theorem d_R_looksAtName_42 : decode prog_14_method_43_code 42 = .ok (.invokevirtual 169, 3) := by decide +kernel
theorem d_R_looksAtName_45 : decode prog_14_method_43_code 45 = .ok (.pop, 1) := by decide +kernel
theorem d_R_looksAtName_46 : decode prog_14_method_43_code 46 = .ok (.aload_n 0, 1) := by decide +kernel
theorem d_R_looksAtName_47 : decode prog_14_method_43_code 47 = .ok (.getfield 156, 3) := by decide +kernel
theorem d_R_looksAtName_50 : decode prog_14_method_43_code 50 = .ok (.ifCond .ne 23, 3) := by decide +kernel
theorem d_R_looksAtName_53 : decode prog_14_method_43_code 53 = .ok (.aload_n 0, 1) := by decide +kernel
theorem d_R_looksAtName_54 : decode prog_14_method_43_code 54 = .ok (.aload_n 0, 1) := by decide +kernel
theorem d_R_looksAtName_55 : decode prog_14_method_43_code 55 = .ok (.getfield 141, 3) := by decide +kernel
theorem d_R_looksAtName_58 : decode prog_14_method_43_code 58 = .ok (.aload_n 0, 1) := by decide +kernel
theorem d_R_looksAtName_59 : decode prog_14_method_43_code 59 = .ok (.getfield 135, 3) := by decide +kernel
theorem d_R_looksAtName_62 : decode prog_14_method_43_code 62 = .ok (.aload_n 0, 1) := by decide +kernel
theorem d_R_looksAtName_63 : decode prog_14_method_43_code 63 = .ok (.getfield 141, 3) := by decide +kernel
theorem d_R_looksAtName_66 : decode prog_14_method_43_code 66 = .ok (.isub, 1) := by decide +kernel
theorem d_R_looksAtName_67 : decode prog_14_method_43_code 67 = .ok (.invokevirtual 175, 3) := by decide +kernel
theorem d_R_looksAtName_70 : decode prog_14_method_43_code 70 = .ok (.goto 4, 3) := by decide +kernel
theorem d_R_looksAtName_73 : decode prog_14_method_43_code 73 = .ok (.iconst 0, 1) := by decide +kernel
theorem d_R_looksAtName_74 : decode prog_14_method_43_code 74 = .ok (.ireturn, 1) := by decide +kernel
theorem d_R_passesName_0 : decode prog_14_method_48_code 0 = .ok (.aload_n 0, 1) := by decide +kernel
theorem d_R_passesName_1 : decode prog_14_method_48_code 1 = .ok (.aload_n 0, 1) := by decide +kernel
theorem d_R_passesName_2 : decode prog_14_method_48_code 2 = .ok (.getfield 156, 3) := by decide +kernel
theorem d_R_passesName_5 : decode prog_14_method_48_code 5 = .ok (.ifCond .ne 7, 3) := by decide +kernel
theorem d_R_passesName_8 : decode prog_14_method_48_code 8 = .ok (.iload_n 1, 1) := by decide +kernel
theorem d_R_passesName_9 : decode prog_14_method_48_code 9 = .ok (.ifCond .eq 7, 3) := by decide +kernel
theorem d_R_passesName_12 : decode prog_14_method_48_code 12 = .ok (.iconst 1, 1) := by decide +kernel
theorem d_R_passesName_13 : decode prog_14_method_48_code 13 = .ok (.goto 4, 3) := by decide +kernel
theorem d_R_passesName_16 : decode prog_14_method_48_code 16 = .ok (.iconst 0, 1) := by decide +kernel
theorem d_R_passesName_17 : decode prog_14_method_48_code 17 = .ok (.iconst 3, 1) := by decide +kernel
theorem d_R_passesName_18 : decode prog_14_method_48_code 18 = .ok (.invokevirtual 169, 3) := by decide +kernel
theorem d_R_passesName_21 : decode prog_14_method_48_code 21 = .ok (.pop, 1) := by decide +kernel
theorem d_R_passesName_22 : decode prog_14_method_48_code 22 = .ok (.aload_n 0, 1) := by decide +kernel
theorem d_R_passesName_23 : decode prog_14_method_48_code 23 = .ok (.invokevirtual 172, 3) := by decide +kernel
theorem d_R_passesName_26 : decode prog_14_method_48_code 26 = .ok (.return_, 1) := by decide +kernel
theorem d_R_readsEvent_0 : decode prog_14_method_53_code 0 = .ok (.aload_n 0, 1) := by decide +kernel
theorem d_R_readsEvent_1 : decode prog_14_method_53_code 1 = .ok (.aload_n 0, 1) := by decide +kernel
theorem d_R_readsEvent_2 : decode prog_14_method_53_code 2 = .ok (.ldc 198, 2) := by decide +kernel
theorem d_R_readsEvent_4 : decode prog_14_method_53_code 4 = .ok (.invokevirtual 200, 3) := by decide +kernel
theorem d_R_readsEvent_7 : decode prog_14_method_53_code 7 = .ok (.iconst 1, 1) := by decide +kernel
theorem d_R_readsEvent_8 : decode prog_14_method_53_code 8 = .ok (.invokevirtual 169, 3) := by decide +kernel
theorem d_R_readsEvent_11 : decode prog_14_method_53_code 11 = .ok (.pop, 1) := by decide +kernel
theorem d_R_readsEvent_12 : decode prog_14_method_53_code 12 = .ok (.aload_n 0, 1) := by decide +kernel
theorem d_R_readsEvent_13 : decode prog_14_method_53_code 13 = .ok (.aload_n 0, 1) := by decide +kernel
theorem d_R_readsEvent_14 : decode prog_14_method_53_code 14 = .ok (.getfield 7, 3) := by decide +kernel
theorem d_R_readsEvent_17 : decode prog_14_method_53_code 17 = .ok (.bipush 6, 2) := by decide +kernel
theorem d_R_readsEvent_19 : decode prog_14_method_53_code 19 = .ok (.iaload, 1) := by decide +kernel
theorem d_R_readsEvent_20 : decode prog_14_method_53_code 20 = .ok (.bipush 6, 2) := by decide +kernel
theorem d_R_readsEvent_22 : decode prog_14_method_53_code 22 = .ok (.if_icmp .ge 7, 3) := by decide +kernel
theorem d_R_readsEvent_25 : decode prog_14_method_53_code 25 = .ok (.iconst 1, 1) := by decide +kernel
theorem d_R_readsEvent_26 : decode prog_14_method_53_code 26 = .ok (.goto 4, 3) := by decide +kernel
theorem d_R_readsEvent_29 : decode prog_14_method_53_code 29 = .ok (.iconst 0, 1) := by decide +kernel
theorem d_R_readsEvent_30 : decode prog_14_method_53_code 30 = .ok (.iconst 4, 1) := by decide +kernel
theorem d_R_readsEvent_31 : decode prog_14_method_53_code 31 = .ok (.invokevirtual 169, 3) := by decide +kernel
theorem d_R_readsEvent_34 : decode prog_14_method_53_code 34 = .ok (.pop, 1) := by decide +kernel
theorem d_R_readsEvent_35 : decode prog_14_method_53_code 35 = .ok (.aload_n 0, 1) := by decide +kernel
theorem d_R_readsEvent_36 : decode prog_14_method_53_code 36 = .ok (.invokevirtual 172, 3) := by decide +kernel
theorem d_R_readsEvent_39 : decode prog_14_method_53_code 39 = .ok (.aload_n 0, 1) := by decide +kernel
theorem d_R_readsEvent_40 : decode prog_14_method_53_code 40 = .ok (.invokevirtual 182, 3) := by decide +kernel
theorem d_R_readsEvent_43 : decode prog_14_method_53_code 43 = .ok (.istore_n 1, 1) := by decide +kernel
theorem d_R_readsEvent_44 : decode prog_14_method_53_code 44 = .ok (.aload_n 0, 1) := by decide +kernel
theorem d_R_readsEvent_45 : decode prog_14_method_53_code 45 = .ok (.aload_n 0, 1) := by decide +kernel
theorem d_R_readsEvent_46 : decode prog_14_method_53_code 46 = .ok (.iload_n 1, 1) := by decide +kernel
theorem d_R_readsEvent_47 : decode prog_14_method_53_code 47 = .ok (.invokevirtual 185, 3) := by decide +kernel
theorem d_R_readsEvent_50 : decode prog_14_method_53_code 50 = .ok (.iconst (-1), 1) := by decide +kernel
theorem d_R_readsEvent_51 : decode prog_14_method_53_code 51 = .ok (.if_icmp .ne 7, 3) := by decide +kernel
theorem d_R_readsEvent_54 : decode prog_14_method_53_code 54 = .ok (.iconst 1, 1) := by decide +kernel
theorem d_R_readsEvent_55 : decode prog_14_method_53_code 55 = .ok (.goto 4, 3) := by decide +kernel
theorem d_R_readsEvent_58 : decode prog_14_method_53_code 58 = .ok (.iconst 0, 1) := by decide +kernel
theorem d_R_readsEvent_59 : decode prog_14_method_53_code 59 = .ok (.invokevirtual 188, 3) := by decide +kernel
theorem d_R_readsEvent_62 : decode prog_14_method_53_code 62 = .ok (.aload_n 0, 1) := by decide +kernel
theorem d_R_readsEvent_63 : decode prog_14_method_53_code 63 = .ok (.bipush 59, 2) := by decide +kernel
theorem d_R_readsEvent_65 : decode prog_14_method_53_code 65 = .ok (.invokevirtual 204, 3) := by decide +kernel
theorem d_R_readsEvent_68 : decode prog_14_method_53_code 68 = .ok (.aload_n 0, 1) := by decide +kernel
theorem d_R_readsEvent_69 : decode prog_14_method_53_code 69 = .ok (.getfield 156, 3) := by decide +kernel
theorem d_R_readsEvent_72 : decode prog_14_method_53_code 72 = .ok (.ifCond .eq 4, 3) := by decide +kernel
theorem d_R_readsEvent_75 : decode prog_14_method_53_code 75 = .ok (.return_, 1) := by decide +kernel
theorem d_R_readsEvent_76 : decode prog_14_method_53_code 76 = .ok (.aload_n 0, 1) := by decide +kernel
theorem d_R_readsEvent_77 : decode prog_14_method_53_code 77 = .ok (.getfield 7, 3) := by decide +kernel
theorem d_R_readsEvent_80 : decode prog_14_method_53_code 80 = .ok (.bipush 16, 2) := by decide +kernel
theorem d_R_readsEvent_82 : decode prog_14_method_53_code 82 = .ok (.aload_n 0, 1) := by decide +kernel
theorem d_R_readsEvent_83 : decode prog_14_method_53_code 83 = .ok (.getfield 7, 3) := by decide +kernel
theorem d_R_readsEvent_86 : decode prog_14_method_53_code 86 = .ok (.bipush 6, 2) := by decide +kernel
theorem d_R_readsEvent_88 : decode prog_14_method_53_code 88 = .ok (.iaload, 1) := by decide +kernel
theorem d_R_readsEvent_89 : decode prog_14_method_53_code 89 = .ok (.iadd, 1) := by decide +kernel
theorem d_R_readsEvent_90 : decode prog_14_method_53_code 90 = .ok (.iload_n 1, 1) := by decide +kernel
theorem d_R_readsEvent_91 : decode prog_14_method_53_code 91 = .ok (.iastore, 1) := by decide +kernel
theorem d_R_readsEvent_92 : decode prog_14_method_53_code 92 = .ok (.aload_n 0, 1) := by decide +kernel
theorem d_R_readsEvent_93 : decode prog_14_method_53_code 93 = .ok (.getfield 7, 3) := by decide +kernel
theorem d_R_readsEvent_96 : decode prog_14_method_53_code 96 = .ok (.bipush 6, 2) := by decide +kernel
theorem d_R_readsEvent_98 : decode prog_14_method_53_code 98 = .ok (.dup2, 1) := by decide +kernel
theorem d_R_readsEvent_99 : decode prog_14_method_53_code 99 = .ok (.iaload, 1) := by decide +kernel
theorem d_R_readsEvent_100 : decode prog_14_method_53_code 100 = .ok (.iconst 1, 1) := by decide +kernel
theorem d_R_readsEvent_101 : decode prog_14_method_53_code 101 = .ok (.iadd, 1) := by decide +kernel
theorem d_R_readsEvent_102 : decode prog_14_method_53_code 102 = .ok (.iastore, 1) := by decide +kernel
theorem d_R_readsEvent_103 : decode prog_14_method_53_code 103 = .ok (.return_, 1) := by decide +kernel
theorem d_R_placeNamed_0 : decode prog_14_method_46_code 0 = .ok (.aload_n 0, 1) := by decide +kernel
theorem d_R_placeNamed_1 : decode prog_14_method_46_code 1 = .ok (.iload_n 1, 1) := by decide +kernel
theorem d_R_placeNamed_2 : decode prog_14_method_46_code 2 = .ok (.bipush 22, 2) := by decide +kernel
theorem d_R_placeNamed_4 : decode prog_14_method_46_code 4 = .ok (.iconst 1, 1) := by decide +kernel
theorem d_R_placeNamed_5 : decode prog_14_method_46_code 5 = .ok (.aload_n 0, 1) := by decide +kernel
theorem d_R_placeNamed_6 : decode prog_14_method_46_code 6 = .ok (.getfield 7, 3) := by decide +kernel
theorem d_R_placeNamed_9 : decode prog_14_method_46_code 9 = .ok (.bipush 7, 2) := by decide +kernel
theorem d_R_placeNamed_11 : decode prog_14_method_46_code 11 = .ok (.iaload, 1) := by decide +kernel
theorem d_R_placeNamed_12 : decode prog_14_method_46_code 12 = .ok (.invokevirtual 178, 3) := by decide +kernel
theorem d_R_placeNamed_15 : decode prog_14_method_46_code 15 = .ok (.ireturn, 1) := by decide +kernel
theorem d_R_readsPlace_0 : decode prog_14_method_54_code 0 = .ok (.aload_n 0, 1) := by decide +kernel
theorem d_R_readsPlace_1 : decode prog_14_method_54_code 1 = .ok (.aload_n 0, 1) := by decide +kernel
theorem d_R_readsPlace_2 : decode prog_14_method_54_code 2 = .ok (.ldc 207, 2) := by decide +kernel
theorem d_R_readsPlace_4 : decode prog_14_method_54_code 4 = .ok (.invokevirtual 200, 3) := by decide +kernel
theorem d_R_readsPlace_7 : decode prog_14_method_54_code 7 = .ok (.iconst 1, 1) := by decide +kernel
theorem d_R_readsPlace_8 : decode prog_14_method_54_code 8 = .ok (.invokevirtual 169, 3) := by decide +kernel
theorem d_R_readsPlace_11 : decode prog_14_method_54_code 11 = .ok (.pop, 1) := by decide +kernel
theorem d_R_readsPlace_12 : decode prog_14_method_54_code 12 = .ok (.aload_n 0, 1) := by decide +kernel
theorem d_R_readsPlace_13 : decode prog_14_method_54_code 13 = .ok (.aload_n 0, 1) := by decide +kernel
theorem d_R_readsPlace_14 : decode prog_14_method_54_code 14 = .ok (.getfield 7, 3) := by decide +kernel
theorem d_R_readsPlace_17 : decode prog_14_method_54_code 17 = .ok (.bipush 7, 2) := by decide +kernel
theorem d_R_readsPlace_19 : decode prog_14_method_54_code 19 = .ok (.iaload, 1) := by decide +kernel
theorem d_R_readsPlace_20 : decode prog_14_method_54_code 20 = .ok (.bipush 6, 2) := by decide +kernel
theorem d_R_readsPlace_22 : decode prog_14_method_54_code 22 = .ok (.if_icmp .ge 7, 3) := by decide +kernel
theorem d_R_readsPlace_25 : decode prog_14_method_54_code 25 = .ok (.iconst 1, 1) := by decide +kernel
theorem d_R_readsPlace_26 : decode prog_14_method_54_code 26 = .ok (.goto 4, 3) := by decide +kernel
theorem d_R_readsPlace_29 : decode prog_14_method_54_code 29 = .ok (.iconst 0, 1) := by decide +kernel
theorem d_R_readsPlace_30 : decode prog_14_method_54_code 30 = .ok (.iconst 4, 1) := by decide +kernel
theorem d_R_readsPlace_31 : decode prog_14_method_54_code 31 = .ok (.invokevirtual 169, 3) := by decide +kernel
theorem d_R_readsPlace_34 : decode prog_14_method_54_code 34 = .ok (.pop, 1) := by decide +kernel
theorem d_R_readsPlace_35 : decode prog_14_method_54_code 35 = .ok (.aload_n 0, 1) := by decide +kernel
theorem d_R_readsPlace_36 : decode prog_14_method_54_code 36 = .ok (.invokevirtual 172, 3) := by decide +kernel
theorem d_R_readsPlace_39 : decode prog_14_method_54_code 39 = .ok (.aload_n 0, 1) := by decide +kernel
theorem d_R_readsPlace_40 : decode prog_14_method_54_code 40 = .ok (.invokevirtual 182, 3) := by decide +kernel
theorem d_R_readsPlace_43 : decode prog_14_method_54_code 43 = .ok (.istore_n 1, 1) := by decide +kernel
theorem d_R_readsPlace_44 : decode prog_14_method_54_code 44 = .ok (.aload_n 0, 1) := by decide +kernel
theorem d_R_readsPlace_45 : decode prog_14_method_54_code 45 = .ok (.aload_n 0, 1) := by decide +kernel
theorem d_R_readsPlace_46 : decode prog_14_method_54_code 46 = .ok (.iload_n 1, 1) := by decide +kernel
theorem d_R_readsPlace_47 : decode prog_14_method_54_code 47 = .ok (.invokevirtual 192, 3) := by decide +kernel
theorem d_R_readsPlace_50 : decode prog_14_method_54_code 50 = .ok (.iconst (-1), 1) := by decide +kernel
theorem d_R_readsPlace_51 : decode prog_14_method_54_code 51 = .ok (.if_icmp .ne 7, 3) := by decide +kernel
theorem d_R_readsPlace_54 : decode prog_14_method_54_code 54 = .ok (.iconst 1, 1) := by decide +kernel
theorem d_R_readsPlace_55 : decode prog_14_method_54_code 55 = .ok (.goto 4, 3) := by decide +kernel
theorem d_R_readsPlace_58 : decode prog_14_method_54_code 58 = .ok (.iconst 0, 1) := by decide +kernel
theorem d_R_readsPlace_59 : decode prog_14_method_54_code 59 = .ok (.invokevirtual 188, 3) := by decide +kernel
theorem d_R_readsPlace_62 : decode prog_14_method_54_code 62 = .ok (.aload_n 0, 1) := by decide +kernel
theorem d_R_readsPlace_63 : decode prog_14_method_54_code 63 = .ok (.bipush 59, 2) := by decide +kernel
theorem d_R_readsPlace_65 : decode prog_14_method_54_code 65 = .ok (.invokevirtual 204, 3) := by decide +kernel
theorem d_R_readsPlace_68 : decode prog_14_method_54_code 68 = .ok (.aload_n 0, 1) := by decide +kernel
theorem d_R_readsPlace_69 : decode prog_14_method_54_code 69 = .ok (.getfield 156, 3) := by decide +kernel
theorem d_R_readsPlace_72 : decode prog_14_method_54_code 72 = .ok (.ifCond .eq 4, 3) := by decide +kernel
theorem d_R_readsPlace_75 : decode prog_14_method_54_code 75 = .ok (.return_, 1) := by decide +kernel
theorem d_R_readsPlace_76 : decode prog_14_method_54_code 76 = .ok (.aload_n 0, 1) := by decide +kernel
theorem d_R_readsPlace_77 : decode prog_14_method_54_code 77 = .ok (.getfield 7, 3) := by decide +kernel
theorem d_R_readsPlace_80 : decode prog_14_method_54_code 80 = .ok (.bipush 22, 2) := by decide +kernel
theorem d_R_readsPlace_82 : decode prog_14_method_54_code 82 = .ok (.aload_n 0, 1) := by decide +kernel
theorem d_R_readsPlace_83 : decode prog_14_method_54_code 83 = .ok (.getfield 7, 3) := by decide +kernel
theorem d_R_readsPlace_86 : decode prog_14_method_54_code 86 = .ok (.bipush 7, 2) := by decide +kernel
theorem d_R_readsPlace_88 : decode prog_14_method_54_code 88 = .ok (.iaload, 1) := by decide +kernel
theorem d_R_readsPlace_89 : decode prog_14_method_54_code 89 = .ok (.iadd, 1) := by decide +kernel
theorem d_R_readsPlace_90 : decode prog_14_method_54_code 90 = .ok (.iload_n 1, 1) := by decide +kernel
theorem d_R_readsPlace_91 : decode prog_14_method_54_code 91 = .ok (.iastore, 1) := by decide +kernel
theorem d_R_readsPlace_92 : decode prog_14_method_54_code 92 = .ok (.aload_n 0, 1) := by decide +kernel
theorem d_R_readsPlace_93 : decode prog_14_method_54_code 93 = .ok (.getfield 7, 3) := by decide +kernel
theorem d_R_readsPlace_96 : decode prog_14_method_54_code 96 = .ok (.bipush 7, 2) := by decide +kernel
theorem d_R_readsPlace_98 : decode prog_14_method_54_code 98 = .ok (.dup2, 1) := by decide +kernel
theorem d_R_readsPlace_99 : decode prog_14_method_54_code 99 = .ok (.iaload, 1) := by decide +kernel
theorem d_R_readsPlace_100 : decode prog_14_method_54_code 100 = .ok (.iconst 1, 1) := by decide +kernel
theorem d_R_readsPlace_101 : decode prog_14_method_54_code 101 = .ok (.iadd, 1) := by decide +kernel
theorem d_R_readsPlace_102 : decode prog_14_method_54_code 102 = .ok (.iastore, 1) := by decide +kernel
theorem d_R_readsPlace_103 : decode prog_14_method_54_code 103 = .ok (.return_, 1) := by decide +kernel
theorem d_R_readsCustomer_0 : decode prog_14_method_55_code 0 = .ok (.aload_n 0, 1) := by decide +kernel
theorem d_R_readsCustomer_1 : decode prog_14_method_55_code 1 = .ok (.aload_n 0, 1) := by decide +kernel
theorem d_R_readsCustomer_2 : decode prog_14_method_55_code 2 = .ok (.getfield 7, 3) := by decide +kernel
theorem d_R_readsCustomer_5 : decode prog_14_method_55_code 5 = .ok (.bipush 8, 2) := by decide +kernel
theorem d_R_readsCustomer_7 : decode prog_14_method_55_code 7 = .ok (.iaload, 1) := by decide +kernel
theorem d_R_readsCustomer_8 : decode prog_14_method_55_code 8 = .ok (.bipush 8, 2) := by decide +kernel
theorem d_R_readsCustomer_10 : decode prog_14_method_55_code 10 = .ok (.if_icmp .ge 7, 3) := by decide +kernel
theorem d_R_readsCustomer_13 : decode prog_14_method_55_code 13 = .ok (.iconst 1, 1) := by decide +kernel
theorem d_R_readsCustomer_14 : decode prog_14_method_55_code 14 = .ok (.goto 4, 3) := by decide +kernel
theorem d_R_readsCustomer_17 : decode prog_14_method_55_code 17 = .ok (.iconst 0, 1) := by decide +kernel
theorem d_R_readsCustomer_18 : decode prog_14_method_55_code 18 = .ok (.iconst 4, 1) := by decide +kernel
theorem d_R_readsCustomer_19 : decode prog_14_method_55_code 19 = .ok (.invokevirtual 169, 3) := by decide +kernel
theorem d_R_readsCustomer_22 : decode prog_14_method_55_code 22 = .ok (.pop, 1) := by decide +kernel
theorem d_R_readsCustomer_23 : decode prog_14_method_55_code 23 = .ok (.aload_n 0, 1) := by decide +kernel
theorem d_R_readsCustomer_24 : decode prog_14_method_55_code 24 = .ok (.invokevirtual 172, 3) := by decide +kernel
theorem d_R_readsCustomer_27 : decode prog_14_method_55_code 27 = .ok (.aload_n 0, 1) := by decide +kernel
theorem d_R_readsCustomer_28 : decode prog_14_method_55_code 28 = .ok (.invokevirtual 182, 3) := by decide +kernel
theorem d_R_readsCustomer_31 : decode prog_14_method_55_code 31 = .ok (.istore_n 1, 1) := by decide +kernel
theorem d_R_readsCustomer_32 : decode prog_14_method_55_code 32 = .ok (.aload_n 0, 1) := by decide +kernel
theorem d_R_readsCustomer_33 : decode prog_14_method_55_code 33 = .ok (.aload_n 0, 1) := by decide +kernel
theorem d_R_readsCustomer_34 : decode prog_14_method_55_code 34 = .ok (.iload_n 1, 1) := by decide +kernel
theorem d_R_readsCustomer_35 : decode prog_14_method_55_code 35 = .ok (.invokevirtual 195, 3) := by decide +kernel
theorem d_R_readsCustomer_38 : decode prog_14_method_55_code 38 = .ok (.iconst (-1), 1) := by decide +kernel
theorem d_R_readsCustomer_39 : decode prog_14_method_55_code 39 = .ok (.if_icmp .ne 7, 3) := by decide +kernel
theorem d_R_readsCustomer_42 : decode prog_14_method_55_code 42 = .ok (.iconst 1, 1) := by decide +kernel
theorem d_R_readsCustomer_43 : decode prog_14_method_55_code 43 = .ok (.goto 4, 3) := by decide +kernel
theorem d_R_readsCustomer_46 : decode prog_14_method_55_code 46 = .ok (.iconst 0, 1) := by decide +kernel
theorem d_R_readsCustomer_47 : decode prog_14_method_55_code 47 = .ok (.invokevirtual 188, 3) := by decide +kernel
theorem d_R_readsCustomer_50 : decode prog_14_method_55_code 50 = .ok (.aload_n 0, 1) := by decide +kernel
theorem d_R_readsCustomer_51 : decode prog_14_method_55_code 51 = .ok (.iconst 0, 1) := by decide +kernel
theorem d_R_readsCustomer_52 : decode prog_14_method_55_code 52 = .ok (.sipush 9999, 3) := by decide +kernel
theorem d_R_readsCustomer_55 : decode prog_14_method_55_code 55 = .ok (.invokevirtual 208, 3) := by decide +kernel
theorem d_R_readsCustomer_58 : decode prog_14_method_55_code 58 = .ok (.istore_n 2, 1) := by decide +kernel
theorem d_R_readsCustomer_59 : decode prog_14_method_55_code 59 = .ok (.aload_n 0, 1) := by decide +kernel
theorem d_R_readsCustomer_60 : decode prog_14_method_55_code 60 = .ok (.iconst 1, 1) := by decide +kernel
theorem d_R_readsCustomer_61 : decode prog_14_method_55_code 61 = .ok (.bipush 30, 2) := by decide +kernel
theorem d_R_readsCustomer_63 : decode prog_14_method_55_code 63 = .ok (.invokevirtual 208, 3) := by decide +kernel
theorem d_R_readsCustomer_66 : decode prog_14_method_55_code 66 = .ok (.istore_n 3, 1) := by decide +kernel
theorem d_R_readsCustomer_67 : decode prog_14_method_55_code 67 = .ok (.aload_n 0, 1) := by decide +kernel
theorem d_R_readsCustomer_68 : decode prog_14_method_55_code 68 = .ok (.bipush 59, 2) := by decide +kernel
theorem d_R_readsCustomer_70 : decode prog_14_method_55_code 70 = .ok (.invokevirtual 204, 3) := by decide +kernel
theorem d_R_readsCustomer_73 : decode prog_14_method_55_code 73 = .ok (.aload_n 0, 1) := by decide +kernel
theorem d_R_readsCustomer_74 : decode prog_14_method_55_code 74 = .ok (.getfield 156, 3) := by decide +kernel
theorem d_R_readsCustomer_77 : decode prog_14_method_55_code 77 = .ok (.ifCond .eq 4, 3) := by decide +kernel
theorem d_R_readsCustomer_80 : decode prog_14_method_55_code 80 = .ok (.return_, 1) := by decide +kernel
theorem d_R_readsCustomer_81 : decode prog_14_method_55_code 81 = .ok (.bipush 28, 2) := by decide +kernel
theorem d_R_readsCustomer_83 : decode prog_14_method_55_code 83 = .ok (.iconst 3, 1) := by decide +kernel
theorem d_R_readsCustomer_84 : decode prog_14_method_55_code 84 = .ok (.aload_n 0, 1) := by decide +kernel
theorem d_R_readsCustomer_85 : decode prog_14_method_55_code 85 = .ok (.getfield 7, 3) := by decide +kernel
theorem d_R_readsCustomer_88 : decode prog_14_method_55_code 88 = .ok (.bipush 8, 2) := by decide +kernel
theorem d_R_readsCustomer_90 : decode prog_14_method_55_code 90 = .ok (.iaload, 1) := by decide +kernel
theorem d_R_readsCustomer_91 : decode prog_14_method_55_code 91 = .ok (.imul, 1) := by decide +kernel
theorem d_R_readsCustomer_92 : decode prog_14_method_55_code 92 = .ok (.iadd, 1) := by decide +kernel
theorem d_R_readsCustomer_93 : decode prog_14_method_55_code 93 = .ok (.istore 4, 2) := by decide +kernel
theorem d_R_readsCustomer_95 : decode prog_14_method_55_code 95 = .ok (.aload_n 0, 1) := by decide +kernel
theorem d_R_readsCustomer_96 : decode prog_14_method_55_code 96 = .ok (.getfield 7, 3) := by decide +kernel
theorem d_R_readsCustomer_99 : decode prog_14_method_55_code 99 = .ok (.iload 4, 2) := by decide +kernel
theorem d_R_readsCustomer_101 : decode prog_14_method_55_code 101 = .ok (.iconst 0, 1) := by decide +kernel
theorem d_R_readsCustomer_102 : decode prog_14_method_55_code 102 = .ok (.iadd, 1) := by decide +kernel
theorem d_R_readsCustomer_103 : decode prog_14_method_55_code 103 = .ok (.iload_n 1, 1) := by decide +kernel
theorem d_R_readsCustomer_104 : decode prog_14_method_55_code 104 = .ok (.iastore, 1) := by decide +kernel
theorem d_R_readsCustomer_105 : decode prog_14_method_55_code 105 = .ok (.aload_n 0, 1) := by decide +kernel
theorem d_R_readsCustomer_106 : decode prog_14_method_55_code 106 = .ok (.getfield 7, 3) := by decide +kernel
theorem d_R_readsCustomer_109 : decode prog_14_method_55_code 109 = .ok (.iload 4, 2) := by decide +kernel
theorem d_R_readsCustomer_111 : decode prog_14_method_55_code 111 = .ok (.iconst 1, 1) := by decide +kernel
theorem d_R_readsCustomer_112 : decode prog_14_method_55_code 112 = .ok (.iadd, 1) := by decide +kernel
theorem d_R_readsCustomer_113 : decode prog_14_method_55_code 113 = .ok (.iload_n 2, 1) := by decide +kernel
theorem d_R_readsCustomer_114 : decode prog_14_method_55_code 114 = .ok (.iastore, 1) := by decide +kernel
theorem d_R_readsCustomer_115 : decode prog_14_method_55_code 115 = .ok (.aload_n 0, 1) := by decide +kernel
theorem d_R_readsCustomer_116 : decode prog_14_method_55_code 116 = .ok (.getfield 7, 3) := by decide +kernel
theorem d_R_readsCustomer_119 : decode prog_14_method_55_code 119 = .ok (.iload 4, 2) := by decide +kernel
theorem d_R_readsCustomer_121 : decode prog_14_method_55_code 121 = .ok (.iconst 2, 1) := by decide +kernel
theorem d_R_readsCustomer_122 : decode prog_14_method_55_code 122 = .ok (.iadd, 1) := by decide +kernel
theorem d_R_readsCustomer_123 : decode prog_14_method_55_code 123 = .ok (.iload_n 3, 1) := by decide +kernel
theorem d_R_readsCustomer_124 : decode prog_14_method_55_code 124 = .ok (.iastore, 1) := by decide +kernel
theorem d_R_readsCustomer_125 : decode prog_14_method_55_code 125 = .ok (.aload_n 0, 1) := by decide +kernel
theorem d_R_readsCustomer_126 : decode prog_14_method_55_code 126 = .ok (.getfield 7, 3) := by decide +kernel
theorem d_R_readsCustomer_129 : decode prog_14_method_55_code 129 = .ok (.bipush 15, 2) := by decide +kernel
theorem d_R_readsCustomer_131 : decode prog_14_method_55_code 131 = .ok (.dup2, 1) := by decide +kernel
theorem d_R_readsCustomer_132 : decode prog_14_method_55_code 132 = .ok (.iaload, 1) := by decide +kernel
theorem d_R_readsCustomer_133 : decode prog_14_method_55_code 133 = .ok (.iload_n 2, 1) := by decide +kernel
theorem d_R_readsCustomer_134 : decode prog_14_method_55_code 134 = .ok (.iadd, 1) := by decide +kernel
theorem d_R_readsCustomer_135 : decode prog_14_method_55_code 135 = .ok (.iastore, 1) := by decide +kernel
theorem d_R_readsCustomer_136 : decode prog_14_method_55_code 136 = .ok (.aload_n 0, 1) := by decide +kernel
theorem d_R_readsCustomer_137 : decode prog_14_method_55_code 137 = .ok (.getfield 7, 3) := by decide +kernel
theorem d_R_readsCustomer_140 : decode prog_14_method_55_code 140 = .ok (.bipush 8, 2) := by decide +kernel
theorem d_R_readsCustomer_142 : decode prog_14_method_55_code 142 = .ok (.dup2, 1) := by decide +kernel
theorem d_R_readsCustomer_143 : decode prog_14_method_55_code 143 = .ok (.iaload, 1) := by decide +kernel
theorem d_R_readsCustomer_144 : decode prog_14_method_55_code 144 = .ok (.iconst 1, 1) := by decide +kernel
theorem d_R_readsCustomer_145 : decode prog_14_method_55_code 145 = .ok (.iadd, 1) := by decide +kernel
theorem d_R_readsCustomer_146 : decode prog_14_method_55_code 146 = .ok (.iastore, 1) := by decide +kernel
theorem d_R_readsCustomer_147 : decode prog_14_method_55_code 147 = .ok (.return_, 1) := by decide +kernel
theorem d_R_readsOwl_0 : decode prog_14_method_56_code 0 = .ok (.aload_n 0, 1) := by decide +kernel
theorem d_R_readsOwl_1 : decode prog_14_method_56_code 1 = .ok (.aload_n 0, 1) := by decide +kernel
theorem d_R_readsOwl_2 : decode prog_14_method_56_code 2 = .ok (.ldc 211, 2) := by decide +kernel
theorem d_R_readsOwl_4 : decode prog_14_method_56_code 4 = .ok (.invokevirtual 200, 3) := by decide +kernel
theorem d_R_readsOwl_7 : decode prog_14_method_56_code 7 = .ok (.iconst 1, 1) := by decide +kernel
theorem d_R_readsOwl_8 : decode prog_14_method_56_code 8 = .ok (.invokevirtual 169, 3) := by decide +kernel
theorem d_R_readsOwl_11 : decode prog_14_method_56_code 11 = .ok (.pop, 1) := by decide +kernel
theorem d_R_readsOwl_12 : decode prog_14_method_56_code 12 = .ok (.aload_n 0, 1) := by decide +kernel
theorem d_R_readsOwl_13 : decode prog_14_method_56_code 13 = .ok (.aload_n 0, 1) := by decide +kernel
theorem d_R_readsOwl_14 : decode prog_14_method_56_code 14 = .ok (.getfield 7, 3) := by decide +kernel
theorem d_R_readsOwl_17 : decode prog_14_method_56_code 17 = .ok (.bipush 9, 2) := by decide +kernel
theorem d_R_readsOwl_19 : decode prog_14_method_56_code 19 = .ok (.iaload, 1) := by decide +kernel
theorem d_R_readsOwl_20 : decode prog_14_method_56_code 20 = .ok (.iconst 5, 1) := by decide +kernel
theorem d_R_readsOwl_21 : decode prog_14_method_56_code 21 = .ok (.if_icmp .ge 7, 3) := by decide +kernel
theorem d_R_readsOwl_24 : decode prog_14_method_56_code 24 = .ok (.iconst 1, 1) := by decide +kernel
theorem d_R_readsOwl_25 : decode prog_14_method_56_code 25 = .ok (.goto 4, 3) := by decide +kernel
theorem d_R_readsOwl_28 : decode prog_14_method_56_code 28 = .ok (.iconst 0, 1) := by decide +kernel
theorem d_R_readsOwl_29 : decode prog_14_method_56_code 29 = .ok (.iconst 4, 1) := by decide +kernel
theorem d_R_readsOwl_30 : decode prog_14_method_56_code 30 = .ok (.invokevirtual 169, 3) := by decide +kernel
theorem d_R_readsOwl_33 : decode prog_14_method_56_code 33 = .ok (.pop, 1) := by decide +kernel
theorem d_R_readsOwl_34 : decode prog_14_method_56_code 34 = .ok (.aload_n 0, 1) := by decide +kernel
theorem d_R_readsOwl_35 : decode prog_14_method_56_code 35 = .ok (.invokevirtual 172, 3) := by decide +kernel
theorem d_R_readsOwl_38 : decode prog_14_method_56_code 38 = .ok (.aload_n 0, 1) := by decide +kernel
theorem d_R_readsOwl_39 : decode prog_14_method_56_code 39 = .ok (.iconst 1, 1) := by decide +kernel
theorem d_R_readsOwl_40 : decode prog_14_method_56_code 40 = .ok (.bipush 9, 2) := by decide +kernel
theorem d_R_readsOwl_42 : decode prog_14_method_56_code 42 = .ok (.invokevirtual 208, 3) := by decide +kernel
theorem d_R_readsOwl_45 : decode prog_14_method_56_code 45 = .ok (.istore_n 1, 1) := by decide +kernel
theorem d_R_readsOwl_46 : decode prog_14_method_56_code 46 = .ok (.aload_n 0, 1) := by decide +kernel
theorem d_R_readsOwl_47 : decode prog_14_method_56_code 47 = .ok (.bipush 59, 2) := by decide +kernel
theorem d_R_readsOwl_49 : decode prog_14_method_56_code 49 = .ok (.invokevirtual 204, 3) := by decide +kernel
theorem d_R_readsOwl_52 : decode prog_14_method_56_code 52 = .ok (.aload_n 0, 1) := by decide +kernel
theorem d_R_readsOwl_53 : decode prog_14_method_56_code 53 = .ok (.getfield 156, 3) := by decide +kernel
theorem d_R_readsOwl_56 : decode prog_14_method_56_code 56 = .ok (.ifCond .eq 4, 3) := by decide +kernel
theorem d_R_readsOwl_59 : decode prog_14_method_56_code 59 = .ok (.return_, 1) := by decide +kernel
theorem d_R_readsOwl_60 : decode prog_14_method_56_code 60 = .ok (.aload_n 0, 1) := by decide +kernel
theorem d_R_readsOwl_61 : decode prog_14_method_56_code 61 = .ok (.aload_n 0, 1) := by decide +kernel
theorem d_R_readsOwl_62 : decode prog_14_method_56_code 62 = .ok (.getfield 7, 3) := by decide +kernel
theorem d_R_readsOwl_65 : decode prog_14_method_56_code 65 = .ok (.bipush 9, 2) := by decide +kernel
theorem d_R_readsOwl_67 : decode prog_14_method_56_code 67 = .ok (.iaload, 1) := by decide +kernel
theorem d_R_readsOwl_68 : decode prog_14_method_56_code 68 = .ok (.iconst 0, 1) := by decide +kernel
theorem d_R_readsOwl_69 : decode prog_14_method_56_code 69 = .ok (.iload_n 1, 1) := by decide +kernel
theorem d_R_readsOwl_70 : decode prog_14_method_56_code 70 = .ok (.invokevirtual 104, 3) := by decide +kernel
theorem d_R_readsOwl_73 : decode prog_14_method_56_code 73 = .ok (.aload_n 0, 1) := by decide +kernel
theorem d_R_readsOwl_74 : decode prog_14_method_56_code 74 = .ok (.aload_n 0, 1) := by decide +kernel
theorem d_R_readsOwl_75 : decode prog_14_method_56_code 75 = .ok (.getfield 7, 3) := by decide +kernel
theorem d_R_readsOwl_78 : decode prog_14_method_56_code 78 = .ok (.bipush 9, 2) := by decide +kernel
theorem d_R_readsOwl_80 : decode prog_14_method_56_code 80 = .ok (.iaload, 1) := by decide +kernel
theorem d_R_readsOwl_81 : decode prog_14_method_56_code 81 = .ok (.iconst 3, 1) := by decide +kernel
theorem d_R_readsOwl_82 : decode prog_14_method_56_code 82 = .ok (.iconst (-1), 1) := by decide +kernel
theorem d_R_readsOwl_83 : decode prog_14_method_56_code 83 = .ok (.invokevirtual 104, 3) := by decide +kernel
theorem d_R_readsOwl_86 : decode prog_14_method_56_code 86 = .ok (.aload_n 0, 1) := by decide +kernel
theorem d_R_readsOwl_87 : decode prog_14_method_56_code 87 = .ok (.getfield 7, 3) := by decide +kernel
theorem d_R_readsOwl_90 : decode prog_14_method_56_code 90 = .ok (.bipush 9, 2) := by decide +kernel
theorem d_R_readsOwl_92 : decode prog_14_method_56_code 92 = .ok (.dup2, 1) := by decide +kernel
theorem d_R_readsOwl_93 : decode prog_14_method_56_code 93 = .ok (.iaload, 1) := by decide +kernel
theorem d_R_readsOwl_94 : decode prog_14_method_56_code 94 = .ok (.iconst 1, 1) := by decide +kernel
theorem d_R_readsOwl_95 : decode prog_14_method_56_code 95 = .ok (.iadd, 1) := by decide +kernel
theorem d_R_readsOwl_96 : decode prog_14_method_56_code 96 = .ok (.iastore, 1) := by decide +kernel
theorem d_R_readsOwl_97 : decode prog_14_method_56_code 97 = .ok (.return_, 1) := by decide +kernel
theorem d_R_readsSetup_0 : decode prog_14_method_57_code 0 = .ok (.aload_n 0, 1) := by decide +kernel
theorem d_R_readsSetup_1 : decode prog_14_method_57_code 1 = .ok (.aload_n 0, 1) := by decide +kernel
theorem d_R_readsSetup_2 : decode prog_14_method_57_code 2 = .ok (.ldc 213, 2) := by decide +kernel
theorem d_R_readsSetup_4 : decode prog_14_method_57_code 4 = .ok (.invokevirtual 200, 3) := by decide +kernel
theorem d_R_readsSetup_7 : decode prog_14_method_57_code 7 = .ok (.iconst 1, 1) := by decide +kernel
theorem d_R_readsSetup_8 : decode prog_14_method_57_code 8 = .ok (.invokevirtual 169, 3) := by decide +kernel
theorem d_R_readsSetup_11 : decode prog_14_method_57_code 11 = .ok (.pop, 1) := by decide +kernel
theorem d_R_readsSetup_12 : decode prog_14_method_57_code 12 = .ok (.aload_n 0, 1) := by decide +kernel
theorem d_R_readsSetup_13 : decode prog_14_method_57_code 13 = .ok (.invokevirtual 172, 3) := by decide +kernel
theorem d_R_readsSetup_16 : decode prog_14_method_57_code 16 = .ok (.aload_n 0, 1) := by decide +kernel
theorem d_R_readsSetup_17 : decode prog_14_method_57_code 17 = .ok (.getfield 7, 3) := by decide +kernel
theorem d_R_readsSetup_20 : decode prog_14_method_57_code 20 = .ok (.iconst 0, 1) := by decide +kernel
theorem d_R_readsSetup_21 : decode prog_14_method_57_code 21 = .ok (.aload_n 0, 1) := by decide +kernel
theorem d_R_readsSetup_22 : decode prog_14_method_57_code 22 = .ok (.iconst 0, 1) := by decide +kernel
theorem d_R_readsSetup_23 : decode prog_14_method_57_code 23 = .ok (.ldc 215, 2) := by decide +kernel
theorem d_R_readsSetup_25 : decode prog_14_method_57_code 25 = .ok (.invokevirtual 208, 3) := by decide +kernel
theorem d_R_readsSetup_28 : decode prog_14_method_57_code 28 = .ok (.iastore, 1) := by decide +kernel
theorem d_R_readsSetup_29 : decode prog_14_method_57_code 29 = .ok (.aload_n 0, 1) := by decide +kernel
theorem d_R_readsSetup_30 : decode prog_14_method_57_code 30 = .ok (.getfield 7, 3) := by decide +kernel
theorem d_R_readsSetup_33 : decode prog_14_method_57_code 33 = .ok (.iconst 1, 1) := by decide +kernel
theorem d_R_readsSetup_34 : decode prog_14_method_57_code 34 = .ok (.aload_n 0, 1) := by decide +kernel
theorem d_R_readsSetup_35 : decode prog_14_method_57_code 35 = .ok (.iconst 1, 1) := by decide +kernel
theorem d_R_readsSetup_36 : decode prog_14_method_57_code 36 = .ok (.bipush 9, 2) := by decide +kernel
theorem d_R_readsSetup_38 : decode prog_14_method_57_code 38 = .ok (.invokevirtual 208, 3) := by decide +kernel
theorem d_R_readsSetup_41 : decode prog_14_method_57_code 41 = .ok (.iastore, 1) := by decide +kernel
theorem d_R_readsSetup_42 : decode prog_14_method_57_code 42 = .ok (.aload_n 0, 1) := by decide +kernel
theorem d_R_readsSetup_43 : decode prog_14_method_57_code 43 = .ok (.getfield 7, 3) := by decide +kernel
theorem d_R_readsSetup_46 : decode prog_14_method_57_code 46 = .ok (.iconst 2, 1) := by decide +kernel
theorem d_R_readsSetup_47 : decode prog_14_method_57_code 47 = .ok (.aload_n 0, 1) := by decide +kernel
theorem d_R_readsSetup_48 : decode prog_14_method_57_code 48 = .ok (.iconst 0, 1) := by decide +kernel
theorem d_R_readsSetup_49 : decode prog_14_method_57_code 49 = .ok (.bipush 99, 2) := by decide +kernel
theorem d_R_readsSetup_51 : decode prog_14_method_57_code 51 = .ok (.invokevirtual 208, 3) := by decide +kernel
theorem d_R_readsSetup_54 : decode prog_14_method_57_code 54 = .ok (.iastore, 1) := by decide +kernel
theorem d_R_readsSetup_55 : decode prog_14_method_57_code 55 = .ok (.aload_n 0, 1) := by decide +kernel
theorem d_R_readsSetup_56 : decode prog_14_method_57_code 56 = .ok (.getfield 7, 3) := by decide +kernel
theorem d_R_readsSetup_59 : decode prog_14_method_57_code 59 = .ok (.iconst 3, 1) := by decide +kernel
theorem d_R_readsSetup_60 : decode prog_14_method_57_code 60 = .ok (.aload_n 0, 1) := by decide +kernel
theorem d_R_readsSetup_61 : decode prog_14_method_57_code 61 = .ok (.iconst 0, 1) := by decide +kernel
theorem d_R_readsSetup_62 : decode prog_14_method_57_code 62 = .ok (.sipush 200, 3) := by decide +kernel
theorem d_R_readsSetup_65 : decode prog_14_method_57_code 65 = .ok (.invokevirtual 208, 3) := by decide +kernel
theorem d_R_readsSetup_68 : decode prog_14_method_57_code 68 = .ok (.iastore, 1) := by decide +kernel
theorem d_R_readsSetup_69 : decode prog_14_method_57_code 69 = .ok (.aload_n 0, 1) := by decide +kernel
theorem d_R_readsSetup_70 : decode prog_14_method_57_code 70 = .ok (.getfield 7, 3) := by decide +kernel
theorem d_R_readsSetup_73 : decode prog_14_method_57_code 73 = .ok (.iconst 4, 1) := by decide +kernel
theorem d_R_readsSetup_74 : decode prog_14_method_57_code 74 = .ok (.aload_n 0, 1) := by decide +kernel
theorem d_R_readsSetup_75 : decode prog_14_method_57_code 75 = .ok (.iconst 0, 1) := by decide +kernel
theorem d_R_readsSetup_76 : decode prog_14_method_57_code 76 = .ok (.sipush 200, 3) := by decide +kernel
theorem d_R_readsSetup_79 : decode prog_14_method_57_code 79 = .ok (.invokevirtual 208, 3) := by decide +kernel
theorem d_R_readsSetup_82 : decode prog_14_method_57_code 82 = .ok (.iastore, 1) := by decide +kernel
theorem d_R_readsSetup_83 : decode prog_14_method_57_code 83 = .ok (.aload_n 0, 1) := by decide +kernel
theorem d_R_readsSetup_84 : decode prog_14_method_57_code 84 = .ok (.getfield 7, 3) := by decide +kernel
theorem d_R_readsSetup_87 : decode prog_14_method_57_code 87 = .ok (.bipush 15, 2) := by decide +kernel
theorem d_R_readsSetup_89 : decode prog_14_method_57_code 89 = .ok (.aload_n 0, 1) := by decide +kernel
theorem d_R_readsSetup_90 : decode prog_14_method_57_code 90 = .ok (.getfield 7, 3) := by decide +kernel
theorem d_R_readsSetup_93 : decode prog_14_method_57_code 93 = .ok (.iconst 0, 1) := by decide +kernel
theorem d_R_readsSetup_94 : decode prog_14_method_57_code 94 = .ok (.iaload, 1) := by decide +kernel
theorem d_R_readsSetup_95 : decode prog_14_method_57_code 95 = .ok (.iastore, 1) := by decide +kernel
theorem d_R_readsSetup_96 : decode prog_14_method_57_code 96 = .ok (.aload_n 0, 1) := by decide +kernel
theorem d_R_readsSetup_97 : decode prog_14_method_57_code 97 = .ok (.bipush 59, 2) := by decide +kernel
theorem d_R_readsSetup_99 : decode prog_14_method_57_code 99 = .ok (.invokevirtual 204, 3) := by decide +kernel
theorem d_R_readsSetup_102 : decode prog_14_method_57_code 102 = .ok (.aload_n 0, 1) := by decide +kernel
theorem d_R_readsSetup_103 : decode prog_14_method_57_code 103 = .ok (.invokevirtual 216, 3) := by decide +kernel
theorem d_R_readsSetup_106 : decode prog_14_method_57_code 106 = .ok (.aload_n 0, 1) := by decide +kernel
theorem d_R_readsSetup_107 : decode prog_14_method_57_code 107 = .ok (.ldc 198, 2) := by decide +kernel
theorem d_R_readsSetup_109 : decode prog_14_method_57_code 109 = .ok (.invokevirtual 200, 3) := by decide +kernel
theorem d_R_readsSetup_112 : decode prog_14_method_57_code 112 = .ok (.ifCond .eq 10, 3) := by decide +kernel
theorem d_R_readsSetup_115 : decode prog_14_method_57_code 115 = .ok (.aload_n 0, 1) := by decide +kernel
theorem d_R_readsSetup_116 : decode prog_14_method_57_code 116 = .ok (.invokevirtual 216, 3) := by decide +kernel
theorem d_R_readsSetup_119 : decode prog_14_method_57_code 119 = .ok (.goto (-13), 3) := by decide +kernel
theorem d_R_readsSetup_122 : decode prog_14_method_57_code 122 = .ok (.aload_n 0, 1) := by decide +kernel
theorem d_R_readsSetup_123 : decode prog_14_method_57_code 123 = .ok (.invokevirtual 219, 3) := by decide +kernel
theorem d_R_readsSetup_126 : decode prog_14_method_57_code 126 = .ok (.aload_n 0, 1) := by decide +kernel
theorem d_R_readsSetup_127 : decode prog_14_method_57_code 127 = .ok (.ldc 207, 2) := by decide +kernel
theorem d_R_readsSetup_129 : decode prog_14_method_57_code 129 = .ok (.invokevirtual 200, 3) := by decide +kernel
theorem d_R_readsSetup_132 : decode prog_14_method_57_code 132 = .ok (.ifCond .eq 10, 3) := by decide +kernel
theorem d_R_readsSetup_135 : decode prog_14_method_57_code 135 = .ok (.aload_n 0, 1) := by decide +kernel
theorem d_R_readsSetup_136 : decode prog_14_method_57_code 136 = .ok (.invokevirtual 219, 3) := by decide +kernel
theorem d_R_readsSetup_139 : decode prog_14_method_57_code 139 = .ok (.goto (-13), 3) := by decide +kernel
theorem d_R_readsSetup_142 : decode prog_14_method_57_code 142 = .ok (.aload_n 0, 1) := by decide +kernel
theorem d_R_readsSetup_143 : decode prog_14_method_57_code 143 = .ok (.ldc 222, 2) := by decide +kernel
theorem d_R_readsSetup_145 : decode prog_14_method_57_code 145 = .ok (.invokevirtual 200, 3) := by decide +kernel
theorem d_R_readsSetup_148 : decode prog_14_method_57_code 148 = .ok (.ifCond .eq 10, 3) := by decide +kernel
theorem d_R_readsSetup_151 : decode prog_14_method_57_code 151 = .ok (.aload_n 0, 1) := by decide +kernel
theorem d_R_readsSetup_152 : decode prog_14_method_57_code 152 = .ok (.invokevirtual 224, 3) := by decide +kernel
theorem d_R_readsSetup_155 : decode prog_14_method_57_code 155 = .ok (.goto (-13), 3) := by decide +kernel
theorem d_R_readsSetup_158 : decode prog_14_method_57_code 158 = .ok (.aload_n 0, 1) := by decide +kernel
theorem d_R_readsSetup_159 : decode prog_14_method_57_code 159 = .ok (.getfield 156, 3) := by decide +kernel
theorem d_R_readsSetup_162 : decode prog_14_method_57_code 162 = .ok (.ifCond .ne 17, 3) := by decide +kernel
theorem d_R_readsSetup_165 : decode prog_14_method_57_code 165 = .ok (.aload_n 0, 1) := by decide +kernel
theorem d_R_readsSetup_166 : decode prog_14_method_57_code 166 = .ok (.getfield 144, 3) := by decide +kernel
theorem d_R_readsSetup_169 : decode prog_14_method_57_code 169 = .ok (.ifCond .eq 10, 3) := by decide +kernel
theorem d_R_readsSetup_172 : decode prog_14_method_57_code 172 = .ok (.aload_n 0, 1) := by decide +kernel
theorem d_R_readsSetup_173 : decode prog_14_method_57_code 173 = .ok (.invokevirtual 227, 3) := by decide +kernel
theorem d_R_readsSetup_176 : decode prog_14_method_57_code 176 = .ok (.goto (-18), 3) := by decide +kernel
theorem d_R_readsSetup_179 : decode prog_14_method_57_code 179 = .ok (.return_, 1) := by decide +kernel
theorem d_R_load_0 : decode prog_14_method_58_code 0 = .ok (.aload_n 0, 1) := by decide +kernel
theorem d_R_load_1 : decode prog_14_method_58_code 1 = .ok (.iconst 0, 1) := by decide +kernel
theorem d_R_load_2 : decode prog_14_method_58_code 2 = .ok (.putfield 73, 3) := by decide +kernel
theorem d_R_load_5 : decode prog_14_method_58_code 5 = .ok (.iconst 0, 1) := by decide +kernel
theorem d_R_load_6 : decode prog_14_method_58_code 6 = .ok (.istore_n 1, 1) := by decide +kernel
theorem d_R_load_7 : decode prog_14_method_58_code 7 = .ok (.iload_n 1, 1) := by decide +kernel
theorem d_R_load_8 : decode prog_14_method_58_code 8 = .ok (.sipush 524, 3) := by decide +kernel
theorem d_R_load_11 : decode prog_14_method_58_code 11 = .ok (.if_icmp .ge 28, 3) := by decide +kernel
theorem d_R_load_14 : decode prog_14_method_58_code 14 = .ok (.aload_n 0, 1) := by decide +kernel
theorem d_R_load_15 : decode prog_14_method_58_code 15 = .ok (.getfield 16, 3) := by decide +kernel
theorem d_R_load_18 : decode prog_14_method_58_code 18 = .ok (.iload_n 1, 1) := by decide +kernel
theorem d_R_load_19 : decode prog_14_method_58_code 19 = .ok (.aload_n 0, 1) := by decide +kernel
theorem d_R_load_20 : decode prog_14_method_58_code 20 = .ok (.getfield 7, 3) := by decide +kernel
theorem d_R_load_23 : decode prog_14_method_58_code 23 = .ok (.iload_n 1, 1) := by decide +kernel
theorem d_R_load_24 : decode prog_14_method_58_code 24 = .ok (.iaload, 1) := by decide +kernel
theorem d_R_load_25 : decode prog_14_method_58_code 25 = .ok (.iastore, 1) := by decide +kernel
theorem d_R_load_26 : decode prog_14_method_58_code 26 = .ok (.aload_n 0, 1) := by decide +kernel
theorem d_R_load_27 : decode prog_14_method_58_code 27 = .ok (.getfield 7, 3) := by decide +kernel
theorem d_R_load_30 : decode prog_14_method_58_code 30 = .ok (.iload_n 1, 1) := by decide +kernel
theorem d_R_load_31 : decode prog_14_method_58_code 31 = .ok (.iconst 0, 1) := by decide +kernel
theorem d_R_load_32 : decode prog_14_method_58_code 32 = .ok (.iastore, 1) := by decide +kernel
theorem d_R_load_33 : decode prog_14_method_58_code 33 = .ok (.iinc 1 1, 3) := by decide +kernel
theorem d_R_load_36 : decode prog_14_method_58_code 36 = .ok (.goto (-29), 3) := by decide +kernel
theorem d_R_load_39 : decode prog_14_method_58_code 39 = .ok (.aload_n 0, 1) := by decide +kernel
theorem d_R_load_40 : decode prog_14_method_58_code 40 = .ok (.invokevirtual 67, 3) := by decide +kernel
theorem d_R_load_43 : decode prog_14_method_58_code 43 = .ok (.aload_n 0, 1) := by decide +kernel
theorem d_R_load_44 : decode prog_14_method_58_code 44 = .ok (.invokevirtual 70, 3) := by decide +kernel
theorem d_R_load_47 : decode prog_14_method_58_code 47 = .ok (.aload_n 0, 1) := by decide +kernel
theorem d_R_load_48 : decode prog_14_method_58_code 48 = .ok (.invokevirtual 230, 3) := by decide +kernel
theorem d_R_load_51 : decode prog_14_method_58_code 51 = .ok (.ifCond .ne 35, 3) := by decide +kernel
theorem d_R_load_54 : decode prog_14_method_58_code 54 = .ok (.iconst 0, 1) := by decide +kernel
theorem d_R_load_55 : decode prog_14_method_58_code 55 = .ok (.istore_n 1, 1) := by decide +kernel
theorem d_R_load_56 : decode prog_14_method_58_code 56 = .ok (.iload_n 1, 1) := by decide +kernel
theorem d_R_load_57 : decode prog_14_method_58_code 57 = .ok (.sipush 524, 3) := by decide +kernel
theorem d_R_load_60 : decode prog_14_method_58_code 60 = .ok (.if_icmp .ge 21, 3) := by decide +kernel
theorem d_R_load_63 : decode prog_14_method_58_code 63 = .ok (.aload_n 0, 1) := by decide +kernel
theorem d_R_load_64 : decode prog_14_method_58_code 64 = .ok (.getfield 7, 3) := by decide +kernel
theorem d_R_load_67 : decode prog_14_method_58_code 67 = .ok (.iload_n 1, 1) := by decide +kernel
theorem d_R_load_68 : decode prog_14_method_58_code 68 = .ok (.aload_n 0, 1) := by decide +kernel
theorem d_R_load_69 : decode prog_14_method_58_code 69 = .ok (.getfield 16, 3) := by decide +kernel
theorem d_R_load_72 : decode prog_14_method_58_code 72 = .ok (.iload_n 1, 1) := by decide +kernel
theorem d_R_load_73 : decode prog_14_method_58_code 73 = .ok (.iaload, 1) := by decide +kernel
theorem d_R_load_74 : decode prog_14_method_58_code 74 = .ok (.iastore, 1) := by decide +kernel
theorem d_R_load_75 : decode prog_14_method_58_code 75 = .ok (.iinc 1 1, 3) := by decide +kernel
theorem d_R_load_78 : decode prog_14_method_58_code 78 = .ok (.goto (-22), 3) := by decide +kernel
theorem d_R_load_81 : decode prog_14_method_58_code 81 = .ok (.aload_n 0, 1) := by decide +kernel
theorem d_R_load_82 : decode prog_14_method_58_code 82 = .ok (.getfield 132, 3) := by decide +kernel
theorem d_R_load_85 : decode prog_14_method_58_code 85 = .ok (.ireturn, 1) := by decide +kernel
theorem d_R_load_86 : decode prog_14_method_58_code 86 = .ok (.aload_n 0, 1) := by decide +kernel
theorem d_R_load_87 : decode prog_14_method_58_code 87 = .ok (.iconst 0, 1) := by decide +kernel
theorem d_R_load_88 : decode prog_14_method_58_code 88 = .ok (.putfield 233, 3) := by decide +kernel
theorem d_R_load_91 : decode prog_14_method_58_code 91 = .ok (.aload_n 0, 1) := by decide +kernel
theorem d_R_load_92 : decode prog_14_method_58_code 92 = .ok (.getfield 25, 3) := by decide +kernel
theorem d_R_load_95 : decode prog_14_method_58_code 95 = .ok (.iconst 0, 1) := by decide +kernel
theorem d_R_load_96 : decode prog_14_method_58_code 96 = .ok (.iconst 0, 1) := by decide +kernel
theorem d_R_load_97 : decode prog_14_method_58_code 97 = .ok (.bastore, 1) := by decide +kernel
theorem d_R_load_98 : decode prog_14_method_58_code 98 = .ok (.aload_n 0, 1) := by decide +kernel
theorem d_R_load_99 : decode prog_14_method_58_code 99 = .ok (.getfield 25, 3) := by decide +kernel
theorem d_R_load_102 : decode prog_14_method_58_code 102 = .ok (.iconst 1, 1) := by decide +kernel
theorem d_R_load_103 : decode prog_14_method_58_code 103 = .ok (.iconst 0, 1) := by decide +kernel
theorem d_R_load_104 : decode prog_14_method_58_code 104 = .ok (.bastore, 1) := by decide +kernel
theorem d_R_load_105 : decode prog_14_method_58_code 105 = .ok (.iconst 0, 1) := by decide +kernel
theorem d_R_load_106 : decode prog_14_method_58_code 106 = .ok (.ireturn, 1) := by decide +kernel
theorem d_R_meanPrice_0 : decode prog_14_method_109_code 0 = .ok (.aload_n 0, 1) := by decide +kernel
theorem d_R_meanPrice_1 : decode prog_14_method_109_code 1 = .ok (.iconst 0, 1) := by decide +kernel
theorem d_R_meanPrice_2 : decode prog_14_method_109_code 2 = .ok (.putfield 73, 3) := by decide +kernel
theorem d_R_meanPrice_5 : decode prog_14_method_109_code 5 = .ok (.iconst 0, 1) := by decide +kernel
theorem d_R_meanPrice_6 : decode prog_14_method_109_code 6 = .ok (.istore_n 1, 1) := by decide +kernel
theorem d_R_meanPrice_7 : decode prog_14_method_109_code 7 = .ok (.iconst 0, 1) := by decide +kernel
theorem d_R_meanPrice_8 : decode prog_14_method_109_code 8 = .ok (.istore_n 2, 1) := by decide +kernel
theorem d_R_meanPrice_9 : decode prog_14_method_109_code 9 = .ok (.iload_n 2, 1) := by decide +kernel
theorem d_R_meanPrice_10 : decode prog_14_method_109_code 10 = .ok (.aload_n 0, 1) := by decide +kernel
theorem d_R_meanPrice_11 : decode prog_14_method_109_code 11 = .ok (.getfield 7, 3) := by decide +kernel
theorem d_R_meanPrice_14 : decode prog_14_method_109_code 14 = .ok (.bipush 10, 2) := by decide +kernel
theorem d_R_meanPrice_16 : decode prog_14_method_109_code 16 = .ok (.iaload, 1) := by decide +kernel
theorem d_R_meanPrice_17 : decode prog_14_method_109_code 17 = .ok (.if_icmp .ge 19, 3) := by decide +kernel
theorem d_R_meanPrice_20 : decode prog_14_method_109_code 20 = .ok (.iload_n 1, 1) := by decide +kernel
theorem d_R_meanPrice_21 : decode prog_14_method_109_code 21 = .ok (.aload_n 0, 1) := by decide +kernel
theorem d_R_meanPrice_22 : decode prog_14_method_109_code 22 = .ok (.iload_n 2, 1) := by decide +kernel
theorem d_R_meanPrice_23 : decode prog_14_method_109_code 23 = .ok (.bipush 6, 2) := by decide +kernel
theorem d_R_meanPrice_25 : decode prog_14_method_109_code 25 = .ok (.invokevirtual 84, 3) := by decide +kernel
theorem d_R_meanPrice_28 : decode prog_14_method_109_code 28 = .ok (.iadd, 1) := by decide +kernel
theorem d_R_meanPrice_29 : decode prog_14_method_109_code 29 = .ok (.istore_n 1, 1) := by decide +kernel
theorem d_R_meanPrice_30 : decode prog_14_method_109_code 30 = .ok (.iinc 2 1, 3) := by decide +kernel
theorem d_R_meanPrice_33 : decode prog_14_method_109_code 33 = .ok (.goto (-24), 3) := by decide +kernel
theorem d_R_meanPrice_36 : decode prog_14_method_109_code 36 = .ok (.aload_n 0, 1) := by decide +kernel
theorem d_R_meanPrice_37 : decode prog_14_method_109_code 37 = .ok (.getfield 7, 3) := by decide +kernel
theorem d_R_meanPrice_40 : decode prog_14_method_109_code 40 = .ok (.bipush 10, 2) := by decide +kernel
theorem d_R_meanPrice_42 : decode prog_14_method_109_code 42 = .ok (.iaload, 1) := by decide +kernel
theorem d_R_meanPrice_43 : decode prog_14_method_109_code 43 = .ok (.ifCond .ne 7, 3) := by decide +kernel
theorem d_R_meanPrice_46 : decode prog_14_method_109_code 46 = .ok (.dconst 0, 1) := by decide +kernel
theorem d_R_meanPrice_47 : decode prog_14_method_109_code 47 = .ok (.goto 14, 3) := by decide +kernel
theorem d_R_meanPrice_50 : decode prog_14_method_109_code 50 = .ok (.iload_n 1, 1) := by decide +kernel
theorem d_R_meanPrice_51 : decode prog_14_method_109_code 51 = .ok (.i2d, 1) := by decide +kernel
theorem d_R_meanPrice_52 : decode prog_14_method_109_code 52 = .ok (.aload_n 0, 1) := by decide +kernel
theorem d_R_meanPrice_53 : decode prog_14_method_109_code 53 = .ok (.getfield 7, 3) := by decide +kernel
theorem d_R_meanPrice_56 : decode prog_14_method_109_code 56 = .ok (.bipush 10, 2) := by decide +kernel
theorem d_R_meanPrice_58 : decode prog_14_method_109_code 58 = .ok (.iaload, 1) := by decide +kernel
theorem d_R_meanPrice_59 : decode prog_14_method_109_code 59 = .ok (.i2d, 1) := by decide +kernel
theorem d_R_meanPrice_60 : decode prog_14_method_109_code 60 = .ok (.ddiv, 1) := by decide +kernel
theorem d_R_meanPrice_61 : decode prog_14_method_109_code 61 = .ok (.dreturn, 1) := by decide +kernel
theorem d_R_owlCoins_0 : decode prog_14_method_103_code 0 = .ok (.aload_n 0, 1) := by decide +kernel
theorem d_R_owlCoins_1 : decode prog_14_method_103_code 1 = .ok (.iload_n 1, 1) := by decide +kernel
theorem d_R_owlCoins_2 : decode prog_14_method_103_code 2 = .ok (.iconst 2, 1) := by decide +kernel
theorem d_R_owlCoins_3 : decode prog_14_method_103_code 3 = .ok (.invokevirtual 355, 3) := by decide +kernel
theorem d_R_owlCoins_6 : decode prog_14_method_103_code 6 = .ok (.ireturn, 1) := by decide +kernel
theorem d_R_owlDays_0 : decode prog_14_method_102_code 0 = .ok (.aload_n 0, 1) := by decide +kernel
theorem d_R_owlDays_1 : decode prog_14_method_102_code 1 = .ok (.iload_n 1, 1) := by decide +kernel
theorem d_R_owlDays_2 : decode prog_14_method_102_code 2 = .ok (.iconst 1, 1) := by decide +kernel
theorem d_R_owlDays_3 : decode prog_14_method_102_code 3 = .ok (.invokevirtual 355, 3) := by decide +kernel
theorem d_R_owlDays_6 : decode prog_14_method_102_code 6 = .ok (.ireturn, 1) := by decide +kernel
theorem d_R_placeCount_0 : decode prog_14_method_75_code 0 = .ok (.aload_n 0, 1) := by decide +kernel
theorem d_R_placeCount_1 : decode prog_14_method_75_code 1 = .ok (.bipush 7, 2) := by decide +kernel
theorem d_R_placeCount_3 : decode prog_14_method_75_code 3 = .ok (.invokevirtual 324, 3) := by decide +kernel
theorem d_R_placeCount_6 : decode prog_14_method_75_code 6 = .ok (.ireturn, 1) := by decide +kernel
theorem d_R_placeInQueue_0 : decode prog_14_method_97_code 0 = .ok (.aload_n 0, 1) := by decide +kernel
theorem d_R_placeInQueue_1 : decode prog_14_method_97_code 1 = .ok (.iconst 0, 1) := by decide +kernel
theorem d_R_placeInQueue_2 : decode prog_14_method_97_code 2 = .ok (.putfield 73, 3) := by decide +kernel
theorem d_R_placeInQueue_5 : decode prog_14_method_97_code 5 = .ok (.aload_n 0, 1) := by decide +kernel
theorem d_R_placeInQueue_6 : decode prog_14_method_97_code 6 = .ok (.aload_n 0, 1) := by decide +kernel
theorem d_R_placeInQueue_7 : decode prog_14_method_97_code 7 = .ok (.iload_n 1, 1) := by decide +kernel
theorem d_R_placeInQueue_8 : decode prog_14_method_97_code 8 = .ok (.invokevirtual 346, 3) := by decide +kernel
theorem d_R_placeInQueue_11 : decode prog_14_method_97_code 11 = .ok (.iconst 1, 1) := by decide +kernel
theorem d_R_placeInQueue_12 : decode prog_14_method_97_code 12 = .ok (.invokevirtual 128, 3) := by decide +kernel
theorem d_R_placeInQueue_15 : decode prog_14_method_97_code 15 = .ok (.ifCond .eq 11, 3) := by decide +kernel
theorem d_R_placeInQueue_18 : decode prog_14_method_97_code 18 = .ok (.aload_n 0, 1) := by decide +kernel
theorem d_R_placeInQueue_19 : decode prog_14_method_97_code 19 = .ok (.iload_n 1, 1) := by decide +kernel
theorem d_R_placeInQueue_20 : decode prog_14_method_97_code 20 = .ok (.invokevirtual 352, 3) := by decide +kernel
theorem d_R_placeInQueue_23 : decode prog_14_method_97_code 23 = .ok (.goto 4, 3) := by decide +kernel
theorem d_R_placeInQueue_26 : decode prog_14_method_97_code 26 = .ok (.iconst 0, 1) := by decide +kernel
theorem d_R_placeInQueue_27 : decode prog_14_method_97_code 27 = .ok (.ireturn, 1) := by decide +kernel
theorem d_R_placeOf_0 : decode prog_14_method_88_code 0 = .ok (.aload_n 0, 1) := by decide +kernel
theorem d_R_placeOf_1 : decode prog_14_method_88_code 1 = .ok (.iload_n 1, 1) := by decide +kernel
theorem d_R_placeOf_2 : decode prog_14_method_88_code 2 = .ok (.iconst 2, 1) := by decide +kernel
theorem d_R_placeOf_3 : decode prog_14_method_88_code 3 = .ok (.invokevirtual 349, 3) := by decide +kernel
theorem d_R_placeOf_6 : decode prog_14_method_88_code 6 = .ok (.ireturn, 1) := by decide +kernel
theorem d_R_prophecyCount_0 : decode prog_14_method_84_code 0 = .ok (.aload_n 0, 1) := by decide +kernel
theorem d_R_prophecyCount_1 : decode prog_14_method_84_code 1 = .ok (.bipush 10, 2) := by decide +kernel
theorem d_R_prophecyCount_3 : decode prog_14_method_84_code 3 = .ok (.invokevirtual 324, 3) := by decide +kernel
theorem d_R_prophecyCount_6 : decode prog_14_method_84_code 6 = .ok (.ireturn, 1) := by decide +kernel
theorem d_R_purse_0 : decode prog_14_method_78_code 0 = .ok (.aload_n 0, 1) := by decide +kernel
theorem d_R_purse_1 : decode prog_14_method_78_code 1 = .ok (.iconst 0, 1) := by decide +kernel
theorem d_R_purse_2 : decode prog_14_method_78_code 2 = .ok (.putfield 73, 3) := by decide +kernel
theorem d_R_purse_5 : decode prog_14_method_78_code 5 = .ok (.aload_n 0, 1) := by decide +kernel
theorem d_R_purse_6 : decode prog_14_method_78_code 6 = .ok (.aload_n 0, 1) := by decide +kernel
theorem d_R_purse_7 : decode prog_14_method_78_code 7 = .ok (.iload_n 1, 1) := by decide +kernel
theorem d_R_purse_8 : decode prog_14_method_78_code 8 = .ok (.invokevirtual 327, 3) := by decide +kernel
theorem d_R_purse_11 : decode prog_14_method_78_code 11 = .ok (.iconst 1, 1) := by decide +kernel
theorem d_R_purse_12 : decode prog_14_method_78_code 12 = .ok (.invokevirtual 128, 3) := by decide +kernel
theorem d_R_purse_15 : decode prog_14_method_78_code 15 = .ok (.ifCond .eq 12, 3) := by decide +kernel
theorem d_R_purse_18 : decode prog_14_method_78_code 18 = .ok (.aload_n 0, 1) := by decide +kernel
theorem d_R_purse_19 : decode prog_14_method_78_code 19 = .ok (.iload_n 1, 1) := by decide +kernel
theorem d_R_purse_20 : decode prog_14_method_78_code 20 = .ok (.iconst 1, 1) := by decide +kernel
theorem d_R_purse_21 : decode prog_14_method_78_code 21 = .ok (.invokevirtual 101, 3) := by decide +kernel
theorem d_R_purse_24 : decode prog_14_method_78_code 24 = .ok (.goto 4, 3) := by decide +kernel
theorem d_R_purse_27 : decode prog_14_method_78_code 27 = .ok (.iconst 0, 1) := by decide +kernel
theorem d_R_purse_28 : decode prog_14_method_78_code 28 = .ok (.ireturn, 1) := by decide +kernel
theorem d_R_queueLength_0 : decode prog_14_method_95_code 0 = .ok (.aload_n 0, 1) := by decide +kernel
theorem d_R_queueLength_1 : decode prog_14_method_95_code 1 = .ok (.bipush 12, 2) := by decide +kernel
theorem d_R_queueLength_3 : decode prog_14_method_95_code 3 = .ok (.invokevirtual 324, 3) := by decide +kernel
theorem d_R_queueLength_6 : decode prog_14_method_95_code 6 = .ok (.ireturn, 1) := by decide +kernel
theorem d_R_takesCustomer_0 : decode prog_14_method_51_code 0 = .ok (.aload_n 0, 1) := by decide +kernel
theorem d_R_takesCustomer_1 : decode prog_14_method_51_code 1 = .ok (.aload_n 0, 1) := by decide +kernel
theorem d_R_takesCustomer_2 : decode prog_14_method_51_code 2 = .ok (.invokevirtual 182, 3) := by decide +kernel
theorem d_R_takesCustomer_5 : decode prog_14_method_51_code 5 = .ok (.invokevirtual 195, 3) := by decide +kernel
theorem d_R_takesCustomer_8 : decode prog_14_method_51_code 8 = .ok (.istore_n 1, 1) := by decide +kernel
theorem d_R_takesCustomer_9 : decode prog_14_method_51_code 9 = .ok (.aload_n 0, 1) := by decide +kernel
theorem d_R_takesCustomer_10 : decode prog_14_method_51_code 10 = .ok (.iload_n 1, 1) := by decide +kernel
theorem d_R_takesCustomer_11 : decode prog_14_method_51_code 11 = .ok (.iconst (-1), 1) := by decide +kernel
theorem d_R_takesCustomer_12 : decode prog_14_method_51_code 12 = .ok (.if_icmp .eq 7, 3) := by decide +kernel
theorem d_R_takesCustomer_15 : decode prog_14_method_51_code 15 = .ok (.iconst 1, 1) := by decide +kernel
theorem d_R_takesCustomer_16 : decode prog_14_method_51_code 16 = .ok (.goto 4, 3) := by decide +kernel
theorem d_R_takesCustomer_19 : decode prog_14_method_51_code 19 = .ok (.iconst 0, 1) := by decide +kernel
theorem d_R_takesCustomer_20 : decode prog_14_method_51_code 20 = .ok (.invokevirtual 188, 3) := by decide +kernel
theorem d_R_takesCustomer_23 : decode prog_14_method_51_code 23 = .ok (.iload_n 1, 1) := by decide +kernel
theorem d_R_takesCustomer_24 : decode prog_14_method_51_code 24 = .ok (.ireturn, 1) := by decide +kernel
theorem d_R_takesSort_0 : decode prog_14_method_63_code 0 = .ok (.aload_n 0, 1) := by decide +kernel
theorem d_R_takesSort_1 : decode prog_14_method_63_code 1 = .ok (.ldc 255, 2) := by decide +kernel
theorem d_R_takesSort_3 : decode prog_14_method_63_code 3 = .ok (.invokevirtual 200, 3) := by decide +kernel
theorem d_R_takesSort_6 : decode prog_14_method_63_code 6 = .ok (.ifCond .eq 7, 3) := by decide +kernel
theorem d_R_takesSort_9 : decode prog_14_method_63_code 9 = .ok (.iconst 0, 1) := by decide +kernel
theorem d_R_takesSort_10 : decode prog_14_method_63_code 10 = .ok (.goto 32, 3) := by decide +kernel
theorem d_R_takesSort_13 : decode prog_14_method_63_code 13 = .ok (.aload_n 0, 1) := by decide +kernel
theorem d_R_takesSort_14 : decode prog_14_method_63_code 14 = .ok (.ldc_w 257, 3) := by decide +kernel
theorem d_R_takesSort_17 : decode prog_14_method_63_code 17 = .ok (.invokevirtual 200, 3) := by decide +kernel
theorem d_R_takesSort_20 : decode prog_14_method_63_code 20 = .ok (.ifCond .eq 7, 3) := by decide +kernel
theorem d_R_takesSort_23 : decode prog_14_method_63_code 23 = .ok (.iconst 1, 1) := by decide +kernel
theorem d_R_takesSort_24 : decode prog_14_method_63_code 24 = .ok (.goto 18, 3) := by decide +kernel
theorem d_R_takesSort_27 : decode prog_14_method_63_code 27 = .ok (.aload_n 0, 1) := by decide +kernel
theorem d_R_takesSort_28 : decode prog_14_method_63_code 28 = .ok (.ldc_w 259, 3) := by decide +kernel
theorem d_R_takesSort_31 : decode prog_14_method_63_code 31 = .ok (.invokevirtual 200, 3) := by decide +kernel
theorem d_R_takesSort_34 : decode prog_14_method_63_code 34 = .ok (.ifCond .eq 7, 3) := by decide +kernel
theorem d_R_takesSort_37 : decode prog_14_method_63_code 37 = .ok (.iconst 2, 1) := by decide +kernel
theorem d_R_takesSort_38 : decode prog_14_method_63_code 38 = .ok (.goto 4, 3) := by decide +kernel
theorem d_R_takesSort_41 : decode prog_14_method_63_code 41 = .ok (.iconst (-1), 1) := by decide +kernel
theorem d_R_takesSort_42 : decode prog_14_method_63_code 42 = .ok (.istore_n 1, 1) := by decide +kernel
theorem d_R_takesSort_43 : decode prog_14_method_63_code 43 = .ok (.aload_n 0, 1) := by decide +kernel
theorem d_R_takesSort_44 : decode prog_14_method_63_code 44 = .ok (.iload_n 1, 1) := by decide +kernel
theorem d_R_takesSort_45 : decode prog_14_method_63_code 45 = .ok (.iconst (-1), 1) := by decide +kernel
theorem d_R_takesSort_46 : decode prog_14_method_63_code 46 = .ok (.if_icmp .eq 7, 3) := by decide +kernel
theorem d_R_takesSort_49 : decode prog_14_method_63_code 49 = .ok (.iconst 1, 1) := by decide +kernel
theorem d_R_takesSort_50 : decode prog_14_method_63_code 50 = .ok (.goto 4, 3) := by decide +kernel
theorem d_R_takesSort_53 : decode prog_14_method_63_code 53 = .ok (.iconst 0, 1) := by decide +kernel
theorem d_R_takesSort_54 : decode prog_14_method_63_code 54 = .ok (.iconst 1, 1) := by decide +kernel
theorem d_R_takesSort_55 : decode prog_14_method_63_code 55 = .ok (.invokevirtual 169, 3) := by decide +kernel
theorem d_R_takesSort_58 : decode prog_14_method_63_code 58 = .ok (.pop, 1) := by decide +kernel
theorem d_R_takesSort_59 : decode prog_14_method_63_code 59 = .ok (.aload_n 0, 1) := by decide +kernel
theorem d_R_takesSort_60 : decode prog_14_method_63_code 60 = .ok (.invokevirtual 172, 3) := by decide +kernel
theorem d_R_takesSort_63 : decode prog_14_method_63_code 63 = .ok (.iload_n 1, 1) := by decide +kernel
theorem d_R_takesSort_64 : decode prog_14_method_63_code 64 = .ok (.ireturn, 1) := by decide +kernel
theorem d_R_takesEvent_0 : decode prog_14_method_49_code 0 = .ok (.aload_n 0, 1) := by decide +kernel
theorem d_R_takesEvent_1 : decode prog_14_method_49_code 1 = .ok (.aload_n 0, 1) := by decide +kernel
theorem d_R_takesEvent_2 : decode prog_14_method_49_code 2 = .ok (.invokevirtual 182, 3) := by decide +kernel
theorem d_R_takesEvent_5 : decode prog_14_method_49_code 5 = .ok (.invokevirtual 185, 3) := by decide +kernel
theorem d_R_takesEvent_8 : decode prog_14_method_49_code 8 = .ok (.istore_n 1, 1) := by decide +kernel
theorem d_R_takesEvent_9 : decode prog_14_method_49_code 9 = .ok (.aload_n 0, 1) := by decide +kernel
theorem d_R_takesEvent_10 : decode prog_14_method_49_code 10 = .ok (.iload_n 1, 1) := by decide +kernel
theorem d_R_takesEvent_11 : decode prog_14_method_49_code 11 = .ok (.iconst (-1), 1) := by decide +kernel
theorem d_R_takesEvent_12 : decode prog_14_method_49_code 12 = .ok (.if_icmp .eq 7, 3) := by decide +kernel
theorem d_R_takesEvent_15 : decode prog_14_method_49_code 15 = .ok (.iconst 1, 1) := by decide +kernel
theorem d_R_takesEvent_16 : decode prog_14_method_49_code 16 = .ok (.goto 4, 3) := by decide +kernel
theorem d_R_takesEvent_19 : decode prog_14_method_49_code 19 = .ok (.iconst 0, 1) := by decide +kernel
theorem d_R_takesEvent_20 : decode prog_14_method_49_code 20 = .ok (.invokevirtual 188, 3) := by decide +kernel
theorem d_R_takesEvent_23 : decode prog_14_method_49_code 23 = .ok (.iload_n 1, 1) := by decide +kernel
theorem d_R_takesEvent_24 : decode prog_14_method_49_code 24 = .ok (.ireturn, 1) := by decide +kernel
theorem d_R_takesPlace_0 : decode prog_14_method_50_code 0 = .ok (.aload_n 0, 1) := by decide +kernel
theorem d_R_takesPlace_1 : decode prog_14_method_50_code 1 = .ok (.aload_n 0, 1) := by decide +kernel
theorem d_R_takesPlace_2 : decode prog_14_method_50_code 2 = .ok (.invokevirtual 182, 3) := by decide +kernel
theorem d_R_takesPlace_5 : decode prog_14_method_50_code 5 = .ok (.invokevirtual 192, 3) := by decide +kernel
theorem d_R_takesPlace_8 : decode prog_14_method_50_code 8 = .ok (.istore_n 1, 1) := by decide +kernel
theorem d_R_takesPlace_9 : decode prog_14_method_50_code 9 = .ok (.aload_n 0, 1) := by decide +kernel
theorem d_R_takesPlace_10 : decode prog_14_method_50_code 10 = .ok (.iload_n 1, 1) := by decide +kernel
theorem d_R_takesPlace_11 : decode prog_14_method_50_code 11 = .ok (.iconst (-1), 1) := by decide +kernel
theorem d_R_takesPlace_12 : decode prog_14_method_50_code 12 = .ok (.if_icmp .eq 7, 3) := by decide +kernel
theorem d_R_takesPlace_15 : decode prog_14_method_50_code 15 = .ok (.iconst 1, 1) := by decide +kernel
theorem d_R_takesPlace_16 : decode prog_14_method_50_code 16 = .ok (.goto 4, 3) := by decide +kernel
theorem d_R_takesPlace_19 : decode prog_14_method_50_code 19 = .ok (.iconst 0, 1) := by decide +kernel
theorem d_R_takesPlace_20 : decode prog_14_method_50_code 20 = .ok (.invokevirtual 188, 3) := by decide +kernel
theorem d_R_takesPlace_23 : decode prog_14_method_50_code 23 = .ok (.iload_n 1, 1) := by decide +kernel
theorem d_R_takesPlace_24 : decode prog_14_method_50_code 24 = .ok (.ireturn, 1) := by decide +kernel
theorem d_R_readsSale_0 : decode prog_14_method_64_code 0 = .ok (.aload_n 0, 1) := by decide +kernel
theorem d_R_readsSale_1 : decode prog_14_method_64_code 1 = .ok (.iload_n 1, 1) := by decide +kernel
theorem d_R_readsSale_2 : decode prog_14_method_64_code 2 = .ok (.iconst 0, 1) := by decide +kernel
theorem d_R_readsSale_3 : decode prog_14_method_64_code 3 = .ok (.aload_n 0, 1) := by decide +kernel
theorem d_R_readsSale_4 : decode prog_14_method_64_code 4 = .ok (.invokevirtual 261, 3) := by decide +kernel
theorem d_R_readsSale_7 : decode prog_14_method_64_code 7 = .ok (.invokevirtual 246, 3) := by decide +kernel
theorem d_R_readsSale_10 : decode prog_14_method_64_code 10 = .ok (.aload_n 0, 1) := by decide +kernel
theorem d_R_readsSale_11 : decode prog_14_method_64_code 11 = .ok (.invokevirtual 264, 3) := by decide +kernel
theorem d_R_readsSale_14 : decode prog_14_method_64_code 14 = .ok (.istore_n 2, 1) := by decide +kernel
theorem d_R_readsSale_15 : decode prog_14_method_64_code 15 = .ok (.aload_n 0, 1) := by decide +kernel
theorem d_R_readsSale_16 : decode prog_14_method_64_code 16 = .ok (.iload_n 1, 1) := by decide +kernel
theorem d_R_readsSale_17 : decode prog_14_method_64_code 17 = .ok (.iconst 3, 1) := by decide +kernel
theorem d_R_readsSale_18 : decode prog_14_method_64_code 18 = .ok (.iload_n 2, 1) := by decide +kernel
theorem d_R_readsSale_19 : decode prog_14_method_64_code 19 = .ok (.invokevirtual 246, 3) := by decide +kernel
theorem d_R_readsSale_22 : decode prog_14_method_64_code 22 = .ok (.aload_n 0, 1) := by decide +kernel
theorem d_R_readsSale_23 : decode prog_14_method_64_code 23 = .ok (.iload_n 1, 1) := by decide +kernel
theorem d_R_readsSale_24 : decode prog_14_method_64_code 24 = .ok (.iconst 1, 1) := by decide +kernel
theorem d_R_readsSale_25 : decode prog_14_method_64_code 25 = .ok (.aload_n 0, 1) := by decide +kernel
theorem d_R_readsSale_26 : decode prog_14_method_64_code 26 = .ok (.invokevirtual 267, 3) := by decide +kernel
theorem d_R_readsSale_29 : decode prog_14_method_64_code 29 = .ok (.invokevirtual 246, 3) := by decide +kernel
theorem d_R_readsSale_32 : decode prog_14_method_64_code 32 = .ok (.aload_n 0, 1) := by decide +kernel
theorem d_R_readsSale_33 : decode prog_14_method_64_code 33 = .ok (.iload_n 1, 1) := by decide +kernel
theorem d_R_readsSale_34 : decode prog_14_method_64_code 34 = .ok (.iconst 2, 1) := by decide +kernel
theorem d_R_readsSale_35 : decode prog_14_method_64_code 35 = .ok (.iload_n 2, 1) := by decide +kernel
theorem d_R_readsSale_36 : decode prog_14_method_64_code 36 = .ok (.iconst 1, 1) := by decide +kernel
theorem d_R_readsSale_37 : decode prog_14_method_64_code 37 = .ok (.if_icmp .ne 7, 3) := by decide +kernel
theorem d_R_readsSale_40 : decode prog_14_method_64_code 40 = .ok (.iconst (-1), 1) := by decide +kernel
theorem d_R_readsSale_41 : decode prog_14_method_64_code 41 = .ok (.goto 7, 3) := by decide +kernel
theorem d_R_readsSale_44 : decode prog_14_method_64_code 44 = .ok (.aload_n 0, 1) := by decide +kernel
theorem d_R_readsSale_45 : decode prog_14_method_64_code 45 = .ok (.invokevirtual 270, 3) := by decide +kernel
theorem d_R_readsSale_48 : decode prog_14_method_64_code 48 = .ok (.invokevirtual 246, 3) := by decide +kernel
theorem d_R_readsSale_51 : decode prog_14_method_64_code 51 = .ok (.aload_n 0, 1) := by decide +kernel
theorem d_R_readsSale_52 : decode prog_14_method_64_code 52 = .ok (.iload_n 1, 1) := by decide +kernel
theorem d_R_readsSale_53 : decode prog_14_method_64_code 53 = .ok (.iconst 4, 1) := by decide +kernel
theorem d_R_readsSale_54 : decode prog_14_method_64_code 54 = .ok (.aload_n 0, 1) := by decide +kernel
theorem d_R_readsSale_55 : decode prog_14_method_64_code 55 = .ok (.iconst 0, 1) := by decide +kernel
theorem d_R_readsSale_56 : decode prog_14_method_64_code 56 = .ok (.bipush 99, 2) := by decide +kernel
theorem d_R_readsSale_58 : decode prog_14_method_64_code 58 = .ok (.invokevirtual 208, 3) := by decide +kernel
theorem d_R_readsSale_61 : decode prog_14_method_64_code 61 = .ok (.invokevirtual 246, 3) := by decide +kernel
theorem d_R_readsSale_64 : decode prog_14_method_64_code 64 = .ok (.aload_n 0, 1) := by decide +kernel
theorem d_R_readsSale_65 : decode prog_14_method_64_code 65 = .ok (.iload_n 1, 1) := by decide +kernel
theorem d_R_readsSale_66 : decode prog_14_method_64_code 66 = .ok (.iconst 5, 1) := by decide +kernel
theorem d_R_readsSale_67 : decode prog_14_method_64_code 67 = .ok (.aload_n 0, 1) := by decide +kernel
theorem d_R_readsSale_68 : decode prog_14_method_64_code 68 = .ok (.iconst 1, 1) := by decide +kernel
theorem d_R_readsSale_69 : decode prog_14_method_64_code 69 = .ok (.bipush 60, 2) := by decide +kernel
theorem d_R_readsSale_71 : decode prog_14_method_64_code 71 = .ok (.invokevirtual 208, 3) := by decide +kernel
theorem d_R_readsSale_74 : decode prog_14_method_64_code 74 = .ok (.invokevirtual 246, 3) := by decide +kernel
theorem d_R_readsSale_77 : decode prog_14_method_64_code 77 = .ok (.aload_n 0, 1) := by decide +kernel
theorem d_R_readsSale_78 : decode prog_14_method_64_code 78 = .ok (.iload_n 1, 1) := by decide +kernel
theorem d_R_readsSale_79 : decode prog_14_method_64_code 79 = .ok (.bipush 6, 2) := by decide +kernel
theorem d_R_readsSale_81 : decode prog_14_method_64_code 81 = .ok (.aload_n 0, 1) := by decide +kernel
theorem d_R_readsSale_82 : decode prog_14_method_64_code 82 = .ok (.iconst 1, 1) := by decide +kernel
theorem d_R_readsSale_83 : decode prog_14_method_64_code 83 = .ok (.sipush 999, 3) := by decide +kernel
theorem d_R_readsSale_86 : decode prog_14_method_64_code 86 = .ok (.invokevirtual 208, 3) := by decide +kernel
theorem d_R_readsSale_89 : decode prog_14_method_64_code 89 = .ok (.invokevirtual 246, 3) := by decide +kernel
theorem d_R_readsSale_92 : decode prog_14_method_64_code 92 = .ok (.return_, 1) := by decide +kernel
theorem d_R_readsSingle_0 : decode prog_14_method_65_code 0 = .ok (.aload_n 0, 1) := by decide +kernel
theorem d_R_readsSingle_1 : decode prog_14_method_65_code 1 = .ok (.getfield 36, 3) := by decide +kernel
theorem d_R_readsSingle_4 : decode prog_14_method_65_code 4 = .ok (.iload_n 1, 1) := by decide +kernel
theorem d_R_readsSingle_5 : decode prog_14_method_65_code 5 = .ok (.iaload, 1) := by decide +kernel
theorem d_R_readsSingle_6 : decode prog_14_method_65_code 6 = .ok (.tableswitch 73 0 2 #[26, 34, 57], 26) := by decide +kernel
theorem d_R_readsSingle_32 : decode prog_14_method_65_code 32 = .ok (.aload_n 0, 1) := by decide +kernel
theorem d_R_readsSingle_33 : decode prog_14_method_65_code 33 = .ok (.iload_n 1, 1) := by decide +kernel
theorem d_R_readsSingle_34 : decode prog_14_method_65_code 34 = .ok (.invokevirtual 273, 3) := by decide +kernel
theorem d_R_readsSingle_37 : decode prog_14_method_65_code 37 = .ok (.goto 55, 3) := by decide +kernel
theorem d_R_readsSingle_40 : decode prog_14_method_65_code 40 = .ok (.aload_n 0, 1) := by decide +kernel
theorem d_R_readsSingle_41 : decode prog_14_method_65_code 41 = .ok (.iload_n 1, 1) := by decide +kernel
theorem d_R_readsSingle_42 : decode prog_14_method_65_code 42 = .ok (.iconst 1, 1) := by decide +kernel
theorem d_R_readsSingle_43 : decode prog_14_method_65_code 43 = .ok (.aload_n 0, 1) := by decide +kernel
theorem d_R_readsSingle_44 : decode prog_14_method_65_code 44 = .ok (.invokevirtual 267, 3) := by decide +kernel
theorem d_R_readsSingle_47 : decode prog_14_method_65_code 47 = .ok (.invokevirtual 246, 3) := by decide +kernel
theorem d_R_readsSingle_50 : decode prog_14_method_65_code 50 = .ok (.aload_n 0, 1) := by decide +kernel
theorem d_R_readsSingle_51 : decode prog_14_method_65_code 51 = .ok (.iload_n 1, 1) := by decide +kernel
theorem d_R_readsSingle_52 : decode prog_14_method_65_code 52 = .ok (.iconst 2, 1) := by decide +kernel
theorem d_R_readsSingle_53 : decode prog_14_method_65_code 53 = .ok (.aload_n 0, 1) := by decide +kernel
theorem d_R_readsSingle_54 : decode prog_14_method_65_code 54 = .ok (.invokevirtual 270, 3) := by decide +kernel
theorem d_R_readsSingle_57 : decode prog_14_method_65_code 57 = .ok (.invokevirtual 246, 3) := by decide +kernel
theorem d_R_readsSingle_60 : decode prog_14_method_65_code 60 = .ok (.goto 32, 3) := by decide +kernel
theorem d_R_readsSingle_63 : decode prog_14_method_65_code 63 = .ok (.aload_n 0, 1) := by decide +kernel
theorem d_R_readsSingle_64 : decode prog_14_method_65_code 64 = .ok (.iload_n 1, 1) := by decide +kernel
theorem d_R_readsSingle_65 : decode prog_14_method_65_code 65 = .ok (.iconst 0, 1) := by decide +kernel
theorem d_R_readsSingle_66 : decode prog_14_method_65_code 66 = .ok (.aload_n 0, 1) := by decide +kernel
theorem d_R_readsSingle_67 : decode prog_14_method_65_code 67 = .ok (.iconst 0, 1) := by decide +kernel
theorem d_R_readsSingle_68 : decode prog_14_method_65_code 68 = .ok (.bipush 23, 2) := by decide +kernel
theorem d_R_readsSingle_70 : decode prog_14_method_65_code 70 = .ok (.invokevirtual 208, 3) := by decide +kernel
theorem d_R_readsSingle_73 : decode prog_14_method_65_code 73 = .ok (.invokevirtual 246, 3) := by decide +kernel
theorem d_R_readsSingle_76 : decode prog_14_method_65_code 76 = .ok (.goto 16, 3) := by decide +kernel
theorem d_R_readsSingle_79 : decode prog_14_method_65_code 79 = .ok (.aload_n 0, 1) := by decide +kernel
theorem d_R_readsSingle_80 : decode prog_14_method_65_code 80 = .ok (.iload_n 1, 1) := by decide +kernel
theorem d_R_readsSingle_81 : decode prog_14_method_65_code 81 = .ok (.iconst 0, 1) := by decide +kernel
theorem d_R_readsSingle_82 : decode prog_14_method_65_code 82 = .ok (.aload_n 0, 1) := by decide +kernel
theorem d_R_readsSingle_83 : decode prog_14_method_65_code 83 = .ok (.iconst 1, 1) := by decide +kernel
theorem d_R_readsSingle_84 : decode prog_14_method_65_code 84 = .ok (.bipush 60, 2) := by decide +kernel
theorem d_R_readsSingle_86 : decode prog_14_method_65_code 86 = .ok (.invokevirtual 208, 3) := by decide +kernel
theorem d_R_readsSingle_89 : decode prog_14_method_65_code 89 = .ok (.invokevirtual 246, 3) := by decide +kernel
theorem d_R_readsSingle_92 : decode prog_14_method_65_code 92 = .ok (.return_, 1) := by decide +kernel
theorem d_R_refundOf_0 : decode prog_14_method_94_code 0 = .ok (.aload_n 0, 1) := by decide +kernel
theorem d_R_refundOf_1 : decode prog_14_method_94_code 1 = .ok (.iconst 0, 1) := by decide +kernel
theorem d_R_refundOf_2 : decode prog_14_method_94_code 2 = .ok (.putfield 73, 3) := by decide +kernel
theorem d_R_refundOf_5 : decode prog_14_method_94_code 5 = .ok (.aload_n 0, 1) := by decide +kernel
theorem d_R_refundOf_6 : decode prog_14_method_94_code 6 = .ok (.aload_n 0, 1) := by decide +kernel
theorem d_R_refundOf_7 : decode prog_14_method_94_code 7 = .ok (.iload_n 1, 1) := by decide +kernel
theorem d_R_refundOf_8 : decode prog_14_method_94_code 8 = .ok (.invokevirtual 346, 3) := by decide +kernel
theorem d_R_refundOf_11 : decode prog_14_method_94_code 11 = .ok (.iconst 1, 1) := by decide +kernel
theorem d_R_refundOf_12 : decode prog_14_method_94_code 12 = .ok (.invokevirtual 128, 3) := by decide +kernel
theorem d_R_refundOf_15 : decode prog_14_method_94_code 15 = .ok (.ifCond .eq 11, 3) := by decide +kernel
theorem d_R_refundOf_18 : decode prog_14_method_94_code 18 = .ok (.aload_n 0, 1) := by decide +kernel
theorem d_R_refundOf_19 : decode prog_14_method_94_code 19 = .ok (.iload_n 1, 1) := by decide +kernel
theorem d_R_refundOf_20 : decode prog_14_method_94_code 20 = .ok (.invokevirtual 91, 3) := by decide +kernel
theorem d_R_refundOf_23 : decode prog_14_method_94_code 23 = .ok (.goto 4, 3) := by decide +kernel
theorem d_R_refundOf_26 : decode prog_14_method_94_code 26 = .ok (.iconst 0, 1) := by decide +kernel
theorem d_R_refundOf_27 : decode prog_14_method_94_code 27 = .ok (.ireturn, 1) := by decide +kernel
theorem d_R_refundTotal_0 : decode prog_14_method_107_code 0 = .ok (.aload_n 0, 1) := by decide +kernel
theorem d_R_refundTotal_1 : decode prog_14_method_107_code 1 = .ok (.bipush 14, 2) := by decide +kernel
theorem d_R_refundTotal_3 : decode prog_14_method_107_code 3 = .ok (.invokevirtual 324, 3) := by decide +kernel
theorem d_R_refundTotal_6 : decode prog_14_method_107_code 6 = .ok (.ireturn, 1) := by decide +kernel
theorem d_R_restore_0 : decode prog_14_method_136_code 0 = .ok (.aload_n 0, 1) := by decide +kernel
theorem d_R_restore_1 : decode prog_14_method_136_code 1 = .ok (.iconst 0, 1) := by decide +kernel
theorem d_R_restore_2 : decode prog_14_method_136_code 2 = .ok (.putfield 73, 3) := by decide +kernel
theorem d_R_restore_5 : decode prog_14_method_136_code 5 = .ok (.aload_n 0, 1) := by decide +kernel
theorem d_R_restore_6 : decode prog_14_method_136_code 6 = .ok (.iload_n 1, 1) := by decide +kernel
theorem d_R_restore_7 : decode prog_14_method_136_code 7 = .ok (.iconst 0, 1) := by decide +kernel
theorem d_R_restore_8 : decode prog_14_method_136_code 8 = .ok (.iconst 1, 1) := by decide +kernel
theorem d_R_restore_9 : decode prog_14_method_136_code 9 = .ok (.invokestatic 76, 3) := by decide +kernel
theorem d_R_restore_12 : decode prog_14_method_136_code 12 = .ok (.iconst 1, 1) := by decide +kernel
theorem d_R_restore_13 : decode prog_14_method_136_code 13 = .ok (.invokevirtual 128, 3) := by decide +kernel
theorem d_R_restore_16 : decode prog_14_method_136_code 16 = .ok (.ifCond .eq 17, 3) := by decide +kernel
theorem d_R_restore_19 : decode prog_14_method_136_code 19 = .ok (.aload_n 0, 1) := by decide +kernel
theorem d_R_restore_20 : decode prog_14_method_136_code 20 = .ok (.aload_n 0, 1) := by decide +kernel
theorem d_R_restore_21 : decode prog_14_method_136_code 21 = .ok (.getfield 25, 3) := by decide +kernel
theorem d_R_restore_24 : decode prog_14_method_136_code 24 = .ok (.iload_n 1, 1) := by decide +kernel
theorem d_R_restore_25 : decode prog_14_method_136_code 25 = .ok (.baload, 1) := by decide +kernel
theorem d_R_restore_26 : decode prog_14_method_136_code 26 = .ok (.iconst 2, 1) := by decide +kernel
theorem d_R_restore_27 : decode prog_14_method_136_code 27 = .ok (.invokevirtual 128, 3) := by decide +kernel
theorem d_R_restore_30 : decode prog_14_method_136_code 30 = .ok (.ifCond .ne 5, 3) := by decide +kernel
theorem d_R_restore_33 : decode prog_14_method_136_code 33 = .ok (.iconst 0, 1) := by decide +kernel
theorem d_R_restore_34 : decode prog_14_method_136_code 34 = .ok (.ireturn, 1) := by decide +kernel
theorem d_R_restore_35 : decode prog_14_method_136_code 35 = .ok (.iconst 0, 1) := by decide +kernel
theorem d_R_restore_36 : decode prog_14_method_136_code 36 = .ok (.istore_n 2, 1) := by decide +kernel
theorem d_R_restore_37 : decode prog_14_method_136_code 37 = .ok (.iload_n 2, 1) := by decide +kernel
theorem d_R_restore_38 : decode prog_14_method_136_code 38 = .ok (.sipush 524, 3) := by decide +kernel
theorem d_R_restore_41 : decode prog_14_method_136_code 41 = .ok (.if_icmp .ge 27, 3) := by decide +kernel
theorem d_R_restore_44 : decode prog_14_method_136_code 44 = .ok (.aload_n 0, 1) := by decide +kernel
theorem d_R_restore_45 : decode prog_14_method_136_code 45 = .ok (.getfield 7, 3) := by decide +kernel
theorem d_R_restore_48 : decode prog_14_method_136_code 48 = .ok (.iload_n 2, 1) := by decide +kernel
theorem d_R_restore_49 : decode prog_14_method_136_code 49 = .ok (.aload_n 0, 1) := by decide +kernel
theorem d_R_restore_50 : decode prog_14_method_136_code 50 = .ok (.getfield 22, 3) := by decide +kernel
theorem d_R_restore_53 : decode prog_14_method_136_code 53 = .ok (.sipush 524, 3) := by decide +kernel
theorem d_R_restore_56 : decode prog_14_method_136_code 56 = .ok (.iload_n 1, 1) := by decide +kernel
theorem d_R_restore_57 : decode prog_14_method_136_code 57 = .ok (.imul, 1) := by decide +kernel
theorem d_R_restore_58 : decode prog_14_method_136_code 58 = .ok (.iload_n 2, 1) := by decide +kernel
theorem d_R_restore_59 : decode prog_14_method_136_code 59 = .ok (.iadd, 1) := by decide +kernel
theorem d_R_restore_60 : decode prog_14_method_136_code 60 = .ok (.iaload, 1) := by decide +kernel
theorem d_R_restore_61 : decode prog_14_method_136_code 61 = .ok (.iastore, 1) := by decide +kernel
theorem d_R_restore_62 : decode prog_14_method_136_code 62 = .ok (.iinc 2 1, 3) := by decide +kernel
theorem d_R_restore_65 : decode prog_14_method_136_code 65 = .ok (.goto (-28), 3) := by decide +kernel
theorem d_R_restore_68 : decode prog_14_method_136_code 68 = .ok (.aload_n 0, 1) := by decide +kernel
theorem d_R_restore_69 : decode prog_14_method_136_code 69 = .ok (.iconst 0, 1) := by decide +kernel
theorem d_R_restore_70 : decode prog_14_method_136_code 70 = .ok (.putfield 233, 3) := by decide +kernel
theorem d_R_restore_73 : decode prog_14_method_136_code 73 = .ok (.aload_n 0, 1) := by decide +kernel
theorem d_R_restore_74 : decode prog_14_method_136_code 74 = .ok (.getfield 7, 3) := by decide +kernel
theorem d_R_restore_77 : decode prog_14_method_136_code 77 = .ok (.iconst 5, 1) := by decide +kernel
theorem d_R_restore_78 : decode prog_14_method_136_code 78 = .ok (.iaload, 1) := by decide +kernel
theorem d_R_restore_79 : decode prog_14_method_136_code 79 = .ok (.ireturn, 1) := by decide +kernel
theorem d_R_save_0 : decode prog_14_method_135_code 0 = .ok (.aload_n 0, 1) := by decide +kernel
theorem d_R_save_1 : decode prog_14_method_135_code 1 = .ok (.iconst 0, 1) := by decide +kernel
theorem d_R_save_2 : decode prog_14_method_135_code 2 = .ok (.putfield 73, 3) := by decide +kernel
theorem d_R_save_5 : decode prog_14_method_135_code 5 = .ok (.aload_n 0, 1) := by decide +kernel
theorem d_R_save_6 : decode prog_14_method_135_code 6 = .ok (.iload_n 1, 1) := by decide +kernel
theorem d_R_save_7 : decode prog_14_method_135_code 7 = .ok (.iconst 0, 1) := by decide +kernel
theorem d_R_save_8 : decode prog_14_method_135_code 8 = .ok (.iconst 1, 1) := by decide +kernel
theorem d_R_save_9 : decode prog_14_method_135_code 9 = .ok (.invokestatic 76, 3) := by decide +kernel
theorem d_R_save_12 : decode prog_14_method_135_code 12 = .ok (.iconst 1, 1) := by decide +kernel
theorem d_R_save_13 : decode prog_14_method_135_code 13 = .ok (.invokevirtual 128, 3) := by decide +kernel
theorem d_R_save_16 : decode prog_14_method_135_code 16 = .ok (.ifCond .ne 5, 3) := by decide +kernel
theorem d_R_save_19 : decode prog_14_method_135_code 19 = .ok (.iconst 0, 1) := by decide +kernel
theorem d_R_save_20 : decode prog_14_method_135_code 20 = .ok (.ireturn, 1) := by decide +kernel
theorem d_R_save_21 : decode prog_14_method_135_code 21 = .ok (.iconst 0, 1) := by decide +kernel
theorem d_R_save_22 : decode prog_14_method_135_code 22 = .ok (.istore_n 2, 1) := by decide +kernel
theorem d_R_save_23 : decode prog_14_method_135_code 23 = .ok (.iload_n 2, 1) := by decide +kernel
theorem d_R_save_24 : decode prog_14_method_135_code 24 = .ok (.sipush 524, 3) := by decide +kernel
theorem d_R_save_27 : decode prog_14_method_135_code 27 = .ok (.if_icmp .ge 27, 3) := by decide +kernel
theorem d_R_save_30 : decode prog_14_method_135_code 30 = .ok (.aload_n 0, 1) := by decide +kernel
theorem d_R_save_31 : decode prog_14_method_135_code 31 = .ok (.getfield 22, 3) := by decide +kernel
theorem d_R_save_34 : decode prog_14_method_135_code 34 = .ok (.sipush 524, 3) := by decide +kernel
theorem d_R_save_37 : decode prog_14_method_135_code 37 = .ok (.iload_n 1, 1) := by decide +kernel
theorem d_R_save_38 : decode prog_14_method_135_code 38 = .ok (.imul, 1) := by decide +kernel
theorem d_R_save_39 : decode prog_14_method_135_code 39 = .ok (.iload_n 2, 1) := by decide +kernel
theorem d_R_save_40 : decode prog_14_method_135_code 40 = .ok (.iadd, 1) := by decide +kernel
theorem d_R_save_41 : decode prog_14_method_135_code 41 = .ok (.aload_n 0, 1) := by decide +kernel
theorem d_R_save_42 : decode prog_14_method_135_code 42 = .ok (.getfield 7, 3) := by decide +kernel
theorem d_R_save_45 : decode prog_14_method_135_code 45 = .ok (.iload_n 2, 1) := by decide +kernel
theorem d_R_save_46 : decode prog_14_method_135_code 46 = .ok (.iaload, 1) := by decide +kernel
theorem d_R_save_47 : decode prog_14_method_135_code 47 = .ok (.iastore, 1) := by decide +kernel
theorem d_R_save_48 : decode prog_14_method_135_code 48 = .ok (.iinc 2 1, 3) := by decide +kernel
theorem d_R_save_51 : decode prog_14_method_135_code 51 = .ok (.goto (-28), 3) := by decide +kernel
theorem d_R_save_54 : decode prog_14_method_135_code 54 = .ok (.aload_n 0, 1) := by decide +kernel
theorem d_R_save_55 : decode prog_14_method_135_code 55 = .ok (.getfield 25, 3) := by decide +kernel
theorem d_R_save_58 : decode prog_14_method_135_code 58 = .ok (.iload_n 1, 1) := by decide +kernel
theorem d_R_save_59 : decode prog_14_method_135_code 59 = .ok (.iconst 1, 1) := by decide +kernel
theorem d_R_save_60 : decode prog_14_method_135_code 60 = .ok (.bastore, 1) := by decide +kernel
theorem d_R_save_61 : decode prog_14_method_135_code 61 = .ok (.aload_n 0, 1) := by decide +kernel
theorem d_R_save_62 : decode prog_14_method_135_code 62 = .ok (.getfield 7, 3) := by decide +kernel
theorem d_R_save_65 : decode prog_14_method_135_code 65 = .ok (.iconst 5, 1) := by decide +kernel
theorem d_R_save_66 : decode prog_14_method_135_code 66 = .ok (.iaload, 1) := by decide +kernel
theorem d_R_save_67 : decode prog_14_method_135_code 67 = .ok (.ireturn, 1) := by decide +kernel
theorem d_R_sellDenial_0 : decode prog_14_method_120_code 0 = .ok (.aload_n 0, 1) := by decide +kernel
theorem d_R_sellDenial_1 : decode prog_14_method_120_code 1 = .ok (.iconst 0, 1) := by decide +kernel
theorem d_R_sellDenial_2 : decode prog_14_method_120_code 2 = .ok (.putfield 73, 3) := by decide +kernel
theorem d_R_sellDenial_5 : decode prog_14_method_120_code 5 = .ok (.aload_n 0, 1) := by decide +kernel
theorem d_R_sellDenial_6 : decode prog_14_method_120_code 6 = .ok (.iload 4, 2) := by decide +kernel
theorem d_R_sellDenial_8 : decode prog_14_method_120_code 8 = .ok (.iload 5, 2) := by decide +kernel
theorem d_R_sellDenial_10 : decode prog_14_method_120_code 10 = .ok (.iload 6, 2) := by decide +kernel
theorem d_R_sellDenial_12 : decode prog_14_method_120_code 12 = .ok (.invokevirtual 292, 3) := by decide +kernel
theorem d_R_sellDenial_15 : decode prog_14_method_120_code 15 = .ok (.aload_n 0, 1) := by decide +kernel
theorem d_R_sellDenial_16 : decode prog_14_method_120_code 16 = .ok (.iload_n 1, 1) := by decide +kernel
theorem d_R_sellDenial_17 : decode prog_14_method_120_code 17 = .ok (.iload_n 2, 1) := by decide +kernel
theorem d_R_sellDenial_18 : decode prog_14_method_120_code 18 = .ok (.iload_n 3, 1) := by decide +kernel
theorem d_R_sellDenial_19 : decode prog_14_method_120_code 19 = .ok (.iconst 2, 1) := by decide +kernel
theorem d_R_sellDenial_20 : decode prog_14_method_120_code 20 = .ok (.invokevirtual 295, 3) := by decide +kernel
theorem d_R_sellDenial_23 : decode prog_14_method_120_code 23 = .ok (.ireturn, 1) := by decide +kernel
theorem d_R_sellPlain_0 : decode prog_14_method_118_code 0 = .ok (.aload_n 0, 1) := by decide +kernel
theorem d_R_sellPlain_1 : decode prog_14_method_118_code 1 = .ok (.iconst 0, 1) := by decide +kernel
theorem d_R_sellPlain_2 : decode prog_14_method_118_code 2 = .ok (.putfield 73, 3) := by decide +kernel
theorem d_R_sellPlain_5 : decode prog_14_method_118_code 5 = .ok (.aload_n 0, 1) := by decide +kernel
theorem d_R_sellPlain_6 : decode prog_14_method_118_code 6 = .ok (.iload 4, 2) := by decide +kernel
theorem d_R_sellPlain_8 : decode prog_14_method_118_code 8 = .ok (.iload 5, 2) := by decide +kernel
theorem d_R_sellPlain_10 : decode prog_14_method_118_code 10 = .ok (.iload 6, 2) := by decide +kernel
theorem d_R_sellPlain_12 : decode prog_14_method_118_code 12 = .ok (.invokevirtual 292, 3) := by decide +kernel
theorem d_R_sellPlain_15 : decode prog_14_method_118_code 15 = .ok (.aload_n 0, 1) := by decide +kernel
theorem d_R_sellPlain_16 : decode prog_14_method_118_code 16 = .ok (.iload_n 1, 1) := by decide +kernel
theorem d_R_sellPlain_17 : decode prog_14_method_118_code 17 = .ok (.iload_n 2, 1) := by decide +kernel
theorem d_R_sellPlain_18 : decode prog_14_method_118_code 18 = .ok (.iload_n 3, 1) := by decide +kernel
theorem d_R_sellPlain_19 : decode prog_14_method_118_code 19 = .ok (.iconst 0, 1) := by decide +kernel
theorem d_R_sellPlain_20 : decode prog_14_method_118_code 20 = .ok (.invokevirtual 295, 3) := by decide +kernel
theorem d_R_sellPlain_23 : decode prog_14_method_118_code 23 = .ok (.ireturn, 1) := by decide +kernel
theorem d_R_sellVague_0 : decode prog_14_method_119_code 0 = .ok (.aload_n 0, 1) := by decide +kernel
theorem d_R_sellVague_1 : decode prog_14_method_119_code 1 = .ok (.iconst 0, 1) := by decide +kernel
theorem d_R_sellVague_2 : decode prog_14_method_119_code 2 = .ok (.putfield 73, 3) := by decide +kernel
theorem d_R_sellVague_5 : decode prog_14_method_119_code 5 = .ok (.aload_n 0, 1) := by decide +kernel
theorem d_R_sellVague_6 : decode prog_14_method_119_code 6 = .ok (.iload_n 3, 1) := by decide +kernel
theorem d_R_sellVague_7 : decode prog_14_method_119_code 7 = .ok (.iload 4, 2) := by decide +kernel
theorem d_R_sellVague_9 : decode prog_14_method_119_code 9 = .ok (.iload 5, 2) := by decide +kernel
theorem d_R_sellVague_11 : decode prog_14_method_119_code 11 = .ok (.invokevirtual 292, 3) := by decide +kernel
theorem d_R_sellVague_14 : decode prog_14_method_119_code 14 = .ok (.aload_n 0, 1) := by decide +kernel
theorem d_R_sellVague_15 : decode prog_14_method_119_code 15 = .ok (.iload_n 1, 1) := by decide +kernel
theorem d_R_sellVague_16 : decode prog_14_method_119_code 16 = .ok (.iload_n 2, 1) := by decide +kernel
theorem d_R_sellVague_17 : decode prog_14_method_119_code 17 = .ok (.iconst (-1), 1) := by decide +kernel
theorem d_R_sellVague_18 : decode prog_14_method_119_code 18 = .ok (.iconst 1, 1) := by decide +kernel
theorem d_R_sellVague_19 : decode prog_14_method_119_code 19 = .ok (.invokevirtual 295, 3) := by decide +kernel
theorem d_R_sellVague_22 : decode prog_14_method_119_code 22 = .ok (.ireturn, 1) := by decide +kernel
theorem d_R_stateOf_0 : decode prog_14_method_92_code 0 = .ok (.aload_n 0, 1) := by decide +kernel
theorem d_R_stateOf_1 : decode prog_14_method_92_code 1 = .ok (.iload_n 1, 1) := by decide +kernel
theorem d_R_stateOf_2 : decode prog_14_method_92_code 2 = .ok (.bipush 7, 2) := by decide +kernel
theorem d_R_stateOf_4 : decode prog_14_method_92_code 4 = .ok (.invokevirtual 349, 3) := by decide +kernel
theorem d_R_stateOf_7 : decode prog_14_method_92_code 7 = .ok (.ireturn, 1) := by decide +kernel
theorem d_R_takesText_0 : decode prog_14_method_2_code 0 = .ok (.iconst 0, 1) := by decide +kernel
theorem d_R_takesText_1 : decode prog_14_method_2_code 1 = .ok (.istore_n 2, 1) := by decide +kernel
theorem d_R_takesText_2 : decode prog_14_method_2_code 2 = .ok (.iload_n 2, 1) := by decide +kernel
theorem d_R_takesText_3 : decode prog_14_method_2_code 3 = .ok (.aload_n 1, 1) := by decide +kernel
theorem d_R_takesText_4 : decode prog_14_method_2_code 4 = .ok (.invokevirtual 54, 3) := by decide +kernel
theorem d_R_takesText_7 : decode prog_14_method_2_code 7 = .ok (.if_icmp .ge 20, 3) := by decide +kernel
theorem d_R_takesText_10 : decode prog_14_method_2_code 10 = .ok (.aload_n 0, 1) := by decide +kernel
theorem d_R_takesText_11 : decode prog_14_method_2_code 11 = .ok (.getfield 29, 3) := by decide +kernel
theorem d_R_takesText_14 : decode prog_14_method_2_code 14 = .ok (.iload_n 2, 1) := by decide +kernel
theorem d_R_takesText_15 : decode prog_14_method_2_code 15 = .ok (.aload_n 1, 1) := by decide +kernel
theorem d_R_takesText_16 : decode prog_14_method_2_code 16 = .ok (.iload_n 2, 1) := by decide +kernel
theorem d_R_takesText_17 : decode prog_14_method_2_code 17 = .ok (.invokevirtual 60, 3) := by decide +kernel
theorem d_R_takesText_20 : decode prog_14_method_2_code 20 = .ok (.iastore, 1) := by decide +kernel
theorem d_R_takesText_21 : decode prog_14_method_2_code 21 = .ok (.iinc 2 1, 3) := by decide +kernel
theorem d_R_takesText_24 : decode prog_14_method_2_code 24 = .ok (.goto (-22), 3) := by decide +kernel
theorem d_R_takesText_27 : decode prog_14_method_2_code 27 = .ok (.aload_n 0, 1) := by decide +kernel
theorem d_R_takesText_28 : decode prog_14_method_2_code 28 = .ok (.aload_n 1, 1) := by decide +kernel
theorem d_R_takesText_29 : decode prog_14_method_2_code 29 = .ok (.invokevirtual 54, 3) := by decide +kernel
theorem d_R_takesText_32 : decode prog_14_method_2_code 32 = .ok (.putfield 64, 3) := by decide +kernel
theorem d_R_takesText_35 : decode prog_14_method_2_code 35 = .ok (.aload_n 0, 1) := by decide +kernel
theorem d_R_takesText_36 : decode prog_14_method_2_code 36 = .ok (.invokevirtual 67, 3) := by decide +kernel
theorem d_R_takesText_39 : decode prog_14_method_2_code 39 = .ok (.aload_n 0, 1) := by decide +kernel
theorem d_R_takesText_40 : decode prog_14_method_2_code 40 = .ok (.invokevirtual 70, 3) := by decide +kernel
theorem d_R_takesText_43 : decode prog_14_method_2_code 43 = .ok (.aload_n 0, 1) := by decide +kernel
theorem d_R_takesText_44 : decode prog_14_method_2_code 44 = .ok (.iconst 0, 1) := by decide +kernel
theorem d_R_takesText_45 : decode prog_14_method_2_code 45 = .ok (.putfield 64, 3) := by decide +kernel
theorem d_R_takesText_48 : decode prog_14_method_2_code 48 = .ok (.return_, 1) := by decide +kernel
theorem d_R_thrown_0 : decode prog_14_method_3_code 0 = .ok (.aload_n 0, 1) := by decide +kernel
theorem d_R_thrown_1 : decode prog_14_method_3_code 1 = .ok (.getfield 73, 3) := by decide +kernel
theorem d_R_thrown_4 : decode prog_14_method_3_code 4 = .ok (.ireturn, 1) := by decide +kernel
theorem d_R_timesHappened_0 : decode prog_14_method_80_code 0 = .ok (.aload_n 0, 1) := by decide +kernel
theorem d_R_timesHappened_1 : decode prog_14_method_80_code 1 = .ok (.iload_n 1, 1) := by decide +kernel
theorem d_R_timesHappened_2 : decode prog_14_method_80_code 2 = .ok (.iload_n 2, 1) := by decide +kernel
theorem d_R_timesHappened_3 : decode prog_14_method_80_code 3 = .ok (.invokevirtual 336, 3) := by decide +kernel
theorem d_R_timesHappened_6 : decode prog_14_method_80_code 6 = .ok (.ifCond .eq 13, 3) := by decide +kernel
theorem d_R_timesHappened_9 : decode prog_14_method_80_code 9 = .ok (.aload_n 0, 1) := by decide +kernel
theorem d_R_timesHappened_10 : decode prog_14_method_80_code 10 = .ok (.iload_n 1, 1) := by decide +kernel
theorem d_R_timesHappened_11 : decode prog_14_method_80_code 11 = .ok (.iload_n 2, 1) := by decide +kernel
theorem d_R_timesHappened_12 : decode prog_14_method_80_code 12 = .ok (.iconst (-1), 1) := by decide +kernel
theorem d_R_timesHappened_13 : decode prog_14_method_80_code 13 = .ok (.invokevirtual 339, 3) := by decide +kernel
theorem d_R_timesHappened_16 : decode prog_14_method_80_code 16 = .ok (.goto 4, 3) := by decide +kernel
theorem d_R_timesHappened_19 : decode prog_14_method_80_code 19 = .ok (.iconst 0, 1) := by decide +kernel
theorem d_R_timesHappened_20 : decode prog_14_method_80_code 20 = .ok (.ireturn, 1) := by decide +kernel
theorem d_R_truncate_0 : decode prog_14_method_30_code 0 = .ok (.aload_n 0, 1) := by decide +kernel
theorem d_R_truncate_1 : decode prog_14_method_30_code 1 = .ok (.iconst 0, 1) := by decide +kernel
theorem d_R_truncate_2 : decode prog_14_method_30_code 2 = .ok (.putfield 73, 3) := by decide +kernel
theorem d_R_truncate_5 : decode prog_14_method_30_code 5 = .ok (.aload_n 0, 1) := by decide +kernel
theorem d_R_truncate_6 : decode prog_14_method_30_code 6 = .ok (.iload_n 1, 1) := by decide +kernel
theorem d_R_truncate_7 : decode prog_14_method_30_code 7 = .ok (.iconst 0, 1) := by decide +kernel
theorem d_R_truncate_8 : decode prog_14_method_30_code 8 = .ok (.aload_n 0, 1) := by decide +kernel
theorem d_R_truncate_9 : decode prog_14_method_30_code 9 = .ok (.getfield 64, 3) := by decide +kernel
theorem d_R_truncate_12 : decode prog_14_method_30_code 12 = .ok (.invokestatic 76, 3) := by decide +kernel
theorem d_R_truncate_15 : decode prog_14_method_30_code 15 = .ok (.iconst 1, 1) := by decide +kernel
theorem d_R_truncate_16 : decode prog_14_method_30_code 16 = .ok (.invokevirtual 128, 3) := by decide +kernel
theorem d_R_truncate_19 : decode prog_14_method_30_code 19 = .ok (.ifCond .ne 5, 3) := by decide +kernel
theorem d_R_truncate_22 : decode prog_14_method_30_code 22 = .ok (.iconst 0, 1) := by decide +kernel
theorem d_R_truncate_23 : decode prog_14_method_30_code 23 = .ok (.ireturn, 1) := by decide +kernel
theorem d_R_truncate_24 : decode prog_14_method_30_code 24 = .ok (.aload_n 0, 1) := by decide +kernel
theorem d_R_truncate_25 : decode prog_14_method_30_code 25 = .ok (.getfield 64, 3) := by decide +kernel
theorem d_R_truncate_28 : decode prog_14_method_30_code 28 = .ok (.iload_n 1, 1) := by decide +kernel
theorem d_R_truncate_29 : decode prog_14_method_30_code 29 = .ok (.isub, 1) := by decide +kernel
theorem d_R_truncate_30 : decode prog_14_method_30_code 30 = .ok (.istore_n 2, 1) := by decide +kernel
theorem d_R_truncate_31 : decode prog_14_method_30_code 31 = .ok (.aload_n 0, 1) := by decide +kernel
theorem d_R_truncate_32 : decode prog_14_method_30_code 32 = .ok (.iload_n 1, 1) := by decide +kernel
theorem d_R_truncate_33 : decode prog_14_method_30_code 33 = .ok (.putfield 64, 3) := by decide +kernel
theorem d_R_truncate_36 : decode prog_14_method_30_code 36 = .ok (.iload_n 2, 1) := by decide +kernel
theorem d_R_truncate_37 : decode prog_14_method_30_code 37 = .ok (.ireturn, 1) := by decide +kernel
theorem d_R_truthShare_0 : decode prog_14_method_108_code 0 = .ok (.aload_n 0, 1) := by decide +kernel
theorem d_R_truthShare_1 : decode prog_14_method_108_code 1 = .ok (.iconst 0, 1) := by decide +kernel
theorem d_R_truthShare_2 : decode prog_14_method_108_code 2 = .ok (.putfield 73, 3) := by decide +kernel
theorem d_R_truthShare_5 : decode prog_14_method_108_code 5 = .ok (.aload_n 0, 1) := by decide +kernel
theorem d_R_truthShare_6 : decode prog_14_method_108_code 6 = .ok (.getfield 7, 3) := by decide +kernel
theorem d_R_truthShare_9 : decode prog_14_method_108_code 9 = .ok (.bipush 10, 2) := by decide +kernel
theorem d_R_truthShare_11 : decode prog_14_method_108_code 11 = .ok (.iaload, 1) := by decide +kernel
theorem d_R_truthShare_12 : decode prog_14_method_108_code 12 = .ok (.aload_n 0, 1) := by decide +kernel
theorem d_R_truthShare_13 : decode prog_14_method_108_code 13 = .ok (.iconst 0, 1) := by decide +kernel
theorem d_R_truthShare_14 : decode prog_14_method_108_code 14 = .ok (.invokevirtual 358, 3) := by decide +kernel
theorem d_R_truthShare_17 : decode prog_14_method_108_code 17 = .ok (.isub, 1) := by decide +kernel
theorem d_R_truthShare_18 : decode prog_14_method_108_code 18 = .ok (.istore_n 1, 1) := by decide +kernel
theorem d_R_truthShare_19 : decode prog_14_method_108_code 19 = .ok (.iload_n 1, 1) := by decide +kernel
theorem d_R_truthShare_20 : decode prog_14_method_108_code 20 = .ok (.ifCond .ne 7, 3) := by decide +kernel
theorem d_R_truthShare_23 : decode prog_14_method_108_code 23 = .ok (.fconst 0, 1) := by decide +kernel
theorem d_R_truthShare_24 : decode prog_14_method_108_code 24 = .ok (.goto 12, 3) := by decide +kernel
theorem d_R_truthShare_27 : decode prog_14_method_108_code 27 = .ok (.aload_n 0, 1) := by decide +kernel
theorem d_R_truthShare_28 : decode prog_14_method_108_code 28 = .ok (.iconst 1, 1) := by decide +kernel
theorem d_R_truthShare_29 : decode prog_14_method_108_code 29 = .ok (.invokevirtual 358, 3) := by decide +kernel
theorem d_R_truthShare_32 : decode prog_14_method_108_code 32 = .ok (.i2f, 1) := by decide +kernel
theorem d_R_truthShare_33 : decode prog_14_method_108_code 33 = .ok (.iload_n 1, 1) := by decide +kernel
theorem d_R_truthShare_34 : decode prog_14_method_108_code 34 = .ok (.i2f, 1) := by decide +kernel
theorem d_R_truthShare_35 : decode prog_14_method_108_code 35 = .ok (.fdiv, 1) := by decide +kernel
theorem d_R_truthShare_36 : decode prog_14_method_108_code 36 = .ok (.freturn, 1) := by decide +kernel
theorem d_R_undo_0 : decode prog_14_method_134_code 0 = .ok (.aload_n 0, 1) := by decide +kernel
theorem d_R_undo_1 : decode prog_14_method_134_code 1 = .ok (.iconst 0, 1) := by decide +kernel
theorem d_R_undo_2 : decode prog_14_method_134_code 2 = .ok (.putfield 73, 3) := by decide +kernel
theorem d_R_undo_5 : decode prog_14_method_134_code 5 = .ok (.aload_n 0, 1) := by decide +kernel
theorem d_R_undo_6 : decode prog_14_method_134_code 6 = .ok (.aload_n 0, 1) := by decide +kernel
theorem d_R_undo_7 : decode prog_14_method_134_code 7 = .ok (.getfield 233, 3) := by decide +kernel
theorem d_R_undo_10 : decode prog_14_method_134_code 10 = .ok (.ifCond .le 7, 3) := by decide +kernel
theorem d_R_undo_13 : decode prog_14_method_134_code 13 = .ok (.iconst 1, 1) := by decide +kernel
theorem d_R_undo_14 : decode prog_14_method_134_code 14 = .ok (.goto 4, 3) := by decide +kernel
theorem d_R_undo_17 : decode prog_14_method_134_code 17 = .ok (.iconst 0, 1) := by decide +kernel
theorem d_R_undo_18 : decode prog_14_method_134_code 18 = .ok (.iconst 1, 1) := by decide +kernel
theorem d_R_undo_19 : decode prog_14_method_134_code 19 = .ok (.invokevirtual 128, 3) := by decide +kernel
theorem d_R_undo_22 : decode prog_14_method_134_code 22 = .ok (.ifCond .ne 5, 3) := by decide +kernel
theorem d_R_undo_25 : decode prog_14_method_134_code 25 = .ok (.iconst 0, 1) := by decide +kernel
theorem d_R_undo_26 : decode prog_14_method_134_code 26 = .ok (.ireturn, 1) := by decide +kernel
theorem d_R_undo_27 : decode prog_14_method_134_code 27 = .ok (.aload_n 0, 1) := by decide +kernel
theorem d_R_undo_28 : decode prog_14_method_134_code 28 = .ok (.dup, 1) := by decide +kernel
theorem d_R_undo_29 : decode prog_14_method_134_code 29 = .ok (.getfield 233, 3) := by decide +kernel
theorem d_R_undo_32 : decode prog_14_method_134_code 32 = .ok (.iconst 1, 1) := by decide +kernel
theorem d_R_undo_33 : decode prog_14_method_134_code 33 = .ok (.isub, 1) := by decide +kernel
theorem d_R_undo_34 : decode prog_14_method_134_code 34 = .ok (.putfield 233, 3) := by decide +kernel
theorem d_R_undo_37 : decode prog_14_method_134_code 37 = .ok (.iconst 0, 1) := by decide +kernel
theorem d_R_undo_38 : decode prog_14_method_134_code 38 = .ok (.istore_n 1, 1) := by decide +kernel
theorem d_R_undo_39 : decode prog_14_method_134_code 39 = .ok (.iload_n 1, 1) := by decide +kernel
theorem d_R_undo_40 : decode prog_14_method_134_code 40 = .ok (.sipush 524, 3) := by decide +kernel
theorem d_R_undo_43 : decode prog_14_method_134_code 43 = .ok (.if_icmp .ge 30, 3) := by decide +kernel
theorem d_R_undo_46 : decode prog_14_method_134_code 46 = .ok (.aload_n 0, 1) := by decide +kernel
theorem d_R_undo_47 : decode prog_14_method_134_code 47 = .ok (.getfield 7, 3) := by decide +kernel
theorem d_R_undo_50 : decode prog_14_method_134_code 50 = .ok (.iload_n 1, 1) := by decide +kernel
theorem d_R_undo_51 : decode prog_14_method_134_code 51 = .ok (.aload_n 0, 1) := by decide +kernel
theorem d_R_undo_52 : decode prog_14_method_134_code 52 = .ok (.getfield 19, 3) := by decide +kernel
theorem d_R_undo_55 : decode prog_14_method_134_code 55 = .ok (.sipush 524, 3) := by decide +kernel
theorem d_R_undo_58 : decode prog_14_method_134_code 58 = .ok (.aload_n 0, 1) := by decide +kernel
theorem d_R_undo_59 : decode prog_14_method_134_code 59 = .ok (.getfield 233, 3) := by decide +kernel
theorem d_R_undo_62 : decode prog_14_method_134_code 62 = .ok (.imul, 1) := by decide +kernel
theorem d_R_undo_63 : decode prog_14_method_134_code 63 = .ok (.iload_n 1, 1) := by decide +kernel
theorem d_R_undo_64 : decode prog_14_method_134_code 64 = .ok (.iadd, 1) := by decide +kernel
theorem d_R_undo_65 : decode prog_14_method_134_code 65 = .ok (.iaload, 1) := by decide +kernel
theorem d_R_undo_66 : decode prog_14_method_134_code 66 = .ok (.iastore, 1) := by decide +kernel
theorem d_R_undo_67 : decode prog_14_method_134_code 67 = .ok (.iinc 1 1, 3) := by decide +kernel
theorem d_R_undo_70 : decode prog_14_method_134_code 70 = .ok (.goto (-31), 3) := by decide +kernel
theorem d_R_undo_73 : decode prog_14_method_134_code 73 = .ok (.aload_n 0, 1) := by decide +kernel
theorem d_R_undo_74 : decode prog_14_method_134_code 74 = .ok (.getfield 233, 3) := by decide +kernel
theorem d_R_undo_77 : decode prog_14_method_134_code 77 = .ok (.ireturn, 1) := by decide +kernel
theorem d_R_undoCount_0 : decode prog_14_method_133_code 0 = .ok (.aload_n 0, 1) := by decide +kernel
theorem d_R_undoCount_1 : decode prog_14_method_133_code 1 = .ok (.iconst 0, 1) := by decide +kernel
theorem d_R_undoCount_2 : decode prog_14_method_133_code 2 = .ok (.putfield 73, 3) := by decide +kernel
theorem d_R_undoCount_5 : decode prog_14_method_133_code 5 = .ok (.aload_n 0, 1) := by decide +kernel
theorem d_R_undoCount_6 : decode prog_14_method_133_code 6 = .ok (.getfield 233, 3) := by decide +kernel
theorem d_R_undoCount_9 : decode prog_14_method_133_code 9 = .ok (.ireturn, 1) := by decide +kernel
theorem d_R_writes_0 : decode prog_14_method_127_code 0 = .ok (.aload_n 0, 1) := by decide +kernel
theorem d_R_writes_1 : decode prog_14_method_127_code 1 = .ok (.getfield 42, 3) := by decide +kernel
theorem d_R_writes_4 : decode prog_14_method_127_code 4 = .ok (.aload_n 0, 1) := by decide +kernel
theorem d_R_writes_5 : decode prog_14_method_127_code 5 = .ok (.getfield 388, 3) := by decide +kernel
theorem d_R_writes_8 : decode prog_14_method_127_code 8 = .ok (.iload_n 1, 1) := by decide +kernel
theorem d_R_writes_9 : decode prog_14_method_127_code 9 = .ok (.iastore, 1) := by decide +kernel
theorem d_R_writes_10 : decode prog_14_method_127_code 10 = .ok (.aload_n 0, 1) := by decide +kernel
theorem d_R_writes_11 : decode prog_14_method_127_code 11 = .ok (.dup, 1) := by decide +kernel
theorem d_R_writes_12 : decode prog_14_method_127_code 12 = .ok (.getfield 388, 3) := by decide +kernel
theorem d_R_writes_15 : decode prog_14_method_127_code 15 = .ok (.iconst 1, 1) := by decide +kernel
theorem d_R_writes_16 : decode prog_14_method_127_code 16 = .ok (.iadd, 1) := by decide +kernel
theorem d_R_writes_17 : decode prog_14_method_127_code 17 = .ok (.putfield 388, 3) := by decide +kernel
theorem d_R_writes_20 : decode prog_14_method_127_code 20 = .ok (.return_, 1) := by decide +kernel
theorem d_R_writesName_0 : decode prog_14_method_129_code 0 = .ok (.iconst 1, 1) := by decide +kernel
theorem d_R_writesName_1 : decode prog_14_method_129_code 1 = .ok (.istore_n 2, 1) := by decide +kernel
theorem d_R_writesName_2 : decode prog_14_method_129_code 2 = .ok (.iload_n 2, 1) := by decide +kernel
theorem d_R_writesName_3 : decode prog_14_method_129_code 3 = .ok (.iload_n 1, 1) := by decide +kernel
theorem d_R_writesName_4 : decode prog_14_method_129_code 4 = .ok (.bipush 27, 2) := by decide +kernel
theorem d_R_writesName_6 : decode prog_14_method_129_code 6 = .ok (.idiv, 1) := by decide +kernel
theorem d_R_writesName_7 : decode prog_14_method_129_code 7 = .ok (.if_icmp .gt 11, 3) := by decide +kernel
theorem d_R_writesName_10 : decode prog_14_method_129_code 10 = .ok (.iload_n 2, 1) := by decide +kernel
theorem d_R_writesName_11 : decode prog_14_method_129_code 11 = .ok (.bipush 27, 2) := by decide +kernel
theorem d_R_writesName_13 : decode prog_14_method_129_code 13 = .ok (.imul, 1) := by decide +kernel
theorem d_R_writesName_14 : decode prog_14_method_129_code 14 = .ok (.istore_n 2, 1) := by decide +kernel
theorem d_R_writesName_15 : decode prog_14_method_129_code 15 = .ok (.goto (-13), 3) := by decide +kernel
theorem d_R_writesName_18 : decode prog_14_method_129_code 18 = .ok (.iload_n 2, 1) := by decide +kernel
theorem d_R_writesName_19 : decode prog_14_method_129_code 19 = .ok (.istore_n 3, 1) := by decide +kernel
theorem d_R_writesName_20 : decode prog_14_method_129_code 20 = .ok (.iload_n 3, 1) := by decide +kernel
theorem d_R_writesName_21 : decode prog_14_method_129_code 21 = .ok (.ifCond .le 24, 3) := by decide +kernel
theorem d_R_writesName_24 : decode prog_14_method_129_code 24 = .ok (.aload_n 0, 1) := by decide +kernel
theorem d_R_writesName_25 : decode prog_14_method_129_code 25 = .ok (.bipush 96, 2) := by decide +kernel
theorem d_R_writesName_27 : decode prog_14_method_129_code 27 = .ok (.iload_n 1, 1) := by decide +kernel
theorem d_R_writesName_28 : decode prog_14_method_129_code 28 = .ok (.iload_n 3, 1) := by decide +kernel
theorem d_R_writesName_29 : decode prog_14_method_129_code 29 = .ok (.idiv, 1) := by decide +kernel
theorem d_R_writesName_30 : decode prog_14_method_129_code 30 = .ok (.bipush 27, 2) := by decide +kernel
theorem d_R_writesName_32 : decode prog_14_method_129_code 32 = .ok (.irem, 1) := by decide +kernel
theorem d_R_writesName_33 : decode prog_14_method_129_code 33 = .ok (.iadd, 1) := by decide +kernel
theorem d_R_writesName_34 : decode prog_14_method_129_code 34 = .ok (.invokevirtual 391, 3) := by decide +kernel
theorem d_R_writesName_37 : decode prog_14_method_129_code 37 = .ok (.iload_n 3, 1) := by decide +kernel
theorem d_R_writesName_38 : decode prog_14_method_129_code 38 = .ok (.bipush 27, 2) := by decide +kernel
theorem d_R_writesName_40 : decode prog_14_method_129_code 40 = .ok (.idiv, 1) := by decide +kernel
theorem d_R_writesName_41 : decode prog_14_method_129_code 41 = .ok (.istore_n 3, 1) := by decide +kernel
theorem d_R_writesName_42 : decode prog_14_method_129_code 42 = .ok (.goto (-22), 3) := by decide +kernel
theorem d_R_writesName_45 : decode prog_14_method_129_code 45 = .ok (.return_, 1) := by decide +kernel
theorem d_R_writesNumber_0 : decode prog_14_method_128_code 0 = .ok (.iload_n 1, 1) := by decide +kernel
theorem d_R_writesNumber_1 : decode prog_14_method_128_code 1 = .ok (.istore_n 2, 1) := by decide +kernel
theorem d_R_writesNumber_2 : decode prog_14_method_128_code 2 = .ok (.iconst 0, 1) := by decide +kernel
theorem d_R_writesNumber_3 : decode prog_14_method_128_code 3 = .ok (.istore_n 3, 1) := by decide +kernel
theorem d_R_writesNumber_4 : decode prog_14_method_128_code 4 = .ok (.aload_n 0, 1) := by decide +kernel
theorem d_R_writesNumber_5 : decode prog_14_method_128_code 5 = .ok (.getfield 45, 3) := by decide +kernel
theorem d_R_writesNumber_8 : decode prog_14_method_128_code 8 = .ok (.iload_n 3, 1) := by decide +kernel
theorem d_R_writesNumber_9 : decode prog_14_method_128_code 9 = .ok (.bipush 48, 2) := by decide +kernel
theorem d_R_writesNumber_11 : decode prog_14_method_128_code 11 = .ok (.iload_n 2, 1) := by decide +kernel
theorem d_R_writesNumber_12 : decode prog_14_method_128_code 12 = .ok (.bipush 10, 2) := by decide +kernel
theorem d_R_writesNumber_14 : decode prog_14_method_128_code 14 = .ok (.irem, 1) := by decide +kernel
theorem d_R_writesNumber_15 : decode prog_14_method_128_code 15 = .ok (.iadd, 1) := by decide +kernel
theorem d_R_writesNumber_16 : decode prog_14_method_128_code 16 = .ok (.iastore, 1) := by decide +kernel
theorem d_R_writesNumber_17 : decode prog_14_method_128_code 17 = .ok (.iload_n 2, 1) := by decide +kernel
theorem d_R_writesNumber_18 : decode prog_14_method_128_code 18 = .ok (.bipush 10, 2) := by decide +kernel
theorem d_R_writesNumber_20 : decode prog_14_method_128_code 20 = .ok (.idiv, 1) := by decide +kernel
theorem d_R_writesNumber_21 : decode prog_14_method_128_code 21 = .ok (.istore_n 2, 1) := by decide +kernel
theorem d_R_writesNumber_22 : decode prog_14_method_128_code 22 = .ok (.iinc 3 1, 3) := by decide +kernel
theorem d_R_writesNumber_25 : decode prog_14_method_128_code 25 = .ok (.iload_n 2, 1) := by decide +kernel
theorem d_R_writesNumber_26 : decode prog_14_method_128_code 26 = .ok (.ifCond .gt (-22), 3) := by decide +kernel
theorem d_R_writesNumber_29 : decode prog_14_method_128_code 29 = .ok (.iload_n 3, 1) := by decide +kernel
theorem d_R_writesNumber_30 : decode prog_14_method_128_code 30 = .ok (.iconst 1, 1) := by decide +kernel
theorem d_R_writesNumber_31 : decode prog_14_method_128_code 31 = .ok (.isub, 1) := by decide +kernel
theorem d_R_writesNumber_32 : decode prog_14_method_128_code 32 = .ok (.istore 4, 2) := by decide +kernel
theorem d_R_writesNumber_34 : decode prog_14_method_128_code 34 = .ok (.iload 4, 2) := by decide +kernel
theorem d_R_writesNumber_36 : decode prog_14_method_128_code 36 = .ok (.ifCond .lt 20, 3) := by decide +kernel
theorem d_R_writesNumber_39 : decode prog_14_method_128_code 39 = .ok (.aload_n 0, 1) := by decide +kernel
theorem d_R_writesNumber_40 : decode prog_14_method_128_code 40 = .ok (.aload_n 0, 1) := by decide +kernel
theorem d_R_writesNumber_41 : decode prog_14_method_128_code 41 = .ok (.getfield 45, 3) := by decide +kernel
theorem d_R_writesNumber_44 : decode prog_14_method_128_code 44 = .ok (.iload 4, 2) := by decide +kernel
theorem d_R_writesNumber_46 : decode prog_14_method_128_code 46 = .ok (.iaload, 1) := by decide +kernel
theorem d_R_writesNumber_47 : decode prog_14_method_128_code 47 = .ok (.invokevirtual 391, 3) := by decide +kernel
theorem d_R_writesNumber_50 : decode prog_14_method_128_code 50 = .ok (.iinc 4 (-1), 3) := by decide +kernel
theorem d_R_writesNumber_53 : decode prog_14_method_128_code 53 = .ok (.goto (-19), 3) := by decide +kernel
theorem d_R_writesNumber_56 : decode prog_14_method_128_code 56 = .ok (.return_, 1) := by decide +kernel
theorem d_R_runScript_0 : decode prog_14_method_70_code 0 = .ok (.aload_n 0, 1) := by decide +kernel
theorem d_R_runScript_1 : decode prog_14_method_70_code 1 = .ok (.iconst 0, 1) := by decide +kernel
theorem d_R_runScript_2 : decode prog_14_method_70_code 2 = .ok (.putfield 73, 3) := by decide +kernel
theorem d_R_runScript_5 : decode prog_14_method_70_code 5 = .ok (.aload_n 0, 1) := by decide +kernel
theorem d_R_runScript_6 : decode prog_14_method_70_code 6 = .ok (.invokevirtual 67, 3) := by decide +kernel
theorem d_R_runScript_9 : decode prog_14_method_70_code 9 = .ok (.aload_n 0, 1) := by decide +kernel
theorem d_R_runScript_10 : decode prog_14_method_70_code 10 = .ok (.iconst 0, 1) := by decide +kernel
theorem d_R_runScript_11 : decode prog_14_method_70_code 11 = .ok (.putfield 252, 3) := by decide +kernel
theorem d_R_runScript_14 : decode prog_14_method_70_code 14 = .ok (.aload_n 0, 1) := by decide +kernel
theorem d_R_runScript_15 : decode prog_14_method_70_code 15 = .ok (.iconst 0, 1) := by decide +kernel
theorem d_R_runScript_16 : decode prog_14_method_70_code 16 = .ok (.invokevirtual 249, 3) := by decide +kernel
theorem d_R_runScript_19 : decode prog_14_method_70_code 19 = .ok (.aload_n 0, 1) := by decide +kernel
theorem d_R_runScript_20 : decode prog_14_method_70_code 20 = .ok (.aload_n 0, 1) := by decide +kernel
theorem d_R_runScript_21 : decode prog_14_method_70_code 21 = .ok (.getfield 144, 3) := by decide +kernel
theorem d_R_runScript_24 : decode prog_14_method_70_code 24 = .ok (.ifCond .ne 7, 3) := by decide +kernel
theorem d_R_runScript_27 : decode prog_14_method_70_code 27 = .ok (.iconst 1, 1) := by decide +kernel
theorem d_R_runScript_28 : decode prog_14_method_70_code 28 = .ok (.goto 4, 3) := by decide +kernel
theorem d_R_runScript_31 : decode prog_14_method_70_code 31 = .ok (.iconst 0, 1) := by decide +kernel
theorem d_R_runScript_32 : decode prog_14_method_70_code 32 = .ok (.iconst 1, 1) := by decide +kernel
theorem d_R_runScript_33 : decode prog_14_method_70_code 33 = .ok (.invokevirtual 169, 3) := by decide +kernel
theorem d_R_runScript_36 : decode prog_14_method_70_code 36 = .ok (.pop, 1) := by decide +kernel
theorem d_R_runScript_37 : decode prog_14_method_70_code 37 = .ok (.aload_n 0, 1) := by decide +kernel
theorem d_R_runScript_38 : decode prog_14_method_70_code 38 = .ok (.invokevirtual 230, 3) := by decide +kernel
theorem d_R_runScript_41 : decode prog_14_method_70_code 41 = .ok (.ifCond .ne 5, 3) := by decide +kernel
theorem d_R_runScript_44 : decode prog_14_method_70_code 44 = .ok (.iconst (-1), 1) := by decide +kernel
theorem d_R_runScript_45 : decode prog_14_method_70_code 45 = .ok (.ireturn, 1) := by decide +kernel
theorem d_R_runScript_46 : decode prog_14_method_70_code 46 = .ok (.aload_n 0, 1) := by decide +kernel
theorem d_R_runScript_47 : decode prog_14_method_70_code 47 = .ok (.invokevirtual 317, 3) := by decide +kernel
theorem d_R_runScript_50 : decode prog_14_method_70_code 50 = .ok (.aload_n 0, 1) := by decide +kernel
theorem d_R_runScript_51 : decode prog_14_method_70_code 51 = .ok (.iconst 1, 1) := by decide +kernel
theorem d_R_runScript_52 : decode prog_14_method_70_code 52 = .ok (.putfield 320, 3) := by decide +kernel
theorem d_R_runScript_55 : decode prog_14_method_70_code 55 = .ok (.aload_n 0, 1) := by decide +kernel
theorem d_R_runScript_56 : decode prog_14_method_70_code 56 = .ok (.iconst 0, 1) := by decide +kernel
theorem d_R_runScript_57 : decode prog_14_method_70_code 57 = .ok (.putfield 311, 3) := by decide +kernel
theorem d_R_runScript_60 : decode prog_14_method_70_code 60 = .ok (.aload_n 0, 1) := by decide +kernel
theorem d_R_runScript_61 : decode prog_14_method_70_code 61 = .ok (.iconst 0, 1) := by decide +kernel
theorem d_R_runScript_62 : decode prog_14_method_70_code 62 = .ok (.aload_n 0, 1) := by decide +kernel
theorem d_R_runScript_63 : decode prog_14_method_70_code 63 = .ok (.getfield 252, 3) := by decide +kernel
theorem d_R_runScript_66 : decode prog_14_method_70_code 66 = .ok (.invokevirtual 307, 3) := by decide +kernel
theorem d_R_runScript_69 : decode prog_14_method_70_code 69 = .ok (.istore_n 1, 1) := by decide +kernel
theorem d_R_runScript_70 : decode prog_14_method_70_code 70 = .ok (.aload_n 0, 1) := by decide +kernel
theorem d_R_runScript_71 : decode prog_14_method_70_code 71 = .ok (.iconst 0, 1) := by decide +kernel
theorem d_R_runScript_72 : decode prog_14_method_70_code 72 = .ok (.putfield 320, 3) := by decide +kernel
theorem d_R_runScript_75 : decode prog_14_method_70_code 75 = .ok (.aload_n 0, 1) := by decide +kernel
theorem d_R_runScript_76 : decode prog_14_method_70_code 76 = .ok (.iconst 0, 1) := by decide +kernel
theorem d_R_runScript_77 : decode prog_14_method_70_code 77 = .ok (.putfield 73, 3) := by decide +kernel
theorem d_R_runScript_80 : decode prog_14_method_70_code 80 = .ok (.aload_n 0, 1) := by decide +kernel
theorem d_R_runScript_81 : decode prog_14_method_70_code 81 = .ok (.getfield 311, 3) := by decide +kernel
theorem d_R_runScript_84 : decode prog_14_method_70_code 84 = .ok (.ireturn, 1) := by decide +kernel
theorem d_R_readsRepeat_0 : decode prog_14_method_62_code 0 = .ok (.aload_n 0, 1) := by decide +kernel
theorem d_R_readsRepeat_1 : decode prog_14_method_62_code 1 = .ok (.iload_n 1, 1) := by decide +kernel
theorem d_R_readsRepeat_2 : decode prog_14_method_62_code 2 = .ok (.iconst 0, 1) := by decide +kernel
theorem d_R_readsRepeat_3 : decode prog_14_method_62_code 3 = .ok (.aload_n 0, 1) := by decide +kernel
theorem d_R_readsRepeat_4 : decode prog_14_method_62_code 4 = .ok (.iconst 0, 1) := by decide +kernel
theorem d_R_readsRepeat_5 : decode prog_14_method_62_code 5 = .ok (.bipush 20, 2) := by decide +kernel
theorem d_R_readsRepeat_7 : decode prog_14_method_62_code 7 = .ok (.invokevirtual 208, 3) := by decide +kernel
theorem d_R_readsRepeat_10 : decode prog_14_method_62_code 10 = .ok (.invokevirtual 246, 3) := by decide +kernel
theorem d_R_readsRepeat_13 : decode prog_14_method_62_code 13 = .ok (.aload_n 0, 1) := by decide +kernel
theorem d_R_readsRepeat_14 : decode prog_14_method_62_code 14 = .ok (.aload_n 0, 1) := by decide +kernel
theorem d_R_readsRepeat_15 : decode prog_14_method_62_code 15 = .ok (.bipush 40, 2) := by decide +kernel
theorem d_R_readsRepeat_17 : decode prog_14_method_62_code 17 = .ok (.invokevirtual 165, 3) := by decide +kernel
theorem d_R_readsRepeat_20 : decode prog_14_method_62_code 20 = .ok (.iconst 1, 1) := by decide +kernel
theorem d_R_readsRepeat_21 : decode prog_14_method_62_code 21 = .ok (.invokevirtual 169, 3) := by decide +kernel
theorem d_R_readsRepeat_24 : decode prog_14_method_62_code 24 = .ok (.ifCond .eq 19, 3) := by decide +kernel
theorem d_R_readsRepeat_27 : decode prog_14_method_62_code 27 = .ok (.aload_n 0, 1) := by decide +kernel
theorem d_R_readsRepeat_28 : decode prog_14_method_62_code 28 = .ok (.iload_n 2, 1) := by decide +kernel
theorem d_R_readsRepeat_29 : decode prog_14_method_62_code 29 = .ok (.iconst 2, 1) := by decide +kernel
theorem d_R_readsRepeat_30 : decode prog_14_method_62_code 30 = .ok (.if_icmp .ge 7, 3) := by decide +kernel
theorem d_R_readsRepeat_33 : decode prog_14_method_62_code 33 = .ok (.iconst 1, 1) := by decide +kernel
theorem d_R_readsRepeat_34 : decode prog_14_method_62_code 34 = .ok (.goto 4, 3) := by decide +kernel
theorem d_R_readsRepeat_37 : decode prog_14_method_62_code 37 = .ok (.iconst 0, 1) := by decide +kernel
theorem d_R_readsRepeat_38 : decode prog_14_method_62_code 38 = .ok (.iconst 4, 1) := by decide +kernel
theorem d_R_readsRepeat_39 : decode prog_14_method_62_code 39 = .ok (.invokevirtual 169, 3) := by decide +kernel
theorem d_R_readsRepeat_42 : decode prog_14_method_62_code 42 = .ok (.pop, 1) := by decide +kernel
theorem d_R_readsRepeat_43 : decode prog_14_method_62_code 43 = .ok (.aload_n 0, 1) := by decide +kernel
theorem d_R_readsRepeat_44 : decode prog_14_method_62_code 44 = .ok (.invokevirtual 172, 3) := by decide +kernel
theorem d_R_readsRepeat_47 : decode prog_14_method_62_code 47 = .ok (.aload_n 0, 1) := by decide +kernel
theorem d_R_readsRepeat_48 : decode prog_14_method_62_code 48 = .ok (.iload_n 2, 1) := by decide +kernel
theorem d_R_readsRepeat_49 : decode prog_14_method_62_code 49 = .ok (.iconst 1, 1) := by decide +kernel
theorem d_R_readsRepeat_50 : decode prog_14_method_62_code 50 = .ok (.iadd, 1) := by decide +kernel
theorem d_R_readsRepeat_51 : decode prog_14_method_62_code 51 = .ok (.invokevirtual 249, 3) := by decide +kernel
theorem d_R_readsRepeat_54 : decode prog_14_method_62_code 54 = .ok (.aload_n 0, 1) := by decide +kernel
theorem d_R_readsRepeat_55 : decode prog_14_method_62_code 55 = .ok (.bipush 41, 2) := by decide +kernel
theorem d_R_readsRepeat_57 : decode prog_14_method_62_code 57 = .ok (.invokevirtual 204, 3) := by decide +kernel
theorem d_R_readsRepeat_60 : decode prog_14_method_62_code 60 = .ok (.aload_n 0, 1) := by decide +kernel
theorem d_R_readsRepeat_61 : decode prog_14_method_62_code 61 = .ok (.iload_n 1, 1) := by decide +kernel
theorem d_R_readsRepeat_62 : decode prog_14_method_62_code 62 = .ok (.iconst 1, 1) := by decide +kernel
theorem d_R_readsRepeat_63 : decode prog_14_method_62_code 63 = .ok (.aload_n 0, 1) := by decide +kernel
theorem d_R_readsRepeat_64 : decode prog_14_method_62_code 64 = .ok (.getfield 252, 3) := by decide +kernel
theorem d_R_readsRepeat_67 : decode prog_14_method_62_code 67 = .ok (.invokevirtual 246, 3) := by decide +kernel
theorem d_R_readsRepeat_70 : decode prog_14_method_62_code 70 = .ok (.return_, 1) := by decide +kernel
theorem d_R_readsCommand_0 : decode prog_14_method_66_code 0 = .ok (.aload_n 0, 1) := by decide +kernel
theorem d_R_readsCommand_1 : decode prog_14_method_66_code 1 = .ok (.invokevirtual 276, 3) := by decide +kernel
theorem d_R_readsCommand_4 : decode prog_14_method_66_code 4 = .ok (.istore_n 2, 1) := by decide +kernel
theorem d_R_readsCommand_5 : decode prog_14_method_66_code 5 = .ok (.aload_n 0, 1) := by decide +kernel
theorem d_R_readsCommand_6 : decode prog_14_method_66_code 6 = .ok (.iload_n 2, 1) := by decide +kernel
theorem d_R_readsCommand_7 : decode prog_14_method_66_code 7 = .ok (.iconst (-1), 1) := by decide +kernel
theorem d_R_readsCommand_8 : decode prog_14_method_66_code 8 = .ok (.if_icmp .eq 7, 3) := by decide +kernel
theorem d_R_readsCommand_11 : decode prog_14_method_66_code 11 = .ok (.iconst 1, 1) := by decide +kernel
theorem d_R_readsCommand_12 : decode prog_14_method_66_code 12 = .ok (.goto 4, 3) := by decide +kernel
theorem d_R_readsCommand_15 : decode prog_14_method_66_code 15 = .ok (.iconst 0, 1) := by decide +kernel
theorem d_R_readsCommand_16 : decode prog_14_method_66_code 16 = .ok (.iconst 1, 1) := by decide +kernel
theorem d_R_readsCommand_17 : decode prog_14_method_66_code 17 = .ok (.invokevirtual 169, 3) := by decide +kernel
theorem d_R_readsCommand_20 : decode prog_14_method_66_code 20 = .ok (.ifCond .eq 25, 3) := by decide +kernel
theorem d_R_readsCommand_23 : decode prog_14_method_66_code 23 = .ok (.aload_n 0, 1) := by decide +kernel
theorem d_R_readsCommand_24 : decode prog_14_method_66_code 24 = .ok (.aload_n 0, 1) := by decide +kernel
theorem d_R_readsCommand_25 : decode prog_14_method_66_code 25 = .ok (.getfield 252, 3) := by decide +kernel
theorem d_R_readsCommand_28 : decode prog_14_method_66_code 28 = .ok (.bipush 30, 2) := by decide +kernel
theorem d_R_readsCommand_30 : decode prog_14_method_66_code 30 = .ok (.if_icmp .ge 7, 3) := by decide +kernel
theorem d_R_readsCommand_33 : decode prog_14_method_66_code 33 = .ok (.iconst 1, 1) := by decide +kernel
theorem d_R_readsCommand_34 : decode prog_14_method_66_code 34 = .ok (.goto 4, 3) := by decide +kernel
theorem d_R_readsCommand_37 : decode prog_14_method_66_code 37 = .ok (.iconst 0, 1) := by decide +kernel
theorem d_R_readsCommand_38 : decode prog_14_method_66_code 38 = .ok (.iconst 4, 1) := by decide +kernel
theorem d_R_readsCommand_39 : decode prog_14_method_66_code 39 = .ok (.invokevirtual 169, 3) := by decide +kernel
theorem d_R_readsCommand_42 : decode prog_14_method_66_code 42 = .ok (.ifCond .ne 4, 3) := by decide +kernel
theorem d_R_readsCommand_45 : decode prog_14_method_66_code 45 = .ok (.return_, 1) := by decide +kernel
theorem d_R_readsCommand_46 : decode prog_14_method_66_code 46 = .ok (.aload_n 0, 1) := by decide +kernel
theorem d_R_readsCommand_47 : decode prog_14_method_66_code 47 = .ok (.getfield 252, 3) := by decide +kernel
theorem d_R_readsCommand_50 : decode prog_14_method_66_code 50 = .ok (.istore_n 3, 1) := by decide +kernel
theorem d_R_readsCommand_51 : decode prog_14_method_66_code 51 = .ok (.aload_n 0, 1) := by decide +kernel
theorem d_R_readsCommand_52 : decode prog_14_method_66_code 52 = .ok (.getfield 36, 3) := by decide +kernel
theorem d_R_readsCommand_55 : decode prog_14_method_66_code 55 = .ok (.iload_n 3, 1) := by decide +kernel
theorem d_R_readsCommand_56 : decode prog_14_method_66_code 56 = .ok (.iload_n 2, 1) := by decide +kernel
theorem d_R_readsCommand_57 : decode prog_14_method_66_code 57 = .ok (.iastore, 1) := by decide +kernel
theorem d_R_readsCommand_58 : decode prog_14_method_66_code 58 = .ok (.aload_n 0, 1) := by decide +kernel
theorem d_R_readsCommand_59 : decode prog_14_method_66_code 59 = .ok (.dup, 1) := by decide +kernel
theorem d_R_readsCommand_60 : decode prog_14_method_66_code 60 = .ok (.getfield 252, 3) := by decide +kernel
theorem d_R_readsCommand_63 : decode prog_14_method_66_code 63 = .ok (.iconst 1, 1) := by decide +kernel
theorem d_R_readsCommand_64 : decode prog_14_method_66_code 64 = .ok (.iadd, 1) := by decide +kernel
theorem d_R_readsCommand_65 : decode prog_14_method_66_code 65 = .ok (.putfield 252, 3) := by decide +kernel
theorem d_R_readsCommand_68 : decode prog_14_method_66_code 68 = .ok (.aload_n 0, 1) := by decide +kernel
theorem d_R_readsCommand_69 : decode prog_14_method_66_code 69 = .ok (.invokevirtual 162, 3) := by decide +kernel
theorem d_R_readsCommand_72 : decode prog_14_method_66_code 72 = .ok (.iload_n 2, 1) := by decide +kernel
theorem d_R_readsCommand_73 : decode prog_14_method_66_code 73 = .ok (.iconst 4, 1) := by decide +kernel
theorem d_R_readsCommand_74 : decode prog_14_method_66_code 74 = .ok (.if_icmp .ne 12, 3) := by decide +kernel
theorem d_R_readsCommand_77 : decode prog_14_method_66_code 77 = .ok (.aload_n 0, 1) := by decide +kernel
theorem d_R_readsCommand_78 : decode prog_14_method_66_code 78 = .ok (.iload_n 3, 1) := by decide +kernel
theorem d_R_readsCommand_79 : decode prog_14_method_66_code 79 = .ok (.iload_n 1, 1) := by decide +kernel
theorem d_R_readsCommand_80 : decode prog_14_method_66_code 80 = .ok (.invokevirtual 279, 3) := by decide +kernel
theorem d_R_readsCommand_83 : decode prog_14_method_66_code 83 = .ok (.goto 8, 3) := by decide +kernel
theorem d_R_readsCommand_86 : decode prog_14_method_66_code 86 = .ok (.aload_n 0, 1) := by decide +kernel
theorem d_R_readsCommand_87 : decode prog_14_method_66_code 87 = .ok (.iload_n 3, 1) := by decide +kernel
theorem d_R_readsCommand_88 : decode prog_14_method_66_code 88 = .ok (.invokevirtual 283, 3) := by decide +kernel
theorem d_R_readsCommand_91 : decode prog_14_method_66_code 91 = .ok (.aload_n 0, 1) := by decide +kernel
theorem d_R_readsCommand_92 : decode prog_14_method_66_code 92 = .ok (.bipush 59, 2) := by decide +kernel
theorem d_R_readsCommand_94 : decode prog_14_method_66_code 94 = .ok (.invokevirtual 204, 3) := by decide +kernel
theorem d_R_readsCommand_97 : decode prog_14_method_66_code 97 = .ok (.return_, 1) := by decide +kernel
theorem d_R_readsCommands_0 : decode prog_14_method_67_code 0 = .ok (.aload_n 0, 1) := by decide +kernel
theorem d_R_readsCommands_1 : decode prog_14_method_67_code 1 = .ok (.getfield 156, 3) := by decide +kernel
theorem d_R_readsCommands_4 : decode prog_14_method_67_code 4 = .ok (.ifCond .ne 27, 3) := by decide +kernel
theorem d_R_readsCommands_7 : decode prog_14_method_67_code 7 = .ok (.aload_n 0, 1) := by decide +kernel
theorem d_R_readsCommands_8 : decode prog_14_method_67_code 8 = .ok (.getfield 144, 3) := by decide +kernel
theorem d_R_readsCommands_11 : decode prog_14_method_67_code 11 = .ok (.ifCond .eq 20, 3) := by decide +kernel
theorem d_R_readsCommands_14 : decode prog_14_method_67_code 14 = .ok (.aload_n 0, 1) := by decide +kernel
theorem d_R_readsCommands_15 : decode prog_14_method_67_code 15 = .ok (.bipush 41, 2) := by decide +kernel
theorem d_R_readsCommands_17 : decode prog_14_method_67_code 17 = .ok (.invokevirtual 165, 3) := by decide +kernel
theorem d_R_readsCommands_20 : decode prog_14_method_67_code 20 = .ok (.ifCond .ne 11, 3) := by decide +kernel
theorem d_R_readsCommands_23 : decode prog_14_method_67_code 23 = .ok (.aload_n 0, 1) := by decide +kernel
theorem d_R_readsCommands_24 : decode prog_14_method_67_code 24 = .ok (.iload_n 1, 1) := by decide +kernel
theorem d_R_readsCommands_25 : decode prog_14_method_67_code 25 = .ok (.invokevirtual 286, 3) := by decide +kernel
theorem d_R_readsCommands_28 : decode prog_14_method_67_code 28 = .ok (.goto (-28), 3) := by decide +kernel
theorem d_R_readsCommands_31 : decode prog_14_method_67_code 31 = .ok (.return_, 1) := by decide +kernel
theorem d_R_doesAll_0 : decode prog_14_method_69_code 0 = .ok (.iload_n 1, 1) := by decide +kernel
theorem d_R_doesAll_1 : decode prog_14_method_69_code 1 = .ok (.istore_n 3, 1) := by decide +kernel
theorem d_R_doesAll_2 : decode prog_14_method_69_code 2 = .ok (.iload_n 3, 1) := by decide +kernel
theorem d_R_doesAll_3 : decode prog_14_method_69_code 3 = .ok (.iload_n 2, 1) := by decide +kernel
theorem d_R_doesAll_4 : decode prog_14_method_69_code 4 = .ok (.if_icmp .ge 104, 3) := by decide +kernel
theorem d_R_doesAll_7 : decode prog_14_method_69_code 7 = .ok (.aload_n 0, 1) := by decide +kernel
theorem d_R_doesAll_8 : decode prog_14_method_69_code 8 = .ok (.getfield 36, 3) := by decide +kernel
theorem d_R_doesAll_11 : decode prog_14_method_69_code 11 = .ok (.iload_n 3, 1) := by decide +kernel
theorem d_R_doesAll_12 : decode prog_14_method_69_code 12 = .ok (.iaload, 1) := by decide +kernel
theorem d_R_doesAll_13 : decode prog_14_method_69_code 13 = .ok (.iconst 4, 1) := by decide +kernel
theorem d_R_doesAll_14 : decode prog_14_method_69_code 14 = .ok (.if_icmp .ne 51, 3) := by decide +kernel
theorem d_R_doesAll_17 : decode prog_14_method_69_code 17 = .ok (.iconst 0, 1) := by decide +kernel
theorem d_R_doesAll_18 : decode prog_14_method_69_code 18 = .ok (.istore 4, 2) := by decide +kernel
theorem d_R_doesAll_20 : decode prog_14_method_69_code 20 = .ok (.iload 4, 2) := by decide +kernel
theorem d_R_doesAll_22 : decode prog_14_method_69_code 22 = .ok (.aload_n 0, 1) := by decide +kernel
theorem d_R_doesAll_23 : decode prog_14_method_69_code 23 = .ok (.iload_n 3, 1) := by decide +kernel
theorem d_R_doesAll_24 : decode prog_14_method_69_code 24 = .ok (.iconst 0, 1) := by decide +kernel
theorem d_R_doesAll_25 : decode prog_14_method_69_code 25 = .ok (.invokevirtual 289, 3) := by decide +kernel
theorem d_R_doesAll_28 : decode prog_14_method_69_code 28 = .ok (.if_icmp .ge 27, 3) := by decide +kernel
theorem d_R_doesAll_31 : decode prog_14_method_69_code 31 = .ok (.aload_n 0, 1) := by decide +kernel
theorem d_R_doesAll_32 : decode prog_14_method_69_code 32 = .ok (.iload_n 3, 1) := by decide +kernel
theorem d_R_doesAll_33 : decode prog_14_method_69_code 33 = .ok (.iconst 1, 1) := by decide +kernel
theorem d_R_doesAll_34 : decode prog_14_method_69_code 34 = .ok (.iadd, 1) := by decide +kernel
theorem d_R_doesAll_35 : decode prog_14_method_69_code 35 = .ok (.aload_n 0, 1) := by decide +kernel
theorem d_R_doesAll_36 : decode prog_14_method_69_code 36 = .ok (.iload_n 3, 1) := by decide +kernel
theorem d_R_doesAll_37 : decode prog_14_method_69_code 37 = .ok (.iconst 1, 1) := by decide +kernel
theorem d_R_doesAll_38 : decode prog_14_method_69_code 38 = .ok (.invokevirtual 289, 3) := by decide +kernel
theorem d_R_doesAll_41 : decode prog_14_method_69_code 41 = .ok (.invokevirtual 307, 3) := by decide +kernel
theorem d_R_doesAll_44 : decode prog_14_method_69_code 44 = .ok (.ifCond .ne 5, 3) := by decide +kernel
theorem d_R_doesAll_47 : decode prog_14_method_69_code 47 = .ok (.iconst 0, 1) := by decide +kernel
theorem d_R_doesAll_48 : decode prog_14_method_69_code 48 = .ok (.ireturn, 1) := by decide +kernel
theorem d_R_doesAll_49 : decode prog_14_method_69_code 49 = .ok (.iinc 4 1, 3) := by decide +kernel
theorem d_R_doesAll_52 : decode prog_14_method_69_code 52 = .ok (.goto (-32), 3) := by decide +kernel
theorem d_R_doesAll_55 : decode prog_14_method_69_code 55 = .ok (.aload_n 0, 1) := by decide +kernel
theorem d_R_doesAll_56 : decode prog_14_method_69_code 56 = .ok (.iload_n 3, 1) := by decide +kernel
theorem d_R_doesAll_57 : decode prog_14_method_69_code 57 = .ok (.iconst 1, 1) := by decide +kernel
theorem d_R_doesAll_58 : decode prog_14_method_69_code 58 = .ok (.invokevirtual 289, 3) := by decide +kernel
theorem d_R_doesAll_61 : decode prog_14_method_69_code 61 = .ok (.istore_n 3, 1) := by decide +kernel
theorem d_R_doesAll_62 : decode prog_14_method_69_code 62 = .ok (.goto (-60), 3) := by decide +kernel
theorem d_R_doesAll_65 : decode prog_14_method_69_code 65 = .ok (.aload_n 0, 1) := by decide +kernel
theorem d_R_doesAll_66 : decode prog_14_method_69_code 66 = .ok (.getfield 311, 3) := by decide +kernel
theorem d_R_doesAll_69 : decode prog_14_method_69_code 69 = .ok (.bipush 40, 2) := by decide +kernel
theorem d_R_doesAll_71 : decode prog_14_method_69_code 71 = .ok (.if_icmp .ne 5, 3) := by decide +kernel
theorem d_R_doesAll_74 : decode prog_14_method_69_code 74 = .ok (.iconst 0, 1) := by decide +kernel
theorem d_R_doesAll_75 : decode prog_14_method_69_code 75 = .ok (.ireturn, 1) := by decide +kernel
theorem d_R_doesAll_76 : decode prog_14_method_69_code 76 = .ok (.aload_n 0, 1) := by decide +kernel
theorem d_R_doesAll_77 : decode prog_14_method_69_code 77 = .ok (.iload_n 3, 1) := by decide +kernel
theorem d_R_doesAll_78 : decode prog_14_method_69_code 78 = .ok (.invokevirtual 314, 3) := by decide +kernel
theorem d_R_doesAll_81 : decode prog_14_method_69_code 81 = .ok (.istore 4, 2) := by decide +kernel
theorem d_R_doesAll_83 : decode prog_14_method_69_code 83 = .ok (.aload_n 0, 1) := by decide +kernel
theorem d_R_doesAll_84 : decode prog_14_method_69_code 84 = .ok (.getfield 73, 3) := by decide +kernel
theorem d_R_doesAll_87 : decode prog_14_method_69_code 87 = .ok (.ifCond .eq 5, 3) := by decide +kernel
theorem d_R_doesAll_90 : decode prog_14_method_69_code 90 = .ok (.iconst 0, 1) := by decide +kernel
theorem d_R_doesAll_91 : decode prog_14_method_69_code 91 = .ok (.ireturn, 1) := by decide +kernel
theorem d_R_doesAll_92 : decode prog_14_method_69_code 92 = .ok (.aload_n 0, 1) := by decide +kernel
theorem d_R_doesAll_93 : decode prog_14_method_69_code 93 = .ok (.dup, 1) := by decide +kernel
theorem d_R_doesAll_94 : decode prog_14_method_69_code 94 = .ok (.getfield 311, 3) := by decide +kernel
theorem d_R_doesAll_97 : decode prog_14_method_69_code 97 = .ok (.iconst 1, 1) := by decide +kernel
theorem d_R_doesAll_98 : decode prog_14_method_69_code 98 = .ok (.iadd, 1) := by decide +kernel
theorem d_R_doesAll_99 : decode prog_14_method_69_code 99 = .ok (.putfield 311, 3) := by decide +kernel
theorem d_R_doesAll_102 : decode prog_14_method_69_code 102 = .ok (.iinc 3 1, 3) := by decide +kernel
theorem d_R_doesAll_105 : decode prog_14_method_69_code 105 = .ok (.goto (-103), 3) := by decide +kernel
theorem d_R_doesAll_108 : decode prog_14_method_69_code 108 = .ok (.iconst 1, 1) := by decide +kernel
theorem d_R_doesAll_109 : decode prog_14_method_69_code 109 = .ok (.ireturn, 1) := by decide +kernel
theorem d_String_length_8abf5_0 : decode prog_29_method_54_code 0 = .ok (.aload_n 0, 1) := by decide +kernel
theorem d_String_length_8abf5_1 : decode prog_29_method_54_code 1 = .ok (.getfield 9, 3) := by decide +kernel
theorem d_String_length_8abf5_4 : decode prog_29_method_54_code 4 = .ok (.arraylength, 1) := by decide +kernel
theorem d_String_length_8abf5_5 : decode prog_29_method_54_code 5 = .ok (.aload_n 0, 1) := by decide +kernel
theorem d_String_length_8abf5_6 : decode prog_29_method_54_code 6 = .ok (.invokevirtual 335, 3) := by decide +kernel
theorem d_String_length_8abf5_9 : decode prog_29_method_54_code 9 = .ok (.ishr, 1) := by decide +kernel
theorem d_String_length_8abf5_10 : decode prog_29_method_54_code 10 = .ok (.ireturn, 1) := by decide +kernel
theorem d_String_charAt_5068e_0 : decode prog_29_method_56_code 0 = .ok (.aload_n 0, 1) := by decide +kernel
theorem d_String_charAt_5068e_1 : decode prog_29_method_56_code 1 = .ok (.invokevirtual 492, 3) := by decide +kernel
theorem d_String_charAt_5068e_4 : decode prog_29_method_56_code 4 = .ok (.ifCond .eq 12, 3) := by decide +kernel
theorem d_String_charAt_5068e_7 : decode prog_29_method_56_code 7 = .ok (.aload_n 0, 1) := by decide +kernel
theorem d_String_charAt_5068e_8 : decode prog_29_method_56_code 8 = .ok (.getfield 9, 3) := by decide +kernel
theorem d_String_charAt_5068e_11 : decode prog_29_method_56_code 11 = .ok (.iload_n 1, 1) := by decide +kernel
theorem d_String_charAt_5068e_12 : decode prog_29_method_56_code 12 = .ok (.invokestatic 495, 3) := by decide +kernel
theorem d_String_charAt_5068e_15 : decode prog_29_method_56_code 15 = .ok (.ireturn, 1) := by decide +kernel
theorem d_String_charAt_5068e_16 : decode prog_29_method_56_code 16 = .ok (.aload_n 0, 1) := by decide +kernel
theorem d_String_charAt_5068e_17 : decode prog_29_method_56_code 17 = .ok (.getfield 9, 3) := by decide +kernel
theorem d_String_charAt_5068e_20 : decode prog_29_method_56_code 20 = .ok (.iload_n 1, 1) := by decide +kernel
theorem d_String_charAt_5068e_21 : decode prog_29_method_56_code 21 = .ok (.invokestatic 498, 3) := by decide +kernel
theorem d_String_charAt_5068e_24 : decode prog_29_method_56_code 24 = .ok (.ireturn, 1) := by decide +kernel
theorem d_String_coder_7d493_0 : decode prog_29_method_152_code 0 = .ok (.getstatic 38, 3) := by decide +kernel
theorem d_String_coder_7d493_3 : decode prog_29_method_152_code 3 = .ok (.ifCond .eq 10, 3) := by decide +kernel
theorem d_String_coder_7d493_6 : decode prog_29_method_152_code 6 = .ok (.aload_n 0, 1) := by decide +kernel
theorem d_String_coder_7d493_7 : decode prog_29_method_152_code 7 = .ok (.getfield 15, 3) := by decide +kernel
theorem d_String_coder_7d493_10 : decode prog_29_method_152_code 10 = .ok (.goto 4, 3) := by decide +kernel
theorem d_String_coder_7d493_13 : decode prog_29_method_152_code 13 = .ok (.iconst 1, 1) := by decide +kernel
theorem d_String_coder_7d493_14 : decode prog_29_method_152_code 14 = .ok (.ireturn, 1) := by decide +kernel
theorem d_String_isLatin1_aae02_0 : decode prog_29_method_154_code 0 = .ok (.getstatic 38, 3) := by decide +kernel
theorem d_String_isLatin1_aae02_3 : decode prog_29_method_154_code 3 = .ok (.ifCond .eq 14, 3) := by decide +kernel
theorem d_String_isLatin1_aae02_6 : decode prog_29_method_154_code 6 = .ok (.aload_n 0, 1) := by decide +kernel
theorem d_String_isLatin1_aae02_7 : decode prog_29_method_154_code 7 = .ok (.getfield 15, 3) := by decide +kernel
theorem d_String_isLatin1_aae02_10 : decode prog_29_method_154_code 10 = .ok (.ifCond .ne 7, 3) := by decide +kernel
theorem d_String_isLatin1_aae02_13 : decode prog_29_method_154_code 13 = .ok (.iconst 1, 1) := by decide +kernel
theorem d_String_isLatin1_aae02_14 : decode prog_29_method_154_code 14 = .ok (.goto 4, 3) := by decide +kernel
theorem d_String_isLatin1_aae02_17 : decode prog_29_method_154_code 17 = .ok (.iconst 0, 1) := by decide +kernel
theorem d_String_isLatin1_aae02_18 : decode prog_29_method_154_code 18 = .ok (.ireturn, 1) := by decide +kernel
theorem d_StringLatin1_charAt_3b067_0 : decode prog_31_method_2_code 0 = .ok (.iload_n 1, 1) := by decide +kernel
theorem d_StringLatin1_charAt_3b067_1 : decode prog_31_method_2_code 1 = .ok (.aload_n 0, 1) := by decide +kernel
theorem d_StringLatin1_charAt_3b067_2 : decode prog_31_method_2_code 2 = .ok (.arraylength, 1) := by decide +kernel
theorem d_StringLatin1_charAt_3b067_3 : decode prog_31_method_2_code 3 = .ok (.invokestatic 9, 3) := by decide +kernel
theorem d_StringLatin1_charAt_3b067_6 : decode prog_31_method_2_code 6 = .ok (.aload_n 0, 1) := by decide +kernel
theorem d_StringLatin1_charAt_3b067_7 : decode prog_31_method_2_code 7 = .ok (.iload_n 1, 1) := by decide +kernel
theorem d_StringLatin1_charAt_3b067_8 : decode prog_31_method_2_code 8 = .ok (.baload, 1) := by decide +kernel
theorem d_StringLatin1_charAt_3b067_9 : decode prog_31_method_2_code 9 = .ok (.sipush 255, 3) := by decide +kernel
theorem d_StringLatin1_charAt_3b067_12 : decode prog_31_method_2_code 12 = .ok (.iand, 1) := by decide +kernel
theorem d_StringLatin1_charAt_3b067_13 : decode prog_31_method_2_code 13 = .ok (.i2c, 1) := by decide +kernel
theorem d_StringLatin1_charAt_3b067_14 : decode prog_31_method_2_code 14 = .ok (.ireturn, 1) := by decide +kernel
