theorem dX8_row_0 : decode cX8_row 0 = .ok (.iload_n 1, 1) := by decide +kernel
theorem dX8_row_1 : decode cX8_row 1 = .ok (.iconst 0, 1) := by decide +kernel
theorem dX8_row_2 : decode cX8_row 2 = .ok (.bipush 9, 2) := by decide +kernel
theorem dX8_row_4 : decode cX8_row 4 = .ok (.invokestatic 60, 3) := by decide +kernel
theorem dX8_row_7 : decode cX8_row 7 = .ok (.ifCond .eq 17, 3) := by decide +kernel
theorem dX8_row_10 : decode cX8_row 10 = .ok (.iload 5, 2) := by decide +kernel
theorem dX8_row_12 : decode cX8_row 12 = .ok (.sipush (-1000), 3) := by decide +kernel
theorem dX8_row_15 : decode cX8_row 15 = .ok (.sipush 1000, 3) := by decide +kernel
theorem dX8_row_18 : decode cX8_row 18 = .ok (.invokestatic 60, 3) := by decide +kernel
theorem dX8_row_21 : decode cX8_row 21 = .ok (.ifCond .ne 7, 3) := by decide +kernel
theorem dX8_row_24 : decode cX8_row 24 = .ok (.sipush (-1001), 3) := by decide +kernel
theorem dX8_row_27 : decode cX8_row 27 = .ok (.ireturn, 1) := by decide +kernel
theorem dX8_row_28 : decode cX8_row 28 = .ok (.iload_n 1, 1) := by decide +kernel
theorem dX8_row_29 : decode cX8_row 29 = .ok (.invokestatic 84, 3) := by decide +kernel
theorem dX8_row_32 : decode cX8_row 32 = .ok (.istore 6, 2) := by decide +kernel
theorem dX8_row_34 : decode cX8_row 34 = .ok (.iload 6, 2) := by decide +kernel
theorem dX8_row_36 : decode cX8_row 36 = .ok (.iconst 1, 1) := by decide +kernel
theorem dX8_row_37 : decode cX8_row 37 = .ok (.if_icmp .lt 11, 3) := by decide +kernel
theorem dX8_row_40 : decode cX8_row 40 = .ok (.aload_n 0, 1) := by decide +kernel
theorem dX8_row_41 : decode cX8_row 41 = .ok (.iload_n 2, 1) := by decide +kernel
theorem dX8_row_42 : decode cX8_row 42 = .ok (.invokevirtual 76, 3) := by decide +kernel
theorem dX8_row_45 : decode cX8_row 45 = .ok (.ifCond .eq 53, 3) := by decide +kernel
theorem dX8_row_48 : decode cX8_row 48 = .ok (.iload 6, 2) := by decide +kernel
theorem dX8_row_50 : decode cX8_row 50 = .ok (.iconst 2, 1) := by decide +kernel
theorem dX8_row_51 : decode cX8_row 51 = .ok (.if_icmp .lt 16, 3) := by decide +kernel
theorem dX8_row_54 : decode cX8_row 54 = .ok (.aload_n 0, 1) := by decide +kernel
theorem dX8_row_55 : decode cX8_row 55 = .ok (.iload_n 3, 1) := by decide +kernel
theorem dX8_row_56 : decode cX8_row 56 = .ok (.invokevirtual 76, 3) := by decide +kernel
theorem dX8_row_59 : decode cX8_row 59 = .ok (.ifCond .eq 39, 3) := by decide +kernel
theorem dX8_row_62 : decode cX8_row 62 = .ok (.iload_n 2, 1) := by decide +kernel
theorem dX8_row_63 : decode cX8_row 63 = .ok (.iload_n 3, 1) := by decide +kernel
theorem dX8_row_64 : decode cX8_row 64 = .ok (.if_icmp .eq 34, 3) := by decide +kernel
theorem dX8_row_67 : decode cX8_row 67 = .ok (.iload 6, 2) := by decide +kernel
theorem dX8_row_69 : decode cX8_row 69 = .ok (.iconst 3, 1) := by decide +kernel
theorem dX8_row_70 : decode cX8_row 70 = .ok (.if_icmp .lt 24, 3) := by decide +kernel
theorem dX8_row_73 : decode cX8_row 73 = .ok (.aload_n 0, 1) := by decide +kernel
theorem dX8_row_74 : decode cX8_row 74 = .ok (.iload 4, 2) := by decide +kernel
theorem dX8_row_76 : decode cX8_row 76 = .ok (.invokevirtual 76, 3) := by decide +kernel
theorem dX8_row_79 : decode cX8_row 79 = .ok (.ifCond .eq 19, 3) := by decide +kernel
theorem dX8_row_82 : decode cX8_row 82 = .ok (.iload 4, 2) := by decide +kernel
theorem dX8_row_84 : decode cX8_row 84 = .ok (.iload_n 2, 1) := by decide +kernel
theorem dX8_row_85 : decode cX8_row 85 = .ok (.if_icmp .eq 13, 3) := by decide +kernel
theorem dX8_row_88 : decode cX8_row 88 = .ok (.iload 4, 2) := by decide +kernel
theorem dX8_row_90 : decode cX8_row 90 = .ok (.iload_n 3, 1) := by decide +kernel
theorem dX8_row_91 : decode cX8_row 91 = .ok (.if_icmp .eq 7, 3) := by decide +kernel
theorem dX8_row_94 : decode cX8_row 94 = .ok (.iconst 1, 1) := by decide +kernel
theorem dX8_row_95 : decode cX8_row 95 = .ok (.goto 4, 3) := by decide +kernel
theorem dX8_row_98 : decode cX8_row 98 = .ok (.iconst 0, 1) := by decide +kernel
theorem dX8_row_99 : decode cX8_row 99 = .ok (.istore 7, 2) := by decide +kernel
theorem dX8_row_101 : decode cX8_row 101 = .ok (.iload 7, 2) := by decide +kernel
theorem dX8_row_103 : decode cX8_row 103 = .ok (.ifCond .ne 7, 3) := by decide +kernel
theorem dX8_row_106 : decode cX8_row 106 = .ok (.sipush (-1001), 3) := by decide +kernel
theorem dX8_row_109 : decode cX8_row 109 = .ok (.ireturn, 1) := by decide +kernel
theorem dX8_row_110 : decode cX8_row 110 = .ok (.aload_n 0, 1) := by decide +kernel
theorem dX8_row_111 : decode cX8_row 111 = .ok (.getfield 64, 3) := by decide +kernel
theorem dX8_row_114 : decode cX8_row 114 = .ok (.bipush 12, 2) := by decide +kernel
theorem dX8_row_116 : decode cX8_row 116 = .ok (.if_icmp .ne 7, 3) := by decide +kernel
theorem dX8_row_119 : decode cX8_row 119 = .ok (.sipush (-1003), 3) := by decide +kernel
theorem dX8_row_122 : decode cX8_row 122 = .ok (.ireturn, 1) := by decide +kernel
theorem dX8_row_123 : decode cX8_row 123 = .ok (.aload_n 0, 1) := by decide +kernel
theorem dX8_row_124 : decode cX8_row 124 = .ok (.getfield 16, 3) := by decide +kernel
theorem dX8_row_127 : decode cX8_row 127 = .ok (.aload_n 0, 1) := by decide +kernel
theorem dX8_row_128 : decode cX8_row 128 = .ok (.getfield 64, 3) := by decide +kernel
theorem dX8_row_131 : decode cX8_row 131 = .ok (.iload_n 1, 1) := by decide +kernel
theorem dX8_row_132 : decode cX8_row 132 = .ok (.iastore, 1) := by decide +kernel
theorem dX8_row_133 : decode cX8_row 133 = .ok (.aload_n 0, 1) := by decide +kernel
theorem dX8_row_134 : decode cX8_row 134 = .ok (.getfield 20, 3) := by decide +kernel
theorem dX8_row_137 : decode cX8_row 137 = .ok (.iconst 3, 1) := by decide +kernel
theorem dX8_row_138 : decode cX8_row 138 = .ok (.aload_n 0, 1) := by decide +kernel
theorem dX8_row_139 : decode cX8_row 139 = .ok (.getfield 64, 3) := by decide +kernel
theorem dX8_row_142 : decode cX8_row 142 = .ok (.imul, 1) := by decide +kernel
theorem dX8_row_143 : decode cX8_row 143 = .ok (.iload 6, 2) := by decide +kernel
theorem dX8_row_145 : decode cX8_row 145 = .ok (.ifCond .le 7, 3) := by decide +kernel
theorem dX8_row_148 : decode cX8_row 148 = .ok (.iload_n 2, 1) := by decide +kernel
theorem dX8_row_149 : decode cX8_row 149 = .ok (.goto 6, 3) := by decide +kernel
theorem dX8_row_152 : decode cX8_row 152 = .ok (.sipush (-1000), 3) := by decide +kernel
theorem dX8_row_155 : decode cX8_row 155 = .ok (.iastore, 1) := by decide +kernel
theorem dX8_row_156 : decode cX8_row 156 = .ok (.aload_n 0, 1) := by decide +kernel
theorem dX8_row_157 : decode cX8_row 157 = .ok (.getfield 20, 3) := by decide +kernel
theorem dX8_row_160 : decode cX8_row 160 = .ok (.iconst 3, 1) := by decide +kernel
theorem dX8_row_161 : decode cX8_row 161 = .ok (.aload_n 0, 1) := by decide +kernel
theorem dX8_row_162 : decode cX8_row 162 = .ok (.getfield 64, 3) := by decide +kernel
theorem dX8_row_165 : decode cX8_row 165 = .ok (.imul, 1) := by decide +kernel
theorem dX8_row_166 : decode cX8_row 166 = .ok (.iconst 1, 1) := by decide +kernel
theorem dX8_row_167 : decode cX8_row 167 = .ok (.iadd, 1) := by decide +kernel
theorem dX8_row_168 : decode cX8_row 168 = .ok (.iload 6, 2) := by decide +kernel
theorem dX8_row_170 : decode cX8_row 170 = .ok (.iconst 1, 1) := by decide +kernel
theorem dX8_row_171 : decode cX8_row 171 = .ok (.if_icmp .le 7, 3) := by decide +kernel
theorem dX8_row_174 : decode cX8_row 174 = .ok (.iload_n 3, 1) := by decide +kernel
theorem dX8_row_175 : decode cX8_row 175 = .ok (.goto 6, 3) := by decide +kernel
theorem dX8_row_178 : decode cX8_row 178 = .ok (.sipush (-1000), 3) := by decide +kernel
theorem dX8_row_181 : decode cX8_row 181 = .ok (.iastore, 1) := by decide +kernel
theorem dX8_row_182 : decode cX8_row 182 = .ok (.aload_n 0, 1) := by decide +kernel
theorem dX8_row_183 : decode cX8_row 183 = .ok (.getfield 20, 3) := by decide +kernel
theorem dX8_row_186 : decode cX8_row 186 = .ok (.iconst 3, 1) := by decide +kernel
theorem dX8_row_187 : decode cX8_row 187 = .ok (.aload_n 0, 1) := by decide +kernel
theorem dX8_row_188 : decode cX8_row 188 = .ok (.getfield 64, 3) := by decide +kernel
theorem dX8_row_191 : decode cX8_row 191 = .ok (.imul, 1) := by decide +kernel
theorem dX8_row_192 : decode cX8_row 192 = .ok (.iconst 2, 1) := by decide +kernel
theorem dX8_row_193 : decode cX8_row 193 = .ok (.iadd, 1) := by decide +kernel
theorem dX8_row_194 : decode cX8_row 194 = .ok (.iload 6, 2) := by decide +kernel
theorem dX8_row_196 : decode cX8_row 196 = .ok (.iconst 2, 1) := by decide +kernel
theorem dX8_row_197 : decode cX8_row 197 = .ok (.if_icmp .le 8, 3) := by decide +kernel
theorem dX8_row_200 : decode cX8_row 200 = .ok (.iload 4, 2) := by decide +kernel
theorem dX8_row_202 : decode cX8_row 202 = .ok (.goto 6, 3) := by decide +kernel
theorem dX8_row_205 : decode cX8_row 205 = .ok (.sipush (-1000), 3) := by decide +kernel
theorem dX8_row_208 : decode cX8_row 208 = .ok (.iastore, 1) := by decide +kernel
theorem dX8_row_209 : decode cX8_row 209 = .ok (.aload_n 0, 1) := by decide +kernel
theorem dX8_row_210 : decode cX8_row 210 = .ok (.getfield 23, 3) := by decide +kernel
theorem dX8_row_213 : decode cX8_row 213 = .ok (.aload_n 0, 1) := by decide +kernel
theorem dX8_row_214 : decode cX8_row 214 = .ok (.getfield 64, 3) := by decide +kernel
theorem dX8_row_217 : decode cX8_row 217 = .ok (.iload 5, 2) := by decide +kernel
theorem dX8_row_219 : decode cX8_row 219 = .ok (.iastore, 1) := by decide +kernel
theorem dX8_row_220 : decode cX8_row 220 = .ok (.iconst 0, 1) := by decide +kernel
theorem dX8_row_221 : decode cX8_row 221 = .ok (.istore 8, 2) := by decide +kernel
theorem dX8_row_223 : decode cX8_row 223 = .ok (.iload 8, 2) := by decide +kernel
theorem dX8_row_225 : decode cX8_row 225 = .ok (.bipush 8, 2) := by decide +kernel
theorem dX8_row_227 : decode cX8_row 227 = .ok (.if_icmp .ge 25, 3) := by decide +kernel
theorem dX8_row_230 : decode cX8_row 230 = .ok (.aload_n 0, 1) := by decide +kernel
theorem dX8_row_231 : decode cX8_row 231 = .ok (.getfield 26, 3) := by decide +kernel
theorem dX8_row_234 : decode cX8_row 234 = .ok (.bipush 8, 2) := by decide +kernel
theorem dX8_row_236 : decode cX8_row 236 = .ok (.aload_n 0, 1) := by decide +kernel
theorem dX8_row_237 : decode cX8_row 237 = .ok (.getfield 64, 3) := by decide +kernel
theorem dX8_row_240 : decode cX8_row 240 = .ok (.imul, 1) := by decide +kernel
theorem dX8_row_241 : decode cX8_row 241 = .ok (.iload 8, 2) := by decide +kernel
theorem dX8_row_243 : decode cX8_row 243 = .ok (.iadd, 1) := by decide +kernel
theorem dX8_row_244 : decode cX8_row 244 = .ok (.iconst 0, 1) := by decide +kernel
theorem dX8_row_245 : decode cX8_row 245 = .ok (.iastore, 1) := by decide +kernel
theorem dX8_row_246 : decode cX8_row 246 = .ok (.iinc 8 1, 3) := by decide +kernel
theorem dX8_row_249 : decode cX8_row 249 = .ok (.goto (-26), 3) := by decide +kernel
theorem dX8_row_252 : decode cX8_row 252 = .ok (.aload_n 0, 1) := by decide +kernel
theorem dX8_row_253 : decode cX8_row 253 = .ok (.dup, 1) := by decide +kernel
theorem dX8_row_254 : decode cX8_row 254 = .ok (.getfield 64, 3) := by decide +kernel
theorem dX8_row_257 : decode cX8_row 257 = .ok (.iconst 1, 1) := by decide +kernel
theorem dX8_row_258 : decode cX8_row 258 = .ok (.iadd, 1) := by decide +kernel
theorem dX8_row_259 : decode cX8_row 259 = .ok (.putfield 64, 3) := by decide +kernel
theorem dX8_row_262 : decode cX8_row 262 = .ok (.aload_n 0, 1) := by decide +kernel
theorem dX8_row_263 : decode cX8_row 263 = .ok (.invokevirtual 73, 3) := by decide +kernel
theorem dX8_row_266 : decode cX8_row 266 = .ok (.aload_n 0, 1) := by decide +kernel
theorem dX8_row_267 : decode cX8_row 267 = .ok (.getfield 64, 3) := by decide +kernel
theorem dX8_row_270 : decode cX8_row 270 = .ok (.iconst 1, 1) := by decide +kernel
theorem dX8_row_271 : decode cX8_row 271 = .ok (.isub, 1) := by decide +kernel
theorem dX8_row_272 : decode cX8_row 272 = .ok (.ireturn, 1) := by decide +kernel
theorem dX8_factor_0 : decode cX8_factor 0 = .ok (.aload_n 0, 1) := by decide +kernel
theorem dX8_factor_1 : decode cX8_factor 1 = .ok (.iload_n 1, 1) := by decide +kernel
theorem dX8_factor_2 : decode cX8_factor 2 = .ok (.invokevirtual 88, 3) := by decide +kernel
theorem dX8_factor_5 : decode cX8_factor 5 = .ok (.ifCond .eq 22, 3) := by decide +kernel
theorem dX8_factor_8 : decode cX8_factor 8 = .ok (.aload_n 0, 1) := by decide +kernel
theorem dX8_factor_9 : decode cX8_factor 9 = .ok (.iload_n 2, 1) := by decide +kernel
theorem dX8_factor_10 : decode cX8_factor 10 = .ok (.invokevirtual 76, 3) := by decide +kernel
theorem dX8_factor_13 : decode cX8_factor 13 = .ok (.ifCond .eq 14, 3) := by decide +kernel
theorem dX8_factor_16 : decode cX8_factor 16 = .ok (.iload_n 3, 1) := by decide +kernel
theorem dX8_factor_17 : decode cX8_factor 17 = .ok (.bipush (-9), 2) := by decide +kernel
theorem dX8_factor_19 : decode cX8_factor 19 = .ok (.bipush 9, 2) := by decide +kernel
theorem dX8_factor_21 : decode cX8_factor 21 = .ok (.invokestatic 60, 3) := by decide +kernel
theorem dX8_factor_24 : decode cX8_factor 24 = .ok (.ifCond .ne 7, 3) := by decide +kernel
theorem dX8_factor_27 : decode cX8_factor 27 = .ok (.sipush (-1001), 3) := by decide +kernel
theorem dX8_factor_30 : decode cX8_factor 30 = .ok (.ireturn, 1) := by decide +kernel
theorem dX8_factor_31 : decode cX8_factor 31 = .ok (.aload_n 0, 1) := by decide +kernel
theorem dX8_factor_32 : decode cX8_factor 32 = .ok (.getfield 16, 3) := by decide +kernel
theorem dX8_factor_35 : decode cX8_factor 35 = .ok (.iload_n 1, 1) := by decide +kernel
theorem dX8_factor_36 : decode cX8_factor 36 = .ok (.iaload, 1) := by decide +kernel
theorem dX8_factor_37 : decode cX8_factor 37 = .ok (.invokestatic 91, 3) := by decide +kernel
theorem dX8_factor_40 : decode cX8_factor 40 = .ok (.ifCond .eq 15, 3) := by decide +kernel
theorem dX8_factor_43 : decode cX8_factor 43 = .ok (.aload_n 0, 1) := by decide +kernel
theorem dX8_factor_44 : decode cX8_factor 44 = .ok (.getfield 20, 3) := by decide +kernel
theorem dX8_factor_47 : decode cX8_factor 47 = .ok (.iconst 3, 1) := by decide +kernel
theorem dX8_factor_48 : decode cX8_factor 48 = .ok (.iload_n 1, 1) := by decide +kernel
theorem dX8_factor_49 : decode cX8_factor 49 = .ok (.imul, 1) := by decide +kernel
theorem dX8_factor_50 : decode cX8_factor 50 = .ok (.iaload, 1) := by decide +kernel
theorem dX8_factor_51 : decode cX8_factor 51 = .ok (.iload_n 2, 1) := by decide +kernel
theorem dX8_factor_52 : decode cX8_factor 52 = .ok (.if_icmp .ne 7, 3) := by decide +kernel
theorem dX8_factor_55 : decode cX8_factor 55 = .ok (.sipush (-1002), 3) := by decide +kernel
theorem dX8_factor_58 : decode cX8_factor 58 = .ok (.ireturn, 1) := by decide +kernel
theorem dX8_factor_59 : decode cX8_factor 59 = .ok (.aload_n 0, 1) := by decide +kernel
theorem dX8_factor_60 : decode cX8_factor 60 = .ok (.getfield 26, 3) := by decide +kernel
theorem dX8_factor_63 : decode cX8_factor 63 = .ok (.bipush 8, 2) := by decide +kernel
theorem dX8_factor_65 : decode cX8_factor 65 = .ok (.iload_n 1, 1) := by decide +kernel
theorem dX8_factor_66 : decode cX8_factor 66 = .ok (.imul, 1) := by decide +kernel
theorem dX8_factor_67 : decode cX8_factor 67 = .ok (.iload_n 2, 1) := by decide +kernel
theorem dX8_factor_68 : decode cX8_factor 68 = .ok (.iadd, 1) := by decide +kernel
theorem dX8_factor_69 : decode cX8_factor 69 = .ok (.iaload, 1) := by decide +kernel
theorem dX8_factor_70 : decode cX8_factor 70 = .ok (.istore 4, 2) := by decide +kernel
theorem dX8_factor_72 : decode cX8_factor 72 = .ok (.aload_n 0, 1) := by decide +kernel
theorem dX8_factor_73 : decode cX8_factor 73 = .ok (.getfield 26, 3) := by decide +kernel
theorem dX8_factor_76 : decode cX8_factor 76 = .ok (.bipush 8, 2) := by decide +kernel
theorem dX8_factor_78 : decode cX8_factor 78 = .ok (.iload_n 1, 1) := by decide +kernel
theorem dX8_factor_79 : decode cX8_factor 79 = .ok (.imul, 1) := by decide +kernel
theorem dX8_factor_80 : decode cX8_factor 80 = .ok (.iload_n 2, 1) := by decide +kernel
theorem dX8_factor_81 : decode cX8_factor 81 = .ok (.iadd, 1) := by decide +kernel
theorem dX8_factor_82 : decode cX8_factor 82 = .ok (.iload_n 3, 1) := by decide +kernel
theorem dX8_factor_83 : decode cX8_factor 83 = .ok (.iastore, 1) := by decide +kernel
theorem dX8_factor_84 : decode cX8_factor 84 = .ok (.aload_n 0, 1) := by decide +kernel
theorem dX8_factor_85 : decode cX8_factor 85 = .ok (.invokevirtual 73, 3) := by decide +kernel
theorem dX8_factor_88 : decode cX8_factor 88 = .ok (.iload 4, 2) := by decide +kernel
theorem dX8_factor_90 : decode cX8_factor 90 = .ok (.ireturn, 1) := by decide +kernel
theorem dX8_clear_0 : decode cX8_clear 0 = .ok (.aload_n 0, 1) := by decide +kernel
theorem dX8_clear_1 : decode cX8_clear 1 = .ok (.getfield 57, 3) := by decide +kernel
theorem dX8_clear_4 : decode cX8_clear 4 = .ok (.istore_n 1, 1) := by decide +kernel
theorem dX8_clear_5 : decode cX8_clear 5 = .ok (.aload_n 0, 1) := by decide +kernel
theorem dX8_clear_6 : decode cX8_clear 6 = .ok (.iconst 0, 1) := by decide +kernel
theorem dX8_clear_7 : decode cX8_clear 7 = .ok (.putfield 57, 3) := by decide +kernel
theorem dX8_clear_10 : decode cX8_clear 10 = .ok (.aload_n 0, 1) := by decide +kernel
theorem dX8_clear_11 : decode cX8_clear 11 = .ok (.iconst 0, 1) := by decide +kernel
theorem dX8_clear_12 : decode cX8_clear 12 = .ok (.putfield 64, 3) := by decide +kernel
theorem dX8_clear_15 : decode cX8_clear 15 = .ok (.aload_n 0, 1) := by decide +kernel
theorem dX8_clear_16 : decode cX8_clear 16 = .ok (.invokevirtual 73, 3) := by decide +kernel
theorem dX8_clear_19 : decode cX8_clear 19 = .ok (.iload_n 1, 1) := by decide +kernel
theorem dX8_clear_20 : decode cX8_clear 20 = .ok (.ireturn, 1) := by decide +kernel
theorem dX8_may_0 : decode cX8_may 0 = .ok (.iload_n 2, 1) := by decide +kernel
theorem dX8_may_1 : decode cX8_may 1 = .ok (.aload_n 0, 1) := by decide +kernel
theorem dX8_may_2 : decode cX8_may 2 = .ok (.getfield 51, 3) := by decide +kernel
theorem dX8_may_5 : decode cX8_may 5 = .ok (.iload_n 1, 1) := by decide +kernel
theorem dX8_may_6 : decode cX8_may 6 = .ok (.iaload, 1) := by decide +kernel
theorem dX8_may_7 : decode cX8_may 7 = .ok (.aload_n 0, 1) := by decide +kernel
theorem dX8_may_8 : decode cX8_may 8 = .ok (.getfield 54, 3) := by decide +kernel
theorem dX8_may_11 : decode cX8_may 11 = .ok (.iload_n 1, 1) := by decide +kernel
theorem dX8_may_12 : decode cX8_may 12 = .ok (.iaload, 1) := by decide +kernel
theorem dX8_may_13 : decode cX8_may 13 = .ok (.invokestatic 60, 3) := by decide +kernel
theorem dX8_may_16 : decode cX8_may 16 = .ok (.ireturn, 1) := by decide +kernel
theorem dX8_leastSum_0 : decode cX8_leastSum 0 = .ok (.iconst 0, 1) := by decide +kernel
theorem dX8_leastSum_1 : decode cX8_leastSum 1 = .ok (.istore_n 3, 1) := by decide +kernel
theorem dX8_leastSum_2 : decode cX8_leastSum 2 = .ok (.iconst 0, 1) := by decide +kernel
theorem dX8_leastSum_3 : decode cX8_leastSum 3 = .ok (.istore 4, 2) := by decide +kernel
theorem dX8_leastSum_5 : decode cX8_leastSum 5 = .ok (.iload 4, 2) := by decide +kernel
theorem dX8_leastSum_7 : decode cX8_leastSum 7 = .ok (.aload_n 0, 1) := by decide +kernel
theorem dX8_leastSum_8 : decode cX8_leastSum 8 = .ok (.getfield 57, 3) := by decide +kernel
theorem dX8_leastSum_11 : decode cX8_leastSum 11 = .ok (.if_icmp .ge 56, 3) := by decide +kernel
theorem dX8_leastSum_14 : decode cX8_leastSum 14 = .ok (.iload_n 2, 1) := by decide +kernel
theorem dX8_leastSum_15 : decode cX8_leastSum 15 = .ok (.aload_n 0, 1) := by decide +kernel
theorem dX8_leastSum_16 : decode cX8_leastSum 16 = .ok (.getfield 26, 3) := by decide +kernel
theorem dX8_leastSum_19 : decode cX8_leastSum 19 = .ok (.bipush 8, 2) := by decide +kernel
theorem dX8_leastSum_21 : decode cX8_leastSum 21 = .ok (.iload_n 1, 1) := by decide +kernel
theorem dX8_leastSum_22 : decode cX8_leastSum 22 = .ok (.imul, 1) := by decide +kernel
theorem dX8_leastSum_23 : decode cX8_leastSum 23 = .ok (.iload 4, 2) := by decide +kernel
theorem dX8_leastSum_25 : decode cX8_leastSum 25 = .ok (.iadd, 1) := by decide +kernel
theorem dX8_leastSum_26 : decode cX8_leastSum 26 = .ok (.iaload, 1) := by decide +kernel
theorem dX8_leastSum_27 : decode cX8_leastSum 27 = .ok (.imul, 1) := by decide +kernel
theorem dX8_leastSum_28 : decode cX8_leastSum 28 = .ok (.istore 5, 2) := by decide +kernel
theorem dX8_leastSum_30 : decode cX8_leastSum 30 = .ok (.iload_n 3, 1) := by decide +kernel
theorem dX8_leastSum_31 : decode cX8_leastSum 31 = .ok (.iload 5, 2) := by decide +kernel
theorem dX8_leastSum_33 : decode cX8_leastSum 33 = .ok (.ifCond .le 16, 3) := by decide +kernel
theorem dX8_leastSum_36 : decode cX8_leastSum 36 = .ok (.iload 5, 2) := by decide +kernel
theorem dX8_leastSum_38 : decode cX8_leastSum 38 = .ok (.aload_n 0, 1) := by decide +kernel
theorem dX8_leastSum_39 : decode cX8_leastSum 39 = .ok (.getfield 51, 3) := by decide +kernel
theorem dX8_leastSum_42 : decode cX8_leastSum 42 = .ok (.iload 4, 2) := by decide +kernel
theorem dX8_leastSum_44 : decode cX8_leastSum 44 = .ok (.iaload, 1) := by decide +kernel
theorem dX8_leastSum_45 : decode cX8_leastSum 45 = .ok (.imul, 1) := by decide +kernel
theorem dX8_leastSum_46 : decode cX8_leastSum 46 = .ok (.goto 13, 3) := by decide +kernel
theorem dX8_leastSum_49 : decode cX8_leastSum 49 = .ok (.iload 5, 2) := by decide +kernel
theorem dX8_leastSum_51 : decode cX8_leastSum 51 = .ok (.aload_n 0, 1) := by decide +kernel
theorem dX8_leastSum_52 : decode cX8_leastSum 52 = .ok (.getfield 54, 3) := by decide +kernel
theorem dX8_leastSum_55 : decode cX8_leastSum 55 = .ok (.iload 4, 2) := by decide +kernel
theorem dX8_leastSum_57 : decode cX8_leastSum 57 = .ok (.iaload, 1) := by decide +kernel
theorem dX8_leastSum_58 : decode cX8_leastSum 58 = .ok (.imul, 1) := by decide +kernel
theorem dX8_leastSum_59 : decode cX8_leastSum 59 = .ok (.iadd, 1) := by decide +kernel
theorem dX8_leastSum_60 : decode cX8_leastSum 60 = .ok (.istore_n 3, 1) := by decide +kernel
theorem dX8_leastSum_61 : decode cX8_leastSum 61 = .ok (.iinc 4 1, 3) := by decide +kernel
theorem dX8_leastSum_64 : decode cX8_leastSum 64 = .ok (.goto (-59), 3) := by decide +kernel
theorem dX8_leastSum_67 : decode cX8_leastSum 67 = .ok (.iload_n 3, 1) := by decide +kernel
theorem dX8_leastSum_68 : decode cX8_leastSum 68 = .ok (.ireturn, 1) := by decide +kernel
theorem dX8_down_0 : decode cX8_down 0 = .ok (.iload_n 0, 1) := by decide +kernel
theorem dX8_down_1 : decode cX8_down 1 = .ok (.iload_n 1, 1) := by decide +kernel
theorem dX8_down_2 : decode cX8_down 2 = .ok (.idiv, 1) := by decide +kernel
theorem dX8_down_3 : decode cX8_down 3 = .ok (.istore_n 2, 1) := by decide +kernel
theorem dX8_down_4 : decode cX8_down 4 = .ok (.iload_n 2, 1) := by decide +kernel
theorem dX8_down_5 : decode cX8_down 5 = .ok (.iload_n 1, 1) := by decide +kernel
theorem dX8_down_6 : decode cX8_down 6 = .ok (.imul, 1) := by decide +kernel
theorem dX8_down_7 : decode cX8_down 7 = .ok (.iload_n 0, 1) := by decide +kernel
theorem dX8_down_8 : decode cX8_down 8 = .ok (.if_icmp .eq 30, 3) := by decide +kernel
theorem dX8_down_11 : decode cX8_down 11 = .ok (.iload_n 0, 1) := by decide +kernel
theorem dX8_down_12 : decode cX8_down 12 = .ok (.ifCond .ge 7, 3) := by decide +kernel
theorem dX8_down_15 : decode cX8_down 15 = .ok (.iconst 1, 1) := by decide +kernel
theorem dX8_down_16 : decode cX8_down 16 = .ok (.goto 4, 3) := by decide +kernel
theorem dX8_down_19 : decode cX8_down 19 = .ok (.iconst 0, 1) := by decide +kernel
theorem dX8_down_20 : decode cX8_down 20 = .ok (.iload_n 1, 1) := by decide +kernel
theorem dX8_down_21 : decode cX8_down 21 = .ok (.ifCond .ge 7, 3) := by decide +kernel
theorem dX8_down_24 : decode cX8_down 24 = .ok (.iconst 1, 1) := by decide +kernel
theorem dX8_down_25 : decode cX8_down 25 = .ok (.goto 4, 3) := by decide +kernel
theorem dX8_down_28 : decode cX8_down 28 = .ok (.iconst 0, 1) := by decide +kernel
theorem dX8_down_29 : decode cX8_down 29 = .ok (.if_icmp .eq 9, 3) := by decide +kernel
theorem dX8_down_32 : decode cX8_down 32 = .ok (.iload_n 2, 1) := by decide +kernel
theorem dX8_down_33 : decode cX8_down 33 = .ok (.iconst 1, 1) := by decide +kernel
theorem dX8_down_34 : decode cX8_down 34 = .ok (.isub, 1) := by decide +kernel
theorem dX8_down_35 : decode cX8_down 35 = .ok (.goto 4, 3) := by decide +kernel
theorem dX8_down_38 : decode cX8_down 38 = .ok (.iload_n 2, 1) := by decide +kernel
theorem dX8_down_39 : decode cX8_down 39 = .ok (.ireturn, 1) := by decide +kernel
theorem dX8_come_0 : decode cX8_come 0 = .ok (.iload_n 0, 1) := by decide +kernel
theorem dX8_come_1 : decode cX8_come 1 = .ok (.iconst 2, 1) := by decide +kernel
theorem dX8_come_2 : decode cX8_come 2 = .ok (.if_icmp .ne 9, 3) := by decide +kernel
theorem dX8_come_5 : decode cX8_come 5 = .ok (.iload_n 1, 1) := by decide +kernel
theorem dX8_come_6 : decode cX8_come 6 = .ok (.iload_n 2, 1) := by decide +kernel
theorem dX8_come_7 : decode cX8_come 7 = .ok (.imul, 1) := by decide +kernel
theorem dX8_come_8 : decode cX8_come 8 = .ok (.goto 44, 3) := by decide +kernel
theorem dX8_come_11 : decode cX8_come 11 = .ok (.iload_n 0, 1) := by decide +kernel
theorem dX8_come_12 : decode cX8_come 12 = .ok (.iconst 3, 1) := by decide +kernel
theorem dX8_come_13 : decode cX8_come 13 = .ok (.if_icmp .ne 11, 3) := by decide +kernel
theorem dX8_come_16 : decode cX8_come 16 = .ok (.iload_n 1, 1) := by decide +kernel
theorem dX8_come_17 : decode cX8_come 17 = .ok (.iload_n 2, 1) := by decide +kernel
theorem dX8_come_18 : decode cX8_come 18 = .ok (.invokestatic 94, 3) := by decide +kernel
theorem dX8_come_21 : decode cX8_come 21 = .ok (.goto 31, 3) := by decide +kernel
theorem dX8_come_24 : decode cX8_come 24 = .ok (.iload_n 0, 1) := by decide +kernel
theorem dX8_come_25 : decode cX8_come 25 = .ok (.iconst 5, 1) := by decide +kernel
theorem dX8_come_26 : decode cX8_come 26 = .ok (.if_icmp .ne 16, 3) := by decide +kernel
theorem dX8_come_29 : decode cX8_come 29 = .ok (.iload_n 1, 1) := by decide +kernel
theorem dX8_come_30 : decode cX8_come 30 = .ok (.iload_n 2, 1) := by decide +kernel
theorem dX8_come_31 : decode cX8_come 31 = .ok (.if_icmp .le 7, 3) := by decide +kernel
theorem dX8_come_34 : decode cX8_come 34 = .ok (.iload_n 1, 1) := by decide +kernel
theorem dX8_come_35 : decode cX8_come 35 = .ok (.goto 17, 3) := by decide +kernel
theorem dX8_come_38 : decode cX8_come 38 = .ok (.iload_n 2, 1) := by decide +kernel
theorem dX8_come_39 : decode cX8_come 39 = .ok (.goto 13, 3) := by decide +kernel
theorem dX8_come_42 : decode cX8_come 42 = .ok (.iload_n 1, 1) := by decide +kernel
theorem dX8_come_43 : decode cX8_come 43 = .ok (.iload_n 2, 1) := by decide +kernel
theorem dX8_come_44 : decode cX8_come 44 = .ok (.if_icmp .ge 7, 3) := by decide +kernel
theorem dX8_come_47 : decode cX8_come 47 = .ok (.iload_n 1, 1) := by decide +kernel
theorem dX8_come_48 : decode cX8_come 48 = .ok (.goto 4, 3) := by decide +kernel
theorem dX8_come_51 : decode cX8_come 51 = .ok (.iload_n 2, 1) := by decide +kernel
theorem dX8_come_52 : decode cX8_come 52 = .ok (.ireturn, 1) := by decide +kernel
theorem dX8_byThree_0 : decode cX8_byThree 0 = .ok (.aload_n 0, 1) := by decide +kernel
theorem dX8_byThree_1 : decode cX8_byThree 1 = .ok (.getfield 20, 3) := by decide +kernel
theorem dX8_byThree_4 : decode cX8_byThree 4 = .ok (.iconst 3, 1) := by decide +kernel
theorem dX8_byThree_5 : decode cX8_byThree 5 = .ok (.iload_n 1, 1) := by decide +kernel
theorem dX8_byThree_6 : decode cX8_byThree 6 = .ok (.imul, 1) := by decide +kernel
theorem dX8_byThree_7 : decode cX8_byThree 7 = .ok (.iaload, 1) := by decide +kernel
theorem dX8_byThree_8 : decode cX8_byThree 8 = .ok (.istore_n 2, 1) := by decide +kernel
theorem dX8_byThree_9 : decode cX8_byThree 9 = .ok (.aload_n 0, 1) := by decide +kernel
theorem dX8_byThree_10 : decode cX8_byThree 10 = .ok (.getfield 20, 3) := by decide +kernel
theorem dX8_byThree_13 : decode cX8_byThree 13 = .ok (.iconst 3, 1) := by decide +kernel
theorem dX8_byThree_14 : decode cX8_byThree 14 = .ok (.iload_n 1, 1) := by decide +kernel
theorem dX8_byThree_15 : decode cX8_byThree 15 = .ok (.imul, 1) := by decide +kernel
theorem dX8_byThree_16 : decode cX8_byThree 16 = .ok (.iconst 1, 1) := by decide +kernel
theorem dX8_byThree_17 : decode cX8_byThree 17 = .ok (.iadd, 1) := by decide +kernel
theorem dX8_byThree_18 : decode cX8_byThree 18 = .ok (.iaload, 1) := by decide +kernel
theorem dX8_byThree_19 : decode cX8_byThree 19 = .ok (.istore_n 3, 1) := by decide +kernel
theorem dX8_byThree_20 : decode cX8_byThree 20 = .ok (.aload_n 0, 1) := by decide +kernel
theorem dX8_byThree_21 : decode cX8_byThree 21 = .ok (.getfield 20, 3) := by decide +kernel
theorem dX8_byThree_24 : decode cX8_byThree 24 = .ok (.iconst 3, 1) := by decide +kernel
theorem dX8_byThree_25 : decode cX8_byThree 25 = .ok (.iload_n 1, 1) := by decide +kernel
theorem dX8_byThree_26 : decode cX8_byThree 26 = .ok (.imul, 1) := by decide +kernel
theorem dX8_byThree_27 : decode cX8_byThree 27 = .ok (.iconst 2, 1) := by decide +kernel
theorem dX8_byThree_28 : decode cX8_byThree 28 = .ok (.iadd, 1) := by decide +kernel
theorem dX8_byThree_29 : decode cX8_byThree 29 = .ok (.iaload, 1) := by decide +kernel
theorem dX8_byThree_30 : decode cX8_byThree 30 = .ok (.istore 4, 2) := by decide +kernel
theorem dX8_byThree_32 : decode cX8_byThree 32 = .ok (.aload_n 0, 1) := by decide +kernel
theorem dX8_byThree_33 : decode cX8_byThree 33 = .ok (.getfield 51, 3) := by decide +kernel
theorem dX8_byThree_36 : decode cX8_byThree 36 = .ok (.iload_n 3, 1) := by decide +kernel
theorem dX8_byThree_37 : decode cX8_byThree 37 = .ok (.iaload, 1) := by decide +kernel
theorem dX8_byThree_38 : decode cX8_byThree 38 = .ok (.istore 5, 2) := by decide +kernel
theorem dX8_byThree_40 : decode cX8_byThree 40 = .ok (.iload 5, 2) := by decide +kernel
theorem dX8_byThree_42 : decode cX8_byThree 42 = .ok (.aload_n 0, 1) := by decide +kernel
theorem dX8_byThree_43 : decode cX8_byThree 43 = .ok (.getfield 54, 3) := by decide +kernel
theorem dX8_byThree_46 : decode cX8_byThree 46 = .ok (.iload_n 3, 1) := by decide +kernel
theorem dX8_byThree_47 : decode cX8_byThree 47 = .ok (.iaload, 1) := by decide +kernel
theorem dX8_byThree_48 : decode cX8_byThree 48 = .ok (.if_icmp .gt 86, 3) := by decide +kernel
theorem dX8_byThree_51 : decode cX8_byThree 51 = .ok (.aload_n 0, 1) := by decide +kernel
theorem dX8_byThree_52 : decode cX8_byThree 52 = .ok (.getfield 51, 3) := by decide +kernel
theorem dX8_byThree_55 : decode cX8_byThree 55 = .ok (.iload 4, 2) := by decide +kernel
theorem dX8_byThree_57 : decode cX8_byThree 57 = .ok (.iaload, 1) := by decide +kernel
theorem dX8_byThree_58 : decode cX8_byThree 58 = .ok (.istore 6, 2) := by decide +kernel
theorem dX8_byThree_60 : decode cX8_byThree 60 = .ok (.iload 6, 2) := by decide +kernel
theorem dX8_byThree_62 : decode cX8_byThree 62 = .ok (.aload_n 0, 1) := by decide +kernel
theorem dX8_byThree_63 : decode cX8_byThree 63 = .ok (.getfield 54, 3) := by decide +kernel
theorem dX8_byThree_66 : decode cX8_byThree 66 = .ok (.iload 4, 2) := by decide +kernel
theorem dX8_byThree_68 : decode cX8_byThree 68 = .ok (.iaload, 1) := by decide +kernel
theorem dX8_byThree_69 : decode cX8_byThree 69 = .ok (.if_icmp .gt 59, 3) := by decide +kernel
theorem dX8_byThree_72 : decode cX8_byThree 72 = .ok (.aload_n 0, 1) := by decide +kernel
theorem dX8_byThree_73 : decode cX8_byThree 73 = .ok (.getfield 16, 3) := by decide +kernel
theorem dX8_byThree_76 : decode cX8_byThree 76 = .ok (.iload_n 1, 1) := by decide +kernel
theorem dX8_byThree_77 : decode cX8_byThree 77 = .ok (.iaload, 1) := by decide +kernel
theorem dX8_byThree_78 : decode cX8_byThree 78 = .ok (.iconst 3, 1) := by decide +kernel
theorem dX8_byThree_79 : decode cX8_byThree 79 = .ok (.if_icmp .ne 8, 3) := by decide +kernel
theorem dX8_byThree_82 : decode cX8_byThree 82 = .ok (.iload 6, 2) := by decide +kernel
theorem dX8_byThree_84 : decode cX8_byThree 84 = .ok (.ifCond .eq 7, 3) := by decide +kernel
theorem dX8_byThree_87 : decode cX8_byThree 87 = .ok (.iconst 1, 1) := by decide +kernel
theorem dX8_byThree_88 : decode cX8_byThree 88 = .ok (.goto 4, 3) := by decide +kernel
theorem dX8_byThree_91 : decode cX8_byThree 91 = .ok (.iconst 0, 1) := by decide +kernel
theorem dX8_byThree_92 : decode cX8_byThree 92 = .ok (.istore 7, 2) := by decide +kernel
theorem dX8_byThree_94 : decode cX8_byThree 94 = .ok (.iload 7, 2) := by decide +kernel
theorem dX8_byThree_96 : decode cX8_byThree 96 = .ok (.ifCond .eq 26, 3) := by decide +kernel
theorem dX8_byThree_99 : decode cX8_byThree 99 = .ok (.aload_n 0, 1) := by decide +kernel
theorem dX8_byThree_100 : decode cX8_byThree 100 = .ok (.iload_n 2, 1) := by decide +kernel
theorem dX8_byThree_101 : decode cX8_byThree 101 = .ok (.aload_n 0, 1) := by decide +kernel
theorem dX8_byThree_102 : decode cX8_byThree 102 = .ok (.getfield 16, 3) := by decide +kernel
theorem dX8_byThree_105 : decode cX8_byThree 105 = .ok (.iload_n 1, 1) := by decide +kernel
theorem dX8_byThree_106 : decode cX8_byThree 106 = .ok (.iaload, 1) := by decide +kernel
theorem dX8_byThree_107 : decode cX8_byThree 107 = .ok (.iload 5, 2) := by decide +kernel
theorem dX8_byThree_109 : decode cX8_byThree 109 = .ok (.iload 6, 2) := by decide +kernel
theorem dX8_byThree_111 : decode cX8_byThree 111 = .ok (.invokestatic 98, 3) := by decide +kernel
theorem dX8_byThree_114 : decode cX8_byThree 114 = .ok (.invokevirtual 102, 3) := by decide +kernel
theorem dX8_byThree_117 : decode cX8_byThree 117 = .ok (.ifCond .eq 5, 3) := by decide +kernel
theorem dX8_byThree_120 : decode cX8_byThree 120 = .ok (.iconst 1, 1) := by decide +kernel
theorem dX8_byThree_121 : decode cX8_byThree 121 = .ok (.ireturn, 1) := by decide +kernel
theorem dX8_byThree_122 : decode cX8_byThree 122 = .ok (.iinc 6 1, 3) := by decide +kernel
theorem dX8_byThree_125 : decode cX8_byThree 125 = .ok (.goto (-65), 3) := by decide +kernel
theorem dX8_byThree_128 : decode cX8_byThree 128 = .ok (.iinc 5 1, 3) := by decide +kernel
theorem dX8_byThree_131 : decode cX8_byThree 131 = .ok (.goto (-91), 3) := by decide +kernel
theorem dX8_byThree_134 : decode cX8_byThree 134 = .ok (.iconst 0, 1) := by decide +kernel
theorem dX8_byThree_135 : decode cX8_byThree 135 = .ok (.ireturn, 1) := by decide +kernel
theorem dX8_byTwo_0 : decode cX8_byTwo 0 = .ok (.aload_n 0, 1) := by decide +kernel
theorem dX8_byTwo_1 : decode cX8_byTwo 1 = .ok (.getfield 20, 3) := by decide +kernel
theorem dX8_byTwo_4 : decode cX8_byTwo 4 = .ok (.iconst 3, 1) := by decide +kernel
theorem dX8_byTwo_5 : decode cX8_byTwo 5 = .ok (.iload_n 1, 1) := by decide +kernel
theorem dX8_byTwo_6 : decode cX8_byTwo 6 = .ok (.imul, 1) := by decide +kernel
theorem dX8_byTwo_7 : decode cX8_byTwo 7 = .ok (.iaload, 1) := by decide +kernel
theorem dX8_byTwo_8 : decode cX8_byTwo 8 = .ok (.istore_n 2, 1) := by decide +kernel
theorem dX8_byTwo_9 : decode cX8_byTwo 9 = .ok (.aload_n 0, 1) := by decide +kernel
theorem dX8_byTwo_10 : decode cX8_byTwo 10 = .ok (.getfield 20, 3) := by decide +kernel
theorem dX8_byTwo_13 : decode cX8_byTwo 13 = .ok (.iconst 3, 1) := by decide +kernel
theorem dX8_byTwo_14 : decode cX8_byTwo 14 = .ok (.iload_n 1, 1) := by decide +kernel
theorem dX8_byTwo_15 : decode cX8_byTwo 15 = .ok (.imul, 1) := by decide +kernel
theorem dX8_byTwo_16 : decode cX8_byTwo 16 = .ok (.iconst 1, 1) := by decide +kernel
theorem dX8_byTwo_17 : decode cX8_byTwo 17 = .ok (.iadd, 1) := by decide +kernel
theorem dX8_byTwo_18 : decode cX8_byTwo 18 = .ok (.iaload, 1) := by decide +kernel
theorem dX8_byTwo_19 : decode cX8_byTwo 19 = .ok (.istore_n 3, 1) := by decide +kernel
theorem dX8_byTwo_20 : decode cX8_byTwo 20 = .ok (.aload_n 0, 1) := by decide +kernel
theorem dX8_byTwo_21 : decode cX8_byTwo 21 = .ok (.getfield 51, 3) := by decide +kernel
theorem dX8_byTwo_24 : decode cX8_byTwo 24 = .ok (.iload_n 2, 1) := by decide +kernel
theorem dX8_byTwo_25 : decode cX8_byTwo 25 = .ok (.iaload, 1) := by decide +kernel
theorem dX8_byTwo_26 : decode cX8_byTwo 26 = .ok (.istore 4, 2) := by decide +kernel
theorem dX8_byTwo_28 : decode cX8_byTwo 28 = .ok (.iload 4, 2) := by decide +kernel
theorem dX8_byTwo_30 : decode cX8_byTwo 30 = .ok (.aload_n 0, 1) := by decide +kernel
theorem dX8_byTwo_31 : decode cX8_byTwo 31 = .ok (.getfield 54, 3) := by decide +kernel
theorem dX8_byTwo_34 : decode cX8_byTwo 34 = .ok (.iload_n 2, 1) := by decide +kernel
theorem dX8_byTwo_35 : decode cX8_byTwo 35 = .ok (.iaload, 1) := by decide +kernel
theorem dX8_byTwo_36 : decode cX8_byTwo 36 = .ok (.if_icmp .gt 98, 3) := by decide +kernel
theorem dX8_byTwo_39 : decode cX8_byTwo 39 = .ok (.aload_n 0, 1) := by decide +kernel
theorem dX8_byTwo_40 : decode cX8_byTwo 40 = .ok (.getfield 51, 3) := by decide +kernel
theorem dX8_byTwo_43 : decode cX8_byTwo 43 = .ok (.iload_n 3, 1) := by decide +kernel
theorem dX8_byTwo_44 : decode cX8_byTwo 44 = .ok (.iaload, 1) := by decide +kernel
theorem dX8_byTwo_45 : decode cX8_byTwo 45 = .ok (.istore 5, 2) := by decide +kernel
theorem dX8_byTwo_47 : decode cX8_byTwo 47 = .ok (.iload 5, 2) := by decide +kernel
theorem dX8_byTwo_49 : decode cX8_byTwo 49 = .ok (.aload_n 0, 1) := by decide +kernel
theorem dX8_byTwo_50 : decode cX8_byTwo 50 = .ok (.getfield 54, 3) := by decide +kernel
theorem dX8_byTwo_53 : decode cX8_byTwo 53 = .ok (.iload_n 3, 1) := by decide +kernel
theorem dX8_byTwo_54 : decode cX8_byTwo 54 = .ok (.iaload, 1) := by decide +kernel
theorem dX8_byTwo_55 : decode cX8_byTwo 55 = .ok (.if_icmp .gt 73, 3) := by decide +kernel
theorem dX8_byTwo_58 : decode cX8_byTwo 58 = .ok (.aload_n 0, 1) := by decide +kernel
theorem dX8_byTwo_59 : decode cX8_byTwo 59 = .ok (.getfield 16, 3) := by decide +kernel
theorem dX8_byTwo_62 : decode cX8_byTwo 62 = .ok (.iload_n 1, 1) := by decide +kernel
theorem dX8_byTwo_63 : decode cX8_byTwo 63 = .ok (.iaload, 1) := by decide +kernel
theorem dX8_byTwo_64 : decode cX8_byTwo 64 = .ok (.iconst 4, 1) := by decide +kernel
theorem dX8_byTwo_65 : decode cX8_byTwo 65 = .ok (.if_icmp .ne 29, 3) := by decide +kernel
theorem dX8_byTwo_68 : decode cX8_byTwo 68 = .ok (.iload 4, 2) := by decide +kernel
theorem dX8_byTwo_70 : decode cX8_byTwo 70 = .ok (.iload 5, 2) := by decide +kernel
theorem dX8_byTwo_72 : decode cX8_byTwo 72 = .ok (.ifCond .ge 9, 3) := by decide +kernel
theorem dX8_byTwo_75 : decode cX8_byTwo 75 = .ok (.iload 5, 2) := by decide +kernel
theorem dX8_byTwo_77 : decode cX8_byTwo 77 = .ok (.ineg, 1) := by decide +kernel
theorem dX8_byTwo_78 : decode cX8_byTwo 78 = .ok (.goto 5, 3) := by decide +kernel
theorem dX8_byTwo_81 : decode cX8_byTwo 81 = .ok (.iload 5, 2) := by decide +kernel
theorem dX8_byTwo_83 : decode cX8_byTwo 83 = .ok (.if_icmp .ne 7, 3) := by decide +kernel
theorem dX8_byTwo_86 : decode cX8_byTwo 86 = .ok (.iconst 1, 1) := by decide +kernel
theorem dX8_byTwo_87 : decode cX8_byTwo 87 = .ok (.goto 26, 3) := by decide +kernel
theorem dX8_byTwo_90 : decode cX8_byTwo 90 = .ok (.iconst 0, 1) := by decide +kernel
theorem dX8_byTwo_91 : decode cX8_byTwo 91 = .ok (.goto 22, 3) := by decide +kernel
theorem dX8_byTwo_94 : decode cX8_byTwo 94 = .ok (.iload 4, 2) := by decide +kernel
theorem dX8_byTwo_96 : decode cX8_byTwo 96 = .ok (.iload 5, 2) := by decide +kernel
theorem dX8_byTwo_98 : decode cX8_byTwo 98 = .ok (.aload_n 0, 1) := by decide +kernel
theorem dX8_byTwo_99 : decode cX8_byTwo 99 = .ok (.getfield 23, 3) := by decide +kernel
theorem dX8_byTwo_102 : decode cX8_byTwo 102 = .ok (.iload_n 1, 1) := by decide +kernel
theorem dX8_byTwo_103 : decode cX8_byTwo 103 = .ok (.iaload, 1) := by decide +kernel
theorem dX8_byTwo_104 : decode cX8_byTwo 104 = .ok (.iadd, 1) := by decide +kernel
theorem dX8_byTwo_105 : decode cX8_byTwo 105 = .ok (.if_icmp .eq 7, 3) := by decide +kernel
theorem dX8_byTwo_108 : decode cX8_byTwo 108 = .ok (.iconst 1, 1) := by decide +kernel
theorem dX8_byTwo_109 : decode cX8_byTwo 109 = .ok (.goto 4, 3) := by decide +kernel
theorem dX8_byTwo_112 : decode cX8_byTwo 112 = .ok (.iconst 0, 1) := by decide +kernel
theorem dX8_byTwo_113 : decode cX8_byTwo 113 = .ok (.istore 6, 2) := by decide +kernel
theorem dX8_byTwo_115 : decode cX8_byTwo 115 = .ok (.iload 6, 2) := by decide +kernel
theorem dX8_byTwo_117 : decode cX8_byTwo 117 = .ok (.ifCond .eq 5, 3) := by decide +kernel
theorem dX8_byTwo_120 : decode cX8_byTwo 120 = .ok (.iconst 1, 1) := by decide +kernel
theorem dX8_byTwo_121 : decode cX8_byTwo 121 = .ok (.ireturn, 1) := by decide +kernel
theorem dX8_byTwo_122 : decode cX8_byTwo 122 = .ok (.iinc 5 1, 3) := by decide +kernel
theorem dX8_byTwo_125 : decode cX8_byTwo 125 = .ok (.goto (-78), 3) := by decide +kernel
theorem dX8_byTwo_128 : decode cX8_byTwo 128 = .ok (.iinc 4 1, 3) := by decide +kernel
theorem dX8_byTwo_131 : decode cX8_byTwo 131 = .ok (.goto (-103), 3) := by decide +kernel
theorem dX8_byTwo_134 : decode cX8_byTwo 134 = .ok (.iconst 0, 1) := by decide +kernel
theorem dX8_byTwo_135 : decode cX8_byTwo 135 = .ok (.ireturn, 1) := by decide +kernel
theorem dX8_byCount_0 : decode cX8_byCount 0 = .ok (.iconst 0, 1) := by decide +kernel
theorem dX8_byCount_1 : decode cX8_byCount 1 = .ok (.istore_n 2, 1) := by decide +kernel
theorem dX8_byCount_2 : decode cX8_byCount 2 = .ok (.iconst 0, 1) := by decide +kernel
theorem dX8_byCount_3 : decode cX8_byCount 3 = .ok (.istore_n 3, 1) := by decide +kernel
theorem dX8_byCount_4 : decode cX8_byCount 4 = .ok (.iconst 0, 1) := by decide +kernel
theorem dX8_byCount_5 : decode cX8_byCount 5 = .ok (.istore 4, 2) := by decide +kernel
theorem dX8_byCount_7 : decode cX8_byCount 7 = .ok (.iload 4, 2) := by decide +kernel
theorem dX8_byCount_9 : decode cX8_byCount 9 = .ok (.aload_n 0, 1) := by decide +kernel
theorem dX8_byCount_10 : decode cX8_byCount 10 = .ok (.getfield 57, 3) := by decide +kernel
theorem dX8_byCount_13 : decode cX8_byCount 13 = .ok (.if_icmp .ge 87, 3) := by decide +kernel
theorem dX8_byCount_16 : decode cX8_byCount 16 = .ok (.aload_n 0, 1) := by decide +kernel
theorem dX8_byCount_17 : decode cX8_byCount 17 = .ok (.getfield 26, 3) := by decide +kernel
theorem dX8_byCount_20 : decode cX8_byCount 20 = .ok (.bipush 8, 2) := by decide +kernel
theorem dX8_byCount_22 : decode cX8_byCount 22 = .ok (.iload_n 1, 1) := by decide +kernel
theorem dX8_byCount_23 : decode cX8_byCount 23 = .ok (.imul, 1) := by decide +kernel
theorem dX8_byCount_24 : decode cX8_byCount 24 = .ok (.iload 4, 2) := by decide +kernel
theorem dX8_byCount_26 : decode cX8_byCount 26 = .ok (.iadd, 1) := by decide +kernel
theorem dX8_byCount_27 : decode cX8_byCount 27 = .ok (.iaload, 1) := by decide +kernel
theorem dX8_byCount_28 : decode cX8_byCount 28 = .ok (.ifCond .eq 66, 3) := by decide +kernel
theorem dX8_byCount_31 : decode cX8_byCount 31 = .ok (.iload_n 2, 1) := by decide +kernel
theorem dX8_byCount_32 : decode cX8_byCount 32 = .ok (.aload_n 0, 1) := by decide +kernel
theorem dX8_byCount_33 : decode cX8_byCount 33 = .ok (.getfield 51, 3) := by decide +kernel
theorem dX8_byCount_36 : decode cX8_byCount 36 = .ok (.iload 4, 2) := by decide +kernel
theorem dX8_byCount_38 : decode cX8_byCount 38 = .ok (.iaload, 1) := by decide +kernel
theorem dX8_byCount_39 : decode cX8_byCount 39 = .ok (.aload_n 0, 1) := by decide +kernel
theorem dX8_byCount_40 : decode cX8_byCount 40 = .ok (.getfield 23, 3) := by decide +kernel
theorem dX8_byCount_43 : decode cX8_byCount 43 = .ok (.iload_n 1, 1) := by decide +kernel
theorem dX8_byCount_44 : decode cX8_byCount 44 = .ok (.iaload, 1) := by decide +kernel
theorem dX8_byCount_45 : decode cX8_byCount 45 = .ok (.if_icmp .ne 23, 3) := by decide +kernel
theorem dX8_byCount_48 : decode cX8_byCount 48 = .ok (.aload_n 0, 1) := by decide +kernel
theorem dX8_byCount_49 : decode cX8_byCount 49 = .ok (.getfield 54, 3) := by decide +kernel
theorem dX8_byCount_52 : decode cX8_byCount 52 = .ok (.iload 4, 2) := by decide +kernel
theorem dX8_byCount_54 : decode cX8_byCount 54 = .ok (.iaload, 1) := by decide +kernel
theorem dX8_byCount_55 : decode cX8_byCount 55 = .ok (.aload_n 0, 1) := by decide +kernel
theorem dX8_byCount_56 : decode cX8_byCount 56 = .ok (.getfield 23, 3) := by decide +kernel
theorem dX8_byCount_59 : decode cX8_byCount 59 = .ok (.iload_n 1, 1) := by decide +kernel
theorem dX8_byCount_60 : decode cX8_byCount 60 = .ok (.iaload, 1) := by decide +kernel
theorem dX8_byCount_61 : decode cX8_byCount 61 = .ok (.if_icmp .ne 7, 3) := by decide +kernel
theorem dX8_byCount_64 : decode cX8_byCount 64 = .ok (.iconst 1, 1) := by decide +kernel
theorem dX8_byCount_65 : decode cX8_byCount 65 = .ok (.goto 4, 3) := by decide +kernel
theorem dX8_byCount_68 : decode cX8_byCount 68 = .ok (.iconst 0, 1) := by decide +kernel
theorem dX8_byCount_69 : decode cX8_byCount 69 = .ok (.iadd, 1) := by decide +kernel
theorem dX8_byCount_70 : decode cX8_byCount 70 = .ok (.istore_n 2, 1) := by decide +kernel
theorem dX8_byCount_71 : decode cX8_byCount 71 = .ok (.iload_n 3, 1) := by decide +kernel
theorem dX8_byCount_72 : decode cX8_byCount 72 = .ok (.aload_n 0, 1) := by decide +kernel
theorem dX8_byCount_73 : decode cX8_byCount 73 = .ok (.iload 4, 2) := by decide +kernel
theorem dX8_byCount_75 : decode cX8_byCount 75 = .ok (.aload_n 0, 1) := by decide +kernel
theorem dX8_byCount_76 : decode cX8_byCount 76 = .ok (.getfield 23, 3) := by decide +kernel
theorem dX8_byCount_79 : decode cX8_byCount 79 = .ok (.iload_n 1, 1) := by decide +kernel
theorem dX8_byCount_80 : decode cX8_byCount 80 = .ok (.iaload, 1) := by decide +kernel
theorem dX8_byCount_81 : decode cX8_byCount 81 = .ok (.invokevirtual 102, 3) := by decide +kernel
theorem dX8_byCount_84 : decode cX8_byCount 84 = .ok (.ifCond .eq 7, 3) := by decide +kernel
theorem dX8_byCount_87 : decode cX8_byCount 87 = .ok (.iconst 1, 1) := by decide +kernel
theorem dX8_byCount_88 : decode cX8_byCount 88 = .ok (.goto 4, 3) := by decide +kernel
theorem dX8_byCount_91 : decode cX8_byCount 91 = .ok (.iconst 0, 1) := by decide +kernel
theorem dX8_byCount_92 : decode cX8_byCount 92 = .ok (.iadd, 1) := by decide +kernel
theorem dX8_byCount_93 : decode cX8_byCount 93 = .ok (.istore_n 3, 1) := by decide +kernel
theorem dX8_byCount_94 : decode cX8_byCount 94 = .ok (.iinc 4 1, 3) := by decide +kernel
theorem dX8_byCount_97 : decode cX8_byCount 97 = .ok (.goto (-90), 3) := by decide +kernel
theorem dX8_byCount_100 : decode cX8_byCount 100 = .ok (.aload_n 0, 1) := by decide +kernel
theorem dX8_byCount_101 : decode cX8_byCount 101 = .ok (.getfield 20, 3) := by decide +kernel
theorem dX8_byCount_104 : decode cX8_byCount 104 = .ok (.iconst 3, 1) := by decide +kernel
theorem dX8_byCount_105 : decode cX8_byCount 105 = .ok (.iload_n 1, 1) := by decide +kernel
theorem dX8_byCount_106 : decode cX8_byCount 106 = .ok (.imul, 1) := by decide +kernel
theorem dX8_byCount_107 : decode cX8_byCount 107 = .ok (.iaload, 1) := by decide +kernel
theorem dX8_byCount_108 : decode cX8_byCount 108 = .ok (.istore 4, 2) := by decide +kernel
theorem dX8_byCount_110 : decode cX8_byCount 110 = .ok (.aload_n 0, 1) := by decide +kernel
theorem dX8_byCount_111 : decode cX8_byCount 111 = .ok (.getfield 51, 3) := by decide +kernel
theorem dX8_byCount_114 : decode cX8_byCount 114 = .ok (.iload 4, 2) := by decide +kernel
theorem dX8_byCount_116 : decode cX8_byCount 116 = .ok (.iaload, 1) := by decide +kernel
theorem dX8_byCount_117 : decode cX8_byCount 117 = .ok (.iload_n 3, 1) := by decide +kernel
theorem dX8_byCount_118 : decode cX8_byCount 118 = .ok (.if_icmp .gt 18, 3) := by decide +kernel
theorem dX8_byCount_121 : decode cX8_byCount 121 = .ok (.aload_n 0, 1) := by decide +kernel
theorem dX8_byCount_122 : decode cX8_byCount 122 = .ok (.getfield 54, 3) := by decide +kernel
theorem dX8_byCount_125 : decode cX8_byCount 125 = .ok (.iload 4, 2) := by decide +kernel
theorem dX8_byCount_127 : decode cX8_byCount 127 = .ok (.iaload, 1) := by decide +kernel
theorem dX8_byCount_128 : decode cX8_byCount 128 = .ok (.iload_n 2, 1) := by decide +kernel
theorem dX8_byCount_129 : decode cX8_byCount 129 = .ok (.if_icmp .lt 7, 3) := by decide +kernel
theorem dX8_byCount_132 : decode cX8_byCount 132 = .ok (.iconst 1, 1) := by decide +kernel
theorem dX8_byCount_133 : decode cX8_byCount 133 = .ok (.goto 4, 3) := by decide +kernel
theorem dX8_byCount_136 : decode cX8_byCount 136 = .ok (.iconst 0, 1) := by decide +kernel
theorem dX8_byCount_137 : decode cX8_byCount 137 = .ok (.ireturn, 1) := by decide +kernel
theorem dX8_can_0 : decode cX8_can 0 = .ok (.aload_n 0, 1) := by decide +kernel
theorem dX8_can_1 : decode cX8_can 1 = .ok (.getfield 20, 3) := by decide +kernel
theorem dX8_can_4 : decode cX8_can 4 = .ok (.iconst 3, 1) := by decide +kernel
theorem dX8_can_5 : decode cX8_can 5 = .ok (.iload_n 1, 1) := by decide +kernel
theorem dX8_can_6 : decode cX8_can 6 = .ok (.imul, 1) := by decide +kernel
theorem dX8_can_7 : decode cX8_can 7 = .ok (.iaload, 1) := by decide +kernel
theorem dX8_can_8 : decode cX8_can 8 = .ok (.istore_n 2, 1) := by decide +kernel
theorem dX8_can_9 : decode cX8_can 9 = .ok (.aload_n 0, 1) := by decide +kernel
theorem dX8_can_10 : decode cX8_can 10 = .ok (.getfield 16, 3) := by decide +kernel
theorem dX8_can_13 : decode cX8_can 13 = .ok (.iload_n 1, 1) := by decide +kernel
theorem dX8_can_14 : decode cX8_can 14 = .ok (.iaload, 1) := by decide +kernel
theorem dX8_can_15 : decode cX8_can 15 = .ok (.tableswitch 164 0 9 #[53, 74, 164, 164, 111, 164, 164, 111, 117, 158], 53) := by decide +kernel
theorem dX8_can_68 : decode cX8_can 68 = .ok (.aload_n 0, 1) := by decide +kernel
theorem dX8_can_69 : decode cX8_can 69 = .ok (.iload_n 1, 1) := by decide +kernel
theorem dX8_can_70 : decode cX8_can 70 = .ok (.iconst 1, 1) := by decide +kernel
theorem dX8_can_71 : decode cX8_can 71 = .ok (.invokevirtual 106, 3) := by decide +kernel
theorem dX8_can_74 : decode cX8_can 74 = .ok (.aload_n 0, 1) := by decide +kernel
theorem dX8_can_75 : decode cX8_can 75 = .ok (.getfield 23, 3) := by decide +kernel
theorem dX8_can_78 : decode cX8_can 78 = .ok (.iload_n 1, 1) := by decide +kernel
theorem dX8_can_79 : decode cX8_can 79 = .ok (.iaload, 1) := by decide +kernel
theorem dX8_can_80 : decode cX8_can 80 = .ok (.if_icmp .gt 7, 3) := by decide +kernel
theorem dX8_can_83 : decode cX8_can 83 = .ok (.iconst 1, 1) := by decide +kernel
theorem dX8_can_84 : decode cX8_can 84 = .ok (.goto 4, 3) := by decide +kernel
theorem dX8_can_87 : decode cX8_can 87 = .ok (.iconst 0, 1) := by decide +kernel
theorem dX8_can_88 : decode cX8_can 88 = .ok (.ireturn, 1) := by decide +kernel
theorem dX8_can_89 : decode cX8_can 89 = .ok (.aload_n 0, 1) := by decide +kernel
theorem dX8_can_90 : decode cX8_can 90 = .ok (.iload_n 1, 1) := by decide +kernel
theorem dX8_can_91 : decode cX8_can 91 = .ok (.iconst 1, 1) := by decide +kernel
theorem dX8_can_92 : decode cX8_can 92 = .ok (.invokevirtual 106, 3) := by decide +kernel
theorem dX8_can_95 : decode cX8_can 95 = .ok (.aload_n 0, 1) := by decide +kernel
theorem dX8_can_96 : decode cX8_can 96 = .ok (.getfield 23, 3) := by decide +kernel
theorem dX8_can_99 : decode cX8_can 99 = .ok (.iload_n 1, 1) := by decide +kernel
theorem dX8_can_100 : decode cX8_can 100 = .ok (.iaload, 1) := by decide +kernel
theorem dX8_can_101 : decode cX8_can 101 = .ok (.if_icmp .gt 23, 3) := by decide +kernel
theorem dX8_can_104 : decode cX8_can 104 = .ok (.aload_n 0, 1) := by decide +kernel
theorem dX8_can_105 : decode cX8_can 105 = .ok (.iload_n 1, 1) := by decide +kernel
theorem dX8_can_106 : decode cX8_can 106 = .ok (.iconst (-1), 1) := by decide +kernel
theorem dX8_can_107 : decode cX8_can 107 = .ok (.invokevirtual 106, 3) := by decide +kernel
theorem dX8_can_110 : decode cX8_can 110 = .ok (.aload_n 0, 1) := by decide +kernel
theorem dX8_can_111 : decode cX8_can 111 = .ok (.getfield 23, 3) := by decide +kernel
theorem dX8_can_114 : decode cX8_can 114 = .ok (.iload_n 1, 1) := by decide +kernel
theorem dX8_can_115 : decode cX8_can 115 = .ok (.iaload, 1) := by decide +kernel
theorem dX8_can_116 : decode cX8_can 116 = .ok (.ineg, 1) := by decide +kernel
theorem dX8_can_117 : decode cX8_can 117 = .ok (.if_icmp .gt 7, 3) := by decide +kernel
theorem dX8_can_120 : decode cX8_can 120 = .ok (.iconst 1, 1) := by decide +kernel
theorem dX8_can_121 : decode cX8_can 121 = .ok (.goto 4, 3) := by decide +kernel
theorem dX8_can_124 : decode cX8_can 124 = .ok (.iconst 0, 1) := by decide +kernel
theorem dX8_can_125 : decode cX8_can 125 = .ok (.ireturn, 1) := by decide +kernel
theorem dX8_can_126 : decode cX8_can 126 = .ok (.aload_n 0, 1) := by decide +kernel
theorem dX8_can_127 : decode cX8_can 127 = .ok (.iload_n 1, 1) := by decide +kernel
theorem dX8_can_128 : decode cX8_can 128 = .ok (.invokevirtual 109, 3) := by decide +kernel
theorem dX8_can_131 : decode cX8_can 131 = .ok (.ireturn, 1) := by decide +kernel
theorem dX8_can_132 : decode cX8_can 132 = .ok (.aload_n 0, 1) := by decide +kernel
theorem dX8_can_133 : decode cX8_can 133 = .ok (.getfield 51, 3) := by decide +kernel
theorem dX8_can_136 : decode cX8_can 136 = .ok (.iload_n 2, 1) := by decide +kernel
theorem dX8_can_137 : decode cX8_can 137 = .ok (.iaload, 1) := by decide +kernel
theorem dX8_can_138 : decode cX8_can 138 = .ok (.iconst 1, 1) := by decide +kernel
theorem dX8_can_139 : decode cX8_can 139 = .ok (.if_icmp .ne 28, 3) := by decide +kernel
theorem dX8_can_142 : decode cX8_can 142 = .ok (.aload_n 0, 1) := by decide +kernel
theorem dX8_can_143 : decode cX8_can 143 = .ok (.getfield 54, 3) := by decide +kernel
theorem dX8_can_146 : decode cX8_can 146 = .ok (.iload_n 2, 1) := by decide +kernel
theorem dX8_can_147 : decode cX8_can 147 = .ok (.iaload, 1) := by decide +kernel
theorem dX8_can_148 : decode cX8_can 148 = .ok (.iconst 1, 1) := by decide +kernel
theorem dX8_can_149 : decode cX8_can 149 = .ok (.if_icmp .ne 18, 3) := by decide +kernel
theorem dX8_can_152 : decode cX8_can 152 = .ok (.aload_n 0, 1) := by decide +kernel
theorem dX8_can_153 : decode cX8_can 153 = .ok (.iload_n 1, 1) := by decide +kernel
theorem dX8_can_154 : decode cX8_can 154 = .ok (.iconst 1, 1) := by decide +kernel
theorem dX8_can_155 : decode cX8_can 155 = .ok (.invokevirtual 106, 3) := by decide +kernel
theorem dX8_can_158 : decode cX8_can 158 = .ok (.aload_n 0, 1) := by decide +kernel
theorem dX8_can_159 : decode cX8_can 159 = .ok (.getfield 23, 3) := by decide +kernel
theorem dX8_can_162 : decode cX8_can 162 = .ok (.iload_n 1, 1) := by decide +kernel
theorem dX8_can_163 : decode cX8_can 163 = .ok (.iaload, 1) := by decide +kernel
theorem dX8_can_164 : decode cX8_can 164 = .ok (.if_icmp .gt 7, 3) := by decide +kernel
theorem dX8_can_167 : decode cX8_can 167 = .ok (.iconst 1, 1) := by decide +kernel
theorem dX8_can_168 : decode cX8_can 168 = .ok (.goto 4, 3) := by decide +kernel
theorem dX8_can_171 : decode cX8_can 171 = .ok (.iconst 0, 1) := by decide +kernel
theorem dX8_can_172 : decode cX8_can 172 = .ok (.ireturn, 1) := by decide +kernel
theorem dX8_can_173 : decode cX8_can 173 = .ok (.aload_n 0, 1) := by decide +kernel
theorem dX8_can_174 : decode cX8_can 174 = .ok (.iload_n 1, 1) := by decide +kernel
theorem dX8_can_175 : decode cX8_can 175 = .ok (.invokevirtual 112, 3) := by decide +kernel
theorem dX8_can_178 : decode cX8_can 178 = .ok (.ireturn, 1) := by decide +kernel
theorem dX8_can_179 : decode cX8_can 179 = .ok (.aload_n 0, 1) := by decide +kernel
theorem dX8_can_180 : decode cX8_can 180 = .ok (.iload_n 1, 1) := by decide +kernel
theorem dX8_can_181 : decode cX8_can 181 = .ok (.invokevirtual 115, 3) := by decide +kernel
theorem dX8_can_184 : decode cX8_can 184 = .ok (.ireturn, 1) := by decide +kernel
theorem dX8_impossible_0 : decode cX8_impossible 0 = .ok (.aload_n 0, 1) := by decide +kernel
theorem dX8_impossible_1 : decode cX8_impossible 1 = .ok (.getfield 51, 3) := by decide +kernel
theorem dX8_impossible_4 : decode cX8_impossible 4 = .ok (.iload_n 2, 1) := by decide +kernel
theorem dX8_impossible_5 : decode cX8_impossible 5 = .ok (.iaload, 1) := by decide +kernel
theorem dX8_impossible_6 : decode cX8_impossible 6 = .ok (.istore 4, 2) := by decide +kernel
theorem dX8_impossible_8 : decode cX8_impossible 8 = .ok (.aload_n 0, 1) := by decide +kernel
theorem dX8_impossible_9 : decode cX8_impossible 9 = .ok (.getfield 54, 3) := by decide +kernel
theorem dX8_impossible_12 : decode cX8_impossible 12 = .ok (.iload_n 2, 1) := by decide +kernel
theorem dX8_impossible_13 : decode cX8_impossible 13 = .ok (.iaload, 1) := by decide +kernel
theorem dX8_impossible_14 : decode cX8_impossible 14 = .ok (.istore 5, 2) := by decide +kernel
theorem dX8_impossible_16 : decode cX8_impossible 16 = .ok (.aload_n 0, 1) := by decide +kernel
theorem dX8_impossible_17 : decode cX8_impossible 17 = .ok (.getfield 51, 3) := by decide +kernel
theorem dX8_impossible_20 : decode cX8_impossible 20 = .ok (.iload_n 2, 1) := by decide +kernel
theorem dX8_impossible_21 : decode cX8_impossible 21 = .ok (.iload_n 3, 1) := by decide +kernel
theorem dX8_impossible_22 : decode cX8_impossible 22 = .ok (.iastore, 1) := by decide +kernel
theorem dX8_impossible_23 : decode cX8_impossible 23 = .ok (.aload_n 0, 1) := by decide +kernel
theorem dX8_impossible_24 : decode cX8_impossible 24 = .ok (.getfield 54, 3) := by decide +kernel
theorem dX8_impossible_27 : decode cX8_impossible 27 = .ok (.iload_n 2, 1) := by decide +kernel
theorem dX8_impossible_28 : decode cX8_impossible 28 = .ok (.iload_n 3, 1) := by decide +kernel
theorem dX8_impossible_29 : decode cX8_impossible 29 = .ok (.iastore, 1) := by decide +kernel
theorem dX8_impossible_30 : decode cX8_impossible 30 = .ok (.aload_n 0, 1) := by decide +kernel
theorem dX8_impossible_31 : decode cX8_impossible 31 = .ok (.iload_n 1, 1) := by decide +kernel
theorem dX8_impossible_32 : decode cX8_impossible 32 = .ok (.invokevirtual 118, 3) := by decide +kernel
theorem dX8_impossible_35 : decode cX8_impossible 35 = .ok (.ifCond .ne 7, 3) := by decide +kernel
theorem dX8_impossible_38 : decode cX8_impossible 38 = .ok (.iconst 1, 1) := by decide +kernel
theorem dX8_impossible_39 : decode cX8_impossible 39 = .ok (.goto 4, 3) := by decide +kernel
theorem dX8_impossible_42 : decode cX8_impossible 42 = .ok (.iconst 0, 1) := by decide +kernel
theorem dX8_impossible_43 : decode cX8_impossible 43 = .ok (.istore 6, 2) := by decide +kernel
theorem dX8_impossible_45 : decode cX8_impossible 45 = .ok (.aload_n 0, 1) := by decide +kernel
theorem dX8_impossible_46 : decode cX8_impossible 46 = .ok (.getfield 51, 3) := by decide +kernel
theorem dX8_impossible_49 : decode cX8_impossible 49 = .ok (.iload_n 2, 1) := by decide +kernel
theorem dX8_impossible_50 : decode cX8_impossible 50 = .ok (.iload 4, 2) := by decide +kernel
theorem dX8_impossible_52 : decode cX8_impossible 52 = .ok (.iastore, 1) := by decide +kernel
theorem dX8_impossible_53 : decode cX8_impossible 53 = .ok (.aload_n 0, 1) := by decide +kernel
theorem dX8_impossible_54 : decode cX8_impossible 54 = .ok (.getfield 54, 3) := by decide +kernel
theorem dX8_impossible_57 : decode cX8_impossible 57 = .ok (.iload_n 2, 1) := by decide +kernel
theorem dX8_impossible_58 : decode cX8_impossible 58 = .ok (.iload 5, 2) := by decide +kernel
theorem dX8_impossible_60 : decode cX8_impossible 60 = .ok (.iastore, 1) := by decide +kernel
theorem dX8_impossible_61 : decode cX8_impossible 61 = .ok (.iload 6, 2) := by decide +kernel
theorem dX8_impossible_63 : decode cX8_impossible 63 = .ok (.ireturn, 1) := by decide +kernel
