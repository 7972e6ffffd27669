theorem dX12_lines_19 : decode cX12_lines 19 = .ok (.getfield 267, 3) := by decide +kernel
theorem dX12_lines_22 : decode cX12_lines 22 = .ok (.if_icmp .ge 20, 3) := by decide +kernel
theorem dX12_lines_25 : decode cX12_lines 25 = .ok (.aload_n 0, 1) := by decide +kernel
theorem dX12_lines_26 : decode cX12_lines 26 = .ok (.aload_n 1, 1) := by decide +kernel
theorem dX12_lines_27 : decode cX12_lines 27 = .ok (.iload_n 2, 1) := by decide +kernel
theorem dX12_lines_28 : decode cX12_lines 28 = .ok (.invokevirtual 327, 3) := by decide +kernel
theorem dX12_lines_31 : decode cX12_lines 31 = .ok (.ifCond .ne 5, 3) := by decide +kernel
theorem dX12_lines_34 : decode cX12_lines 34 = .ok (.iconst 0, 1) := by decide +kernel
theorem dX12_lines_35 : decode cX12_lines 35 = .ok (.ireturn, 1) := by decide +kernel
theorem dX12_lines_36 : decode cX12_lines 36 = .ok (.iinc 2 1, 3) := by decide +kernel
theorem dX12_lines_39 : decode cX12_lines 39 = .ok (.goto (-22), 3) := by decide +kernel
theorem dX12_lines_42 : decode cX12_lines 42 = .ok (.iconst 1, 1) := by decide +kernel
theorem dX12_lines_43 : decode cX12_lines 43 = .ok (.ireturn, 1) := by decide +kernel
theorem dX12_lineLength_0 : decode cX12_lineLength 0 = .ok (.aload_n 0, 1) := by decide +kernel
theorem dX12_lineLength_1 : decode cX12_lineLength 1 = .ok (.iload_n 1, 1) := by decide +kernel
theorem dX12_lineLength_2 : decode cX12_lineLength 2 = .ok (.invokevirtual 216, 3) := by decide +kernel
theorem dX12_lineLength_5 : decode cX12_lineLength 5 = .ok (.ifCond .eq 5, 3) := by decide +kernel
theorem dX12_lineLength_8 : decode cX12_lineLength 8 = .ok (.iconst 2, 1) := by decide +kernel
theorem dX12_lineLength_9 : decode cX12_lineLength 9 = .ok (.ireturn, 1) := by decide +kernel
theorem dX12_lineLength_10 : decode cX12_lineLength 10 = .ok (.aload_n 0, 1) := by decide +kernel
theorem dX12_lineLength_11 : decode cX12_lineLength 11 = .ok (.iload_n 1, 1) := by decide +kernel
theorem dX12_lineLength_12 : decode cX12_lineLength 12 = .ok (.ldc 219, 2) := by decide +kernel
theorem dX12_lineLength_14 : decode cX12_lineLength 14 = .ok (.invokevirtual 163, 3) := by decide +kernel
theorem dX12_lineLength_17 : decode cX12_lineLength 17 = .ok (.ifCond .eq 5, 3) := by decide +kernel
theorem dX12_lineLength_20 : decode cX12_lineLength 20 = .ok (.iconst 5, 1) := by decide +kernel
theorem dX12_lineLength_21 : decode cX12_lineLength 21 = .ok (.ireturn, 1) := by decide +kernel
theorem dX12_lineLength_22 : decode cX12_lineLength 22 = .ok (.ldc 224, 2) := by decide +kernel
theorem dX12_lineLength_24 : decode cX12_lineLength 24 = .ok (.aload_n 0, 1) := by decide +kernel
theorem dX12_lineLength_25 : decode cX12_lineLength 25 = .ok (.iload_n 1, 1) := by decide +kernel
theorem dX12_lineLength_26 : decode cX12_lineLength 26 = .ok (.invokevirtual 221, 3) := by decide +kernel
theorem dX12_lineLength_29 : decode cX12_lineLength 29 = .ok (.invokevirtual 127, 3) := by decide +kernel
theorem dX12_lineLength_32 : decode cX12_lineLength 32 = .ok (.istore_n 2, 1) := by decide +kernel
theorem dX12_lineLength_33 : decode cX12_lineLength 33 = .ok (.iload_n 2, 1) := by decide +kernel
theorem dX12_lineLength_34 : decode cX12_lineLength 34 = .ok (.bipush 45, 2) := by decide +kernel
theorem dX12_lineLength_36 : decode cX12_lineLength 36 = .ok (.if_icmp .ne 7, 3) := by decide +kernel
theorem dX12_lineLength_39 : decode cX12_lineLength 39 = .ok (.iconst 1, 1) := by decide +kernel
theorem dX12_lineLength_40 : decode cX12_lineLength 40 = .ok (.goto 14, 3) := by decide +kernel
theorem dX12_lineLength_43 : decode cX12_lineLength 43 = .ok (.iload_n 2, 1) := by decide +kernel
theorem dX12_lineLength_44 : decode cX12_lineLength 44 = .ok (.bipush 73, 2) := by decide +kernel
theorem dX12_lineLength_46 : decode cX12_lineLength 46 = .ok (.if_icmp .ne 7, 3) := by decide +kernel
theorem dX12_lineLength_49 : decode cX12_lineLength 49 = .ok (.iconst 3, 1) := by decide +kernel
theorem dX12_lineLength_50 : decode cX12_lineLength 50 = .ok (.goto 4, 3) := by decide +kernel
theorem dX12_lineLength_53 : decode cX12_lineLength 53 = .ok (.iconst 2, 1) := by decide +kernel
theorem dX12_lineLength_54 : decode cX12_lineLength 54 = .ok (.ireturn, 1) := by decide +kernel
theorem dX12_linesOf_0 : decode cX12_linesOf 0 = .ok (.aload_n 0, 1) := by decide +kernel
theorem dX12_linesOf_1 : decode cX12_linesOf 1 = .ok (.getfield 46, 3) := by decide +kernel
theorem dX12_linesOf_4 : decode cX12_linesOf 4 = .ok (.iload_n 2, 1) := by decide +kernel
theorem dX12_linesOf_5 : decode cX12_linesOf 5 = .ok (.iaload, 1) := by decide +kernel
theorem dX12_linesOf_6 : decode cX12_linesOf 6 = .ok (.iconst 3, 1) := by decide +kernel
theorem dX12_linesOf_7 : decode cX12_linesOf 7 = .ok (.iadd, 1) := by decide +kernel
theorem dX12_linesOf_8 : decode cX12_linesOf 8 = .ok (.istore_n 3, 1) := by decide +kernel
theorem dX12_linesOf_9 : decode cX12_linesOf 9 = .ok (.aload_n 1, 1) := by decide +kernel
theorem dX12_linesOf_10 : decode cX12_linesOf 10 = .ok (.getfield 331, 3) := by decide +kernel
theorem dX12_linesOf_13 : decode cX12_linesOf 13 = .ok (.iload_n 2, 1) := by decide +kernel
theorem dX12_linesOf_14 : decode cX12_linesOf 14 = .ok (.aload_n 1, 1) := by decide +kernel
theorem dX12_linesOf_15 : decode cX12_linesOf 15 = .ok (.getfield 318, 3) := by decide +kernel
theorem dX12_linesOf_18 : decode cX12_linesOf 18 = .ok (.iastore, 1) := by decide +kernel
theorem dX12_linesOf_19 : decode cX12_linesOf 19 = .ok (.aload_n 0, 1) := by decide +kernel
theorem dX12_linesOf_20 : decode cX12_linesOf 20 = .ok (.iconst 0, 1) := by decide +kernel
theorem dX12_linesOf_21 : decode cX12_linesOf 21 = .ok (.putfield 334, 3) := by decide +kernel
theorem dX12_linesOf_24 : decode cX12_linesOf 24 = .ok (.aload_n 1, 1) := by decide +kernel
theorem dX12_linesOf_25 : decode cX12_linesOf 25 = .ok (.getfield 318, 3) := by decide +kernel
theorem dX12_linesOf_28 : decode cX12_linesOf 28 = .ok (.istore 4, 2) := by decide +kernel
theorem dX12_linesOf_30 : decode cX12_linesOf 30 = .ok (.iload_n 3, 1) := by decide +kernel
theorem dX12_linesOf_31 : decode cX12_linesOf 31 = .ok (.istore 5, 2) := by decide +kernel
theorem dX12_linesOf_33 : decode cX12_linesOf 33 = .ok (.aload_n 0, 1) := by decide +kernel
theorem dX12_linesOf_34 : decode cX12_linesOf 34 = .ok (.iload 5, 2) := by decide +kernel
theorem dX12_linesOf_36 : decode cX12_linesOf 36 = .ok (.ldc 178, 2) := by decide +kernel
theorem dX12_linesOf_38 : decode cX12_linesOf 38 = .ok (.invokevirtual 163, 3) := by decide +kernel
theorem dX12_linesOf_41 : decode cX12_linesOf 41 = .ok (.ifCond .ne 75, 3) := by decide +kernel
theorem dX12_linesOf_44 : decode cX12_linesOf 44 = .ok (.aload_n 0, 1) := by decide +kernel
theorem dX12_linesOf_45 : decode cX12_linesOf 45 = .ok (.iload 5, 2) := by decide +kernel
theorem dX12_linesOf_47 : decode cX12_linesOf 47 = .ok (.invokevirtual 216, 3) := by decide +kernel
theorem dX12_linesOf_50 : decode cX12_linesOf 50 = .ok (.ifCond .eq 38, 3) := by decide +kernel
theorem dX12_linesOf_53 : decode cX12_linesOf 53 = .ok (.aload_n 0, 1) := by decide +kernel
theorem dX12_linesOf_54 : decode cX12_linesOf 54 = .ok (.getfield 49, 3) := by decide +kernel
theorem dX12_linesOf_57 : decode cX12_linesOf 57 = .ok (.aload_n 0, 1) := by decide +kernel
theorem dX12_linesOf_58 : decode cX12_linesOf 58 = .ok (.getfield 334, 3) := by decide +kernel
theorem dX12_linesOf_61 : decode cX12_linesOf 61 = .ok (.iload 5, 2) := by decide +kernel
theorem dX12_linesOf_63 : decode cX12_linesOf 63 = .ok (.iastore, 1) := by decide +kernel
theorem dX12_linesOf_64 : decode cX12_linesOf 64 = .ok (.aload_n 0, 1) := by decide +kernel
theorem dX12_linesOf_65 : decode cX12_linesOf 65 = .ok (.getfield 52, 3) := by decide +kernel
theorem dX12_linesOf_68 : decode cX12_linesOf 68 = .ok (.aload_n 0, 1) := by decide +kernel
theorem dX12_linesOf_69 : decode cX12_linesOf 69 = .ok (.getfield 334, 3) := by decide +kernel
theorem dX12_linesOf_72 : decode cX12_linesOf 72 = .ok (.iload 4, 2) := by decide +kernel
theorem dX12_linesOf_74 : decode cX12_linesOf 74 = .ok (.iastore, 1) := by decide +kernel
theorem dX12_linesOf_75 : decode cX12_linesOf 75 = .ok (.aload_n 0, 1) := by decide +kernel
theorem dX12_linesOf_76 : decode cX12_linesOf 76 = .ok (.dup, 1) := by decide +kernel
theorem dX12_linesOf_77 : decode cX12_linesOf 77 = .ok (.getfield 334, 3) := by decide +kernel
theorem dX12_linesOf_80 : decode cX12_linesOf 80 = .ok (.iconst 1, 1) := by decide +kernel
theorem dX12_linesOf_81 : decode cX12_linesOf 81 = .ok (.iadd, 1) := by decide +kernel
theorem dX12_linesOf_82 : decode cX12_linesOf 82 = .ok (.putfield 334, 3) := by decide +kernel
theorem dX12_linesOf_85 : decode cX12_linesOf 85 = .ok (.goto 17, 3) := by decide +kernel
theorem dX12_linesOf_88 : decode cX12_linesOf 88 = .ok (.aload_n 0, 1) := by decide +kernel
theorem dX12_linesOf_89 : decode cX12_linesOf 89 = .ok (.iload 5, 2) := by decide +kernel
theorem dX12_linesOf_91 : decode cX12_linesOf 91 = .ok (.ldc 219, 2) := by decide +kernel
theorem dX12_linesOf_93 : decode cX12_linesOf 93 = .ok (.invokevirtual 163, 3) := by decide +kernel
theorem dX12_linesOf_96 : decode cX12_linesOf 96 = .ok (.ifCond .ne 6, 3) := by decide +kernel
theorem dX12_linesOf_99 : decode cX12_linesOf 99 = .ok (.iinc 4 1, 3) := by decide +kernel
theorem dX12_linesOf_102 : decode cX12_linesOf 102 = .ok (.iload 5, 2) := by decide +kernel
theorem dX12_linesOf_104 : decode cX12_linesOf 104 = .ok (.aload_n 0, 1) := by decide +kernel
theorem dX12_linesOf_105 : decode cX12_linesOf 105 = .ok (.iload 5, 2) := by decide +kernel
theorem dX12_linesOf_107 : decode cX12_linesOf 107 = .ok (.invokevirtual 337, 3) := by decide +kernel
theorem dX12_linesOf_110 : decode cX12_linesOf 110 = .ok (.iadd, 1) := by decide +kernel
theorem dX12_linesOf_111 : decode cX12_linesOf 111 = .ok (.istore 5, 2) := by decide +kernel
theorem dX12_linesOf_113 : decode cX12_linesOf 113 = .ok (.goto (-80), 3) := by decide +kernel
theorem dX12_linesOf_116 : decode cX12_linesOf 116 = .ok (.iload 4, 2) := by decide +kernel
theorem dX12_linesOf_118 : decode cX12_linesOf 118 = .ok (.istore 6, 2) := by decide +kernel
theorem dX12_linesOf_120 : decode cX12_linesOf 120 = .ok (.aload_n 1, 1) := by decide +kernel
theorem dX12_linesOf_121 : decode cX12_linesOf 121 = .ok (.getfield 340, 3) := by decide +kernel
theorem dX12_linesOf_124 : decode cX12_linesOf 124 = .ok (.iload_n 2, 1) := by decide +kernel
theorem dX12_linesOf_125 : decode cX12_linesOf 125 = .ok (.iload 6, 2) := by decide +kernel
theorem dX12_linesOf_127 : decode cX12_linesOf 127 = .ok (.iastore, 1) := by decide +kernel
theorem dX12_linesOf_128 : decode cX12_linesOf 128 = .ok (.iload_n 3, 1) := by decide +kernel
theorem dX12_linesOf_129 : decode cX12_linesOf 129 = .ok (.istore 5, 2) := by decide +kernel
theorem dX12_linesOf_131 : decode cX12_linesOf 131 = .ok (.aload_n 0, 1) := by decide +kernel
theorem dX12_linesOf_132 : decode cX12_linesOf 132 = .ok (.iload 5, 2) := by decide +kernel
theorem dX12_linesOf_134 : decode cX12_linesOf 134 = .ok (.ldc 178, 2) := by decide +kernel
theorem dX12_linesOf_136 : decode cX12_linesOf 136 = .ok (.invokevirtual 163, 3) := by decide +kernel
theorem dX12_linesOf_139 : decode cX12_linesOf 139 = .ok (.ifCond .ne 99, 3) := by decide +kernel
theorem dX12_linesOf_142 : decode cX12_linesOf 142 = .ok (.aload_n 0, 1) := by decide +kernel
theorem dX12_linesOf_143 : decode cX12_linesOf 143 = .ok (.iload 5, 2) := by decide +kernel
theorem dX12_linesOf_145 : decode cX12_linesOf 145 = .ok (.invokevirtual 216, 3) := by decide +kernel
theorem dX12_linesOf_148 : decode cX12_linesOf 148 = .ok (.ifCond .eq 35, 3) := by decide +kernel
theorem dX12_linesOf_151 : decode cX12_linesOf 151 = .ok (.aload_n 0, 1) := by decide +kernel
theorem dX12_linesOf_152 : decode cX12_linesOf 152 = .ok (.iload 5, 2) := by decide +kernel
theorem dX12_linesOf_154 : decode cX12_linesOf 154 = .ok (.invokevirtual 343, 3) := by decide +kernel
theorem dX12_linesOf_157 : decode cX12_linesOf 157 = .ok (.ifCond .lt 19, 3) := by decide +kernel
theorem dX12_linesOf_160 : decode cX12_linesOf 160 = .ok (.aload_n 0, 1) := by decide +kernel
theorem dX12_linesOf_161 : decode cX12_linesOf 161 = .ok (.getfield 49, 3) := by decide +kernel
theorem dX12_linesOf_164 : decode cX12_linesOf 164 = .ok (.aload_n 0, 1) := by decide +kernel
theorem dX12_linesOf_165 : decode cX12_linesOf 165 = .ok (.iload 5, 2) := by decide +kernel
theorem dX12_linesOf_167 : decode cX12_linesOf 167 = .ok (.invokevirtual 343, 3) := by decide +kernel
theorem dX12_linesOf_170 : decode cX12_linesOf 170 = .ok (.iaload, 1) := by decide +kernel
theorem dX12_linesOf_171 : decode cX12_linesOf 171 = .ok (.iload 5, 2) := by decide +kernel
theorem dX12_linesOf_173 : decode cX12_linesOf 173 = .ok (.if_icmp .eq 51, 3) := by decide +kernel
theorem dX12_linesOf_176 : decode cX12_linesOf 176 = .ok (.aload_n 0, 1) := by decide +kernel
theorem dX12_linesOf_177 : decode cX12_linesOf 177 = .ok (.iload 5, 2) := by decide +kernel
theorem dX12_linesOf_179 : decode cX12_linesOf 179 = .ok (.invokevirtual 254, 3) := by decide +kernel
theorem dX12_linesOf_182 : decode cX12_linesOf 182 = .ok (.ireturn, 1) := by decide +kernel
theorem dX12_linesOf_183 : decode cX12_linesOf 183 = .ok (.aload_n 0, 1) := by decide +kernel
theorem dX12_linesOf_184 : decode cX12_linesOf 184 = .ok (.iload 5, 2) := by decide +kernel
theorem dX12_linesOf_186 : decode cX12_linesOf 186 = .ok (.ldc 219, 2) := by decide +kernel
theorem dX12_linesOf_188 : decode cX12_linesOf 188 = .ok (.invokevirtual 163, 3) := by decide +kernel
theorem dX12_linesOf_191 : decode cX12_linesOf 191 = .ok (.ifCond .eq 18, 3) := by decide +kernel
theorem dX12_linesOf_194 : decode cX12_linesOf 194 = .ok (.aload_n 0, 1) := by decide +kernel
theorem dX12_linesOf_195 : decode cX12_linesOf 195 = .ok (.aload_n 1, 1) := by decide +kernel
theorem dX12_linesOf_196 : decode cX12_linesOf 196 = .ok (.iload_n 2, 1) := by decide +kernel
theorem dX12_linesOf_197 : decode cX12_linesOf 197 = .ok (.iload 5, 2) := by decide +kernel
theorem dX12_linesOf_199 : decode cX12_linesOf 199 = .ok (.iload 6, 2) := by decide +kernel
theorem dX12_linesOf_201 : decode cX12_linesOf 201 = .ok (.invokevirtual 346, 3) := by decide +kernel
theorem dX12_linesOf_204 : decode cX12_linesOf 204 = .ok (.ifCond .ne 20, 3) := by decide +kernel
theorem dX12_linesOf_207 : decode cX12_linesOf 207 = .ok (.iconst 0, 1) := by decide +kernel
theorem dX12_linesOf_208 : decode cX12_linesOf 208 = .ok (.ireturn, 1) := by decide +kernel
theorem dX12_linesOf_209 : decode cX12_linesOf 209 = .ok (.aload_n 0, 1) := by decide +kernel
theorem dX12_linesOf_210 : decode cX12_linesOf 210 = .ok (.aload_n 1, 1) := by decide +kernel
theorem dX12_linesOf_211 : decode cX12_linesOf 211 = .ok (.iload_n 2, 1) := by decide +kernel
theorem dX12_linesOf_212 : decode cX12_linesOf 212 = .ok (.iload 5, 2) := by decide +kernel
theorem dX12_linesOf_214 : decode cX12_linesOf 214 = .ok (.iload 6, 2) := by decide +kernel
theorem dX12_linesOf_216 : decode cX12_linesOf 216 = .ok (.invokevirtual 350, 3) := by decide +kernel
theorem dX12_linesOf_219 : decode cX12_linesOf 219 = .ok (.ifCond .ne 5, 3) := by decide +kernel
theorem dX12_linesOf_222 : decode cX12_linesOf 222 = .ok (.iconst 0, 1) := by decide +kernel
theorem dX12_linesOf_223 : decode cX12_linesOf 223 = .ok (.ireturn, 1) := by decide +kernel
theorem dX12_linesOf_224 : decode cX12_linesOf 224 = .ok (.iload 5, 2) := by decide +kernel
theorem dX12_linesOf_226 : decode cX12_linesOf 226 = .ok (.aload_n 0, 1) := by decide +kernel
theorem dX12_linesOf_227 : decode cX12_linesOf 227 = .ok (.iload 5, 2) := by decide +kernel
theorem dX12_linesOf_229 : decode cX12_linesOf 229 = .ok (.invokevirtual 337, 3) := by decide +kernel
theorem dX12_linesOf_232 : decode cX12_linesOf 232 = .ok (.iadd, 1) := by decide +kernel
theorem dX12_linesOf_233 : decode cX12_linesOf 233 = .ok (.istore 5, 2) := by decide +kernel
theorem dX12_linesOf_235 : decode cX12_linesOf 235 = .ok (.goto (-104), 3) := by decide +kernel
theorem dX12_linesOf_238 : decode cX12_linesOf 238 = .ok (.iload 6, 2) := by decide +kernel
theorem dX12_linesOf_240 : decode cX12_linesOf 240 = .ok (.aload_n 1, 1) := by decide +kernel
theorem dX12_linesOf_241 : decode cX12_linesOf 241 = .ok (.getfield 331, 3) := by decide +kernel
theorem dX12_linesOf_244 : decode cX12_linesOf 244 = .ok (.iload_n 2, 1) := by decide +kernel
theorem dX12_linesOf_245 : decode cX12_linesOf 245 = .ok (.iaload, 1) := by decide +kernel
theorem dX12_linesOf_246 : decode cX12_linesOf 246 = .ok (.if_icmp .le 7, 3) := by decide +kernel
theorem dX12_linesOf_249 : decode cX12_linesOf 249 = .ok (.iconst 1, 1) := by decide +kernel
theorem dX12_linesOf_250 : decode cX12_linesOf 250 = .ok (.goto 4, 3) := by decide +kernel
theorem dX12_linesOf_253 : decode cX12_linesOf 253 = .ok (.iconst 0, 1) := by decide +kernel
theorem dX12_linesOf_254 : decode cX12_linesOf 254 = .ok (.istore 7, 2) := by decide +kernel
theorem dX12_linesOf_256 : decode cX12_linesOf 256 = .ok (.iload 7, 2) := by decide +kernel
theorem dX12_linesOf_258 : decode cX12_linesOf 258 = .ok (.ifCond .eq 49, 3) := by decide +kernel
theorem dX12_linesOf_261 : decode cX12_linesOf 261 = .ok (.aload_n 1, 1) := by decide +kernel
theorem dX12_linesOf_262 : decode cX12_linesOf 262 = .ok (.getfield 353, 3) := by decide +kernel
theorem dX12_linesOf_265 : decode cX12_linesOf 265 = .ok (.iload 6, 2) := by decide +kernel
theorem dX12_linesOf_267 : decode cX12_linesOf 267 = .ok (.iconst 1, 1) := by decide +kernel
theorem dX12_linesOf_268 : decode cX12_linesOf 268 = .ok (.isub, 1) := by decide +kernel
theorem dX12_linesOf_269 : decode cX12_linesOf 269 = .ok (.iaload, 1) := by decide +kernel
theorem dX12_linesOf_270 : decode cX12_linesOf 270 = .ok (.istore 8, 2) := by decide +kernel
theorem dX12_linesOf_272 : decode cX12_linesOf 272 = .ok (.iload 8, 2) := by decide +kernel
theorem dX12_linesOf_274 : decode cX12_linesOf 274 = .ok (.bipush 19, 2) := by decide +kernel
theorem dX12_linesOf_276 : decode cX12_linesOf 276 = .ok (.if_icmp .eq 24, 3) := by decide +kernel
theorem dX12_linesOf_279 : decode cX12_linesOf 279 = .ok (.iload 8, 2) := by decide +kernel
theorem dX12_linesOf_281 : decode cX12_linesOf 281 = .ok (.bipush 41, 2) := by decide +kernel
theorem dX12_linesOf_283 : decode cX12_linesOf 283 = .ok (.if_icmp .eq 17, 3) := by decide +kernel
theorem dX12_linesOf_286 : decode cX12_linesOf 286 = .ok (.iload 8, 2) := by decide +kernel
theorem dX12_linesOf_288 : decode cX12_linesOf 288 = .ok (.bipush 42, 2) := by decide +kernel
theorem dX12_linesOf_290 : decode cX12_linesOf 290 = .ok (.if_icmp .eq 10, 3) := by decide +kernel
theorem dX12_linesOf_293 : decode cX12_linesOf 293 = .ok (.iload 8, 2) := by decide +kernel
theorem dX12_linesOf_295 : decode cX12_linesOf 295 = .ok (.bipush 43, 2) := by decide +kernel
theorem dX12_linesOf_297 : decode cX12_linesOf 297 = .ok (.if_icmp .ne 7, 3) := by decide +kernel
theorem dX12_linesOf_300 : decode cX12_linesOf 300 = .ok (.iconst 1, 1) := by decide +kernel
theorem dX12_linesOf_301 : decode cX12_linesOf 301 = .ok (.goto 4, 3) := by decide +kernel
theorem dX12_linesOf_304 : decode cX12_linesOf 304 = .ok (.iconst 0, 1) := by decide +kernel
theorem dX12_linesOf_305 : decode cX12_linesOf 305 = .ok (.istore 7, 2) := by decide +kernel
theorem dX12_linesOf_307 : decode cX12_linesOf 307 = .ok (.iload 7, 2) := by decide +kernel
theorem dX12_linesOf_309 : decode cX12_linesOf 309 = .ok (.ifCond .ne 12, 3) := by decide +kernel
theorem dX12_linesOf_312 : decode cX12_linesOf 312 = .ok (.aload_n 0, 1) := by decide +kernel
theorem dX12_linesOf_313 : decode cX12_linesOf 313 = .ok (.iload 5, 2) := by decide +kernel
theorem dX12_linesOf_315 : decode cX12_linesOf 315 = .ok (.invokevirtual 254, 3) := by decide +kernel
theorem dX12_linesOf_318 : decode cX12_linesOf 318 = .ok (.ifCond .eq 7, 3) := by decide +kernel
theorem dX12_linesOf_321 : decode cX12_linesOf 321 = .ok (.iconst 1, 1) := by decide +kernel
theorem dX12_linesOf_322 : decode cX12_linesOf 322 = .ok (.goto 4, 3) := by decide +kernel
theorem dX12_linesOf_325 : decode cX12_linesOf 325 = .ok (.iconst 0, 1) := by decide +kernel
theorem dX12_linesOf_326 : decode cX12_linesOf 326 = .ok (.ireturn, 1) := by decide +kernel
theorem dX12_label_0 : decode cX12_label 0 = .ok (.iconst 0, 1) := by decide +kernel
theorem dX12_label_1 : decode cX12_label 1 = .ok (.istore_n 2, 1) := by decide +kernel
theorem dX12_label_2 : decode cX12_label 2 = .ok (.iload_n 2, 1) := by decide +kernel
theorem dX12_label_3 : decode cX12_label 3 = .ok (.aload_n 0, 1) := by decide +kernel
theorem dX12_label_4 : decode cX12_label 4 = .ok (.getfield 334, 3) := by decide +kernel
theorem dX12_label_7 : decode cX12_label 7 = .ok (.if_icmp .ge 25, 3) := by decide +kernel
theorem dX12_label_10 : decode cX12_label 10 = .ok (.aload_n 0, 1) := by decide +kernel
theorem dX12_label_11 : decode cX12_label 11 = .ok (.iload_n 1, 1) := by decide +kernel
theorem dX12_label_12 : decode cX12_label 12 = .ok (.aload_n 0, 1) := by decide +kernel
theorem dX12_label_13 : decode cX12_label 13 = .ok (.getfield 49, 3) := by decide +kernel
theorem dX12_label_16 : decode cX12_label 16 = .ok (.iload_n 2, 1) := by decide +kernel
theorem dX12_label_17 : decode cX12_label 17 = .ok (.iaload, 1) := by decide +kernel
theorem dX12_label_18 : decode cX12_label 18 = .ok (.invokevirtual 291, 3) := by decide +kernel
theorem dX12_label_21 : decode cX12_label 21 = .ok (.ifCond .eq 5, 3) := by decide +kernel
theorem dX12_label_24 : decode cX12_label 24 = .ok (.iload_n 2, 1) := by decide +kernel
theorem dX12_label_25 : decode cX12_label 25 = .ok (.ireturn, 1) := by decide +kernel
theorem dX12_label_26 : decode cX12_label 26 = .ok (.iinc 2 1, 3) := by decide +kernel
theorem dX12_label_29 : decode cX12_label 29 = .ok (.goto (-27), 3) := by decide +kernel
theorem dX12_label_32 : decode cX12_label 32 = .ok (.iconst (-1), 1) := by decide +kernel
theorem dX12_label_33 : decode cX12_label 33 = .ok (.ireturn, 1) := by decide +kernel
theorem dX12_labelAt_0 : decode cX12_labelAt 0 = .ok (.aload_n 0, 1) := by decide +kernel
theorem dX12_labelAt_1 : decode cX12_labelAt 1 = .ok (.iload_n 1, 1) := by decide +kernel
theorem dX12_labelAt_2 : decode cX12_labelAt 2 = .ok (.invokevirtual 343, 3) := by decide +kernel
theorem dX12_labelAt_5 : decode cX12_labelAt 5 = .ok (.istore_n 2, 1) := by decide +kernel
theorem dX12_labelAt_6 : decode cX12_labelAt 6 = .ok (.iload_n 2, 1) := by decide +kernel
theorem dX12_labelAt_7 : decode cX12_labelAt 7 = .ok (.ifCond .ge 7, 3) := by decide +kernel
theorem dX12_labelAt_10 : decode cX12_labelAt 10 = .ok (.iconst (-1), 1) := by decide +kernel
theorem dX12_labelAt_11 : decode cX12_labelAt 11 = .ok (.goto 9, 3) := by decide +kernel
theorem dX12_labelAt_14 : decode cX12_labelAt 14 = .ok (.aload_n 0, 1) := by decide +kernel
theorem dX12_labelAt_15 : decode cX12_labelAt 15 = .ok (.getfield 52, 3) := by decide +kernel
theorem dX12_labelAt_18 : decode cX12_labelAt 18 = .ok (.iload_n 2, 1) := by decide +kernel
theorem dX12_labelAt_19 : decode cX12_labelAt 19 = .ok (.iaload, 1) := by decide +kernel
theorem dX12_labelAt_20 : decode cX12_labelAt 20 = .ok (.ireturn, 1) := by decide +kernel
theorem dX12_catchLine_0 : decode cX12_catchLine 0 = .ok (.aload_n 1, 1) := by decide +kernel
theorem dX12_catchLine_1 : decode cX12_catchLine 1 = .ok (.getfield 324, 3) := by decide +kernel
theorem dX12_catchLine_4 : decode cX12_catchLine 4 = .ok (.bipush 64, 2) := by decide +kernel
theorem dX12_catchLine_6 : decode cX12_catchLine 6 = .ok (.if_icmp .ne 9, 3) := by decide +kernel
theorem dX12_catchLine_9 : decode cX12_catchLine 9 = .ok (.aload_n 0, 1) := by decide +kernel
theorem dX12_catchLine_10 : decode cX12_catchLine 10 = .ok (.iload_n 3, 1) := by decide +kernel
theorem dX12_catchLine_11 : decode cX12_catchLine 11 = .ok (.invokevirtual 254, 3) := by decide +kernel
theorem dX12_catchLine_14 : decode cX12_catchLine 14 = .ok (.ireturn, 1) := by decide +kernel
theorem dX12_catchLine_15 : decode cX12_catchLine 15 = .ok (.aload_n 0, 1) := by decide +kernel
theorem dX12_catchLine_16 : decode cX12_catchLine 16 = .ok (.iload_n 3, 1) := by decide +kernel
theorem dX12_catchLine_17 : decode cX12_catchLine 17 = .ok (.iconst 1, 1) := by decide +kernel
theorem dX12_catchLine_18 : decode cX12_catchLine 18 = .ok (.iadd, 1) := by decide +kernel
theorem dX12_catchLine_19 : decode cX12_catchLine 19 = .ok (.invokevirtual 356, 3) := by decide +kernel
theorem dX12_catchLine_22 : decode cX12_catchLine 22 = .ok (.istore 5, 2) := by decide +kernel
theorem dX12_catchLine_24 : decode cX12_catchLine 24 = .ok (.iload 5, 2) := by decide +kernel
theorem dX12_catchLine_26 : decode cX12_catchLine 26 = .ok (.ifCond .ge 11, 3) := by decide +kernel
theorem dX12_catchLine_29 : decode cX12_catchLine 29 = .ok (.aload_n 0, 1) := by decide +kernel
theorem dX12_catchLine_30 : decode cX12_catchLine 30 = .ok (.iload_n 3, 1) := by decide +kernel
theorem dX12_catchLine_31 : decode cX12_catchLine 31 = .ok (.iconst 1, 1) := by decide +kernel
theorem dX12_catchLine_32 : decode cX12_catchLine 32 = .ok (.iadd, 1) := by decide +kernel
theorem dX12_catchLine_33 : decode cX12_catchLine 33 = .ok (.invokevirtual 254, 3) := by decide +kernel
theorem dX12_catchLine_36 : decode cX12_catchLine 36 = .ok (.ireturn, 1) := by decide +kernel
theorem dX12_catchLine_37 : decode cX12_catchLine 37 = .ok (.aload_n 0, 1) := by decide +kernel
theorem dX12_catchLine_38 : decode cX12_catchLine 38 = .ok (.iload_n 3, 1) := by decide +kernel
theorem dX12_catchLine_39 : decode cX12_catchLine 39 = .ok (.iconst 2, 1) := by decide +kernel
theorem dX12_catchLine_40 : decode cX12_catchLine 40 = .ok (.iadd, 1) := by decide +kernel
theorem dX12_catchLine_41 : decode cX12_catchLine 41 = .ok (.invokevirtual 356, 3) := by decide +kernel
theorem dX12_catchLine_44 : decode cX12_catchLine 44 = .ok (.istore 6, 2) := by decide +kernel
theorem dX12_catchLine_46 : decode cX12_catchLine 46 = .ok (.iload 6, 2) := by decide +kernel
theorem dX12_catchLine_48 : decode cX12_catchLine 48 = .ok (.iload 5, 2) := by decide +kernel
theorem dX12_catchLine_50 : decode cX12_catchLine 50 = .ok (.if_icmp .gt 11, 3) := by decide +kernel
theorem dX12_catchLine_53 : decode cX12_catchLine 53 = .ok (.aload_n 0, 1) := by decide +kernel
theorem dX12_catchLine_54 : decode cX12_catchLine 54 = .ok (.iload_n 3, 1) := by decide +kernel
theorem dX12_catchLine_55 : decode cX12_catchLine 55 = .ok (.iconst 2, 1) := by decide +kernel
theorem dX12_catchLine_56 : decode cX12_catchLine 56 = .ok (.iadd, 1) := by decide +kernel
theorem dX12_catchLine_57 : decode cX12_catchLine 57 = .ok (.invokevirtual 254, 3) := by decide +kernel
theorem dX12_catchLine_60 : decode cX12_catchLine 60 = .ok (.ireturn, 1) := by decide +kernel
theorem dX12_catchLine_61 : decode cX12_catchLine 61 = .ok (.aload_n 0, 1) := by decide +kernel
theorem dX12_catchLine_62 : decode cX12_catchLine 62 = .ok (.iload_n 3, 1) := by decide +kernel
theorem dX12_catchLine_63 : decode cX12_catchLine 63 = .ok (.iconst 3, 1) := by decide +kernel
theorem dX12_catchLine_64 : decode cX12_catchLine 64 = .ok (.iadd, 1) := by decide +kernel
theorem dX12_catchLine_65 : decode cX12_catchLine 65 = .ok (.invokevirtual 356, 3) := by decide +kernel
theorem dX12_catchLine_68 : decode cX12_catchLine 68 = .ok (.istore 7, 2) := by decide +kernel
theorem dX12_catchLine_70 : decode cX12_catchLine 70 = .ok (.iload 7, 2) := by decide +kernel
theorem dX12_catchLine_72 : decode cX12_catchLine 72 = .ok (.ifCond .lt 10, 3) := by decide +kernel
theorem dX12_catchLine_75 : decode cX12_catchLine 75 = .ok (.iload 7, 2) := by decide +kernel
theorem dX12_catchLine_77 : decode cX12_catchLine 77 = .ok (.iload 4, 2) := by decide +kernel
theorem dX12_catchLine_79 : decode cX12_catchLine 79 = .ok (.if_icmp .lt 11, 3) := by decide +kernel
theorem dX12_catchLine_82 : decode cX12_catchLine 82 = .ok (.aload_n 0, 1) := by decide +kernel
theorem dX12_catchLine_83 : decode cX12_catchLine 83 = .ok (.iload_n 3, 1) := by decide +kernel
theorem dX12_catchLine_84 : decode cX12_catchLine 84 = .ok (.iconst 3, 1) := by decide +kernel
theorem dX12_catchLine_85 : decode cX12_catchLine 85 = .ok (.iadd, 1) := by decide +kernel
theorem dX12_catchLine_86 : decode cX12_catchLine 86 = .ok (.invokevirtual 254, 3) := by decide +kernel
theorem dX12_catchLine_89 : decode cX12_catchLine 89 = .ok (.ireturn, 1) := by decide +kernel
theorem dX12_catchLine_90 : decode cX12_catchLine 90 = .ok (.aload_n 0, 1) := by decide +kernel
theorem dX12_catchLine_91 : decode cX12_catchLine 91 = .ok (.aload_n 1, 1) := by decide +kernel
theorem dX12_catchLine_92 : decode cX12_catchLine 92 = .ok (.iload_n 3, 1) := by decide +kernel
theorem dX12_catchLine_93 : decode cX12_catchLine 93 = .ok (.iconst 4, 1) := by decide +kernel
theorem dX12_catchLine_94 : decode cX12_catchLine 94 = .ok (.iadd, 1) := by decide +kernel
theorem dX12_catchLine_95 : decode cX12_catchLine 95 = .ok (.invokevirtual 250, 3) := by decide +kernel
theorem dX12_catchLine_98 : decode cX12_catchLine 98 = .ok (.istore 8, 2) := by decide +kernel
theorem dX12_catchLine_100 : decode cX12_catchLine 100 = .ok (.iload 8, 2) := by decide +kernel
theorem dX12_catchLine_102 : decode cX12_catchLine 102 = .ok (.ifCond .lt 13, 3) := by decide +kernel
theorem dX12_catchLine_105 : decode cX12_catchLine 105 = .ok (.aload_n 1, 1) := by decide +kernel
theorem dX12_catchLine_106 : decode cX12_catchLine 106 = .ok (.iload 8, 2) := by decide +kernel
theorem dX12_catchLine_108 : decode cX12_catchLine 108 = .ok (.iconst 1, 1) := by decide +kernel
theorem dX12_catchLine_109 : decode cX12_catchLine 109 = .ok (.invokestatic 263, 3) := by decide +kernel
theorem dX12_catchLine_112 : decode cX12_catchLine 112 = .ok (.ifCond .ne 11, 3) := by decide +kernel
theorem dX12_catchLine_115 : decode cX12_catchLine 115 = .ok (.aload_n 0, 1) := by decide +kernel
theorem dX12_catchLine_116 : decode cX12_catchLine 116 = .ok (.iload_n 3, 1) := by decide +kernel
theorem dX12_catchLine_117 : decode cX12_catchLine 117 = .ok (.iconst 4, 1) := by decide +kernel
theorem dX12_catchLine_118 : decode cX12_catchLine 118 = .ok (.iadd, 1) := by decide +kernel
theorem dX12_catchLine_119 : decode cX12_catchLine 119 = .ok (.invokevirtual 254, 3) := by decide +kernel
theorem dX12_catchLine_122 : decode cX12_catchLine 122 = .ok (.ireturn, 1) := by decide +kernel
theorem dX12_catchLine_123 : decode cX12_catchLine 123 = .ok (.aload_n 1, 1) := by decide +kernel
theorem dX12_catchLine_124 : decode cX12_catchLine 124 = .ok (.getfield 359, 3) := by decide +kernel
theorem dX12_catchLine_127 : decode cX12_catchLine 127 = .ok (.aload_n 1, 1) := by decide +kernel
theorem dX12_catchLine_128 : decode cX12_catchLine 128 = .ok (.getfield 324, 3) := by decide +kernel
theorem dX12_catchLine_131 : decode cX12_catchLine 131 = .ok (.iload_n 2, 1) := by decide +kernel
theorem dX12_catchLine_132 : decode cX12_catchLine 132 = .ok (.iastore, 1) := by decide +kernel
theorem dX12_catchLine_133 : decode cX12_catchLine 133 = .ok (.aload_n 1, 1) := by decide +kernel
theorem dX12_catchLine_134 : decode cX12_catchLine 134 = .ok (.getfield 362, 3) := by decide +kernel
theorem dX12_catchLine_137 : decode cX12_catchLine 137 = .ok (.aload_n 1, 1) := by decide +kernel
theorem dX12_catchLine_138 : decode cX12_catchLine 138 = .ok (.getfield 324, 3) := by decide +kernel
theorem dX12_catchLine_141 : decode cX12_catchLine 141 = .ok (.iload 5, 2) := by decide +kernel
theorem dX12_catchLine_143 : decode cX12_catchLine 143 = .ok (.iastore, 1) := by decide +kernel
theorem dX12_catchLine_144 : decode cX12_catchLine 144 = .ok (.aload_n 1, 1) := by decide +kernel
theorem dX12_catchLine_145 : decode cX12_catchLine 145 = .ok (.getfield 365, 3) := by decide +kernel
theorem dX12_catchLine_148 : decode cX12_catchLine 148 = .ok (.aload_n 1, 1) := by decide +kernel
theorem dX12_catchLine_149 : decode cX12_catchLine 149 = .ok (.getfield 324, 3) := by decide +kernel
theorem dX12_catchLine_152 : decode cX12_catchLine 152 = .ok (.iload 6, 2) := by decide +kernel
theorem dX12_catchLine_154 : decode cX12_catchLine 154 = .ok (.iastore, 1) := by decide +kernel
theorem dX12_catchLine_155 : decode cX12_catchLine 155 = .ok (.aload_n 1, 1) := by decide +kernel
theorem dX12_catchLine_156 : decode cX12_catchLine 156 = .ok (.getfield 368, 3) := by decide +kernel
theorem dX12_catchLine_159 : decode cX12_catchLine 159 = .ok (.aload_n 1, 1) := by decide +kernel
theorem dX12_catchLine_160 : decode cX12_catchLine 160 = .ok (.getfield 324, 3) := by decide +kernel
theorem dX12_catchLine_163 : decode cX12_catchLine 163 = .ok (.iload 7, 2) := by decide +kernel
theorem dX12_catchLine_165 : decode cX12_catchLine 165 = .ok (.iastore, 1) := by decide +kernel
theorem dX12_catchLine_166 : decode cX12_catchLine 166 = .ok (.aload_n 1, 1) := by decide +kernel
theorem dX12_catchLine_167 : decode cX12_catchLine 167 = .ok (.getfield 371, 3) := by decide +kernel
theorem dX12_catchLine_170 : decode cX12_catchLine 170 = .ok (.aload_n 1, 1) := by decide +kernel
theorem dX12_catchLine_171 : decode cX12_catchLine 171 = .ok (.getfield 324, 3) := by decide +kernel
theorem dX12_catchLine_174 : decode cX12_catchLine 174 = .ok (.iload 8, 2) := by decide +kernel
theorem dX12_catchLine_176 : decode cX12_catchLine 176 = .ok (.iastore, 1) := by decide +kernel
theorem dX12_catchLine_177 : decode cX12_catchLine 177 = .ok (.aload_n 1, 1) := by decide +kernel
theorem dX12_catchLine_178 : decode cX12_catchLine 178 = .ok (.dup, 1) := by decide +kernel
theorem dX12_catchLine_179 : decode cX12_catchLine 179 = .ok (.getfield 324, 3) := by decide +kernel
theorem dX12_catchLine_182 : decode cX12_catchLine 182 = .ok (.iconst 1, 1) := by decide +kernel
theorem dX12_catchLine_183 : decode cX12_catchLine 183 = .ok (.iadd, 1) := by decide +kernel
theorem dX12_catchLine_184 : decode cX12_catchLine 184 = .ok (.putfield 324, 3) := by decide +kernel
theorem dX12_catchLine_187 : decode cX12_catchLine 187 = .ok (.iconst 1, 1) := by decide +kernel
theorem dX12_catchLine_188 : decode cX12_catchLine 188 = .ok (.ireturn, 1) := by decide +kernel
theorem dX12_code_0 : decode cX12_code 0 = .ok (.aload_n 0, 1) := by decide +kernel
theorem dX12_code_1 : decode cX12_code 1 = .ok (.iload_n 3, 1) := by decide +kernel
theorem dX12_code_2 : decode cX12_code 2 = .ok (.invokevirtual 221, 3) := by decide +kernel
theorem dX12_code_5 : decode cX12_code 5 = .ok (.istore 5, 2) := by decide +kernel
theorem dX12_code_7 : decode cX12_code 7 = .ok (.aload_n 1, 1) := by decide +kernel
theorem dX12_code_8 : decode cX12_code 8 = .ok (.getfield 318, 3) := by decide +kernel
theorem dX12_code_11 : decode cX12_code 11 = .ok (.sipush 1024, 3) := by decide +kernel
theorem dX12_code_14 : decode cX12_code 14 = .ok (.if_icmp .eq 26, 3) := by decide +kernel
theorem dX12_code_17 : decode cX12_code 17 = .ok (.iload 5, 2) := by decide +kernel
theorem dX12_code_19 : decode cX12_code 19 = .ok (.bipush 30, 2) := by decide +kernel
theorem dX12_code_21 : decode cX12_code 21 = .ok (.if_icmp .eq 10, 3) := by decide +kernel
theorem dX12_code_24 : decode cX12_code 24 = .ok (.iload 5, 2) := by decide +kernel
theorem dX12_code_26 : decode cX12_code 26 = .ok (.bipush 31, 2) := by decide +kernel
theorem dX12_code_28 : decode cX12_code 28 = .ok (.if_icmp .ne 18, 3) := by decide +kernel
theorem dX12_code_31 : decode cX12_code 31 = .ok (.aload_n 1, 1) := by decide +kernel
theorem dX12_code_32 : decode cX12_code 32 = .ok (.getfield 321, 3) := by decide +kernel
theorem dX12_code_35 : decode cX12_code 35 = .ok (.bipush 48, 2) := by decide +kernel
theorem dX12_code_37 : decode cX12_code 37 = .ok (.if_icmp .ne 9, 3) := by decide +kernel
theorem dX12_code_40 : decode cX12_code 40 = .ok (.aload_n 0, 1) := by decide +kernel
theorem dX12_code_41 : decode cX12_code 41 = .ok (.iload_n 3, 1) := by decide +kernel
theorem dX12_code_42 : decode cX12_code 42 = .ok (.invokevirtual 254, 3) := by decide +kernel
theorem dX12_code_45 : decode cX12_code 45 = .ok (.ireturn, 1) := by decide +kernel
theorem dX12_code_46 : decode cX12_code 46 = .ok (.aload_n 1, 1) := by decide +kernel
theorem dX12_code_47 : decode cX12_code 47 = .ok (.getfield 318, 3) := by decide +kernel
theorem dX12_code_50 : decode cX12_code 50 = .ok (.istore 6, 2) := by decide +kernel
theorem dX12_code_52 : decode cX12_code 52 = .ok (.aload_n 0, 1) := by decide +kernel
theorem dX12_code_53 : decode cX12_code 53 = .ok (.getfield 55, 3) := by decide +kernel
theorem dX12_code_56 : decode cX12_code 56 = .ok (.iload 6, 2) := by decide +kernel
theorem dX12_code_58 : decode cX12_code 58 = .ok (.iload_n 3, 1) := by decide +kernel
theorem dX12_code_59 : decode cX12_code 59 = .ok (.iastore, 1) := by decide +kernel
theorem dX12_code_60 : decode cX12_code 60 = .ok (.aload_n 1, 1) := by decide +kernel
theorem dX12_code_61 : decode cX12_code 61 = .ok (.getfield 353, 3) := by decide +kernel
theorem dX12_code_64 : decode cX12_code 64 = .ok (.iload 6, 2) := by decide +kernel
theorem dX12_code_66 : decode cX12_code 66 = .ok (.iload 5, 2) := by decide +kernel
theorem dX12_code_68 : decode cX12_code 68 = .ok (.iastore, 1) := by decide +kernel
theorem dX12_code_69 : decode cX12_code 69 = .ok (.aload_n 1, 1) := by decide +kernel
theorem dX12_code_70 : decode cX12_code 70 = .ok (.getfield 374, 3) := by decide +kernel
theorem dX12_code_73 : decode cX12_code 73 = .ok (.iload 6, 2) := by decide +kernel
theorem dX12_code_75 : decode cX12_code 75 = .ok (.iload_n 2, 1) := by decide +kernel
theorem dX12_code_76 : decode cX12_code 76 = .ok (.iastore, 1) := by decide +kernel
theorem dX12_code_77 : decode cX12_code 77 = .ok (.aload_n 1, 1) := by decide +kernel
theorem dX12_code_78 : decode cX12_code 78 = .ok (.getfield 376, 3) := by decide +kernel
theorem dX12_code_81 : decode cX12_code 81 = .ok (.iload 6, 2) := by decide +kernel
theorem dX12_code_83 : decode cX12_code 83 = .ok (.iconst 0, 1) := by decide +kernel
theorem dX12_code_84 : decode cX12_code 84 = .ok (.iastore, 1) := by decide +kernel
theorem dX12_code_85 : decode cX12_code 85 = .ok (.aload_n 1, 1) := by decide +kernel
theorem dX12_code_86 : decode cX12_code 86 = .ok (.getfield 379, 3) := by decide +kernel
theorem dX12_code_89 : decode cX12_code 89 = .ok (.iload 6, 2) := by decide +kernel
theorem dX12_code_91 : decode cX12_code 91 = .ok (.iconst 0, 1) := by decide +kernel
theorem dX12_code_92 : decode cX12_code 92 = .ok (.iastore, 1) := by decide +kernel
theorem dX12_code_93 : decode cX12_code 93 = .ok (.aload_n 1, 1) := by decide +kernel
theorem dX12_code_94 : decode cX12_code 94 = .ok (.dup, 1) := by decide +kernel
theorem dX12_code_95 : decode cX12_code 95 = .ok (.getfield 318, 3) := by decide +kernel
theorem dX12_code_98 : decode cX12_code 98 = .ok (.iconst 1, 1) := by decide +kernel
theorem dX12_code_99 : decode cX12_code 99 = .ok (.iadd, 1) := by decide +kernel
theorem dX12_code_100 : decode cX12_code 100 = .ok (.putfield 318, 3) := by decide +kernel
theorem dX12_code_103 : decode cX12_code 103 = .ok (.ldc 224, 2) := by decide +kernel
theorem dX12_code_105 : decode cX12_code 105 = .ok (.iload 5, 2) := by decide +kernel
theorem dX12_code_107 : decode cX12_code 107 = .ok (.invokevirtual 127, 3) := by decide +kernel
theorem dX12_code_110 : decode cX12_code 110 = .ok (.tableswitch 267 67 84 #[200, 267, 200, 213, 267, 267, 115, 267, 103, 148, 267, 86, 267, 267, 267, 267, 267, 226], 86) := by decide +kernel
theorem dX12_code_196 : decode cX12_code 196 = .ok (.aload_n 1, 1) := by decide +kernel
theorem dX12_code_197 : decode cX12_code 197 = .ok (.getfield 376, 3) := by decide +kernel
theorem dX12_code_200 : decode cX12_code 200 = .ok (.iload 6, 2) := by decide +kernel
theorem dX12_code_202 : decode cX12_code 202 = .ok (.aload_n 0, 1) := by decide +kernel
theorem dX12_code_203 : decode cX12_code 203 = .ok (.iload_n 3, 1) := by decide +kernel
theorem dX12_code_204 : decode cX12_code 204 = .ok (.iconst 1, 1) := by decide +kernel
theorem dX12_code_205 : decode cX12_code 205 = .ok (.iadd, 1) := by decide +kernel
theorem dX12_code_206 : decode cX12_code 206 = .ok (.invokevirtual 146, 3) := by decide +kernel
theorem dX12_code_209 : decode cX12_code 209 = .ok (.l2i, 1) := by decide +kernel
theorem dX12_code_210 : decode cX12_code 210 = .ok (.iastore, 1) := by decide +kernel
theorem dX12_code_211 : decode cX12_code 211 = .ok (.iconst 1, 1) := by decide +kernel
theorem dX12_code_212 : decode cX12_code 212 = .ok (.ireturn, 1) := by decide +kernel
theorem dX12_code_213 : decode cX12_code 213 = .ok (.aload_n 0, 1) := by decide +kernel
theorem dX12_code_214 : decode cX12_code 214 = .ok (.aload_n 1, 1) := by decide +kernel
theorem dX12_code_215 : decode cX12_code 215 = .ok (.iload_n 2, 1) := by decide +kernel
theorem dX12_code_216 : decode cX12_code 216 = .ok (.iload 6, 2) := by decide +kernel
theorem dX12_code_218 : decode cX12_code 218 = .ok (.iload_n 3, 1) := by decide +kernel
theorem dX12_code_219 : decode cX12_code 219 = .ok (.iconst 1, 1) := by decide +kernel
theorem dX12_code_220 : decode cX12_code 220 = .ok (.iadd, 1) := by decide +kernel
theorem dX12_code_221 : decode cX12_code 221 = .ok (.invokevirtual 382, 3) := by decide +kernel
theorem dX12_code_224 : decode cX12_code 224 = .ok (.ireturn, 1) := by decide +kernel
theorem dX12_code_225 : decode cX12_code 225 = .ok (.aload_n 0, 1) := by decide +kernel
theorem dX12_code_226 : decode cX12_code 226 = .ok (.aload_n 1, 1) := by decide +kernel
theorem dX12_code_227 : decode cX12_code 227 = .ok (.iload_n 2, 1) := by decide +kernel
theorem dX12_code_228 : decode cX12_code 228 = .ok (.iload 6, 2) := by decide +kernel
theorem dX12_code_230 : decode cX12_code 230 = .ok (.iload_n 3, 1) := by decide +kernel
theorem dX12_code_231 : decode cX12_code 231 = .ok (.iconst 1, 1) := by decide +kernel
theorem dX12_code_232 : decode cX12_code 232 = .ok (.iadd, 1) := by decide +kernel
theorem dX12_code_233 : decode cX12_code 233 = .ok (.invokevirtual 382, 3) := by decide +kernel
theorem dX12_code_236 : decode cX12_code 236 = .ok (.ifCond .ne 5, 3) := by decide +kernel
theorem dX12_code_239 : decode cX12_code 239 = .ok (.iconst 0, 1) := by decide +kernel
theorem dX12_code_240 : decode cX12_code 240 = .ok (.ireturn, 1) := by decide +kernel
theorem dX12_code_241 : decode cX12_code 241 = .ok (.aload_n 1, 1) := by decide +kernel
theorem dX12_code_242 : decode cX12_code 242 = .ok (.getfield 379, 3) := by decide +kernel
theorem dX12_code_245 : decode cX12_code 245 = .ok (.iload 6, 2) := by decide +kernel
theorem dX12_code_247 : decode cX12_code 247 = .ok (.aload_n 0, 1) := by decide +kernel
theorem dX12_code_248 : decode cX12_code 248 = .ok (.iload_n 3, 1) := by decide +kernel
theorem dX12_code_249 : decode cX12_code 249 = .ok (.iconst 2, 1) := by decide +kernel
theorem dX12_code_250 : decode cX12_code 250 = .ok (.iadd, 1) := by decide +kernel
theorem dX12_code_251 : decode cX12_code 251 = .ok (.invokevirtual 146, 3) := by decide +kernel
theorem dX12_code_254 : decode cX12_code 254 = .ok (.l2i, 1) := by decide +kernel
theorem dX12_code_255 : decode cX12_code 255 = .ok (.iastore, 1) := by decide +kernel
theorem dX12_code_256 : decode cX12_code 256 = .ok (.iconst 1, 1) := by decide +kernel
theorem dX12_code_257 : decode cX12_code 257 = .ok (.ireturn, 1) := by decide +kernel
theorem dX12_code_258 : decode cX12_code 258 = .ok (.aload_n 1, 1) := by decide +kernel
theorem dX12_code_259 : decode cX12_code 259 = .ok (.getfield 376, 3) := by decide +kernel
theorem dX12_code_262 : decode cX12_code 262 = .ok (.iload 6, 2) := by decide +kernel
theorem dX12_code_264 : decode cX12_code 264 = .ok (.aload_n 0, 1) := by decide +kernel
theorem dX12_code_265 : decode cX12_code 265 = .ok (.iload_n 3, 1) := by decide +kernel
theorem dX12_code_266 : decode cX12_code 266 = .ok (.iconst 1, 1) := by decide +kernel
theorem dX12_code_267 : decode cX12_code 267 = .ok (.iadd, 1) := by decide +kernel
theorem dX12_code_268 : decode cX12_code 268 = .ok (.invokevirtual 356, 3) := by decide +kernel
theorem dX12_code_271 : decode cX12_code 271 = .ok (.iastore, 1) := by decide +kernel
theorem dX12_code_272 : decode cX12_code 272 = .ok (.aload_n 1, 1) := by decide +kernel
theorem dX12_code_273 : decode cX12_code 273 = .ok (.getfield 376, 3) := by decide +kernel
theorem dX12_code_276 : decode cX12_code 276 = .ok (.iload 6, 2) := by decide +kernel
theorem dX12_code_278 : decode cX12_code 278 = .ok (.iaload, 1) := by decide +kernel
theorem dX12_code_279 : decode cX12_code 279 = .ok (.ifCond .lt 15, 3) := by decide +kernel
theorem dX12_code_282 : decode cX12_code 282 = .ok (.aload_n 1, 1) := by decide +kernel
theorem dX12_code_283 : decode cX12_code 283 = .ok (.getfield 376, 3) := by decide +kernel
theorem dX12_code_286 : decode cX12_code 286 = .ok (.iload 6, 2) := by decide +kernel
theorem dX12_code_288 : decode cX12_code 288 = .ok (.iaload, 1) := by decide +kernel
theorem dX12_code_289 : decode cX12_code 289 = .ok (.iload 4, 2) := by decide +kernel
theorem dX12_code_291 : decode cX12_code 291 = .ok (.if_icmp .lt 13, 3) := by decide +kernel
theorem dX12_code_294 : decode cX12_code 294 = .ok (.aload_n 0, 1) := by decide +kernel
theorem dX12_code_295 : decode cX12_code 295 = .ok (.iload_n 3, 1) := by decide +kernel
theorem dX12_code_296 : decode cX12_code 296 = .ok (.iconst 1, 1) := by decide +kernel
theorem dX12_code_297 : decode cX12_code 297 = .ok (.iadd, 1) := by decide +kernel
theorem dX12_code_298 : decode cX12_code 298 = .ok (.invokevirtual 254, 3) := by decide +kernel
theorem dX12_code_301 : decode cX12_code 301 = .ok (.ifCond .eq 7, 3) := by decide +kernel
theorem dX12_code_304 : decode cX12_code 304 = .ok (.iconst 1, 1) := by decide +kernel
theorem dX12_code_305 : decode cX12_code 305 = .ok (.goto 4, 3) := by decide +kernel
theorem dX12_code_308 : decode cX12_code 308 = .ok (.iconst 0, 1) := by decide +kernel
theorem dX12_code_309 : decode cX12_code 309 = .ok (.ireturn, 1) := by decide +kernel
theorem dX12_code_310 : decode cX12_code 310 = .ok (.aload_n 0, 1) := by decide +kernel
theorem dX12_code_311 : decode cX12_code 311 = .ok (.aload_n 1, 1) := by decide +kernel
theorem dX12_code_312 : decode cX12_code 312 = .ok (.iload 6, 2) := by decide +kernel
theorem dX12_code_314 : decode cX12_code 314 = .ok (.iload 5, 2) := by decide +kernel
theorem dX12_code_316 : decode cX12_code 316 = .ok (.iload_n 3, 1) := by decide +kernel
theorem dX12_code_317 : decode cX12_code 317 = .ok (.iconst 1, 1) := by decide +kernel
theorem dX12_code_318 : decode cX12_code 318 = .ok (.iadd, 1) := by decide +kernel
theorem dX12_code_319 : decode cX12_code 319 = .ok (.invokevirtual 385, 3) := by decide +kernel
theorem dX12_code_322 : decode cX12_code 322 = .ok (.ireturn, 1) := by decide +kernel
theorem dX12_code_323 : decode cX12_code 323 = .ok (.aload_n 0, 1) := by decide +kernel
theorem dX12_code_324 : decode cX12_code 324 = .ok (.aload_n 1, 1) := by decide +kernel
theorem dX12_code_325 : decode cX12_code 325 = .ok (.iload 6, 2) := by decide +kernel
theorem dX12_code_327 : decode cX12_code 327 = .ok (.iload 5, 2) := by decide +kernel
theorem dX12_code_329 : decode cX12_code 329 = .ok (.iload_n 3, 1) := by decide +kernel
theorem dX12_code_330 : decode cX12_code 330 = .ok (.iconst 1, 1) := by decide +kernel
theorem dX12_code_331 : decode cX12_code 331 = .ok (.iadd, 1) := by decide +kernel
theorem dX12_code_332 : decode cX12_code 332 = .ok (.invokevirtual 388, 3) := by decide +kernel
theorem dX12_code_335 : decode cX12_code 335 = .ok (.ireturn, 1) := by decide +kernel
theorem dX12_code_336 : decode cX12_code 336 = .ok (.aload_n 1, 1) := by decide +kernel
theorem dX12_code_337 : decode cX12_code 337 = .ok (.getfield 376, 3) := by decide +kernel
theorem dX12_code_340 : decode cX12_code 340 = .ok (.iload 6, 2) := by decide +kernel
theorem dX12_code_342 : decode cX12_code 342 = .ok (.aload_n 0, 1) := by decide +kernel
theorem dX12_code_343 : decode cX12_code 343 = .ok (.aload_n 1, 1) := by decide +kernel
theorem dX12_code_344 : decode cX12_code 344 = .ok (.iload_n 3, 1) := by decide +kernel
theorem dX12_code_345 : decode cX12_code 345 = .ok (.iconst 1, 1) := by decide +kernel
theorem dX12_code_346 : decode cX12_code 346 = .ok (.iadd, 1) := by decide +kernel
theorem dX12_code_347 : decode cX12_code 347 = .ok (.invokevirtual 285, 3) := by decide +kernel
theorem dX12_code_350 : decode cX12_code 350 = .ok (.iastore, 1) := by decide +kernel
theorem dX12_code_351 : decode cX12_code 351 = .ok (.aload_n 1, 1) := by decide +kernel
theorem dX12_code_352 : decode cX12_code 352 = .ok (.getfield 376, 3) := by decide +kernel
theorem dX12_code_355 : decode cX12_code 355 = .ok (.iload 6, 2) := by decide +kernel
theorem dX12_code_357 : decode cX12_code 357 = .ok (.iaload, 1) := by decide +kernel
theorem dX12_code_358 : decode cX12_code 358 = .ok (.ifCond .ge 13, 3) := by decide +kernel
theorem dX12_code_361 : decode cX12_code 361 = .ok (.aload_n 0, 1) := by decide +kernel
theorem dX12_code_362 : decode cX12_code 362 = .ok (.iload_n 3, 1) := by decide +kernel
theorem dX12_code_363 : decode cX12_code 363 = .ok (.iconst 1, 1) := by decide +kernel
theorem dX12_code_364 : decode cX12_code 364 = .ok (.iadd, 1) := by decide +kernel
theorem dX12_code_365 : decode cX12_code 365 = .ok (.invokevirtual 254, 3) := by decide +kernel
theorem dX12_code_368 : decode cX12_code 368 = .ok (.ifCond .eq 7, 3) := by decide +kernel
theorem dX12_code_371 : decode cX12_code 371 = .ok (.iconst 1, 1) := by decide +kernel
theorem dX12_code_372 : decode cX12_code 372 = .ok (.goto 4, 3) := by decide +kernel
theorem dX12_code_375 : decode cX12_code 375 = .ok (.iconst 0, 1) := by decide +kernel
theorem dX12_code_376 : decode cX12_code 376 = .ok (.ireturn, 1) := by decide +kernel
theorem dX12_code_377 : decode cX12_code 377 = .ok (.iconst 1, 1) := by decide +kernel
theorem dX12_code_378 : decode cX12_code 378 = .ok (.ireturn, 1) := by decide +kernel
theorem dX12_localStep_0 : decode cX12_localStep 0 = .ok (.aload_n 0, 1) := by decide +kernel
theorem dX12_localStep_1 : decode cX12_localStep 1 = .ok (.iload 4, 2) := by decide +kernel
theorem dX12_localStep_3 : decode cX12_localStep 3 = .ok (.invokevirtual 146, 3) := by decide +kernel
theorem dX12_localStep_6 : decode cX12_localStep 6 = .ok (.lstore 5, 2) := by decide +kernel
theorem dX12_localStep_8 : decode cX12_localStep 8 = .ok (.lload 5, 2) := by decide +kernel
theorem dX12_localStep_10 : decode cX12_localStep 10 = .ok (.lconst 0, 1) := by decide +kernel
theorem dX12_localStep_11 : decode cX12_localStep 11 = .ok (.lcmp, 1) := by decide +kernel
theorem dX12_localStep_12 : decode cX12_localStep 12 = .ok (.ifCond .lt 16, 3) := by decide +kernel
theorem dX12_localStep_15 : decode cX12_localStep 15 = .ok (.lload 5, 2) := by decide +kernel
theorem dX12_localStep_17 : decode cX12_localStep 17 = .ok (.aload_n 1, 1) := by decide +kernel
theorem dX12_localStep_18 : decode cX12_localStep 18 = .ok (.getfield 316, 3) := by decide +kernel
theorem dX12_localStep_21 : decode cX12_localStep 21 = .ok (.iload_n 2, 1) := by decide +kernel
theorem dX12_localStep_22 : decode cX12_localStep 22 = .ok (.iaload, 1) := by decide +kernel
theorem dX12_localStep_23 : decode cX12_localStep 23 = .ok (.i2l, 1) := by decide +kernel
theorem dX12_localStep_24 : decode cX12_localStep 24 = .ok (.lcmp, 1) := by decide +kernel
theorem dX12_localStep_25 : decode cX12_localStep 25 = .ok (.ifCond .lt 10, 3) := by decide +kernel
theorem dX12_localStep_28 : decode cX12_localStep 28 = .ok (.aload_n 0, 1) := by decide +kernel
theorem dX12_localStep_29 : decode cX12_localStep 29 = .ok (.iload 4, 2) := by decide +kernel
theorem dX12_localStep_31 : decode cX12_localStep 31 = .ok (.invokevirtual 254, 3) := by decide +kernel
theorem dX12_localStep_34 : decode cX12_localStep 34 = .ok (.ireturn, 1) := by decide +kernel
theorem dX12_localStep_35 : decode cX12_localStep 35 = .ok (.aload_n 1, 1) := by decide +kernel
theorem dX12_localStep_36 : decode cX12_localStep 36 = .ok (.getfield 376, 3) := by decide +kernel
theorem dX12_localStep_39 : decode cX12_localStep 39 = .ok (.iload_n 3, 1) := by decide +kernel
theorem dX12_localStep_40 : decode cX12_localStep 40 = .ok (.lload 5, 2) := by decide +kernel
theorem dX12_localStep_42 : decode cX12_localStep 42 = .ok (.l2i, 1) := by decide +kernel
theorem dX12_localStep_43 : decode cX12_localStep 43 = .ok (.iastore, 1) := by decide +kernel
theorem dX12_localStep_44 : decode cX12_localStep 44 = .ok (.iconst 1, 1) := by decide +kernel
theorem dX12_localStep_45 : decode cX12_localStep 45 = .ok (.ireturn, 1) := by decide +kernel
theorem dX12_makes_0 : decode cX12_makes 0 = .ok (.aload_n 0, 1) := by decide +kernel
theorem dX12_makes_1 : decode cX12_makes 1 = .ok (.iload 4, 2) := by decide +kernel
theorem dX12_makes_3 : decode cX12_makes 3 = .ok (.ldc 226, 2) := by decide +kernel
theorem dX12_makes_5 : decode cX12_makes 5 = .ok (.invokevirtual 163, 3) := by decide +kernel
theorem dX12_makes_8 : decode cX12_makes 8 = .ok (.ifCond .eq 7, 3) := by decide +kernel
theorem dX12_makes_11 : decode cX12_makes 11 = .ok (.iconst (-1), 1) := by decide +kernel
theorem dX12_makes_12 : decode cX12_makes 12 = .ok (.goto 10, 3) := by decide +kernel
theorem dX12_makes_15 : decode cX12_makes 15 = .ok (.aload_n 0, 1) := by decide +kernel
theorem dX12_makes_16 : decode cX12_makes 16 = .ok (.aload_n 1, 1) := by decide +kernel
theorem dX12_makes_17 : decode cX12_makes 17 = .ok (.iload 4, 2) := by decide +kernel
theorem dX12_makes_19 : decode cX12_makes 19 = .ok (.invokevirtual 250, 3) := by decide +kernel
theorem dX12_makes_22 : decode cX12_makes 22 = .ok (.istore 5, 2) := by decide +kernel
theorem dX12_makes_24 : decode cX12_makes 24 = .ok (.iload 5, 2) := by decide +kernel
theorem dX12_makes_26 : decode cX12_makes 26 = .ok (.ifCond .ge 21, 3) := by decide +kernel
theorem dX12_makes_29 : decode cX12_makes 29 = .ok (.aload_n 0, 1) := by decide +kernel
theorem dX12_makes_30 : decode cX12_makes 30 = .ok (.iload 4, 2) := by decide +kernel
theorem dX12_makes_32 : decode cX12_makes 32 = .ok (.ldc 226, 2) := by decide +kernel
theorem dX12_makes_34 : decode cX12_makes 34 = .ok (.invokevirtual 163, 3) := by decide +kernel
theorem dX12_makes_37 : decode cX12_makes 37 = .ok (.ifCond .ne 10, 3) := by decide +kernel
theorem dX12_makes_40 : decode cX12_makes 40 = .ok (.aload_n 0, 1) := by decide +kernel
theorem dX12_makes_41 : decode cX12_makes 41 = .ok (.iload 4, 2) := by decide +kernel
theorem dX12_makes_43 : decode cX12_makes 43 = .ok (.invokevirtual 254, 3) := by decide +kernel
theorem dX12_makes_46 : decode cX12_makes 46 = .ok (.ireturn, 1) := by decide +kernel
theorem dX12_makes_47 : decode cX12_makes 47 = .ok (.aload_n 1, 1) := by decide +kernel
theorem dX12_makes_48 : decode cX12_makes 48 = .ok (.getfield 391, 3) := by decide +kernel
theorem dX12_makes_51 : decode cX12_makes 51 = .ok (.aload_n 1, 1) := by decide +kernel
theorem dX12_makes_52 : decode cX12_makes 52 = .ok (.getfield 321, 3) := by decide +kernel
theorem dX12_makes_55 : decode cX12_makes 55 = .ok (.iload_n 3, 1) := by decide +kernel
theorem dX12_makes_56 : decode cX12_makes 56 = .ok (.bipush 30, 2) := by decide +kernel
theorem dX12_makes_58 : decode cX12_makes 58 = .ok (.if_icmp .ne 11, 3) := by decide +kernel
theorem dX12_makes_61 : decode cX12_makes 61 = .ok (.bipush 8, 2) := by decide +kernel
theorem dX12_makes_63 : decode cX12_makes 63 = .ok (.iload 5, 2) := by decide +kernel
theorem dX12_makes_65 : decode cX12_makes 65 = .ok (.iadd, 1) := by decide +kernel
theorem dX12_makes_66 : decode cX12_makes 66 = .ok (.goto 18, 3) := by decide +kernel
theorem dX12_makes_69 : decode cX12_makes 69 = .ok (.iload 5, 2) := by decide +kernel
theorem dX12_makes_71 : decode cX12_makes 71 = .ok (.ifCond .ge 8, 3) := by decide +kernel
theorem dX12_makes_74 : decode cX12_makes 74 = .ok (.bipush 40, 2) := by decide +kernel
theorem dX12_makes_76 : decode cX12_makes 76 = .ok (.goto 8, 3) := by decide +kernel
theorem dX12_makes_79 : decode cX12_makes 79 = .ok (.bipush 48, 2) := by decide +kernel
theorem dX12_makes_81 : decode cX12_makes 81 = .ok (.iload 5, 2) := by decide +kernel
theorem dX12_makes_83 : decode cX12_makes 83 = .ok (.iadd, 1) := by decide +kernel
theorem dX12_makes_84 : decode cX12_makes 84 = .ok (.iastore, 1) := by decide +kernel
theorem dX12_makes_85 : decode cX12_makes 85 = .ok (.aload_n 1, 1) := by decide +kernel
theorem dX12_makes_86 : decode cX12_makes 86 = .ok (.getfield 376, 3) := by decide +kernel
theorem dX12_makes_89 : decode cX12_makes 89 = .ok (.iload_n 2, 1) := by decide +kernel
theorem dX12_makes_90 : decode cX12_makes 90 = .ok (.aload_n 1, 1) := by decide +kernel
theorem dX12_makes_91 : decode cX12_makes 91 = .ok (.getfield 321, 3) := by decide +kernel
theorem dX12_makes_94 : decode cX12_makes 94 = .ok (.iastore, 1) := by decide +kernel
theorem dX12_makes_95 : decode cX12_makes 95 = .ok (.aload_n 1, 1) := by decide +kernel
theorem dX12_makes_96 : decode cX12_makes 96 = .ok (.dup, 1) := by decide +kernel
theorem dX12_makes_97 : decode cX12_makes 97 = .ok (.getfield 321, 3) := by decide +kernel
theorem dX12_makes_100 : decode cX12_makes 100 = .ok (.iconst 1, 1) := by decide +kernel
theorem dX12_makes_101 : decode cX12_makes 101 = .ok (.iadd, 1) := by decide +kernel
theorem dX12_makes_102 : decode cX12_makes 102 = .ok (.putfield 321, 3) := by decide +kernel
theorem dX12_makes_105 : decode cX12_makes 105 = .ok (.iconst 1, 1) := by decide +kernel
theorem dX12_makes_106 : decode cX12_makes 106 = .ok (.ireturn, 1) := by decide +kernel
theorem dX12_reference_0 : decode cX12_reference 0 = .ok (.aload_n 0, 1) := by decide +kernel
theorem dX12_reference_1 : decode cX12_reference 1 = .ok (.iload 4, 2) := by decide +kernel
theorem dX12_reference_3 : decode cX12_reference 3 = .ok (.invokevirtual 142, 3) := by decide +kernel
theorem dX12_reference_6 : decode cX12_reference 6 = .ok (.istore 5, 2) := by decide +kernel
theorem dX12_reference_8 : decode cX12_reference 8 = .ok (.aload_n 0, 1) := by decide +kernel
theorem dX12_reference_9 : decode cX12_reference 9 = .ok (.aload_n 1, 1) := by decide +kernel
theorem dX12_reference_10 : decode cX12_reference 10 = .ok (.aload_n 0, 1) := by decide +kernel
theorem dX12_reference_11 : decode cX12_reference 11 = .ok (.getfield 26, 3) := by decide +kernel
theorem dX12_reference_14 : decode cX12_reference 14 = .ok (.iload 4, 2) := by decide +kernel
theorem dX12_reference_16 : decode cX12_reference 16 = .ok (.iaload, 1) := by decide +kernel
theorem dX12_reference_17 : decode cX12_reference 17 = .ok (.iload 5, 2) := by decide +kernel
theorem dX12_reference_19 : decode cX12_reference 19 = .ok (.invokevirtual 240, 3) := by decide +kernel
theorem dX12_reference_22 : decode cX12_reference 22 = .ok (.istore 6, 2) := by decide +kernel
theorem dX12_reference_24 : decode cX12_reference 24 = .ok (.iload 6, 2) := by decide +kernel
theorem dX12_reference_26 : decode cX12_reference 26 = .ok (.ifCond .ge 10, 3) := by decide +kernel
theorem dX12_reference_29 : decode cX12_reference 29 = .ok (.aload_n 0, 1) := by decide +kernel
theorem dX12_reference_30 : decode cX12_reference 30 = .ok (.iload 4, 2) := by decide +kernel
theorem dX12_reference_32 : decode cX12_reference 32 = .ok (.invokevirtual 254, 3) := by decide +kernel
theorem dX12_reference_35 : decode cX12_reference 35 = .ok (.ireturn, 1) := by decide +kernel
theorem dX12_reference_36 : decode cX12_reference 36 = .ok (.iload_n 3, 1) := by decide +kernel
theorem dX12_reference_37 : decode cX12_reference 37 = .ok (.bipush 35, 2) := by decide +kernel
theorem dX12_reference_39 : decode cX12_reference 39 = .ok (.if_icmp .eq 9, 3) := by decide +kernel
theorem dX12_reference_42 : decode cX12_reference 42 = .ok (.iload_n 3, 1) := by decide +kernel
theorem dX12_reference_43 : decode cX12_reference 43 = .ok (.bipush 36, 2) := by decide +kernel
theorem dX12_reference_45 : decode cX12_reference 45 = .ok (.if_icmp .ne 24, 3) := by decide +kernel
theorem dX12_reference_48 : decode cX12_reference 48 = .ok (.aload_n 0, 1) := by decide +kernel
theorem dX12_reference_49 : decode cX12_reference 49 = .ok (.aload_n 1, 1) := by decide +kernel
theorem dX12_reference_50 : decode cX12_reference 50 = .ok (.iload 6, 2) := by decide +kernel
theorem dX12_reference_52 : decode cX12_reference 52 = .ok (.iload 5, 2) := by decide +kernel
theorem dX12_reference_54 : decode cX12_reference 54 = .ok (.iconst 1, 1) := by decide +kernel
theorem dX12_reference_55 : decode cX12_reference 55 = .ok (.iadd, 1) := by decide +kernel
theorem dX12_reference_56 : decode cX12_reference 56 = .ok (.aload_n 0, 1) := by decide +kernel
theorem dX12_reference_57 : decode cX12_reference 57 = .ok (.getfield 30, 3) := by decide +kernel
theorem dX12_reference_60 : decode cX12_reference 60 = .ok (.iload 4, 2) := by decide +kernel
theorem dX12_reference_62 : decode cX12_reference 62 = .ok (.iaload, 1) := by decide +kernel
theorem dX12_reference_63 : decode cX12_reference 63 = .ok (.invokevirtual 281, 3) := by decide +kernel
theorem dX12_reference_66 : decode cX12_reference 66 = .ok (.goto 21, 3) := by decide +kernel
theorem dX12_reference_69 : decode cX12_reference 69 = .ok (.aload_n 0, 1) := by decide +kernel
theorem dX12_reference_70 : decode cX12_reference 70 = .ok (.aload_n 1, 1) := by decide +kernel
theorem dX12_reference_71 : decode cX12_reference 71 = .ok (.iload 6, 2) := by decide +kernel
theorem dX12_reference_73 : decode cX12_reference 73 = .ok (.iload 5, 2) := by decide +kernel
theorem dX12_reference_75 : decode cX12_reference 75 = .ok (.iconst 1, 1) := by decide +kernel
theorem dX12_reference_76 : decode cX12_reference 76 = .ok (.iadd, 1) := by decide +kernel
theorem dX12_reference_77 : decode cX12_reference 77 = .ok (.aload_n 0, 1) := by decide +kernel
theorem dX12_reference_78 : decode cX12_reference 78 = .ok (.getfield 30, 3) := by decide +kernel
theorem dX12_reference_81 : decode cX12_reference 81 = .ok (.iload 4, 2) := by decide +kernel
theorem dX12_reference_83 : decode cX12_reference 83 = .ok (.iaload, 1) := by decide +kernel
theorem dX12_reference_84 : decode cX12_reference 84 = .ok (.invokevirtual 295, 3) := by decide +kernel
theorem dX12_reference_87 : decode cX12_reference 87 = .ok (.istore 7, 2) := by decide +kernel
theorem dX12_reference_89 : decode cX12_reference 89 = .ok (.iload 7, 2) := by decide +kernel
theorem dX12_reference_91 : decode cX12_reference 91 = .ok (.ifCond .lt 35, 3) := by decide +kernel
theorem dX12_reference_94 : decode cX12_reference 94 = .ok (.iload_n 3, 1) := by decide +kernel
theorem dX12_reference_95 : decode cX12_reference 95 = .ok (.bipush 39, 2) := by decide +kernel
theorem dX12_reference_97 : decode cX12_reference 97 = .ok (.if_icmp .ne 13, 3) := by decide +kernel
theorem dX12_reference_100 : decode cX12_reference 100 = .ok (.aload_n 1, 1) := by decide +kernel
theorem dX12_reference_101 : decode cX12_reference 101 = .ok (.getfield 298, 3) := by decide +kernel
theorem dX12_reference_104 : decode cX12_reference 104 = .ok (.iload 7, 2) := by decide +kernel
theorem dX12_reference_106 : decode cX12_reference 106 = .ok (.baload, 1) := by decide +kernel
theorem dX12_reference_107 : decode cX12_reference 107 = .ok (.ifCond .ne 19, 3) := by decide +kernel
theorem dX12_reference_110 : decode cX12_reference 110 = .ok (.iload_n 3, 1) := by decide +kernel
theorem dX12_reference_111 : decode cX12_reference 111 = .ok (.bipush 40, 2) := by decide +kernel
theorem dX12_reference_113 : decode cX12_reference 113 = .ok (.if_icmp .ne 20, 3) := by decide +kernel
theorem dX12_reference_116 : decode cX12_reference 116 = .ok (.aload_n 1, 1) := by decide +kernel
theorem dX12_reference_117 : decode cX12_reference 117 = .ok (.getfield 298, 3) := by decide +kernel
theorem dX12_reference_120 : decode cX12_reference 120 = .ok (.iload 7, 2) := by decide +kernel
theorem dX12_reference_122 : decode cX12_reference 122 = .ok (.baload, 1) := by decide +kernel
theorem dX12_reference_123 : decode cX12_reference 123 = .ok (.ifCond .ne 10, 3) := by decide +kernel
theorem dX12_reference_126 : decode cX12_reference 126 = .ok (.aload_n 0, 1) := by decide +kernel
theorem dX12_reference_127 : decode cX12_reference 127 = .ok (.iload 4, 2) := by decide +kernel
theorem dX12_reference_129 : decode cX12_reference 129 = .ok (.invokevirtual 254, 3) := by decide +kernel
theorem dX12_reference_132 : decode cX12_reference 132 = .ok (.ireturn, 1) := by decide +kernel
theorem dX12_reference_133 : decode cX12_reference 133 = .ok (.aload_n 1, 1) := by decide +kernel
theorem dX12_reference_134 : decode cX12_reference 134 = .ok (.getfield 376, 3) := by decide +kernel
theorem dX12_reference_137 : decode cX12_reference 137 = .ok (.iload_n 2, 1) := by decide +kernel
theorem dX12_reference_138 : decode cX12_reference 138 = .ok (.iload 7, 2) := by decide +kernel
theorem dX12_reference_140 : decode cX12_reference 140 = .ok (.iastore, 1) := by decide +kernel
theorem dX12_reference_141 : decode cX12_reference 141 = .ok (.aload_n 1, 1) := by decide +kernel
