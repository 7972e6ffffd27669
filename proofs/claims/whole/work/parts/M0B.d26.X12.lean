theorem dX12_reference_142 : decode cX12_reference 142 = .ok (.getfield 379, 3) := by decide +kernel
theorem dX12_reference_145 : decode cX12_reference 145 = .ok (.iload_n 2, 1) := by decide +kernel
theorem dX12_reference_146 : decode cX12_reference 146 = .ok (.iload 6, 2) := by decide +kernel
theorem dX12_reference_148 : decode cX12_reference 148 = .ok (.iastore, 1) := by decide +kernel
theorem dX12_reference_149 : decode cX12_reference 149 = .ok (.iconst 1, 1) := by decide +kernel
theorem dX12_reference_150 : decode cX12_reference 150 = .ok (.ireturn, 1) := by decide +kernel
theorem dX12_settled_0 : decode cX12_settled 0 = .ok (.iconst 0, 1) := by decide +kernel
theorem dX12_settled_1 : decode cX12_settled 1 = .ok (.istore_n 2, 1) := by decide +kernel
theorem dX12_settled_2 : decode cX12_settled 2 = .ok (.iload_n 2, 1) := by decide +kernel
theorem dX12_settled_3 : decode cX12_settled 3 = .ok (.bipush 6, 2) := by decide +kernel
theorem dX12_settled_5 : decode cX12_settled 5 = .ok (.if_icmp .ge 22, 3) := by decide +kernel
theorem dX12_settled_8 : decode cX12_settled 8 = .ok (.aload_n 1, 1) := by decide +kernel
theorem dX12_settled_9 : decode cX12_settled 9 = .ok (.getfield 391, 3) := by decide +kernel
theorem dX12_settled_12 : decode cX12_settled 12 = .ok (.bipush 48, 2) := by decide +kernel
theorem dX12_settled_14 : decode cX12_settled 14 = .ok (.iload_n 2, 1) := by decide +kernel
theorem dX12_settled_15 : decode cX12_settled 15 = .ok (.iadd, 1) := by decide +kernel
theorem dX12_settled_16 : decode cX12_settled 16 = .ok (.bipush 10, 2) := by decide +kernel
theorem dX12_settled_18 : decode cX12_settled 18 = .ok (.iload_n 2, 1) := by decide +kernel
theorem dX12_settled_19 : decode cX12_settled 19 = .ok (.iadd, 1) := by decide +kernel
theorem dX12_settled_20 : decode cX12_settled 20 = .ok (.iastore, 1) := by decide +kernel
theorem dX12_settled_21 : decode cX12_settled 21 = .ok (.iinc 2 1, 3) := by decide +kernel
theorem dX12_settled_24 : decode cX12_settled 24 = .ok (.goto (-22), 3) := by decide +kernel
theorem dX12_settled_27 : decode cX12_settled 27 = .ok (.iconst 0, 1) := by decide +kernel
theorem dX12_settled_28 : decode cX12_settled 28 = .ok (.istore_n 2, 1) := by decide +kernel
theorem dX12_settled_29 : decode cX12_settled 29 = .ok (.iload_n 2, 1) := by decide +kernel
theorem dX12_settled_30 : decode cX12_settled 30 = .ok (.aload_n 0, 1) := by decide +kernel
theorem dX12_settled_31 : decode cX12_settled 31 = .ok (.aload_n 1, 1) := by decide +kernel
theorem dX12_settled_32 : decode cX12_settled 32 = .ok (.invokevirtual 236, 3) := by decide +kernel
theorem dX12_settled_35 : decode cX12_settled 35 = .ok (.if_icmp .ge 141, 3) := by decide +kernel
theorem dX12_settled_38 : decode cX12_settled 38 = .ok (.aload_n 1, 1) := by decide +kernel
theorem dX12_settled_39 : decode cX12_settled 39 = .ok (.getfield 244, 3) := by decide +kernel
theorem dX12_settled_42 : decode cX12_settled 42 = .ok (.iload_n 2, 1) := by decide +kernel
theorem dX12_settled_43 : decode cX12_settled 43 = .ok (.iaload, 1) := by decide +kernel
theorem dX12_settled_44 : decode cX12_settled 44 = .ok (.ifCond .ge 7, 3) := by decide +kernel
theorem dX12_settled_47 : decode cX12_settled 47 = .ok (.iconst 0, 1) := by decide +kernel
theorem dX12_settled_48 : decode cX12_settled 48 = .ok (.goto 14, 3) := by decide +kernel
theorem dX12_settled_51 : decode cX12_settled 51 = .ok (.aload_n 1, 1) := by decide +kernel
theorem dX12_settled_52 : decode cX12_settled 52 = .ok (.getfield 394, 3) := by decide +kernel
theorem dX12_settled_55 : decode cX12_settled 55 = .ok (.aload_n 1, 1) := by decide +kernel
theorem dX12_settled_56 : decode cX12_settled 56 = .ok (.getfield 244, 3) := by decide +kernel
theorem dX12_settled_59 : decode cX12_settled 59 = .ok (.iload_n 2, 1) := by decide +kernel
theorem dX12_settled_60 : decode cX12_settled 60 = .ok (.iaload, 1) := by decide +kernel
theorem dX12_settled_61 : decode cX12_settled 61 = .ok (.iaload, 1) := by decide +kernel
theorem dX12_settled_62 : decode cX12_settled 62 = .ok (.istore_n 3, 1) := by decide +kernel
theorem dX12_settled_63 : decode cX12_settled 63 = .ok (.iconst 0, 1) := by decide +kernel
theorem dX12_settled_64 : decode cX12_settled 64 = .ok (.istore 4, 2) := by decide +kernel
theorem dX12_settled_66 : decode cX12_settled 66 = .ok (.iload 4, 2) := by decide +kernel
theorem dX12_settled_68 : decode cX12_settled 68 = .ok (.aload_n 1, 1) := by decide +kernel
theorem dX12_settled_69 : decode cX12_settled 69 = .ok (.getfield 257, 3) := by decide +kernel
theorem dX12_settled_72 : decode cX12_settled 72 = .ok (.if_icmp .ge 31, 3) := by decide +kernel
theorem dX12_settled_75 : decode cX12_settled 75 = .ok (.aload_n 1, 1) := by decide +kernel
theorem dX12_settled_76 : decode cX12_settled 76 = .ok (.getfield 260, 3) := by decide +kernel
theorem dX12_settled_79 : decode cX12_settled 79 = .ok (.iload 4, 2) := by decide +kernel
theorem dX12_settled_81 : decode cX12_settled 81 = .ok (.iaload, 1) := by decide +kernel
theorem dX12_settled_82 : decode cX12_settled 82 = .ok (.iload_n 2, 1) := by decide +kernel
theorem dX12_settled_83 : decode cX12_settled 83 = .ok (.if_icmp .ne 14, 3) := by decide +kernel
theorem dX12_settled_86 : decode cX12_settled 86 = .ok (.aload_n 1, 1) := by decide +kernel
theorem dX12_settled_87 : decode cX12_settled 87 = .ok (.getfield 397, 3) := by decide +kernel
theorem dX12_settled_90 : decode cX12_settled 90 = .ok (.iload 4, 2) := by decide +kernel
theorem dX12_settled_92 : decode cX12_settled 92 = .ok (.iload_n 3, 1) := by decide +kernel
theorem dX12_settled_93 : decode cX12_settled 93 = .ok (.iastore, 1) := by decide +kernel
theorem dX12_settled_94 : decode cX12_settled 94 = .ok (.iinc 3 1, 3) := by decide +kernel
theorem dX12_settled_97 : decode cX12_settled 97 = .ok (.iinc 4 1, 3) := by decide +kernel
theorem dX12_settled_100 : decode cX12_settled 100 = .ok (.goto (-34), 3) := by decide +kernel
theorem dX12_settled_103 : decode cX12_settled 103 = .ok (.aload_n 1, 1) := by decide +kernel
theorem dX12_settled_104 : decode cX12_settled 104 = .ok (.getfield 394, 3) := by decide +kernel
theorem dX12_settled_107 : decode cX12_settled 107 = .ok (.iload_n 2, 1) := by decide +kernel
theorem dX12_settled_108 : decode cX12_settled 108 = .ok (.iload_n 3, 1) := by decide +kernel
theorem dX12_settled_109 : decode cX12_settled 109 = .ok (.iastore, 1) := by decide +kernel
theorem dX12_settled_110 : decode cX12_settled 110 = .ok (.iconst 0, 1) := by decide +kernel
theorem dX12_settled_111 : decode cX12_settled 111 = .ok (.istore 4, 2) := by decide +kernel
theorem dX12_settled_113 : decode cX12_settled 113 = .ok (.iload 4, 2) := by decide +kernel
theorem dX12_settled_115 : decode cX12_settled 115 = .ok (.aload_n 1, 1) := by decide +kernel
theorem dX12_settled_116 : decode cX12_settled 116 = .ok (.getfield 267, 3) := by decide +kernel
theorem dX12_settled_119 : decode cX12_settled 119 = .ok (.if_icmp .ge 51, 3) := by decide +kernel
theorem dX12_settled_122 : decode cX12_settled 122 = .ok (.aload_n 1, 1) := by decide +kernel
theorem dX12_settled_123 : decode cX12_settled 123 = .ok (.getfield 400, 3) := by decide +kernel
theorem dX12_settled_126 : decode cX12_settled 126 = .ok (.iload_n 2, 1) := by decide +kernel
theorem dX12_settled_127 : decode cX12_settled 127 = .ok (.bipush 48, 2) := by decide +kernel
theorem dX12_settled_129 : decode cX12_settled 129 = .ok (.imul, 1) := by decide +kernel
theorem dX12_settled_130 : decode cX12_settled 130 = .ok (.iload 4, 2) := by decide +kernel
theorem dX12_settled_132 : decode cX12_settled 132 = .ok (.iadd, 1) := by decide +kernel
theorem dX12_settled_133 : decode cX12_settled 133 = .ok (.aload_n 0, 1) := by decide +kernel
theorem dX12_settled_134 : decode cX12_settled 134 = .ok (.aload_n 1, 1) := by decide +kernel
theorem dX12_settled_135 : decode cX12_settled 135 = .ok (.iload_n 2, 1) := by decide +kernel
theorem dX12_settled_136 : decode cX12_settled 136 = .ok (.aload_n 0, 1) := by decide +kernel
theorem dX12_settled_137 : decode cX12_settled 137 = .ok (.getfield 26, 3) := by decide +kernel
theorem dX12_settled_140 : decode cX12_settled 140 = .ok (.aload_n 0, 1) := by decide +kernel
theorem dX12_settled_141 : decode cX12_settled 141 = .ok (.getfield 43, 3) := by decide +kernel
theorem dX12_settled_144 : decode cX12_settled 144 = .ok (.iload 4, 2) := by decide +kernel
theorem dX12_settled_146 : decode cX12_settled 146 = .ok (.iaload, 1) := by decide +kernel
theorem dX12_settled_147 : decode cX12_settled 147 = .ok (.iaload, 1) := by decide +kernel
theorem dX12_settled_148 : decode cX12_settled 148 = .ok (.aload_n 0, 1) := by decide +kernel
theorem dX12_settled_149 : decode cX12_settled 149 = .ok (.getfield 30, 3) := by decide +kernel
theorem dX12_settled_152 : decode cX12_settled 152 = .ok (.aload_n 0, 1) := by decide +kernel
theorem dX12_settled_153 : decode cX12_settled 153 = .ok (.getfield 43, 3) := by decide +kernel
theorem dX12_settled_156 : decode cX12_settled 156 = .ok (.iload 4, 2) := by decide +kernel
theorem dX12_settled_158 : decode cX12_settled 158 = .ok (.iaload, 1) := by decide +kernel
theorem dX12_settled_159 : decode cX12_settled 159 = .ok (.iaload, 1) := by decide +kernel
theorem dX12_settled_160 : decode cX12_settled 160 = .ok (.invokevirtual 295, 3) := by decide +kernel
theorem dX12_settled_163 : decode cX12_settled 163 = .ok (.iastore, 1) := by decide +kernel
theorem dX12_settled_164 : decode cX12_settled 164 = .ok (.iinc 4 1, 3) := by decide +kernel
theorem dX12_settled_167 : decode cX12_settled 167 = .ok (.goto (-54), 3) := by decide +kernel
theorem dX12_settled_170 : decode cX12_settled 170 = .ok (.iinc 2 1, 3) := by decide +kernel
theorem dX12_settled_173 : decode cX12_settled 173 = .ok (.goto (-144), 3) := by decide +kernel
theorem dX12_settled_176 : decode cX12_settled 176 = .ok (.aload_n 1, 1) := by decide +kernel
theorem dX12_settled_177 : decode cX12_settled 177 = .ok (.iconst (-1), 1) := by decide +kernel
theorem dX12_settled_178 : decode cX12_settled 178 = .ok (.putfield 403, 3) := by decide +kernel
theorem dX12_settled_181 : decode cX12_settled 181 = .ok (.iconst 0, 1) := by decide +kernel
theorem dX12_settled_182 : decode cX12_settled 182 = .ok (.istore_n 2, 1) := by decide +kernel
theorem dX12_settled_183 : decode cX12_settled 183 = .ok (.iload_n 2, 1) := by decide +kernel
theorem dX12_settled_184 : decode cX12_settled 184 = .ok (.aload_n 1, 1) := by decide +kernel
theorem dX12_settled_185 : decode cX12_settled 185 = .ok (.getfield 267, 3) := by decide +kernel
theorem dX12_settled_188 : decode cX12_settled 188 = .ok (.if_icmp .ge 79, 3) := by decide +kernel
theorem dX12_settled_191 : decode cX12_settled 191 = .ok (.aload_n 0, 1) := by decide +kernel
theorem dX12_settled_192 : decode cX12_settled 192 = .ok (.aload_n 0, 1) := by decide +kernel
theorem dX12_settled_193 : decode cX12_settled 193 = .ok (.getfield 37, 3) := by decide +kernel
theorem dX12_settled_196 : decode cX12_settled 196 = .ok (.aload_n 1, 1) := by decide +kernel
theorem dX12_settled_197 : decode cX12_settled 197 = .ok (.getfield 270, 3) := by decide +kernel
theorem dX12_settled_200 : decode cX12_settled 200 = .ok (.iload_n 2, 1) := by decide +kernel
theorem dX12_settled_201 : decode cX12_settled 201 = .ok (.iaload, 1) := by decide +kernel
theorem dX12_settled_202 : decode cX12_settled 202 = .ok (.iaload, 1) := by decide +kernel
theorem dX12_settled_203 : decode cX12_settled 203 = .ok (.ldc_w 406, 3) := by decide +kernel
theorem dX12_settled_206 : decode cX12_settled 206 = .ok (.invokevirtual 163, 3) := by decide +kernel
theorem dX12_settled_209 : decode cX12_settled 209 = .ok (.ifCond .eq 52, 3) := by decide +kernel
theorem dX12_settled_212 : decode cX12_settled 212 = .ok (.aload_n 0, 1) := by decide +kernel
theorem dX12_settled_213 : decode cX12_settled 213 = .ok (.aload_n 0, 1) := by decide +kernel
theorem dX12_settled_214 : decode cX12_settled 214 = .ok (.getfield 43, 3) := by decide +kernel
theorem dX12_settled_217 : decode cX12_settled 217 = .ok (.iload_n 2, 1) := by decide +kernel
theorem dX12_settled_218 : decode cX12_settled 218 = .ok (.iaload, 1) := by decide +kernel
theorem dX12_settled_219 : decode cX12_settled 219 = .ok (.ldc_w 408, 3) := by decide +kernel
theorem dX12_settled_222 : decode cX12_settled 222 = .ok (.invokevirtual 163, 3) := by decide +kernel
theorem dX12_settled_225 : decode cX12_settled 225 = .ok (.ifCond .eq 36, 3) := by decide +kernel
theorem dX12_settled_228 : decode cX12_settled 228 = .ok (.aload_n 1, 1) := by decide +kernel
theorem dX12_settled_229 : decode cX12_settled 229 = .ok (.getfield 298, 3) := by decide +kernel
theorem dX12_settled_232 : decode cX12_settled 232 = .ok (.iload_n 2, 1) := by decide +kernel
theorem dX12_settled_233 : decode cX12_settled 233 = .ok (.baload, 1) := by decide +kernel
theorem dX12_settled_234 : decode cX12_settled 234 = .ok (.ifCond .ne 27, 3) := by decide +kernel
theorem dX12_settled_237 : decode cX12_settled 237 = .ok (.aload_n 1, 1) := by decide +kernel
theorem dX12_settled_238 : decode cX12_settled 238 = .ok (.getfield 313, 3) := by decide +kernel
theorem dX12_settled_241 : decode cX12_settled 241 = .ok (.iload_n 2, 1) := by decide +kernel
theorem dX12_settled_242 : decode cX12_settled 242 = .ok (.iaload, 1) := by decide +kernel
theorem dX12_settled_243 : decode cX12_settled 243 = .ok (.ifCond .ne 18, 3) := by decide +kernel
theorem dX12_settled_246 : decode cX12_settled 246 = .ok (.aload_n 1, 1) := by decide +kernel
theorem dX12_settled_247 : decode cX12_settled 247 = .ok (.getfield 308, 3) := by decide +kernel
theorem dX12_settled_250 : decode cX12_settled 250 = .ok (.iload_n 2, 1) := by decide +kernel
theorem dX12_settled_251 : decode cX12_settled 251 = .ok (.iaload, 1) := by decide +kernel
theorem dX12_settled_252 : decode cX12_settled 252 = .ok (.iconst (-1), 1) := by decide +kernel
theorem dX12_settled_253 : decode cX12_settled 253 = .ok (.if_icmp .ne 8, 3) := by decide +kernel
theorem dX12_settled_256 : decode cX12_settled 256 = .ok (.aload_n 1, 1) := by decide +kernel
theorem dX12_settled_257 : decode cX12_settled 257 = .ok (.iload_n 2, 1) := by decide +kernel
theorem dX12_settled_258 : decode cX12_settled 258 = .ok (.putfield 403, 3) := by decide +kernel
theorem dX12_settled_261 : decode cX12_settled 261 = .ok (.iinc 2 1, 3) := by decide +kernel
theorem dX12_settled_264 : decode cX12_settled 264 = .ok (.goto (-81), 3) := by decide +kernel
theorem dX12_settled_267 : decode cX12_settled 267 = .ok (.aload_n 1, 1) := by decide +kernel
theorem dX12_settled_268 : decode cX12_settled 268 = .ok (.getfield 403, 3) := by decide +kernel
theorem dX12_settled_271 : decode cX12_settled 271 = .ok (.ifCond .ge 14, 3) := by decide +kernel
theorem dX12_settled_274 : decode cX12_settled 274 = .ok (.aload_n 0, 1) := by decide +kernel
theorem dX12_settled_275 : decode cX12_settled 275 = .ok (.aload_n 0, 1) := by decide +kernel
theorem dX12_settled_276 : decode cX12_settled 276 = .ok (.getfield 118, 3) := by decide +kernel
theorem dX12_settled_279 : decode cX12_settled 279 = .ok (.invokevirtual 254, 3) := by decide +kernel
theorem dX12_settled_282 : decode cX12_settled 282 = .ok (.ifCond .eq 7, 3) := by decide +kernel
theorem dX12_settled_285 : decode cX12_settled 285 = .ok (.iconst 1, 1) := by decide +kernel
theorem dX12_settled_286 : decode cX12_settled 286 = .ok (.goto 4, 3) := by decide +kernel
theorem dX12_settled_289 : decode cX12_settled 289 = .ok (.iconst 0, 1) := by decide +kernel
theorem dX12_settled_290 : decode cX12_settled 290 = .ok (.ireturn, 1) := by decide +kernel
theorem dX12_howMany_0 : decode cX12_howMany 0 = .ok (.aload_n 0, 1) := by decide +kernel
theorem dX12_howMany_1 : decode cX12_howMany 1 = .ok (.getfield 353, 3) := by decide +kernel
theorem dX12_howMany_4 : decode cX12_howMany 4 = .ok (.iload_n 1, 1) := by decide +kernel
theorem dX12_howMany_5 : decode cX12_howMany 5 = .ok (.iaload, 1) := by decide +kernel
theorem dX12_howMany_6 : decode cX12_howMany 6 = .ok (.istore_n 2, 1) := by decide +kernel
theorem dX12_howMany_7 : decode cX12_howMany 7 = .ok (.iload_n 2, 1) := by decide +kernel
theorem dX12_howMany_8 : decode cX12_howMany 8 = .ok (.tableswitch 206 3 45 #[188, 206, 188, 188, 190, 206, 206, 206, 206, 206, 206, 206, 206, 206, 206, 188, 206, 206, 206, 206, 206, 206, 206, 188, 188, 190, 190, 206, 188, 188, 190, 192, 188, 190, 188, 188, 194, 194, 188, 188, 206, 206, 188], 188) := by decide +kernel
theorem dX12_howMany_196 : decode cX12_howMany 196 = .ok (.iconst 1, 1) := by decide +kernel
theorem dX12_howMany_197 : decode cX12_howMany 197 = .ok (.ireturn, 1) := by decide +kernel
theorem dX12_howMany_198 : decode cX12_howMany 198 = .ok (.iconst 2, 1) := by decide +kernel
theorem dX12_howMany_199 : decode cX12_howMany 199 = .ok (.ireturn, 1) := by decide +kernel
theorem dX12_howMany_200 : decode cX12_howMany 200 = .ok (.iconst 3, 1) := by decide +kernel
theorem dX12_howMany_201 : decode cX12_howMany 201 = .ok (.ireturn, 1) := by decide +kernel
theorem dX12_howMany_202 : decode cX12_howMany 202 = .ok (.aload_n 0, 1) := by decide +kernel
theorem dX12_howMany_203 : decode cX12_howMany 203 = .ok (.getfield 313, 3) := by decide +kernel
theorem dX12_howMany_206 : decode cX12_howMany 206 = .ok (.aload_n 0, 1) := by decide +kernel
theorem dX12_howMany_207 : decode cX12_howMany 207 = .ok (.getfield 376, 3) := by decide +kernel
theorem dX12_howMany_210 : decode cX12_howMany 210 = .ok (.iload_n 1, 1) := by decide +kernel
theorem dX12_howMany_211 : decode cX12_howMany 211 = .ok (.iaload, 1) := by decide +kernel
theorem dX12_howMany_212 : decode cX12_howMany 212 = .ok (.iaload, 1) := by decide +kernel
theorem dX12_howMany_213 : decode cX12_howMany 213 = .ok (.ireturn, 1) := by decide +kernel
theorem dX12_howMany_214 : decode cX12_howMany 214 = .ok (.iload_n 2, 1) := by decide +kernel
theorem dX12_howMany_215 : decode cX12_howMany 215 = .ok (.bipush 8, 2) := by decide +kernel
theorem dX12_howMany_217 : decode cX12_howMany 217 = .ok (.if_icmp .lt 9, 3) := by decide +kernel
theorem dX12_howMany_220 : decode cX12_howMany 220 = .ok (.iload_n 2, 1) := by decide +kernel
theorem dX12_howMany_221 : decode cX12_howMany 221 = .ok (.bipush 17, 2) := by decide +kernel
theorem dX12_howMany_223 : decode cX12_howMany 223 = .ok (.if_icmp .le 15, 3) := by decide +kernel
theorem dX12_howMany_226 : decode cX12_howMany 226 = .ok (.iload_n 2, 1) := by decide +kernel
theorem dX12_howMany_227 : decode cX12_howMany 227 = .ok (.bipush 20, 2) := by decide +kernel
theorem dX12_howMany_229 : decode cX12_howMany 229 = .ok (.if_icmp .lt 13, 3) := by decide +kernel
theorem dX12_howMany_232 : decode cX12_howMany 232 = .ok (.iload_n 2, 1) := by decide +kernel
theorem dX12_howMany_233 : decode cX12_howMany 233 = .ok (.bipush 25, 2) := by decide +kernel
theorem dX12_howMany_235 : decode cX12_howMany 235 = .ok (.if_icmp .gt 7, 3) := by decide +kernel
theorem dX12_howMany_238 : decode cX12_howMany 238 = .ok (.iconst 2, 1) := by decide +kernel
theorem dX12_howMany_239 : decode cX12_howMany 239 = .ok (.goto 4, 3) := by decide +kernel
theorem dX12_howMany_242 : decode cX12_howMany 242 = .ok (.iconst 0, 1) := by decide +kernel
theorem dX12_howMany_243 : decode cX12_howMany 243 = .ok (.ireturn, 1) := by decide +kernel
theorem dX12_leaves_0 : decode cX12_leaves 0 = .ok (.aload_n 0, 1) := by decide +kernel
theorem dX12_leaves_1 : decode cX12_leaves 1 = .ok (.getfield 353, 3) := by decide +kernel
theorem dX12_leaves_4 : decode cX12_leaves 4 = .ok (.iload_n 1, 1) := by decide +kernel
theorem dX12_leaves_5 : decode cX12_leaves 5 = .ok (.iaload, 1) := by decide +kernel
theorem dX12_leaves_6 : decode cX12_leaves 6 = .ok (.istore_n 2, 1) := by decide +kernel
theorem dX12_leaves_7 : decode cX12_leaves 7 = .ok (.iload_n 2, 1) := by decide +kernel
theorem dX12_leaves_8 : decode cX12_leaves 8 = .ok (.tableswitch 221 0 44 #[196, 196, 196, 221, 221, 198, 221, 198, 221, 221, 221, 221, 221, 221, 221, 221, 221, 221, 196, 221, 221, 221, 221, 221, 221, 221, 221, 221, 221, 221, 196, 196, 196, 196, 221, 196, 221, 196, 196, 200, 200, 221, 221, 221, 196], 196) := by decide +kernel
theorem dX12_leaves_204 : decode cX12_leaves 204 = .ok (.iconst 1, 1) := by decide +kernel
theorem dX12_leaves_205 : decode cX12_leaves 205 = .ok (.ireturn, 1) := by decide +kernel
theorem dX12_leaves_206 : decode cX12_leaves 206 = .ok (.iconst 2, 1) := by decide +kernel
theorem dX12_leaves_207 : decode cX12_leaves 207 = .ok (.ireturn, 1) := by decide +kernel
theorem dX12_leaves_208 : decode cX12_leaves 208 = .ok (.aload_n 0, 1) := by decide +kernel
theorem dX12_leaves_209 : decode cX12_leaves 209 = .ok (.getfield 308, 3) := by decide +kernel
theorem dX12_leaves_212 : decode cX12_leaves 212 = .ok (.aload_n 0, 1) := by decide +kernel
theorem dX12_leaves_213 : decode cX12_leaves 213 = .ok (.getfield 376, 3) := by decide +kernel
theorem dX12_leaves_216 : decode cX12_leaves 216 = .ok (.iload_n 1, 1) := by decide +kernel
theorem dX12_leaves_217 : decode cX12_leaves 217 = .ok (.iaload, 1) := by decide +kernel
theorem dX12_leaves_218 : decode cX12_leaves 218 = .ok (.iaload, 1) := by decide +kernel
theorem dX12_leaves_219 : decode cX12_leaves 219 = .ok (.iconst (-1), 1) := by decide +kernel
theorem dX12_leaves_220 : decode cX12_leaves 220 = .ok (.if_icmp .ne 7, 3) := by decide +kernel
theorem dX12_leaves_223 : decode cX12_leaves 223 = .ok (.iconst 0, 1) := by decide +kernel
theorem dX12_leaves_224 : decode cX12_leaves 224 = .ok (.goto 4, 3) := by decide +kernel
theorem dX12_leaves_227 : decode cX12_leaves 227 = .ok (.iconst 1, 1) := by decide +kernel
theorem dX12_leaves_228 : decode cX12_leaves 228 = .ok (.ireturn, 1) := by decide +kernel
theorem dX12_leaves_229 : decode cX12_leaves 229 = .ok (.iload_n 2, 1) := by decide +kernel
theorem dX12_leaves_230 : decode cX12_leaves 230 = .ok (.bipush 8, 2) := by decide +kernel
theorem dX12_leaves_232 : decode cX12_leaves 232 = .ok (.if_icmp .lt 13, 3) := by decide +kernel
theorem dX12_leaves_235 : decode cX12_leaves 235 = .ok (.iload_n 2, 1) := by decide +kernel
theorem dX12_leaves_236 : decode cX12_leaves 236 = .ok (.bipush 17, 2) := by decide +kernel
theorem dX12_leaves_238 : decode cX12_leaves 238 = .ok (.if_icmp .gt 7, 3) := by decide +kernel
theorem dX12_leaves_241 : decode cX12_leaves 241 = .ok (.iconst 1, 1) := by decide +kernel
theorem dX12_leaves_242 : decode cX12_leaves 242 = .ok (.goto 4, 3) := by decide +kernel
theorem dX12_leaves_245 : decode cX12_leaves 245 = .ok (.iconst 0, 1) := by decide +kernel
theorem dX12_leaves_246 : decode cX12_leaves 246 = .ok (.ireturn, 1) := by decide +kernel
theorem dX12_hasNext_0 : decode cX12_hasNext 0 = .ok (.iload_n 0, 1) := by decide +kernel
theorem dX12_hasNext_1 : decode cX12_hasNext 1 = .ok (.bipush 19, 2) := by decide +kernel
theorem dX12_hasNext_3 : decode cX12_hasNext 3 = .ok (.if_icmp .eq 25, 3) := by decide +kernel
theorem dX12_hasNext_6 : decode cX12_hasNext 6 = .ok (.iload_n 0, 1) := by decide +kernel
theorem dX12_hasNext_7 : decode cX12_hasNext 7 = .ok (.bipush 41, 2) := by decide +kernel
theorem dX12_hasNext_9 : decode cX12_hasNext 9 = .ok (.if_icmp .eq 19, 3) := by decide +kernel
theorem dX12_hasNext_12 : decode cX12_hasNext 12 = .ok (.iload_n 0, 1) := by decide +kernel
theorem dX12_hasNext_13 : decode cX12_hasNext 13 = .ok (.bipush 42, 2) := by decide +kernel
theorem dX12_hasNext_15 : decode cX12_hasNext 15 = .ok (.if_icmp .eq 13, 3) := by decide +kernel
theorem dX12_hasNext_18 : decode cX12_hasNext 18 = .ok (.iload_n 0, 1) := by decide +kernel
theorem dX12_hasNext_19 : decode cX12_hasNext 19 = .ok (.bipush 43, 2) := by decide +kernel
theorem dX12_hasNext_21 : decode cX12_hasNext 21 = .ok (.if_icmp .eq 7, 3) := by decide +kernel
theorem dX12_hasNext_24 : decode cX12_hasNext 24 = .ok (.iconst 1, 1) := by decide +kernel
theorem dX12_hasNext_25 : decode cX12_hasNext 25 = .ok (.goto 4, 3) := by decide +kernel
theorem dX12_hasNext_28 : decode cX12_hasNext 28 = .ok (.iconst 0, 1) := by decide +kernel
theorem dX12_hasNext_29 : decode cX12_hasNext 29 = .ok (.ireturn, 1) := by decide +kernel
theorem dX12_hasLabel_0 : decode cX12_hasLabel 0 = .ok (.iload_n 0, 1) := by decide +kernel
theorem dX12_hasLabel_1 : decode cX12_hasLabel 1 = .ok (.bipush 19, 2) := by decide +kernel
theorem dX12_hasLabel_3 : decode cX12_hasLabel 3 = .ok (.if_icmp .lt 13, 3) := by decide +kernel
theorem dX12_hasLabel_6 : decode cX12_hasLabel 6 = .ok (.iload_n 0, 1) := by decide +kernel
theorem dX12_hasLabel_7 : decode cX12_hasLabel 7 = .ok (.bipush 29, 2) := by decide +kernel
theorem dX12_hasLabel_9 : decode cX12_hasLabel 9 = .ok (.if_icmp .gt 7, 3) := by decide +kernel
theorem dX12_hasLabel_12 : decode cX12_hasLabel 12 = .ok (.iconst 1, 1) := by decide +kernel
theorem dX12_hasLabel_13 : decode cX12_hasLabel 13 = .ok (.goto 4, 3) := by decide +kernel
theorem dX12_hasLabel_16 : decode cX12_hasLabel 16 = .ok (.iconst 0, 1) := by decide +kernel
theorem dX12_hasLabel_17 : decode cX12_hasLabel 17 = .ok (.ireturn, 1) := by decide +kernel
theorem dX12_covers_0 : decode cX12_covers 0 = .ok (.aload_n 0, 1) := by decide +kernel
theorem dX12_covers_1 : decode cX12_covers 1 = .ok (.getfield 359, 3) := by decide +kernel
theorem dX12_covers_4 : decode cX12_covers 4 = .ok (.iload_n 1, 1) := by decide +kernel
theorem dX12_covers_5 : decode cX12_covers 5 = .ok (.iaload, 1) := by decide +kernel
theorem dX12_covers_6 : decode cX12_covers 6 = .ok (.aload_n 0, 1) := by decide +kernel
theorem dX12_covers_7 : decode cX12_covers 7 = .ok (.getfield 374, 3) := by decide +kernel
theorem dX12_covers_10 : decode cX12_covers 10 = .ok (.iload_n 2, 1) := by decide +kernel
theorem dX12_covers_11 : decode cX12_covers 11 = .ok (.iaload, 1) := by decide +kernel
theorem dX12_covers_12 : decode cX12_covers 12 = .ok (.if_icmp .ne 27, 3) := by decide +kernel
theorem dX12_covers_15 : decode cX12_covers 15 = .ok (.aload_n 0, 1) := by decide +kernel
theorem dX12_covers_16 : decode cX12_covers 16 = .ok (.getfield 362, 3) := by decide +kernel
theorem dX12_covers_19 : decode cX12_covers 19 = .ok (.iload_n 1, 1) := by decide +kernel
theorem dX12_covers_20 : decode cX12_covers 20 = .ok (.iaload, 1) := by decide +kernel
theorem dX12_covers_21 : decode cX12_covers 21 = .ok (.iload_n 2, 1) := by decide +kernel
theorem dX12_covers_22 : decode cX12_covers 22 = .ok (.if_icmp .gt 17, 3) := by decide +kernel
theorem dX12_covers_25 : decode cX12_covers 25 = .ok (.iload_n 2, 1) := by decide +kernel
theorem dX12_covers_26 : decode cX12_covers 26 = .ok (.aload_n 0, 1) := by decide +kernel
theorem dX12_covers_27 : decode cX12_covers 27 = .ok (.getfield 365, 3) := by decide +kernel
theorem dX12_covers_30 : decode cX12_covers 30 = .ok (.iload_n 1, 1) := by decide +kernel
theorem dX12_covers_31 : decode cX12_covers 31 = .ok (.iaload, 1) := by decide +kernel
theorem dX12_covers_32 : decode cX12_covers 32 = .ok (.if_icmp .ge 7, 3) := by decide +kernel
theorem dX12_covers_35 : decode cX12_covers 35 = .ok (.iconst 1, 1) := by decide +kernel
theorem dX12_covers_36 : decode cX12_covers 36 = .ok (.goto 4, 3) := by decide +kernel
theorem dX12_covers_39 : decode cX12_covers 39 = .ok (.iconst 0, 1) := by decide +kernel
theorem dX12_covers_40 : decode cX12_covers 40 = .ok (.ireturn, 1) := by decide +kernel
theorem dX12_heights_0 : decode cX12_heights 0 = .ok (.aload_n 1, 1) := by decide +kernel
theorem dX12_heights_1 : decode cX12_heights 1 = .ok (.getfield 331, 3) := by decide +kernel
theorem dX12_heights_4 : decode cX12_heights 4 = .ok (.iload_n 2, 1) := by decide +kernel
theorem dX12_heights_5 : decode cX12_heights 5 = .ok (.iaload, 1) := by decide +kernel
theorem dX12_heights_6 : decode cX12_heights 6 = .ok (.istore_n 3, 1) := by decide +kernel
theorem dX12_heights_7 : decode cX12_heights 7 = .ok (.iload_n 3, 1) := by decide +kernel
theorem dX12_heights_8 : decode cX12_heights 8 = .ok (.aload_n 1, 1) := by decide +kernel
theorem dX12_heights_9 : decode cX12_heights 9 = .ok (.getfield 340, 3) := by decide +kernel
theorem dX12_heights_12 : decode cX12_heights 12 = .ok (.iload_n 2, 1) := by decide +kernel
theorem dX12_heights_13 : decode cX12_heights 13 = .ok (.iaload, 1) := by decide +kernel
theorem dX12_heights_14 : decode cX12_heights 14 = .ok (.if_icmp .ge 16, 3) := by decide +kernel
theorem dX12_heights_17 : decode cX12_heights 17 = .ok (.aload_n 0, 1) := by decide +kernel
theorem dX12_heights_18 : decode cX12_heights 18 = .ok (.getfield 58, 3) := by decide +kernel
theorem dX12_heights_21 : decode cX12_heights 21 = .ok (.iload_n 3, 1) := by decide +kernel
theorem dX12_heights_22 : decode cX12_heights 22 = .ok (.iconst 0, 1) := by decide +kernel
theorem dX12_heights_23 : decode cX12_heights 23 = .ok (.iastore, 1) := by decide +kernel
theorem dX12_heights_24 : decode cX12_heights 24 = .ok (.iinc 3 1, 3) := by decide +kernel
theorem dX12_heights_27 : decode cX12_heights 27 = .ok (.goto (-20), 3) := by decide +kernel
theorem dX12_heights_30 : decode cX12_heights 30 = .ok (.aload_n 0, 1) := by decide +kernel
theorem dX12_heights_31 : decode cX12_heights 31 = .ok (.getfield 58, 3) := by decide +kernel
theorem dX12_heights_34 : decode cX12_heights 34 = .ok (.aload_n 1, 1) := by decide +kernel
theorem dX12_heights_35 : decode cX12_heights 35 = .ok (.getfield 331, 3) := by decide +kernel
theorem dX12_heights_38 : decode cX12_heights 38 = .ok (.iload_n 2, 1) := by decide +kernel
theorem dX12_heights_39 : decode cX12_heights 39 = .ok (.iaload, 1) := by decide +kernel
theorem dX12_heights_40 : decode cX12_heights 40 = .ok (.iconst 1, 1) := by decide +kernel
theorem dX12_heights_41 : decode cX12_heights 41 = .ok (.iastore, 1) := by decide +kernel
theorem dX12_heights_42 : decode cX12_heights 42 = .ok (.iconst 1, 1) := by decide +kernel
theorem dX12_heights_43 : decode cX12_heights 43 = .ok (.istore_n 3, 1) := by decide +kernel
theorem dX12_heights_44 : decode cX12_heights 44 = .ok (.iload_n 3, 1) := by decide +kernel
theorem dX12_heights_45 : decode cX12_heights 45 = .ok (.ifCond .eq 179, 3) := by decide +kernel
theorem dX12_heights_48 : decode cX12_heights 48 = .ok (.iconst 0, 1) := by decide +kernel
theorem dX12_heights_49 : decode cX12_heights 49 = .ok (.istore_n 3, 1) := by decide +kernel
theorem dX12_heights_50 : decode cX12_heights 50 = .ok (.aload_n 1, 1) := by decide +kernel
theorem dX12_heights_51 : decode cX12_heights 51 = .ok (.getfield 331, 3) := by decide +kernel
theorem dX12_heights_54 : decode cX12_heights 54 = .ok (.iload_n 2, 1) := by decide +kernel
theorem dX12_heights_55 : decode cX12_heights 55 = .ok (.iaload, 1) := by decide +kernel
theorem dX12_heights_56 : decode cX12_heights 56 = .ok (.istore 4, 2) := by decide +kernel
theorem dX12_heights_58 : decode cX12_heights 58 = .ok (.iload 4, 2) := by decide +kernel
theorem dX12_heights_60 : decode cX12_heights 60 = .ok (.aload_n 1, 1) := by decide +kernel
theorem dX12_heights_61 : decode cX12_heights 61 = .ok (.getfield 340, 3) := by decide +kernel
theorem dX12_heights_64 : decode cX12_heights 64 = .ok (.iload_n 2, 1) := by decide +kernel
theorem dX12_heights_65 : decode cX12_heights 65 = .ok (.iaload, 1) := by decide +kernel
theorem dX12_heights_66 : decode cX12_heights 66 = .ok (.if_icmp .ge 155, 3) := by decide +kernel
theorem dX12_heights_69 : decode cX12_heights 69 = .ok (.aload_n 0, 1) := by decide +kernel
theorem dX12_heights_70 : decode cX12_heights 70 = .ok (.aload_n 1, 1) := by decide +kernel
theorem dX12_heights_71 : decode cX12_heights 71 = .ok (.iload 4, 2) := by decide +kernel
theorem dX12_heights_73 : decode cX12_heights 73 = .ok (.invokevirtual 409, 3) := by decide +kernel
theorem dX12_heights_76 : decode cX12_heights 76 = .ok (.istore 5, 2) := by decide +kernel
theorem dX12_heights_78 : decode cX12_heights 78 = .ok (.iload 5, 2) := by decide +kernel
theorem dX12_heights_80 : decode cX12_heights 80 = .ok (.ifCond .ne 6, 3) := by decide +kernel
theorem dX12_heights_83 : decode cX12_heights 83 = .ok (.goto 132, 3) := by decide +kernel
theorem dX12_heights_86 : decode cX12_heights 86 = .ok (.aload_n 1, 1) := by decide +kernel
theorem dX12_heights_87 : decode cX12_heights 87 = .ok (.getfield 353, 3) := by decide +kernel
theorem dX12_heights_90 : decode cX12_heights 90 = .ok (.iload 4, 2) := by decide +kernel
theorem dX12_heights_92 : decode cX12_heights 92 = .ok (.iaload, 1) := by decide +kernel
theorem dX12_heights_93 : decode cX12_heights 93 = .ok (.invokestatic 412, 3) := by decide +kernel
theorem dX12_heights_96 : decode cX12_heights 96 = .ok (.ifCond .eq 26, 3) := by decide +kernel
theorem dX12_heights_99 : decode cX12_heights 99 = .ok (.aload_n 0, 1) := by decide +kernel
theorem dX12_heights_100 : decode cX12_heights 100 = .ok (.iload 4, 2) := by decide +kernel
theorem dX12_heights_102 : decode cX12_heights 102 = .ok (.iconst 1, 1) := by decide +kernel
theorem dX12_heights_103 : decode cX12_heights 103 = .ok (.iadd, 1) := by decide +kernel
theorem dX12_heights_104 : decode cX12_heights 104 = .ok (.iload 5, 2) := by decide +kernel
theorem dX12_heights_106 : decode cX12_heights 106 = .ok (.invokevirtual 415, 3) := by decide +kernel
theorem dX12_heights_109 : decode cX12_heights 109 = .ok (.ifCond .ne 7, 3) := by decide +kernel
theorem dX12_heights_112 : decode cX12_heights 112 = .ok (.iload_n 3, 1) := by decide +kernel
theorem dX12_heights_113 : decode cX12_heights 113 = .ok (.ifCond .eq 7, 3) := by decide +kernel
theorem dX12_heights_116 : decode cX12_heights 116 = .ok (.iconst 1, 1) := by decide +kernel
theorem dX12_heights_117 : decode cX12_heights 117 = .ok (.goto 4, 3) := by decide +kernel
theorem dX12_heights_120 : decode cX12_heights 120 = .ok (.iconst 0, 1) := by decide +kernel
theorem dX12_heights_121 : decode cX12_heights 121 = .ok (.istore_n 3, 1) := by decide +kernel
theorem dX12_heights_122 : decode cX12_heights 122 = .ok (.aload_n 1, 1) := by decide +kernel
theorem dX12_heights_123 : decode cX12_heights 123 = .ok (.getfield 353, 3) := by decide +kernel
theorem dX12_heights_126 : decode cX12_heights 126 = .ok (.iload 4, 2) := by decide +kernel
theorem dX12_heights_128 : decode cX12_heights 128 = .ok (.iaload, 1) := by decide +kernel
theorem dX12_heights_129 : decode cX12_heights 129 = .ok (.invokestatic 418, 3) := by decide +kernel
theorem dX12_heights_132 : decode cX12_heights 132 = .ok (.ifCond .eq 29, 3) := by decide +kernel
theorem dX12_heights_135 : decode cX12_heights 135 = .ok (.aload_n 0, 1) := by decide +kernel
theorem dX12_heights_136 : decode cX12_heights 136 = .ok (.aload_n 1, 1) := by decide +kernel
theorem dX12_heights_137 : decode cX12_heights 137 = .ok (.getfield 376, 3) := by decide +kernel
theorem dX12_heights_140 : decode cX12_heights 140 = .ok (.iload 4, 2) := by decide +kernel
theorem dX12_heights_142 : decode cX12_heights 142 = .ok (.iaload, 1) := by decide +kernel
theorem dX12_heights_143 : decode cX12_heights 143 = .ok (.iload 5, 2) := by decide +kernel
theorem dX12_heights_145 : decode cX12_heights 145 = .ok (.invokevirtual 415, 3) := by decide +kernel
theorem dX12_heights_148 : decode cX12_heights 148 = .ok (.ifCond .ne 7, 3) := by decide +kernel
theorem dX12_heights_151 : decode cX12_heights 151 = .ok (.iload_n 3, 1) := by decide +kernel
theorem dX12_heights_152 : decode cX12_heights 152 = .ok (.ifCond .eq 7, 3) := by decide +kernel
theorem dX12_heights_155 : decode cX12_heights 155 = .ok (.iconst 1, 1) := by decide +kernel
theorem dX12_heights_156 : decode cX12_heights 156 = .ok (.goto 4, 3) := by decide +kernel
theorem dX12_heights_159 : decode cX12_heights 159 = .ok (.iconst 0, 1) := by decide +kernel
theorem dX12_heights_160 : decode cX12_heights 160 = .ok (.istore_n 3, 1) := by decide +kernel
theorem dX12_heights_161 : decode cX12_heights 161 = .ok (.iconst 0, 1) := by decide +kernel
theorem dX12_heights_162 : decode cX12_heights 162 = .ok (.istore 6, 2) := by decide +kernel
theorem dX12_heights_164 : decode cX12_heights 164 = .ok (.iload 6, 2) := by decide +kernel
theorem dX12_heights_166 : decode cX12_heights 166 = .ok (.aload_n 1, 1) := by decide +kernel
theorem dX12_heights_167 : decode cX12_heights 167 = .ok (.getfield 324, 3) := by decide +kernel
theorem dX12_heights_170 : decode cX12_heights 170 = .ok (.if_icmp .ge 45, 3) := by decide +kernel
theorem dX12_heights_173 : decode cX12_heights 173 = .ok (.aload_n 1, 1) := by decide +kernel
theorem dX12_heights_174 : decode cX12_heights 174 = .ok (.iload 6, 2) := by decide +kernel
theorem dX12_heights_176 : decode cX12_heights 176 = .ok (.iload 4, 2) := by decide +kernel
theorem dX12_heights_178 : decode cX12_heights 178 = .ok (.invokestatic 421, 3) := by decide +kernel
theorem dX12_heights_181 : decode cX12_heights 181 = .ok (.ifCond .eq 28, 3) := by decide +kernel
theorem dX12_heights_184 : decode cX12_heights 184 = .ok (.aload_n 0, 1) := by decide +kernel
theorem dX12_heights_185 : decode cX12_heights 185 = .ok (.aload_n 1, 1) := by decide +kernel
theorem dX12_heights_186 : decode cX12_heights 186 = .ok (.getfield 368, 3) := by decide +kernel
theorem dX12_heights_189 : decode cX12_heights 189 = .ok (.iload 6, 2) := by decide +kernel
theorem dX12_heights_191 : decode cX12_heights 191 = .ok (.iaload, 1) := by decide +kernel
theorem dX12_heights_192 : decode cX12_heights 192 = .ok (.iconst 2, 1) := by decide +kernel
theorem dX12_heights_193 : decode cX12_heights 193 = .ok (.invokevirtual 415, 3) := by decide +kernel
theorem dX12_heights_196 : decode cX12_heights 196 = .ok (.ifCond .ne 7, 3) := by decide +kernel
theorem dX12_heights_199 : decode cX12_heights 199 = .ok (.iload_n 3, 1) := by decide +kernel
theorem dX12_heights_200 : decode cX12_heights 200 = .ok (.ifCond .eq 7, 3) := by decide +kernel
theorem dX12_heights_203 : decode cX12_heights 203 = .ok (.iconst 1, 1) := by decide +kernel
theorem dX12_heights_204 : decode cX12_heights 204 = .ok (.goto 4, 3) := by decide +kernel
theorem dX12_heights_207 : decode cX12_heights 207 = .ok (.iconst 0, 1) := by decide +kernel
theorem dX12_heights_208 : decode cX12_heights 208 = .ok (.istore_n 3, 1) := by decide +kernel
theorem dX12_heights_209 : decode cX12_heights 209 = .ok (.iinc 6 1, 3) := by decide +kernel
theorem dX12_heights_212 : decode cX12_heights 212 = .ok (.goto (-48), 3) := by decide +kernel
theorem dX12_heights_215 : decode cX12_heights 215 = .ok (.iinc 4 1, 3) := by decide +kernel
theorem dX12_heights_218 : decode cX12_heights 218 = .ok (.goto (-160), 3) := by decide +kernel
theorem dX12_heights_221 : decode cX12_heights 221 = .ok (.goto (-177), 3) := by decide +kernel
theorem dX12_heights_224 : decode cX12_heights 224 = .ok (.aload_n 1, 1) := by decide +kernel
theorem dX12_heights_225 : decode cX12_heights 225 = .ok (.getfield 331, 3) := by decide +kernel
theorem dX12_heights_228 : decode cX12_heights 228 = .ok (.iload_n 2, 1) := by decide +kernel
theorem dX12_heights_229 : decode cX12_heights 229 = .ok (.iaload, 1) := by decide +kernel
theorem dX12_heights_230 : decode cX12_heights 230 = .ok (.istore 4, 2) := by decide +kernel
theorem dX12_heights_232 : decode cX12_heights 232 = .ok (.iload 4, 2) := by decide +kernel
theorem dX12_heights_234 : decode cX12_heights 234 = .ok (.aload_n 1, 1) := by decide +kernel
theorem dX12_heights_235 : decode cX12_heights 235 = .ok (.getfield 340, 3) := by decide +kernel
theorem dX12_heights_238 : decode cX12_heights 238 = .ok (.iload_n 2, 1) := by decide +kernel
theorem dX12_heights_239 : decode cX12_heights 239 = .ok (.iaload, 1) := by decide +kernel
theorem dX12_heights_240 : decode cX12_heights 240 = .ok (.if_icmp .ge 97, 3) := by decide +kernel
theorem dX12_heights_243 : decode cX12_heights 243 = .ok (.aload_n 0, 1) := by decide +kernel
theorem dX12_heights_244 : decode cX12_heights 244 = .ok (.getfield 58, 3) := by decide +kernel
theorem dX12_heights_247 : decode cX12_heights 247 = .ok (.iload 4, 2) := by decide +kernel
theorem dX12_heights_249 : decode cX12_heights 249 = .ok (.iaload, 1) := by decide +kernel
theorem dX12_heights_250 : decode cX12_heights 250 = .ok (.istore 5, 2) := by decide +kernel
theorem dX12_heights_252 : decode cX12_heights 252 = .ok (.iload 5, 2) := by decide +kernel
theorem dX12_heights_254 : decode cX12_heights 254 = .ok (.iload 5, 2) := by decide +kernel
theorem dX12_heights_256 : decode cX12_heights 256 = .ok (.iconst 1, 1) := by decide +kernel
theorem dX12_heights_257 : decode cX12_heights 257 = .ok (.isub, 1) := by decide +kernel
theorem dX12_heights_258 : decode cX12_heights 258 = .ok (.iand, 1) := by decide +kernel
theorem dX12_heights_259 : decode cX12_heights 259 = .ok (.ifCond .ne 18, 3) := by decide +kernel
theorem dX12_heights_262 : decode cX12_heights 262 = .ok (.iload 5, 2) := by decide +kernel
theorem dX12_heights_264 : decode cX12_heights 264 = .ok (.ifCond .eq 25, 3) := by decide +kernel
theorem dX12_heights_267 : decode cX12_heights 267 = .ok (.aload_n 0, 1) := by decide +kernel
theorem dX12_heights_268 : decode cX12_heights 268 = .ok (.aload_n 1, 1) := by decide +kernel
theorem dX12_heights_269 : decode cX12_heights 269 = .ok (.iload 4, 2) := by decide +kernel
theorem dX12_heights_271 : decode cX12_heights 271 = .ok (.invokevirtual 409, 3) := by decide +kernel
theorem dX12_heights_274 : decode cX12_heights 274 = .ok (.ifCond .ne 15, 3) := by decide +kernel
theorem dX12_heights_277 : decode cX12_heights 277 = .ok (.aload_n 0, 1) := by decide +kernel
theorem dX12_heights_278 : decode cX12_heights 278 = .ok (.aload_n 0, 1) := by decide +kernel
theorem dX12_heights_279 : decode cX12_heights 279 = .ok (.getfield 55, 3) := by decide +kernel
theorem dX12_heights_282 : decode cX12_heights 282 = .ok (.iload 4, 2) := by decide +kernel
theorem dX12_heights_284 : decode cX12_heights 284 = .ok (.iaload, 1) := by decide +kernel
theorem dX12_heights_285 : decode cX12_heights 285 = .ok (.invokevirtual 254, 3) := by decide +kernel
theorem dX12_heights_288 : decode cX12_heights 288 = .ok (.ireturn, 1) := by decide +kernel
theorem dX12_heights_289 : decode cX12_heights 289 = .ok (.aload_n 1, 1) := by decide +kernel
theorem dX12_heights_290 : decode cX12_heights 290 = .ok (.getfield 424, 3) := by decide +kernel
theorem dX12_heights_293 : decode cX12_heights 293 = .ok (.iload 4, 2) := by decide +kernel
theorem dX12_heights_295 : decode cX12_heights 295 = .ok (.iconst (-1), 1) := by decide +kernel
theorem dX12_heights_296 : decode cX12_heights 296 = .ok (.iastore, 1) := by decide +kernel
theorem dX12_heights_297 : decode cX12_heights 297 = .ok (.iconst 0, 1) := by decide +kernel
theorem dX12_heights_298 : decode cX12_heights 298 = .ok (.istore 6, 2) := by decide +kernel
theorem dX12_heights_300 : decode cX12_heights 300 = .ok (.iload 6, 2) := by decide +kernel
theorem dX12_heights_302 : decode cX12_heights 302 = .ok (.bipush 8, 2) := by decide +kernel
theorem dX12_heights_304 : decode cX12_heights 304 = .ok (.if_icmp .gt 27, 3) := by decide +kernel
theorem dX12_heights_307 : decode cX12_heights 307 = .ok (.iload 5, 2) := by decide +kernel
theorem dX12_heights_309 : decode cX12_heights 309 = .ok (.iconst 1, 1) := by decide +kernel
theorem dX12_heights_310 : decode cX12_heights 310 = .ok (.iload 6, 2) := by decide +kernel
theorem dX12_heights_312 : decode cX12_heights 312 = .ok (.ishl, 1) := by decide +kernel
theorem dX12_heights_313 : decode cX12_heights 313 = .ok (.if_icmp .ne 12, 3) := by decide +kernel
theorem dX12_heights_316 : decode cX12_heights 316 = .ok (.aload_n 1, 1) := by decide +kernel
theorem dX12_heights_317 : decode cX12_heights 317 = .ok (.getfield 424, 3) := by decide +kernel
theorem dX12_heights_320 : decode cX12_heights 320 = .ok (.iload 4, 2) := by decide +kernel
theorem dX12_heights_322 : decode cX12_heights 322 = .ok (.iload 6, 2) := by decide +kernel
theorem dX12_heights_324 : decode cX12_heights 324 = .ok (.iastore, 1) := by decide +kernel
theorem dX12_heights_325 : decode cX12_heights 325 = .ok (.iinc 6 1, 3) := by decide +kernel
theorem dX12_heights_328 : decode cX12_heights 328 = .ok (.goto (-28), 3) := by decide +kernel
theorem dX12_heights_331 : decode cX12_heights 331 = .ok (.iinc 4 1, 3) := by decide +kernel
theorem dX12_heights_334 : decode cX12_heights 334 = .ok (.goto (-102), 3) := by decide +kernel
theorem dX12_heights_337 : decode cX12_heights 337 = .ok (.iconst 1, 1) := by decide +kernel
theorem dX12_heights_338 : decode cX12_heights 338 = .ok (.ireturn, 1) := by decide +kernel
theorem dX12_added_0 : decode cX12_added 0 = .ok (.aload_n 0, 1) := by decide +kernel
theorem dX12_added_1 : decode cX12_added 1 = .ok (.getfield 58, 3) := by decide +kernel
theorem dX12_added_4 : decode cX12_added 4 = .ok (.iload_n 1, 1) := by decide +kernel
theorem dX12_added_5 : decode cX12_added 5 = .ok (.iaload, 1) := by decide +kernel
theorem dX12_added_6 : decode cX12_added 6 = .ok (.iload_n 2, 1) := by decide +kernel
theorem dX12_added_7 : decode cX12_added 7 = .ok (.ior, 1) := by decide +kernel
theorem dX12_added_8 : decode cX12_added 8 = .ok (.aload_n 0, 1) := by decide +kernel
theorem dX12_added_9 : decode cX12_added 9 = .ok (.getfield 58, 3) := by decide +kernel
theorem dX12_added_12 : decode cX12_added 12 = .ok (.iload_n 1, 1) := by decide +kernel
theorem dX12_added_13 : decode cX12_added 13 = .ok (.iaload, 1) := by decide +kernel
theorem dX12_added_14 : decode cX12_added 14 = .ok (.if_icmp .eq 7, 3) := by decide +kernel
theorem dX12_added_17 : decode cX12_added 17 = .ok (.iconst 1, 1) := by decide +kernel
theorem dX12_added_18 : decode cX12_added 18 = .ok (.goto 4, 3) := by decide +kernel
theorem dX12_added_21 : decode cX12_added 21 = .ok (.iconst 0, 1) := by decide +kernel
theorem dX12_added_22 : decode cX12_added 22 = .ok (.istore_n 3, 1) := by decide +kernel
theorem dX12_added_23 : decode cX12_added 23 = .ok (.aload_n 0, 1) := by decide +kernel
theorem dX12_added_24 : decode cX12_added 24 = .ok (.getfield 58, 3) := by decide +kernel
theorem dX12_added_27 : decode cX12_added 27 = .ok (.iload_n 1, 1) := by decide +kernel
theorem dX12_added_28 : decode cX12_added 28 = .ok (.dup2, 1) := by decide +kernel
theorem dX12_added_29 : decode cX12_added 29 = .ok (.iaload, 1) := by decide +kernel
theorem dX12_added_30 : decode cX12_added 30 = .ok (.iload_n 2, 1) := by decide +kernel
theorem dX12_added_31 : decode cX12_added 31 = .ok (.ior, 1) := by decide +kernel
theorem dX12_added_32 : decode cX12_added 32 = .ok (.iastore, 1) := by decide +kernel
theorem dX12_added_33 : decode cX12_added 33 = .ok (.iload_n 3, 1) := by decide +kernel
theorem dX12_added_34 : decode cX12_added 34 = .ok (.ireturn, 1) := by decide +kernel
theorem dX12_goodHeights_0 : decode cX12_goodHeights 0 = .ok (.iconst 0, 1) := by decide +kernel
theorem dX12_goodHeights_1 : decode cX12_goodHeights 1 = .ok (.istore_n 3, 1) := by decide +kernel
theorem dX12_goodHeights_2 : decode cX12_goodHeights 2 = .ok (.iconst 0, 1) := by decide +kernel
theorem dX12_goodHeights_3 : decode cX12_goodHeights 3 = .ok (.istore 4, 2) := by decide +kernel
theorem dX12_goodHeights_5 : decode cX12_goodHeights 5 = .ok (.iload 4, 2) := by decide +kernel
theorem dX12_goodHeights_7 : decode cX12_goodHeights 7 = .ok (.bipush 8, 2) := by decide +kernel
theorem dX12_goodHeights_9 : decode cX12_goodHeights 9 = .ok (.if_icmp .gt 65, 3) := by decide +kernel
theorem dX12_goodHeights_12 : decode cX12_goodHeights 12 = .ok (.iload 4, 2) := by decide +kernel
theorem dX12_goodHeights_14 : decode cX12_goodHeights 14 = .ok (.aload_n 1, 1) := by decide +kernel
theorem dX12_goodHeights_15 : decode cX12_goodHeights 15 = .ok (.iload_n 2, 1) := by decide +kernel
theorem dX12_goodHeights_16 : decode cX12_goodHeights 16 = .ok (.invokestatic 427, 3) := by decide +kernel
theorem dX12_goodHeights_19 : decode cX12_goodHeights 19 = .ok (.isub, 1) := by decide +kernel
theorem dX12_goodHeights_20 : decode cX12_goodHeights 20 = .ok (.istore 5, 2) := by decide +kernel
theorem dX12_goodHeights_22 : decode cX12_goodHeights 22 = .ok (.aload_n 0, 1) := by decide +kernel
theorem dX12_goodHeights_23 : decode cX12_goodHeights 23 = .ok (.getfield 58, 3) := by decide +kernel
theorem dX12_goodHeights_26 : decode cX12_goodHeights 26 = .ok (.iload_n 2, 1) := by decide +kernel
theorem dX12_goodHeights_27 : decode cX12_goodHeights 27 = .ok (.iaload, 1) := by decide +kernel
theorem dX12_goodHeights_28 : decode cX12_goodHeights 28 = .ok (.iload 4, 2) := by decide +kernel
theorem dX12_goodHeights_30 : decode cX12_goodHeights 30 = .ok (.ishr, 1) := by decide +kernel
theorem dX12_goodHeights_31 : decode cX12_goodHeights 31 = .ok (.iconst 1, 1) := by decide +kernel
theorem dX12_goodHeights_32 : decode cX12_goodHeights 32 = .ok (.iand, 1) := by decide +kernel
theorem dX12_goodHeights_33 : decode cX12_goodHeights 33 = .ok (.iconst 1, 1) := by decide +kernel
theorem dX12_goodHeights_34 : decode cX12_goodHeights 34 = .ok (.if_icmp .ne 34, 3) := by decide +kernel
theorem dX12_goodHeights_37 : decode cX12_goodHeights 37 = .ok (.iload 5, 2) := by decide +kernel
theorem dX12_goodHeights_39 : decode cX12_goodHeights 39 = .ok (.ifCond .lt 29, 3) := by decide +kernel
theorem dX12_goodHeights_42 : decode cX12_goodHeights 42 = .ok (.iload 5, 2) := by decide +kernel
theorem dX12_goodHeights_44 : decode cX12_goodHeights 44 = .ok (.aload_n 1, 1) := by decide +kernel
theorem dX12_goodHeights_45 : decode cX12_goodHeights 45 = .ok (.iload_n 2, 1) := by decide +kernel
theorem dX12_goodHeights_46 : decode cX12_goodHeights 46 = .ok (.invokestatic 430, 3) := by decide +kernel
theorem dX12_goodHeights_49 : decode cX12_goodHeights 49 = .ok (.iadd, 1) := by decide +kernel
theorem dX12_goodHeights_50 : decode cX12_goodHeights 50 = .ok (.bipush 8, 2) := by decide +kernel
theorem dX12_goodHeights_52 : decode cX12_goodHeights 52 = .ok (.if_icmp .gt 16, 3) := by decide +kernel
theorem dX12_goodHeights_55 : decode cX12_goodHeights 55 = .ok (.iload_n 3, 1) := by decide +kernel
theorem dX12_goodHeights_56 : decode cX12_goodHeights 56 = .ok (.iconst 1, 1) := by decide +kernel
theorem dX12_goodHeights_57 : decode cX12_goodHeights 57 = .ok (.iload 5, 2) := by decide +kernel
theorem dX12_goodHeights_59 : decode cX12_goodHeights 59 = .ok (.aload_n 1, 1) := by decide +kernel
theorem dX12_goodHeights_60 : decode cX12_goodHeights 60 = .ok (.iload_n 2, 1) := by decide +kernel
theorem dX12_goodHeights_61 : decode cX12_goodHeights 61 = .ok (.invokestatic 430, 3) := by decide +kernel
theorem dX12_goodHeights_64 : decode cX12_goodHeights 64 = .ok (.iadd, 1) := by decide +kernel
theorem dX12_goodHeights_65 : decode cX12_goodHeights 65 = .ok (.ishl, 1) := by decide +kernel
theorem dX12_goodHeights_66 : decode cX12_goodHeights 66 = .ok (.ior, 1) := by decide +kernel
theorem dX12_goodHeights_67 : decode cX12_goodHeights 67 = .ok (.istore_n 3, 1) := by decide +kernel
theorem dX12_goodHeights_68 : decode cX12_goodHeights 68 = .ok (.iinc 4 1, 3) := by decide +kernel
theorem dX12_goodHeights_71 : decode cX12_goodHeights 71 = .ok (.goto (-66), 3) := by decide +kernel
theorem dX12_goodHeights_74 : decode cX12_goodHeights 74 = .ok (.iload_n 3, 1) := by decide +kernel
theorem dX12_goodHeights_75 : decode cX12_goodHeights 75 = .ok (.ireturn, 1) := by decide +kernel
theorem dX12_isClass_0 : decode cX12_isClass 0 = .ok (.iload_n 0, 1) := by decide +kernel
theorem dX12_isClass_1 : decode cX12_isClass 1 = .ok (.bipush 8, 2) := by decide +kernel
theorem dX12_isClass_3 : decode cX12_isClass 3 = .ok (.if_icmp .lt 13, 3) := by decide +kernel
theorem dX12_isClass_6 : decode cX12_isClass 6 = .ok (.iload_n 0, 1) := by decide +kernel
theorem dX12_isClass_7 : decode cX12_isClass 7 = .ok (.bipush 40, 2) := by decide +kernel
theorem dX12_isClass_9 : decode cX12_isClass 9 = .ok (.if_icmp .ge 7, 3) := by decide +kernel
theorem dX12_isClass_12 : decode cX12_isClass 12 = .ok (.iconst 1, 1) := by decide +kernel
theorem dX12_isClass_13 : decode cX12_isClass 13 = .ok (.goto 4, 3) := by decide +kernel
theorem dX12_isClass_16 : decode cX12_isClass 16 = .ok (.iconst 0, 1) := by decide +kernel
theorem dX12_isClass_17 : decode cX12_isClass 17 = .ok (.ireturn, 1) := by decide +kernel
theorem dX12_isArrayType_0 : decode cX12_isArrayType 0 = .ok (.iload_n 0, 1) := by decide +kernel
theorem dX12_isArrayType_1 : decode cX12_isArrayType 1 = .ok (.bipush 40, 2) := by decide +kernel
theorem dX12_isArrayType_3 : decode cX12_isArrayType 3 = .ok (.if_icmp .lt 7, 3) := by decide +kernel
theorem dX12_isArrayType_6 : decode cX12_isArrayType 6 = .ok (.iconst 1, 1) := by decide +kernel
theorem dX12_isArrayType_7 : decode cX12_isArrayType 7 = .ok (.goto 4, 3) := by decide +kernel
theorem dX12_isArrayType_10 : decode cX12_isArrayType 10 = .ok (.iconst 0, 1) := by decide +kernel
theorem dX12_isArrayType_11 : decode cX12_isArrayType 11 = .ok (.ireturn, 1) := by decide +kernel
theorem dX12_isReferenceType_0 : decode cX12_isReferenceType 0 = .ok (.iload_n 0, 1) := by decide +kernel
theorem dX12_isReferenceType_1 : decode cX12_isReferenceType 1 = .ok (.iconst 1, 1) := by decide +kernel
theorem dX12_isReferenceType_2 : decode cX12_isReferenceType 2 = .ok (.if_icmp .eq 9, 3) := by decide +kernel
theorem dX12_isReferenceType_5 : decode cX12_isReferenceType 5 = .ok (.iload_n 0, 1) := by decide +kernel
theorem dX12_isReferenceType_6 : decode cX12_isReferenceType 6 = .ok (.bipush 8, 2) := by decide +kernel
theorem dX12_isReferenceType_8 : decode cX12_isReferenceType 8 = .ok (.if_icmp .lt 7, 3) := by decide +kernel
theorem dX12_isReferenceType_11 : decode cX12_isReferenceType 11 = .ok (.iconst 1, 1) := by decide +kernel
theorem dX12_isReferenceType_12 : decode cX12_isReferenceType 12 = .ok (.goto 4, 3) := by decide +kernel
theorem dX12_isReferenceType_15 : decode cX12_isReferenceType 15 = .ok (.iconst 0, 1) := by decide +kernel
theorem dX12_isReferenceType_16 : decode cX12_isReferenceType 16 = .ok (.ireturn, 1) := by decide +kernel
theorem dX12_isBelow_0 : decode cX12_isBelow 0 = .ok (.iload_n 2, 1) := by decide +kernel
theorem dX12_isBelow_1 : decode cX12_isBelow 1 = .ok (.iconst 2, 1) := by decide +kernel
theorem dX12_isBelow_2 : decode cX12_isBelow 2 = .ok (.if_icmp .eq 8, 3) := by decide +kernel
theorem dX12_isBelow_5 : decode cX12_isBelow 5 = .ok (.iload_n 1, 1) := by decide +kernel
theorem dX12_isBelow_6 : decode cX12_isBelow 6 = .ok (.iload_n 2, 1) := by decide +kernel
theorem dX12_isBelow_7 : decode cX12_isBelow 7 = .ok (.if_icmp .ne 5, 3) := by decide +kernel
theorem dX12_isBelow_10 : decode cX12_isBelow 10 = .ok (.iconst 1, 1) := by decide +kernel
theorem dX12_isBelow_11 : decode cX12_isBelow 11 = .ok (.ireturn, 1) := by decide +kernel
theorem dX12_isBelow_12 : decode cX12_isBelow 12 = .ok (.iload_n 1, 1) := by decide +kernel
theorem dX12_isBelow_13 : decode cX12_isBelow 13 = .ok (.iconst 2, 1) := by decide +kernel
theorem dX12_isBelow_14 : decode cX12_isBelow 14 = .ok (.if_icmp .eq 16, 3) := by decide +kernel
theorem dX12_isBelow_17 : decode cX12_isBelow 17 = .ok (.iload_n 1, 1) := by decide +kernel
theorem dX12_isBelow_18 : decode cX12_isBelow 18 = .ok (.ifCond .eq 12, 3) := by decide +kernel
theorem dX12_isBelow_21 : decode cX12_isBelow 21 = .ok (.iload_n 2, 1) := by decide +kernel
theorem dX12_isBelow_22 : decode cX12_isBelow 22 = .ok (.ifCond .eq 8, 3) := by decide +kernel
theorem dX12_isBelow_25 : decode cX12_isBelow 25 = .ok (.iload_n 2, 1) := by decide +kernel
theorem dX12_isBelow_26 : decode cX12_isBelow 26 = .ok (.iconst 1, 1) := by decide +kernel
theorem dX12_isBelow_27 : decode cX12_isBelow 27 = .ok (.if_icmp .ne 5, 3) := by decide +kernel
theorem dX12_isBelow_30 : decode cX12_isBelow 30 = .ok (.iconst 0, 1) := by decide +kernel
theorem dX12_isBelow_31 : decode cX12_isBelow 31 = .ok (.ireturn, 1) := by decide +kernel
theorem dX12_isBelow_32 : decode cX12_isBelow 32 = .ok (.iload_n 1, 1) := by decide +kernel
theorem dX12_isBelow_33 : decode cX12_isBelow 33 = .ok (.iconst 1, 1) := by decide +kernel
theorem dX12_isBelow_34 : decode cX12_isBelow 34 = .ok (.if_icmp .eq 9, 3) := by decide +kernel
theorem dX12_isBelow_37 : decode cX12_isBelow 37 = .ok (.iload_n 2, 1) := by decide +kernel
theorem dX12_isBelow_38 : decode cX12_isBelow 38 = .ok (.bipush 8, 2) := by decide +kernel
theorem dX12_isBelow_40 : decode cX12_isBelow 40 = .ok (.if_icmp .ne 5, 3) := by decide +kernel
theorem dX12_isBelow_43 : decode cX12_isBelow 43 = .ok (.iconst 1, 1) := by decide +kernel
theorem dX12_isBelow_44 : decode cX12_isBelow 44 = .ok (.ireturn, 1) := by decide +kernel
theorem dX12_isBelow_45 : decode cX12_isBelow 45 = .ok (.iload_n 1, 1) := by decide +kernel
theorem dX12_isBelow_46 : decode cX12_isBelow 46 = .ok (.invokestatic 433, 3) := by decide +kernel
theorem dX12_isBelow_49 : decode cX12_isBelow 49 = .ok (.ifCond .eq 31, 3) := by decide +kernel
theorem dX12_isBelow_52 : decode cX12_isBelow 52 = .ok (.iload_n 2, 1) := by decide +kernel
theorem dX12_isBelow_53 : decode cX12_isBelow 53 = .ok (.invokestatic 433, 3) := by decide +kernel
theorem dX12_isBelow_56 : decode cX12_isBelow 56 = .ok (.ifCond .eq 22, 3) := by decide +kernel
theorem dX12_isBelow_59 : decode cX12_isBelow 59 = .ok (.aload_n 0, 1) := by decide +kernel
theorem dX12_isBelow_60 : decode cX12_isBelow 60 = .ok (.iload_n 1, 1) := by decide +kernel
theorem dX12_isBelow_61 : decode cX12_isBelow 61 = .ok (.bipush 8, 2) := by decide +kernel
theorem dX12_isBelow_63 : decode cX12_isBelow 63 = .ok (.isub, 1) := by decide +kernel
theorem dX12_isBelow_64 : decode cX12_isBelow 64 = .ok (.iload_n 2, 1) := by decide +kernel
theorem dX12_isBelow_65 : decode cX12_isBelow 65 = .ok (.bipush 8, 2) := by decide +kernel
theorem dX12_isBelow_67 : decode cX12_isBelow 67 = .ok (.isub, 1) := by decide +kernel
theorem dX12_isBelow_68 : decode cX12_isBelow 68 = .ok (.invokestatic 263, 3) := by decide +kernel
theorem dX12_isBelow_71 : decode cX12_isBelow 71 = .ok (.ifCond .eq 7, 3) := by decide +kernel
theorem dX12_isBelow_74 : decode cX12_isBelow 74 = .ok (.iconst 1, 1) := by decide +kernel
theorem dX12_isBelow_75 : decode cX12_isBelow 75 = .ok (.goto 4, 3) := by decide +kernel
theorem dX12_isBelow_78 : decode cX12_isBelow 78 = .ok (.iconst 0, 1) := by decide +kernel
theorem dX12_isBelow_79 : decode cX12_isBelow 79 = .ok (.ireturn, 1) := by decide +kernel
theorem dX12_isBelow_80 : decode cX12_isBelow 80 = .ok (.iload_n 1, 1) := by decide +kernel
theorem dX12_isBelow_81 : decode cX12_isBelow 81 = .ok (.bipush 48, 2) := by decide +kernel
theorem dX12_isBelow_83 : decode cX12_isBelow 83 = .ok (.if_icmp .lt 28, 3) := by decide +kernel
theorem dX12_isBelow_86 : decode cX12_isBelow 86 = .ok (.iload_n 2, 1) := by decide +kernel
theorem dX12_isBelow_87 : decode cX12_isBelow 87 = .ok (.bipush 48, 2) := by decide +kernel
theorem dX12_isBelow_89 : decode cX12_isBelow 89 = .ok (.if_icmp .lt 22, 3) := by decide +kernel
theorem dX12_isBelow_92 : decode cX12_isBelow 92 = .ok (.aload_n 0, 1) := by decide +kernel
theorem dX12_isBelow_93 : decode cX12_isBelow 93 = .ok (.iload_n 1, 1) := by decide +kernel
theorem dX12_isBelow_94 : decode cX12_isBelow 94 = .ok (.bipush 48, 2) := by decide +kernel
theorem dX12_isBelow_96 : decode cX12_isBelow 96 = .ok (.isub, 1) := by decide +kernel
theorem dX12_isBelow_97 : decode cX12_isBelow 97 = .ok (.iload_n 2, 1) := by decide +kernel
theorem dX12_isBelow_98 : decode cX12_isBelow 98 = .ok (.bipush 48, 2) := by decide +kernel
theorem dX12_isBelow_100 : decode cX12_isBelow 100 = .ok (.isub, 1) := by decide +kernel
theorem dX12_isBelow_101 : decode cX12_isBelow 101 = .ok (.invokestatic 263, 3) := by decide +kernel
theorem dX12_isBelow_104 : decode cX12_isBelow 104 = .ok (.ifCond .eq 7, 3) := by decide +kernel
theorem dX12_isBelow_107 : decode cX12_isBelow 107 = .ok (.iconst 1, 1) := by decide +kernel
theorem dX12_isBelow_108 : decode cX12_isBelow 108 = .ok (.goto 4, 3) := by decide +kernel
theorem dX12_isBelow_111 : decode cX12_isBelow 111 = .ok (.iconst 0, 1) := by decide +kernel
theorem dX12_isBelow_112 : decode cX12_isBelow 112 = .ok (.ireturn, 1) := by decide +kernel
theorem dX12_joined_0 : decode cX12_joined 0 = .ok (.aload_n 0, 1) := by decide +kernel
theorem dX12_joined_1 : decode cX12_joined 1 = .ok (.iload_n 1, 1) := by decide +kernel
theorem dX12_joined_2 : decode cX12_joined 2 = .ok (.iload_n 2, 1) := by decide +kernel
theorem dX12_joined_3 : decode cX12_joined 3 = .ok (.invokestatic 436, 3) := by decide +kernel
theorem dX12_joined_6 : decode cX12_joined 6 = .ok (.ifCond .eq 5, 3) := by decide +kernel
theorem dX12_joined_9 : decode cX12_joined 9 = .ok (.iload_n 2, 1) := by decide +kernel
theorem dX12_joined_10 : decode cX12_joined 10 = .ok (.ireturn, 1) := by decide +kernel
theorem dX12_joined_11 : decode cX12_joined 11 = .ok (.aload_n 0, 1) := by decide +kernel
theorem dX12_joined_12 : decode cX12_joined 12 = .ok (.iload_n 2, 1) := by decide +kernel
theorem dX12_joined_13 : decode cX12_joined 13 = .ok (.iload_n 1, 1) := by decide +kernel
theorem dX12_joined_14 : decode cX12_joined 14 = .ok (.invokestatic 436, 3) := by decide +kernel
theorem dX12_joined_17 : decode cX12_joined 17 = .ok (.ifCond .eq 5, 3) := by decide +kernel
theorem dX12_joined_20 : decode cX12_joined 20 = .ok (.iload_n 1, 1) := by decide +kernel
theorem dX12_joined_21 : decode cX12_joined 21 = .ok (.ireturn, 1) := by decide +kernel
theorem dX12_joined_22 : decode cX12_joined 22 = .ok (.iload_n 1, 1) := by decide +kernel
theorem dX12_joined_23 : decode cX12_joined 23 = .ok (.ifCond .eq 7, 3) := by decide +kernel
theorem dX12_joined_26 : decode cX12_joined 26 = .ok (.iload_n 2, 1) := by decide +kernel
theorem dX12_joined_27 : decode cX12_joined 27 = .ok (.ifCond .ne 5, 3) := by decide +kernel
theorem dX12_joined_30 : decode cX12_joined 30 = .ok (.iconst 2, 1) := by decide +kernel
theorem dX12_joined_31 : decode cX12_joined 31 = .ok (.ireturn, 1) := by decide +kernel
theorem dX12_joined_32 : decode cX12_joined 32 = .ok (.iload_n 1, 1) := by decide +kernel
theorem dX12_joined_33 : decode cX12_joined 33 = .ok (.invokestatic 433, 3) := by decide +kernel
theorem dX12_joined_36 : decode cX12_joined 36 = .ok (.ifCond .eq 14, 3) := by decide +kernel
theorem dX12_joined_39 : decode cX12_joined 39 = .ok (.iload_n 2, 1) := by decide +kernel
theorem dX12_joined_40 : decode cX12_joined 40 = .ok (.invokestatic 433, 3) := by decide +kernel
theorem dX12_joined_43 : decode cX12_joined 43 = .ok (.ifCond .eq 7, 3) := by decide +kernel
theorem dX12_joined_46 : decode cX12_joined 46 = .ok (.iconst 1, 1) := by decide +kernel
theorem dX12_joined_47 : decode cX12_joined 47 = .ok (.goto 4, 3) := by decide +kernel
theorem dX12_joined_50 : decode cX12_joined 50 = .ok (.iconst 0, 1) := by decide +kernel
theorem dX12_joined_51 : decode cX12_joined 51 = .ok (.istore_n 3, 1) := by decide +kernel
theorem dX12_joined_52 : decode cX12_joined 52 = .ok (.iload_n 1, 1) := by decide +kernel
theorem dX12_joined_53 : decode cX12_joined 53 = .ok (.bipush 48, 2) := by decide +kernel
theorem dX12_joined_55 : decode cX12_joined 55 = .ok (.if_icmp .lt 13, 3) := by decide +kernel
theorem dX12_joined_58 : decode cX12_joined 58 = .ok (.iload_n 2, 1) := by decide +kernel
theorem dX12_joined_59 : decode cX12_joined 59 = .ok (.bipush 48, 2) := by decide +kernel
theorem dX12_joined_61 : decode cX12_joined 61 = .ok (.if_icmp .lt 7, 3) := by decide +kernel
theorem dX12_joined_64 : decode cX12_joined 64 = .ok (.iconst 1, 1) := by decide +kernel
theorem dX12_joined_65 : decode cX12_joined 65 = .ok (.goto 4, 3) := by decide +kernel
theorem dX12_joined_68 : decode cX12_joined 68 = .ok (.iconst 0, 1) := by decide +kernel
theorem dX12_joined_69 : decode cX12_joined 69 = .ok (.istore 4, 2) := by decide +kernel
theorem dX12_joined_71 : decode cX12_joined 71 = .ok (.iload_n 3, 1) := by decide +kernel
theorem dX12_joined_72 : decode cX12_joined 72 = .ok (.ifCond .ne 11, 3) := by decide +kernel
theorem dX12_joined_75 : decode cX12_joined 75 = .ok (.iload 4, 2) := by decide +kernel
theorem dX12_joined_77 : decode cX12_joined 77 = .ok (.ifCond .ne 6, 3) := by decide +kernel
theorem dX12_joined_80 : decode cX12_joined 80 = .ok (.bipush 8, 2) := by decide +kernel
theorem dX12_joined_82 : decode cX12_joined 82 = .ok (.ireturn, 1) := by decide +kernel
theorem dX12_joined_83 : decode cX12_joined 83 = .ok (.iload_n 3, 1) := by decide +kernel
theorem dX12_joined_84 : decode cX12_joined 84 = .ok (.ifCond .eq 8, 3) := by decide +kernel
theorem dX12_joined_87 : decode cX12_joined 87 = .ok (.bipush 8, 2) := by decide +kernel
theorem dX12_joined_89 : decode cX12_joined 89 = .ok (.goto 5, 3) := by decide +kernel
theorem dX12_joined_92 : decode cX12_joined 92 = .ok (.bipush 48, 2) := by decide +kernel
theorem dX12_joined_94 : decode cX12_joined 94 = .ok (.istore 5, 2) := by decide +kernel
theorem dX12_joined_96 : decode cX12_joined 96 = .ok (.iload_n 1, 1) := by decide +kernel
theorem dX12_joined_97 : decode cX12_joined 97 = .ok (.iload 5, 2) := by decide +kernel
theorem dX12_joined_99 : decode cX12_joined 99 = .ok (.isub, 1) := by decide +kernel
theorem dX12_joined_100 : decode cX12_joined 100 = .ok (.istore 6, 2) := by decide +kernel
theorem dX12_joined_102 : decode cX12_joined 102 = .ok (.aload_n 0, 1) := by decide +kernel
theorem dX12_joined_103 : decode cX12_joined 103 = .ok (.iload_n 2, 1) := by decide +kernel
theorem dX12_joined_104 : decode cX12_joined 104 = .ok (.iload 5, 2) := by decide +kernel
theorem dX12_joined_106 : decode cX12_joined 106 = .ok (.isub, 1) := by decide +kernel
theorem dX12_joined_107 : decode cX12_joined 107 = .ok (.iload 6, 2) := by decide +kernel
theorem dX12_joined_109 : decode cX12_joined 109 = .ok (.invokestatic 263, 3) := by decide +kernel
theorem dX12_joined_112 : decode cX12_joined 112 = .ok (.ifCond .ne 15, 3) := by decide +kernel
theorem dX12_joined_115 : decode cX12_joined 115 = .ok (.aload_n 0, 1) := by decide +kernel
theorem dX12_joined_116 : decode cX12_joined 116 = .ok (.getfield 244, 3) := by decide +kernel
theorem dX12_joined_119 : decode cX12_joined 119 = .ok (.iload 6, 2) := by decide +kernel
