theorem dX6_decide_200 : decode cX6_decide 200 = .ok (.iconst 1, 1) := by decide +kernel
theorem dX6_decide_201 : decode cX6_decide 201 = .ok (.goto 4, 3) := by decide +kernel
theorem dX6_decide_204 : decode cX6_decide 204 = .ok (.iconst 0, 1) := by decide +kernel
theorem dX6_decide_205 : decode cX6_decide 205 = .ok (.istore 5, 2) := by decide +kernel
theorem dX6_decide_207 : decode cX6_decide 207 = .ok (.goto 20, 3) := by decide +kernel
theorem dX6_decide_210 : decode cX6_decide 210 = .ok (.iload_n 3, 1) := by decide +kernel
theorem dX6_decide_211 : decode cX6_decide 211 = .ok (.ifCond .eq 7, 3) := by decide +kernel
theorem dX6_decide_214 : decode cX6_decide 214 = .ok (.iconst 1, 1) := by decide +kernel
theorem dX6_decide_215 : decode cX6_decide 215 = .ok (.goto 4, 3) := by decide +kernel
theorem dX6_decide_218 : decode cX6_decide 218 = .ok (.iconst 0, 1) := by decide +kernel
theorem dX6_decide_219 : decode cX6_decide 219 = .ok (.istore 5, 2) := by decide +kernel
theorem dX6_decide_221 : decode cX6_decide 221 = .ok (.goto 6, 3) := by decide +kernel
theorem dX6_decide_224 : decode cX6_decide 224 = .ok (.iconst 1, 1) := by decide +kernel
theorem dX6_decide_225 : decode cX6_decide 225 = .ok (.istore 5, 2) := by decide +kernel
theorem dX6_decide_227 : decode cX6_decide 227 = .ok (.iload 5, 2) := by decide +kernel
theorem dX6_decide_229 : decode cX6_decide 229 = .ok (.ifCond .eq 13, 3) := by decide +kernel
theorem dX6_decide_232 : decode cX6_decide 232 = .ok (.aload_n 0, 1) := by decide +kernel
theorem dX6_decide_233 : decode cX6_decide 233 = .ok (.getfield 26, 3) := by decide +kernel
theorem dX6_decide_236 : decode cX6_decide 236 = .ok (.aload_n 0, 1) := by decide +kernel
theorem dX6_decide_237 : decode cX6_decide 237 = .ok (.getfield 77, 3) := by decide +kernel
theorem dX6_decide_240 : decode cX6_decide 240 = .ok (.iload_n 2, 1) := by decide +kernel
theorem dX6_decide_241 : decode cX6_decide 241 = .ok (.iastore, 1) := by decide +kernel
theorem dX6_decide_242 : decode cX6_decide 242 = .ok (.return_, 1) := by decide +kernel
theorem dX6_useArray_0 : decode cX6_useArray 0 = .ok (.aload_n 0, 1) := by decide +kernel
theorem dX6_useArray_1 : decode cX6_useArray 1 = .ok (.getfield 55, 3) := by decide +kernel
theorem dX6_useArray_4 : decode cX6_useArray 4 = .ok (.getfield 105, 3) := by decide +kernel
theorem dX6_useArray_7 : decode cX6_useArray 7 = .ok (.iload_n 1, 1) := by decide +kernel
theorem dX6_useArray_8 : decode cX6_useArray 8 = .ok (.iaload, 1) := by decide +kernel
theorem dX6_useArray_9 : decode cX6_useArray 9 = .ok (.istore_n 2, 1) := by decide +kernel
theorem dX6_useArray_10 : decode cX6_useArray 10 = .ok (.iload_n 2, 1) := by decide +kernel
theorem dX6_useArray_11 : decode cX6_useArray 11 = .ok (.bipush 30, 2) := by decide +kernel
theorem dX6_useArray_13 : decode cX6_useArray 13 = .ok (.if_icmp .ne 46, 3) := by decide +kernel
theorem dX6_useArray_16 : decode cX6_useArray 16 = .ok (.aload_n 0, 1) := by decide +kernel
theorem dX6_useArray_17 : decode cX6_useArray 17 = .ok (.aload_n 0, 1) := by decide +kernel
theorem dX6_useArray_18 : decode cX6_useArray 18 = .ok (.getfield 55, 3) := by decide +kernel
theorem dX6_useArray_21 : decode cX6_useArray 21 = .ok (.getfield 110, 3) := by decide +kernel
theorem dX6_useArray_24 : decode cX6_useArray 24 = .ok (.iload_n 1, 1) := by decide +kernel
theorem dX6_useArray_25 : decode cX6_useArray 25 = .ok (.iaload, 1) := by decide +kernel
theorem dX6_useArray_26 : decode cX6_useArray 26 = .ok (.aload_n 0, 1) := by decide +kernel
theorem dX6_useArray_27 : decode cX6_useArray 27 = .ok (.getfield 45, 3) := by decide +kernel
theorem dX6_useArray_30 : decode cX6_useArray 30 = .ok (.getfield 150, 3) := by decide +kernel
theorem dX6_useArray_33 : decode cX6_useArray 33 = .ok (.getfield 181, 3) := by decide +kernel
theorem dX6_useArray_36 : decode cX6_useArray 36 = .ok (.aload_n 0, 1) := by decide +kernel
theorem dX6_useArray_37 : decode cX6_useArray 37 = .ok (.getfield 55, 3) := by decide +kernel
theorem dX6_useArray_40 : decode cX6_useArray 40 = .ok (.getfield 110, 3) := by decide +kernel
theorem dX6_useArray_43 : decode cX6_useArray 43 = .ok (.iload_n 1, 1) := by decide +kernel
theorem dX6_useArray_44 : decode cX6_useArray 44 = .ok (.iaload, 1) := by decide +kernel
theorem dX6_useArray_45 : decode cX6_useArray 45 = .ok (.iaload, 1) := by decide +kernel
theorem dX6_useArray_46 : decode cX6_useArray 46 = .ok (.aload_n 0, 1) := by decide +kernel
theorem dX6_useArray_47 : decode cX6_useArray 47 = .ok (.getfield 55, 3) := by decide +kernel
theorem dX6_useArray_50 : decode cX6_useArray 50 = .ok (.getfield 184, 3) := by decide +kernel
theorem dX6_useArray_53 : decode cX6_useArray 53 = .ok (.iload_n 1, 1) := by decide +kernel
theorem dX6_useArray_54 : decode cX6_useArray 54 = .ok (.iaload, 1) := by decide +kernel
theorem dX6_useArray_55 : decode cX6_useArray 55 = .ok (.invokevirtual 187, 3) := by decide +kernel
theorem dX6_useArray_58 : decode cX6_useArray 58 = .ok (.return_, 1) := by decide +kernel
theorem dX6_useArray_59 : decode cX6_useArray 59 = .ok (.iload_n 2, 1) := by decide +kernel
theorem dX6_useArray_60 : decode cX6_useArray 60 = .ok (.bipush 34, 2) := by decide +kernel
theorem dX6_useArray_62 : decode cX6_useArray 62 = .ok (.if_icmp .ne 10, 3) := by decide +kernel
theorem dX6_useArray_65 : decode cX6_useArray 65 = .ok (.aload_n 0, 1) := by decide +kernel
theorem dX6_useArray_66 : decode cX6_useArray 66 = .ok (.invokevirtual 172, 3) := by decide +kernel
theorem dX6_useArray_69 : decode cX6_useArray 69 = .ok (.goto 4, 3) := by decide +kernel
theorem dX6_useArray_72 : decode cX6_useArray 72 = .ok (.iconst 0, 1) := by decide +kernel
theorem dX6_useArray_73 : decode cX6_useArray 73 = .ok (.istore_n 3, 1) := by decide +kernel
theorem dX6_useArray_74 : decode cX6_useArray 74 = .ok (.iload_n 2, 1) := by decide +kernel
theorem dX6_useArray_75 : decode cX6_useArray 75 = .ok (.bipush 32, 2) := by decide +kernel
theorem dX6_useArray_77 : decode cX6_useArray 77 = .ok (.if_icmp .ne 7, 3) := by decide +kernel
theorem dX6_useArray_80 : decode cX6_useArray 80 = .ok (.iconst 0, 1) := by decide +kernel
theorem dX6_useArray_81 : decode cX6_useArray 81 = .ok (.goto 7, 3) := by decide +kernel
theorem dX6_useArray_84 : decode cX6_useArray 84 = .ok (.aload_n 0, 1) := by decide +kernel
theorem dX6_useArray_85 : decode cX6_useArray 85 = .ok (.invokevirtual 172, 3) := by decide +kernel
theorem dX6_useArray_88 : decode cX6_useArray 88 = .ok (.istore 4, 2) := by decide +kernel
theorem dX6_useArray_90 : decode cX6_useArray 90 = .ok (.iload_n 2, 1) := by decide +kernel
theorem dX6_useArray_91 : decode cX6_useArray 91 = .ok (.bipush 31, 2) := by decide +kernel
theorem dX6_useArray_93 : decode cX6_useArray 93 = .ok (.if_icmp .ne 7, 3) := by decide +kernel
theorem dX6_useArray_96 : decode cX6_useArray 96 = .ok (.iconst 0, 1) := by decide +kernel
theorem dX6_useArray_97 : decode cX6_useArray 97 = .ok (.goto 7, 3) := by decide +kernel
theorem dX6_useArray_100 : decode cX6_useArray 100 = .ok (.aload_n 0, 1) := by decide +kernel
theorem dX6_useArray_101 : decode cX6_useArray 101 = .ok (.invokevirtual 172, 3) := by decide +kernel
theorem dX6_useArray_104 : decode cX6_useArray 104 = .ok (.istore 5, 2) := by decide +kernel
theorem dX6_useArray_106 : decode cX6_useArray 106 = .ok (.iload_n 2, 1) := by decide +kernel
theorem dX6_useArray_107 : decode cX6_useArray 107 = .ok (.bipush 31, 2) := by decide +kernel
theorem dX6_useArray_109 : decode cX6_useArray 109 = .ok (.if_icmp .ne 16, 3) := by decide +kernel
theorem dX6_useArray_112 : decode cX6_useArray 112 = .ok (.iload 4, 2) := by decide +kernel
theorem dX6_useArray_114 : decode cX6_useArray 114 = .ok (.ifCond .ge 11, 3) := by decide +kernel
theorem dX6_useArray_117 : decode cX6_useArray 117 = .ok (.aload_n 0, 1) := by decide +kernel
theorem dX6_useArray_118 : decode cX6_useArray 118 = .ok (.iconst 4, 1) := by decide +kernel
theorem dX6_useArray_119 : decode cX6_useArray 119 = .ok (.invokevirtual 178, 3) := by decide +kernel
theorem dX6_useArray_122 : decode cX6_useArray 122 = .ok (.goto 162, 3) := by decide +kernel
theorem dX6_useArray_125 : decode cX6_useArray 125 = .ok (.iload_n 2, 1) := by decide +kernel
theorem dX6_useArray_126 : decode cX6_useArray 126 = .ok (.bipush 31, 2) := by decide +kernel
theorem dX6_useArray_128 : decode cX6_useArray 128 = .ok (.if_icmp .ne 30, 3) := by decide +kernel
theorem dX6_useArray_131 : decode cX6_useArray 131 = .ok (.aload_n 0, 1) := by decide +kernel
theorem dX6_useArray_132 : decode cX6_useArray 132 = .ok (.aload_n 0, 1) := by decide +kernel
theorem dX6_useArray_133 : decode cX6_useArray 133 = .ok (.getfield 55, 3) := by decide +kernel
theorem dX6_useArray_136 : decode cX6_useArray 136 = .ok (.getfield 110, 3) := by decide +kernel
theorem dX6_useArray_139 : decode cX6_useArray 139 = .ok (.iload_n 1, 1) := by decide +kernel
theorem dX6_useArray_140 : decode cX6_useArray 140 = .ok (.iaload, 1) := by decide +kernel
theorem dX6_useArray_141 : decode cX6_useArray 141 = .ok (.iload 4, 2) := by decide +kernel
theorem dX6_useArray_143 : decode cX6_useArray 143 = .ok (.aload_n 0, 1) := by decide +kernel
theorem dX6_useArray_144 : decode cX6_useArray 144 = .ok (.getfield 55, 3) := by decide +kernel
theorem dX6_useArray_147 : decode cX6_useArray 147 = .ok (.getfield 184, 3) := by decide +kernel
theorem dX6_useArray_150 : decode cX6_useArray 150 = .ok (.iload_n 1, 1) := by decide +kernel
theorem dX6_useArray_151 : decode cX6_useArray 151 = .ok (.iaload, 1) := by decide +kernel
theorem dX6_useArray_152 : decode cX6_useArray 152 = .ok (.invokevirtual 187, 3) := by decide +kernel
theorem dX6_useArray_155 : decode cX6_useArray 155 = .ok (.goto 129, 3) := by decide +kernel
theorem dX6_useArray_158 : decode cX6_useArray 158 = .ok (.iload 5, 2) := by decide +kernel
theorem dX6_useArray_160 : decode cX6_useArray 160 = .ok (.ifCond .ne 11, 3) := by decide +kernel
theorem dX6_useArray_163 : decode cX6_useArray 163 = .ok (.aload_n 0, 1) := by decide +kernel
theorem dX6_useArray_164 : decode cX6_useArray 164 = .ok (.iconst 2, 1) := by decide +kernel
theorem dX6_useArray_165 : decode cX6_useArray 165 = .ok (.invokevirtual 178, 3) := by decide +kernel
theorem dX6_useArray_168 : decode cX6_useArray 168 = .ok (.goto 116, 3) := by decide +kernel
theorem dX6_useArray_171 : decode cX6_useArray 171 = .ok (.iload_n 2, 1) := by decide +kernel
theorem dX6_useArray_172 : decode cX6_useArray 172 = .ok (.bipush 32, 2) := by decide +kernel
theorem dX6_useArray_174 : decode cX6_useArray 174 = .ok (.if_icmp .ne 20, 3) := by decide +kernel
theorem dX6_useArray_177 : decode cX6_useArray 177 = .ok (.aload_n 0, 1) := by decide +kernel
theorem dX6_useArray_178 : decode cX6_useArray 178 = .ok (.aload_n 0, 1) := by decide +kernel
theorem dX6_useArray_179 : decode cX6_useArray 179 = .ok (.getfield 12, 3) := by decide +kernel
theorem dX6_useArray_182 : decode cX6_useArray 182 = .ok (.getfield 190, 3) := by decide +kernel
theorem dX6_useArray_185 : decode cX6_useArray 185 = .ok (.iload 5, 2) := by decide +kernel
theorem dX6_useArray_187 : decode cX6_useArray 187 = .ok (.iaload, 1) := by decide +kernel
theorem dX6_useArray_188 : decode cX6_useArray 188 = .ok (.invokevirtual 166, 3) := by decide +kernel
theorem dX6_useArray_191 : decode cX6_useArray 191 = .ok (.goto 93, 3) := by decide +kernel
theorem dX6_useArray_194 : decode cX6_useArray 194 = .ok (.aload_n 0, 1) := by decide +kernel
theorem dX6_useArray_195 : decode cX6_useArray 195 = .ok (.getfield 12, 3) := by decide +kernel
theorem dX6_useArray_198 : decode cX6_useArray 198 = .ok (.iload 5, 2) := by decide +kernel
theorem dX6_useArray_200 : decode cX6_useArray 200 = .ok (.iload 4, 2) := by decide +kernel
theorem dX6_useArray_202 : decode cX6_useArray 202 = .ok (.invokevirtual 193, 3) := by decide +kernel
theorem dX6_useArray_205 : decode cX6_useArray 205 = .ok (.ifCond .ne 11, 3) := by decide +kernel
theorem dX6_useArray_208 : decode cX6_useArray 208 = .ok (.aload_n 0, 1) := by decide +kernel
theorem dX6_useArray_209 : decode cX6_useArray 209 = .ok (.iconst 3, 1) := by decide +kernel
theorem dX6_useArray_210 : decode cX6_useArray 210 = .ok (.invokevirtual 178, 3) := by decide +kernel
theorem dX6_useArray_213 : decode cX6_useArray 213 = .ok (.goto 71, 3) := by decide +kernel
theorem dX6_useArray_216 : decode cX6_useArray 216 = .ok (.iload_n 2, 1) := by decide +kernel
theorem dX6_useArray_217 : decode cX6_useArray 217 = .ok (.bipush 33, 2) := by decide +kernel
theorem dX6_useArray_219 : decode cX6_useArray 219 = .ok (.if_icmp .ne 34, 3) := by decide +kernel
theorem dX6_useArray_222 : decode cX6_useArray 222 = .ok (.aload_n 0, 1) := by decide +kernel
theorem dX6_useArray_223 : decode cX6_useArray 223 = .ok (.iload 5, 2) := by decide +kernel
theorem dX6_useArray_225 : decode cX6_useArray 225 = .ok (.iload 4, 2) := by decide +kernel
theorem dX6_useArray_227 : decode cX6_useArray 227 = .ok (.aload_n 0, 1) := by decide +kernel
theorem dX6_useArray_228 : decode cX6_useArray 228 = .ok (.getfield 12, 3) := by decide +kernel
theorem dX6_useArray_231 : decode cX6_useArray 231 = .ok (.getfield 163, 3) := by decide +kernel
theorem dX6_useArray_234 : decode cX6_useArray 234 = .ok (.iload 5, 2) := by decide +kernel
theorem dX6_useArray_236 : decode cX6_useArray 236 = .ok (.iaload, 1) := by decide +kernel
theorem dX6_useArray_237 : decode cX6_useArray 237 = .ok (.bipush 64, 2) := by decide +kernel
theorem dX6_useArray_239 : decode cX6_useArray 239 = .ok (.if_icmp .ne 7, 3) := by decide +kernel
theorem dX6_useArray_242 : decode cX6_useArray 242 = .ok (.iconst 1, 1) := by decide +kernel
theorem dX6_useArray_243 : decode cX6_useArray 243 = .ok (.goto 4, 3) := by decide +kernel
theorem dX6_useArray_246 : decode cX6_useArray 246 = .ok (.iconst 0, 1) := by decide +kernel
theorem dX6_useArray_247 : decode cX6_useArray 247 = .ok (.invokevirtual 196, 3) := by decide +kernel
theorem dX6_useArray_250 : decode cX6_useArray 250 = .ok (.goto 34, 3) := by decide +kernel
theorem dX6_useArray_253 : decode cX6_useArray 253 = .ok (.aload_n 0, 1) := by decide +kernel
theorem dX6_useArray_254 : decode cX6_useArray 254 = .ok (.iload 5, 2) := by decide +kernel
theorem dX6_useArray_256 : decode cX6_useArray 256 = .ok (.iload_n 3, 1) := by decide +kernel
theorem dX6_useArray_257 : decode cX6_useArray 257 = .ok (.invokevirtual 200, 3) := by decide +kernel
theorem dX6_useArray_260 : decode cX6_useArray 260 = .ok (.ifCond .eq 18, 3) := by decide +kernel
theorem dX6_useArray_263 : decode cX6_useArray 263 = .ok (.aload_n 0, 1) := by decide +kernel
theorem dX6_useArray_264 : decode cX6_useArray 264 = .ok (.getfield 12, 3) := by decide +kernel
theorem dX6_useArray_267 : decode cX6_useArray 267 = .ok (.iload 5, 2) := by decide +kernel
theorem dX6_useArray_269 : decode cX6_useArray 269 = .ok (.iload 4, 2) := by decide +kernel
theorem dX6_useArray_271 : decode cX6_useArray 271 = .ok (.iload_n 3, 1) := by decide +kernel
theorem dX6_useArray_272 : decode cX6_useArray 272 = .ok (.invokevirtual 203, 3) := by decide +kernel
theorem dX6_useArray_275 : decode cX6_useArray 275 = .ok (.goto 9, 3) := by decide +kernel
theorem dX6_useArray_278 : decode cX6_useArray 278 = .ok (.aload_n 0, 1) := by decide +kernel
theorem dX6_useArray_279 : decode cX6_useArray 279 = .ok (.bipush 7, 2) := by decide +kernel
theorem dX6_useArray_281 : decode cX6_useArray 281 = .ok (.invokevirtual 178, 3) := by decide +kernel
theorem dX6_useArray_284 : decode cX6_useArray 284 = .ok (.return_, 1) := by decide +kernel
theorem dX6_mayHold_0 : decode cX6_mayHold 0 = .ok (.aload_n 0, 1) := by decide +kernel
theorem dX6_mayHold_1 : decode cX6_mayHold 1 = .ok (.getfield 45, 3) := by decide +kernel
theorem dX6_mayHold_4 : decode cX6_mayHold 4 = .ok (.getfield 150, 3) := by decide +kernel
theorem dX6_mayHold_7 : decode cX6_mayHold 7 = .ok (.aload_n 0, 1) := by decide +kernel
theorem dX6_mayHold_8 : decode cX6_mayHold 8 = .ok (.getfield 12, 3) := by decide +kernel
theorem dX6_mayHold_11 : decode cX6_mayHold 11 = .ok (.getfield 163, 3) := by decide +kernel
theorem dX6_mayHold_14 : decode cX6_mayHold 14 = .ok (.iload_n 1, 1) := by decide +kernel
theorem dX6_mayHold_15 : decode cX6_mayHold 15 = .ok (.iaload, 1) := by decide +kernel
theorem dX6_mayHold_16 : decode cX6_mayHold 16 = .ok (.invokevirtual 206, 3) := by decide +kernel
theorem dX6_mayHold_19 : decode cX6_mayHold 19 = .ok (.istore_n 3, 1) := by decide +kernel
theorem dX6_mayHold_20 : decode cX6_mayHold 20 = .ok (.iload_n 3, 1) := by decide +kernel
theorem dX6_mayHold_21 : decode cX6_mayHold 21 = .ok (.bipush 66, 2) := by decide +kernel
theorem dX6_mayHold_23 : decode cX6_mayHold 23 = .ok (.if_icmp .eq 26, 3) := by decide +kernel
theorem dX6_mayHold_26 : decode cX6_mayHold 26 = .ok (.aload_n 0, 1) := by decide +kernel
theorem dX6_mayHold_27 : decode cX6_mayHold 27 = .ok (.getfield 45, 3) := by decide +kernel
theorem dX6_mayHold_30 : decode cX6_mayHold 30 = .ok (.getfield 150, 3) := by decide +kernel
theorem dX6_mayHold_33 : decode cX6_mayHold 33 = .ok (.aload_n 0, 1) := by decide +kernel
theorem dX6_mayHold_34 : decode cX6_mayHold 34 = .ok (.getfield 12, 3) := by decide +kernel
theorem dX6_mayHold_37 : decode cX6_mayHold 37 = .ok (.getfield 163, 3) := by decide +kernel
theorem dX6_mayHold_40 : decode cX6_mayHold 40 = .ok (.iload_n 2, 1) := by decide +kernel
theorem dX6_mayHold_41 : decode cX6_mayHold 41 = .ok (.iaload, 1) := by decide +kernel
theorem dX6_mayHold_42 : decode cX6_mayHold 42 = .ok (.iload_n 3, 1) := by decide +kernel
theorem dX6_mayHold_43 : decode cX6_mayHold 43 = .ok (.invokevirtual 209, 3) := by decide +kernel
theorem dX6_mayHold_46 : decode cX6_mayHold 46 = .ok (.ifCond .eq 7, 3) := by decide +kernel
theorem dX6_mayHold_49 : decode cX6_mayHold 49 = .ok (.iconst 1, 1) := by decide +kernel
theorem dX6_mayHold_50 : decode cX6_mayHold 50 = .ok (.goto 4, 3) := by decide +kernel
theorem dX6_mayHold_53 : decode cX6_mayHold 53 = .ok (.iconst 0, 1) := by decide +kernel
theorem dX6_mayHold_54 : decode cX6_mayHold 54 = .ok (.ireturn, 1) := by decide +kernel
theorem dX6_pushMade_0 : decode cX6_pushMade 0 = .ok (.aload_n 0, 1) := by decide +kernel
theorem dX6_pushMade_1 : decode cX6_pushMade 1 = .ok (.getfield 12, 3) := by decide +kernel
theorem dX6_pushMade_4 : decode cX6_pushMade 4 = .ok (.iload_n 1, 1) := by decide +kernel
theorem dX6_pushMade_5 : decode cX6_pushMade 5 = .ok (.iload_n 2, 1) := by decide +kernel
theorem dX6_pushMade_6 : decode cX6_pushMade 6 = .ok (.iload_n 3, 1) := by decide +kernel
theorem dX6_pushMade_7 : decode cX6_pushMade 7 = .ok (.invokevirtual 212, 3) := by decide +kernel
theorem dX6_pushMade_10 : decode cX6_pushMade 10 = .ok (.istore 4, 2) := by decide +kernel
theorem dX6_pushMade_12 : decode cX6_pushMade 12 = .ok (.iload 4, 2) := by decide +kernel
theorem dX6_pushMade_14 : decode cX6_pushMade 14 = .ok (.ifCond .ne 11, 3) := by decide +kernel
theorem dX6_pushMade_17 : decode cX6_pushMade 17 = .ok (.aload_n 0, 1) := by decide +kernel
theorem dX6_pushMade_18 : decode cX6_pushMade 18 = .ok (.iconst 3, 1) := by decide +kernel
theorem dX6_pushMade_19 : decode cX6_pushMade 19 = .ok (.putfield 71, 3) := by decide +kernel
theorem dX6_pushMade_22 : decode cX6_pushMade 22 = .ok (.goto 9, 3) := by decide +kernel
theorem dX6_pushMade_25 : decode cX6_pushMade 25 = .ok (.aload_n 0, 1) := by decide +kernel
theorem dX6_pushMade_26 : decode cX6_pushMade 26 = .ok (.iload 4, 2) := by decide +kernel
theorem dX6_pushMade_28 : decode cX6_pushMade 28 = .ok (.invokevirtual 169, 3) := by decide +kernel
theorem dX6_pushMade_31 : decode cX6_pushMade 31 = .ok (.return_, 1) := by decide +kernel
theorem dX6_pushCell_0 : decode cX6_pushCell 0 = .ok (.aload_n 0, 1) := by decide +kernel
theorem dX6_pushCell_1 : decode cX6_pushCell 1 = .ok (.getfield 12, 3) := by decide +kernel
theorem dX6_pushCell_4 : decode cX6_pushCell 4 = .ok (.iload_n 1, 1) := by decide +kernel
theorem dX6_pushCell_5 : decode cX6_pushCell 5 = .ok (.iload_n 2, 1) := by decide +kernel
theorem dX6_pushCell_6 : decode cX6_pushCell 6 = .ok (.invokevirtual 216, 3) := by decide +kernel
theorem dX6_pushCell_9 : decode cX6_pushCell 9 = .ok (.istore 4, 2) := by decide +kernel
theorem dX6_pushCell_11 : decode cX6_pushCell 11 = .ok (.iload_n 3, 1) := by decide +kernel
theorem dX6_pushCell_12 : decode cX6_pushCell 12 = .ok (.ifCond .eq 12, 3) := by decide +kernel
theorem dX6_pushCell_15 : decode cX6_pushCell 15 = .ok (.aload_n 0, 1) := by decide +kernel
theorem dX6_pushCell_16 : decode cX6_pushCell 16 = .ok (.iload 4, 2) := by decide +kernel
theorem dX6_pushCell_18 : decode cX6_pushCell 18 = .ok (.invokevirtual 166, 3) := by decide +kernel
theorem dX6_pushCell_21 : decode cX6_pushCell 21 = .ok (.goto 9, 3) := by decide +kernel
theorem dX6_pushCell_24 : decode cX6_pushCell 24 = .ok (.aload_n 0, 1) := by decide +kernel
theorem dX6_pushCell_25 : decode cX6_pushCell 25 = .ok (.iload 4, 2) := by decide +kernel
theorem dX6_pushCell_27 : decode cX6_pushCell 27 = .ok (.invokevirtual 169, 3) := by decide +kernel
theorem dX6_pushCell_30 : decode cX6_pushCell 30 = .ok (.return_, 1) := by decide +kernel
theorem dX6_useObject_0 : decode cX6_useObject 0 = .ok (.aload_n 0, 1) := by decide +kernel
theorem dX6_useObject_1 : decode cX6_useObject 1 = .ok (.getfield 55, 3) := by decide +kernel
theorem dX6_useObject_4 : decode cX6_useObject 4 = .ok (.getfield 105, 3) := by decide +kernel
theorem dX6_useObject_7 : decode cX6_useObject 7 = .ok (.iload_n 1, 1) := by decide +kernel
theorem dX6_useObject_8 : decode cX6_useObject 8 = .ok (.iaload, 1) := by decide +kernel
theorem dX6_useObject_9 : decode cX6_useObject 9 = .ok (.istore_n 2, 1) := by decide +kernel
theorem dX6_useObject_10 : decode cX6_useObject 10 = .ok (.aload_n 0, 1) := by decide +kernel
theorem dX6_useObject_11 : decode cX6_useObject 11 = .ok (.getfield 55, 3) := by decide +kernel
theorem dX6_useObject_14 : decode cX6_useObject 14 = .ok (.getfield 110, 3) := by decide +kernel
theorem dX6_useObject_17 : decode cX6_useObject 17 = .ok (.iload_n 1, 1) := by decide +kernel
theorem dX6_useObject_18 : decode cX6_useObject 18 = .ok (.iaload, 1) := by decide +kernel
theorem dX6_useObject_19 : decode cX6_useObject 19 = .ok (.istore_n 3, 1) := by decide +kernel
theorem dX6_useObject_20 : decode cX6_useObject 20 = .ok (.aload_n 0, 1) := by decide +kernel
theorem dX6_useObject_21 : decode cX6_useObject 21 = .ok (.getfield 45, 3) := by decide +kernel
theorem dX6_useObject_24 : decode cX6_useObject 24 = .ok (.getfield 150, 3) := by decide +kernel
theorem dX6_useObject_27 : decode cX6_useObject 27 = .ok (.astore 4, 2) := by decide +kernel
theorem dX6_useObject_29 : decode cX6_useObject 29 = .ok (.iload_n 2, 1) := by decide +kernel
theorem dX6_useObject_30 : decode cX6_useObject 30 = .ok (.bipush 36, 2) := by decide +kernel
theorem dX6_useObject_32 : decode cX6_useObject 32 = .ok (.if_icmp .ne 10, 3) := by decide +kernel
theorem dX6_useObject_35 : decode cX6_useObject 35 = .ok (.aload_n 0, 1) := by decide +kernel
theorem dX6_useObject_36 : decode cX6_useObject 36 = .ok (.invokevirtual 172, 3) := by decide +kernel
theorem dX6_useObject_39 : decode cX6_useObject 39 = .ok (.goto 4, 3) := by decide +kernel
theorem dX6_useObject_42 : decode cX6_useObject 42 = .ok (.iconst 0, 1) := by decide +kernel
theorem dX6_useObject_43 : decode cX6_useObject 43 = .ok (.istore 5, 2) := by decide +kernel
theorem dX6_useObject_45 : decode cX6_useObject 45 = .ok (.aload_n 0, 1) := by decide +kernel
theorem dX6_useObject_46 : decode cX6_useObject 46 = .ok (.invokevirtual 172, 3) := by decide +kernel
theorem dX6_useObject_49 : decode cX6_useObject 49 = .ok (.istore 6, 2) := by decide +kernel
theorem dX6_useObject_51 : decode cX6_useObject 51 = .ok (.iload 6, 2) := by decide +kernel
theorem dX6_useObject_53 : decode cX6_useObject 53 = .ok (.ifCond .eq 26, 3) := by decide +kernel
theorem dX6_useObject_56 : decode cX6_useObject 56 = .ok (.aload 4, 2) := by decide +kernel
theorem dX6_useObject_58 : decode cX6_useObject 58 = .ok (.aload_n 0, 1) := by decide +kernel
theorem dX6_useObject_59 : decode cX6_useObject 59 = .ok (.getfield 12, 3) := by decide +kernel
theorem dX6_useObject_62 : decode cX6_useObject 62 = .ok (.getfield 163, 3) := by decide +kernel
theorem dX6_useObject_65 : decode cX6_useObject 65 = .ok (.iload 6, 2) := by decide +kernel
theorem dX6_useObject_67 : decode cX6_useObject 67 = .ok (.iaload, 1) := by decide +kernel
theorem dX6_useObject_68 : decode cX6_useObject 68 = .ok (.iload_n 3, 1) := by decide +kernel
theorem dX6_useObject_69 : decode cX6_useObject 69 = .ok (.invokevirtual 209, 3) := by decide +kernel
theorem dX6_useObject_72 : decode cX6_useObject 72 = .ok (.ifCond .eq 7, 3) := by decide +kernel
theorem dX6_useObject_75 : decode cX6_useObject 75 = .ok (.iconst 1, 1) := by decide +kernel
theorem dX6_useObject_76 : decode cX6_useObject 76 = .ok (.goto 4, 3) := by decide +kernel
theorem dX6_useObject_79 : decode cX6_useObject 79 = .ok (.iconst 0, 1) := by decide +kernel
theorem dX6_useObject_80 : decode cX6_useObject 80 = .ok (.istore 7, 2) := by decide +kernel
theorem dX6_useObject_82 : decode cX6_useObject 82 = .ok (.iload_n 2, 1) := by decide +kernel
theorem dX6_useObject_83 : decode cX6_useObject 83 = .ok (.bipush 38, 2) := by decide +kernel
theorem dX6_useObject_85 : decode cX6_useObject 85 = .ok (.if_icmp .ne 20, 3) := by decide +kernel
theorem dX6_useObject_88 : decode cX6_useObject 88 = .ok (.aload_n 0, 1) := by decide +kernel
theorem dX6_useObject_89 : decode cX6_useObject 89 = .ok (.iload 7, 2) := by decide +kernel
theorem dX6_useObject_91 : decode cX6_useObject 91 = .ok (.ifCond .eq 7, 3) := by decide +kernel
theorem dX6_useObject_94 : decode cX6_useObject 94 = .ok (.iconst 1, 1) := by decide +kernel
theorem dX6_useObject_95 : decode cX6_useObject 95 = .ok (.goto 4, 3) := by decide +kernel
theorem dX6_useObject_98 : decode cX6_useObject 98 = .ok (.iconst 0, 1) := by decide +kernel
theorem dX6_useObject_99 : decode cX6_useObject 99 = .ok (.invokevirtual 166, 3) := by decide +kernel
theorem dX6_useObject_102 : decode cX6_useObject 102 = .ok (.goto 113, 3) := by decide +kernel
theorem dX6_useObject_105 : decode cX6_useObject 105 = .ok (.iload_n 2, 1) := by decide +kernel
theorem dX6_useObject_106 : decode cX6_useObject 106 = .ok (.bipush 37, 2) := by decide +kernel
theorem dX6_useObject_108 : decode cX6_useObject 108 = .ok (.if_icmp .ne 22, 3) := by decide +kernel
theorem dX6_useObject_111 : decode cX6_useObject 111 = .ok (.iload 7, 2) := by decide +kernel
theorem dX6_useObject_113 : decode cX6_useObject 113 = .ok (.ifCond .ne 8, 3) := by decide +kernel
theorem dX6_useObject_116 : decode cX6_useObject 116 = .ok (.iload 6, 2) := by decide +kernel
theorem dX6_useObject_118 : decode cX6_useObject 118 = .ok (.ifCond .ne 12, 3) := by decide +kernel
theorem dX6_useObject_121 : decode cX6_useObject 121 = .ok (.aload_n 0, 1) := by decide +kernel
theorem dX6_useObject_122 : decode cX6_useObject 122 = .ok (.iload 6, 2) := by decide +kernel
theorem dX6_useObject_124 : decode cX6_useObject 124 = .ok (.invokevirtual 169, 3) := by decide +kernel
theorem dX6_useObject_127 : decode cX6_useObject 127 = .ok (.goto 88, 3) := by decide +kernel
theorem dX6_useObject_130 : decode cX6_useObject 130 = .ok (.iload_n 2, 1) := by decide +kernel
theorem dX6_useObject_131 : decode cX6_useObject 131 = .ok (.bipush 37, 2) := by decide +kernel
theorem dX6_useObject_133 : decode cX6_useObject 133 = .ok (.if_icmp .ne 12, 3) := by decide +kernel
theorem dX6_useObject_136 : decode cX6_useObject 136 = .ok (.aload_n 0, 1) := by decide +kernel
theorem dX6_useObject_137 : decode cX6_useObject 137 = .ok (.bipush 6, 2) := by decide +kernel
theorem dX6_useObject_139 : decode cX6_useObject 139 = .ok (.invokevirtual 178, 3) := by decide +kernel
theorem dX6_useObject_142 : decode cX6_useObject 142 = .ok (.goto 73, 3) := by decide +kernel
theorem dX6_useObject_145 : decode cX6_useObject 145 = .ok (.iload 6, 2) := by decide +kernel
theorem dX6_useObject_147 : decode cX6_useObject 147 = .ok (.ifCond .ne 11, 3) := by decide +kernel
theorem dX6_useObject_150 : decode cX6_useObject 150 = .ok (.aload_n 0, 1) := by decide +kernel
theorem dX6_useObject_151 : decode cX6_useObject 151 = .ok (.iconst 2, 1) := by decide +kernel
theorem dX6_useObject_152 : decode cX6_useObject 152 = .ok (.invokevirtual 178, 3) := by decide +kernel
theorem dX6_useObject_155 : decode cX6_useObject 155 = .ok (.goto 60, 3) := by decide +kernel
theorem dX6_useObject_158 : decode cX6_useObject 158 = .ok (.iload_n 2, 1) := by decide +kernel
theorem dX6_useObject_159 : decode cX6_useObject 159 = .ok (.bipush 36, 2) := by decide +kernel
theorem dX6_useObject_161 : decode cX6_useObject 161 = .ok (.if_icmp .ne 24, 3) := by decide +kernel
theorem dX6_useObject_164 : decode cX6_useObject 164 = .ok (.aload_n 0, 1) := by decide +kernel
theorem dX6_useObject_165 : decode cX6_useObject 165 = .ok (.getfield 12, 3) := by decide +kernel
theorem dX6_useObject_168 : decode cX6_useObject 168 = .ok (.iload 6, 2) := by decide +kernel
theorem dX6_useObject_170 : decode cX6_useObject 170 = .ok (.aload 4, 2) := by decide +kernel
theorem dX6_useObject_172 : decode cX6_useObject 172 = .ok (.getfield 220, 3) := by decide +kernel
theorem dX6_useObject_175 : decode cX6_useObject 175 = .ok (.iload_n 3, 1) := by decide +kernel
theorem dX6_useObject_176 : decode cX6_useObject 176 = .ok (.iaload, 1) := by decide +kernel
theorem dX6_useObject_177 : decode cX6_useObject 177 = .ok (.iload 5, 2) := by decide +kernel
theorem dX6_useObject_179 : decode cX6_useObject 179 = .ok (.invokevirtual 203, 3) := by decide +kernel
theorem dX6_useObject_182 : decode cX6_useObject 182 = .ok (.goto 33, 3) := by decide +kernel
theorem dX6_useObject_185 : decode cX6_useObject 185 = .ok (.aload_n 0, 1) := by decide +kernel
theorem dX6_useObject_186 : decode cX6_useObject 186 = .ok (.iload 6, 2) := by decide +kernel
theorem dX6_useObject_188 : decode cX6_useObject 188 = .ok (.aload 4, 2) := by decide +kernel
theorem dX6_useObject_190 : decode cX6_useObject 190 = .ok (.getfield 220, 3) := by decide +kernel
theorem dX6_useObject_193 : decode cX6_useObject 193 = .ok (.iload_n 3, 1) := by decide +kernel
theorem dX6_useObject_194 : decode cX6_useObject 194 = .ok (.iaload, 1) := by decide +kernel
theorem dX6_useObject_195 : decode cX6_useObject 195 = .ok (.aload 4, 2) := by decide +kernel
theorem dX6_useObject_197 : decode cX6_useObject 197 = .ok (.getfield 223, 3) := by decide +kernel
theorem dX6_useObject_200 : decode cX6_useObject 200 = .ok (.iload_n 3, 1) := by decide +kernel
theorem dX6_useObject_201 : decode cX6_useObject 201 = .ok (.iaload, 1) := by decide +kernel
theorem dX6_useObject_202 : decode cX6_useObject 202 = .ok (.bipush 66, 2) := by decide +kernel
theorem dX6_useObject_204 : decode cX6_useObject 204 = .ok (.if_icmp .ne 7, 3) := by decide +kernel
theorem dX6_useObject_207 : decode cX6_useObject 207 = .ok (.iconst 1, 1) := by decide +kernel
theorem dX6_useObject_208 : decode cX6_useObject 208 = .ok (.goto 4, 3) := by decide +kernel
theorem dX6_useObject_211 : decode cX6_useObject 211 = .ok (.iconst 0, 1) := by decide +kernel
theorem dX6_useObject_212 : decode cX6_useObject 212 = .ok (.invokevirtual 196, 3) := by decide +kernel
theorem dX6_useObject_215 : decode cX6_useObject 215 = .ok (.return_, 1) := by decide +kernel
theorem dX6_transfer_0 : decode cX6_transfer 0 = .ok (.aload_n 0, 1) := by decide +kernel
theorem dX6_transfer_1 : decode cX6_transfer 1 = .ok (.getfield 55, 3) := by decide +kernel
theorem dX6_transfer_4 : decode cX6_transfer 4 = .ok (.getfield 110, 3) := by decide +kernel
theorem dX6_transfer_7 : decode cX6_transfer 7 = .ok (.iload_n 1, 1) := by decide +kernel
theorem dX6_transfer_8 : decode cX6_transfer 8 = .ok (.iaload, 1) := by decide +kernel
theorem dX6_transfer_9 : decode cX6_transfer 9 = .ok (.istore_n 2, 1) := by decide +kernel
theorem dX6_transfer_10 : decode cX6_transfer 10 = .ok (.aload_n 0, 1) := by decide +kernel
theorem dX6_transfer_11 : decode cX6_transfer 11 = .ok (.getfield 55, 3) := by decide +kernel
theorem dX6_transfer_14 : decode cX6_transfer 14 = .ok (.getfield 105, 3) := by decide +kernel
theorem dX6_transfer_17 : decode cX6_transfer 17 = .ok (.iload_n 1, 1) := by decide +kernel
theorem dX6_transfer_18 : decode cX6_transfer 18 = .ok (.iaload, 1) := by decide +kernel
theorem dX6_transfer_19 : decode cX6_transfer 19 = .ok (.tableswitch 148 39 45 #[41, 58, 85, 148, 148, 96, 137], 41) := by decide +kernel
theorem dX6_transfer_60 : decode cX6_transfer 60 = .ok (.aload_n 0, 1) := by decide +kernel
theorem dX6_transfer_61 : decode cX6_transfer 61 = .ok (.iload_n 2, 1) := by decide +kernel
theorem dX6_transfer_62 : decode cX6_transfer 62 = .ok (.aload_n 0, 1) := by decide +kernel
theorem dX6_transfer_63 : decode cX6_transfer 63 = .ok (.getfield 45, 3) := by decide +kernel
theorem dX6_transfer_66 : decode cX6_transfer 66 = .ok (.getfield 226, 3) := by decide +kernel
theorem dX6_transfer_69 : decode cX6_transfer 69 = .ok (.iload_n 2, 1) := by decide +kernel
theorem dX6_transfer_70 : decode cX6_transfer 70 = .ok (.iaload, 1) := by decide +kernel
theorem dX6_transfer_71 : decode cX6_transfer 71 = .ok (.invokevirtual 229, 3) := by decide +kernel
theorem dX6_transfer_74 : decode cX6_transfer 74 = .ok (.goto 116, 3) := by decide +kernel
theorem dX6_transfer_77 : decode cX6_transfer 77 = .ok (.aload_n 0, 1) := by decide +kernel
theorem dX6_transfer_78 : decode cX6_transfer 78 = .ok (.iload_n 2, 1) := by decide +kernel
theorem dX6_transfer_79 : decode cX6_transfer 79 = .ok (.aload_n 0, 1) := by decide +kernel
theorem dX6_transfer_80 : decode cX6_transfer 80 = .ok (.getfield 18, 3) := by decide +kernel
theorem dX6_transfer_83 : decode cX6_transfer 83 = .ok (.aload_n 0, 1) := by decide +kernel
theorem dX6_transfer_84 : decode cX6_transfer 84 = .ok (.invokevirtual 138, 3) := by decide +kernel
theorem dX6_transfer_87 : decode cX6_transfer 87 = .ok (.aload_n 0, 1) := by decide +kernel
theorem dX6_transfer_88 : decode cX6_transfer 88 = .ok (.getfield 45, 3) := by decide +kernel
theorem dX6_transfer_91 : decode cX6_transfer 91 = .ok (.getfield 226, 3) := by decide +kernel
theorem dX6_transfer_94 : decode cX6_transfer 94 = .ok (.iload_n 2, 1) := by decide +kernel
theorem dX6_transfer_95 : decode cX6_transfer 95 = .ok (.iaload, 1) := by decide +kernel
theorem dX6_transfer_96 : decode cX6_transfer 96 = .ok (.isub, 1) := by decide +kernel
theorem dX6_transfer_97 : decode cX6_transfer 97 = .ok (.iaload, 1) := by decide +kernel
theorem dX6_transfer_98 : decode cX6_transfer 98 = .ok (.invokevirtual 232, 3) := by decide +kernel
theorem dX6_transfer_101 : decode cX6_transfer 101 = .ok (.goto 89, 3) := by decide +kernel
theorem dX6_transfer_104 : decode cX6_transfer 104 = .ok (.aload_n 0, 1) := by decide +kernel
theorem dX6_transfer_105 : decode cX6_transfer 105 = .ok (.aload_n 0, 1) := by decide +kernel
theorem dX6_transfer_106 : decode cX6_transfer 106 = .ok (.invokevirtual 172, 3) := by decide +kernel
theorem dX6_transfer_109 : decode cX6_transfer 109 = .ok (.invokevirtual 235, 3) := by decide +kernel
theorem dX6_transfer_112 : decode cX6_transfer 112 = .ok (.goto 78, 3) := by decide +kernel
theorem dX6_transfer_115 : decode cX6_transfer 115 = .ok (.aload_n 0, 1) := by decide +kernel
theorem dX6_transfer_116 : decode cX6_transfer 116 = .ok (.aload_n 0, 1) := by decide +kernel
theorem dX6_transfer_117 : decode cX6_transfer 117 = .ok (.getfield 62, 3) := by decide +kernel
theorem dX6_transfer_120 : decode cX6_transfer 120 = .ok (.aload_n 0, 1) := by decide +kernel
theorem dX6_transfer_121 : decode cX6_transfer 121 = .ok (.getfield 56, 3) := by decide +kernel
theorem dX6_transfer_124 : decode cX6_transfer 124 = .ok (.if_icmp .ge 15, 3) := by decide +kernel
theorem dX6_transfer_127 : decode cX6_transfer 127 = .ok (.aload_n 0, 1) := by decide +kernel
theorem dX6_transfer_128 : decode cX6_transfer 128 = .ok (.getfield 32, 3) := by decide +kernel
theorem dX6_transfer_131 : decode cX6_transfer 131 = .ok (.aload_n 0, 1) := by decide +kernel
theorem dX6_transfer_132 : decode cX6_transfer 132 = .ok (.getfield 62, 3) := by decide +kernel
theorem dX6_transfer_135 : decode cX6_transfer 135 = .ok (.iaload, 1) := by decide +kernel
theorem dX6_transfer_136 : decode cX6_transfer 136 = .ok (.goto 4, 3) := by decide +kernel
theorem dX6_transfer_139 : decode cX6_transfer 139 = .ok (.iconst 0, 1) := by decide +kernel
theorem dX6_transfer_140 : decode cX6_transfer 140 = .ok (.invokevirtual 166, 3) := by decide +kernel
theorem dX6_transfer_143 : decode cX6_transfer 143 = .ok (.aload_n 0, 1) := by decide +kernel
theorem dX6_transfer_144 : decode cX6_transfer 144 = .ok (.dup, 1) := by decide +kernel
theorem dX6_transfer_145 : decode cX6_transfer 145 = .ok (.getfield 62, 3) := by decide +kernel
theorem dX6_transfer_148 : decode cX6_transfer 148 = .ok (.iconst 1, 1) := by decide +kernel
theorem dX6_transfer_149 : decode cX6_transfer 149 = .ok (.iadd, 1) := by decide +kernel
theorem dX6_transfer_150 : decode cX6_transfer 150 = .ok (.putfield 62, 3) := by decide +kernel
theorem dX6_transfer_153 : decode cX6_transfer 153 = .ok (.goto 37, 3) := by decide +kernel
theorem dX6_transfer_156 : decode cX6_transfer 156 = .ok (.aload_n 0, 1) := by decide +kernel
theorem dX6_transfer_157 : decode cX6_transfer 157 = .ok (.aload_n 0, 1) := by decide +kernel
theorem dX6_transfer_158 : decode cX6_transfer 158 = .ok (.invokevirtual 172, 3) := by decide +kernel
theorem dX6_transfer_161 : decode cX6_transfer 161 = .ok (.invokevirtual 238, 3) := by decide +kernel
theorem dX6_transfer_164 : decode cX6_transfer 164 = .ok (.goto 26, 3) := by decide +kernel
theorem dX6_transfer_167 : decode cX6_transfer 167 = .ok (.aload_n 0, 1) := by decide +kernel
theorem dX6_transfer_168 : decode cX6_transfer 168 = .ok (.aload_n 0, 1) := by decide +kernel
theorem dX6_transfer_169 : decode cX6_transfer 169 = .ok (.getfield 55, 3) := by decide +kernel
theorem dX6_transfer_172 : decode cX6_transfer 172 = .ok (.getfield 105, 3) := by decide +kernel
theorem dX6_transfer_175 : decode cX6_transfer 175 = .ok (.iload_n 1, 1) := by decide +kernel
theorem dX6_transfer_176 : decode cX6_transfer 176 = .ok (.iaload, 1) := by decide +kernel
theorem dX6_transfer_177 : decode cX6_transfer 177 = .ok (.bipush 42, 2) := by decide +kernel
theorem dX6_transfer_179 : decode cX6_transfer 179 = .ok (.if_icmp .ne 7, 3) := by decide +kernel
theorem dX6_transfer_182 : decode cX6_transfer 182 = .ok (.iconst 1, 1) := by decide +kernel
theorem dX6_transfer_183 : decode cX6_transfer 183 = .ok (.goto 4, 3) := by decide +kernel
theorem dX6_transfer_186 : decode cX6_transfer 186 = .ok (.iconst 0, 1) := by decide +kernel
theorem dX6_transfer_187 : decode cX6_transfer 187 = .ok (.invokevirtual 241, 3) := by decide +kernel
theorem dX6_transfer_190 : decode cX6_transfer 190 = .ok (.return_, 1) := by decide +kernel
theorem dX6_send_0 : decode cX6_send 0 = .ok (.iload_n 2, 1) := by decide +kernel
theorem dX6_send_1 : decode cX6_send 1 = .ok (.ifCond .ne 11, 3) := by decide +kernel
theorem dX6_send_4 : decode cX6_send 4 = .ok (.aload_n 0, 1) := by decide +kernel
theorem dX6_send_5 : decode cX6_send 5 = .ok (.iconst 2, 1) := by decide +kernel
theorem dX6_send_6 : decode cX6_send 6 = .ok (.invokevirtual 178, 3) := by decide +kernel
theorem dX6_send_9 : decode cX6_send 9 = .ok (.goto 33, 3) := by decide +kernel
theorem dX6_send_12 : decode cX6_send 12 = .ok (.aload_n 0, 1) := by decide +kernel
theorem dX6_send_13 : decode cX6_send 13 = .ok (.aload_n 0, 1) := by decide +kernel
theorem dX6_send_14 : decode cX6_send 14 = .ok (.getfield 45, 3) := by decide +kernel
theorem dX6_send_17 : decode cX6_send 17 = .ok (.aload_n 0, 1) := by decide +kernel
theorem dX6_send_18 : decode cX6_send 18 = .ok (.getfield 12, 3) := by decide +kernel
theorem dX6_send_21 : decode cX6_send 21 = .ok (.getfield 163, 3) := by decide +kernel
theorem dX6_send_24 : decode cX6_send 24 = .ok (.iload_n 2, 1) := by decide +kernel
theorem dX6_send_25 : decode cX6_send 25 = .ok (.iaload, 1) := by decide +kernel
theorem dX6_send_26 : decode cX6_send 26 = .ok (.iload_n 1, 1) := by decide +kernel
theorem dX6_send_27 : decode cX6_send 27 = .ok (.invokevirtual 245, 3) := by decide +kernel
theorem dX6_send_30 : decode cX6_send 30 = .ok (.aload_n 0, 1) := by decide +kernel
theorem dX6_send_31 : decode cX6_send 31 = .ok (.getfield 45, 3) := by decide +kernel
theorem dX6_send_34 : decode cX6_send 34 = .ok (.getfield 226, 3) := by decide +kernel
theorem dX6_send_37 : decode cX6_send 37 = .ok (.iload_n 1, 1) := by decide +kernel
theorem dX6_send_38 : decode cX6_send 38 = .ok (.iaload, 1) := by decide +kernel
theorem dX6_send_39 : decode cX6_send 39 = .ok (.invokevirtual 229, 3) := by decide +kernel
theorem dX6_send_42 : decode cX6_send 42 = .ok (.return_, 1) := by decide +kernel
theorem dX6_enter_0 : decode cX6_enter 0 = .ok (.aload_n 0, 1) := by decide +kernel
theorem dX6_enter_1 : decode cX6_enter 1 = .ok (.getfield 77, 3) := by decide +kernel
theorem dX6_enter_4 : decode cX6_enter 4 = .ok (.iconst 1, 1) := by decide +kernel
theorem dX6_enter_5 : decode cX6_enter 5 = .ok (.iadd, 1) := by decide +kernel
theorem dX6_enter_6 : decode cX6_enter 6 = .ok (.bipush 64, 2) := by decide +kernel
theorem dX6_enter_8 : decode cX6_enter 8 = .ok (.if_icmp .ne 9, 3) := by decide +kernel
theorem dX6_enter_11 : decode cX6_enter 11 = .ok (.aload_n 0, 1) := by decide +kernel
theorem dX6_enter_12 : decode cX6_enter 12 = .ok (.iconst 4, 1) := by decide +kernel
theorem dX6_enter_13 : decode cX6_enter 13 = .ok (.putfield 71, 3) := by decide +kernel
theorem dX6_enter_16 : decode cX6_enter 16 = .ok (.return_, 1) := by decide +kernel
theorem dX6_enter_17 : decode cX6_enter 17 = .ok (.aload_n 0, 1) := by decide +kernel
theorem dX6_enter_18 : decode cX6_enter 18 = .ok (.getfield 29, 3) := by decide +kernel
theorem dX6_enter_21 : decode cX6_enter 21 = .ok (.aload_n 0, 1) := by decide +kernel
theorem dX6_enter_22 : decode cX6_enter 22 = .ok (.getfield 77, 3) := by decide +kernel
theorem dX6_enter_25 : decode cX6_enter 25 = .ok (.dup2, 1) := by decide +kernel
theorem dX6_enter_26 : decode cX6_enter 26 = .ok (.iaload, 1) := by decide +kernel
theorem dX6_enter_27 : decode cX6_enter 27 = .ok (.iload_n 2, 1) := by decide +kernel
theorem dX6_enter_28 : decode cX6_enter 28 = .ok (.isub, 1) := by decide +kernel
theorem dX6_enter_29 : decode cX6_enter 29 = .ok (.iastore, 1) := by decide +kernel
theorem dX6_enter_30 : decode cX6_enter 30 = .ok (.aload_n 0, 1) := by decide +kernel
theorem dX6_enter_31 : decode cX6_enter 31 = .ok (.invokevirtual 138, 3) := by decide +kernel
theorem dX6_enter_34 : decode cX6_enter 34 = .ok (.istore_n 3, 1) := by decide +kernel
theorem dX6_enter_35 : decode cX6_enter 35 = .ok (.aload_n 0, 1) := by decide +kernel
theorem dX6_enter_36 : decode cX6_enter 36 = .ok (.dup, 1) := by decide +kernel
theorem dX6_enter_37 : decode cX6_enter 37 = .ok (.getfield 77, 3) := by decide +kernel
theorem dX6_enter_40 : decode cX6_enter 40 = .ok (.iconst 1, 1) := by decide +kernel
theorem dX6_enter_41 : decode cX6_enter 41 = .ok (.iadd, 1) := by decide +kernel
theorem dX6_enter_42 : decode cX6_enter 42 = .ok (.putfield 77, 3) := by decide +kernel
theorem dX6_enter_45 : decode cX6_enter 45 = .ok (.aload_n 0, 1) := by decide +kernel
theorem dX6_enter_46 : decode cX6_enter 46 = .ok (.getfield 77, 3) := by decide +kernel
theorem dX6_enter_49 : decode cX6_enter 49 = .ok (.bipush 20, 2) := by decide +kernel
theorem dX6_enter_51 : decode cX6_enter 51 = .ok (.imul, 1) := by decide +kernel
theorem dX6_enter_52 : decode cX6_enter 52 = .ok (.istore 4, 2) := by decide +kernel
theorem dX6_enter_54 : decode cX6_enter 54 = .ok (.aload_n 0, 1) := by decide +kernel
theorem dX6_enter_55 : decode cX6_enter 55 = .ok (.getfield 18, 3) := by decide +kernel
theorem dX6_enter_58 : decode cX6_enter 58 = .ok (.iload_n 3, 1) := by decide +kernel
theorem dX6_enter_59 : decode cX6_enter 59 = .ok (.aload_n 0, 1) := by decide +kernel
theorem dX6_enter_60 : decode cX6_enter 60 = .ok (.getfield 18, 3) := by decide +kernel
theorem dX6_enter_63 : decode cX6_enter 63 = .ok (.iload 4, 2) := by decide +kernel
theorem dX6_enter_65 : decode cX6_enter 65 = .ok (.iload_n 2, 1) := by decide +kernel
theorem dX6_enter_66 : decode cX6_enter 66 = .ok (.invokestatic 248, 3) := by decide +kernel
theorem dX6_enter_69 : decode cX6_enter 69 = .ok (.aload_n 0, 1) := by decide +kernel
theorem dX6_enter_70 : decode cX6_enter 70 = .ok (.getfield 22, 3) := by decide +kernel
theorem dX6_enter_73 : decode cX6_enter 73 = .ok (.iload_n 3, 1) := by decide +kernel
theorem dX6_enter_74 : decode cX6_enter 74 = .ok (.aload_n 0, 1) := by decide +kernel
theorem dX6_enter_75 : decode cX6_enter 75 = .ok (.getfield 22, 3) := by decide +kernel
theorem dX6_enter_78 : decode cX6_enter 78 = .ok (.iload 4, 2) := by decide +kernel
theorem dX6_enter_80 : decode cX6_enter 80 = .ok (.iload_n 2, 1) := by decide +kernel
theorem dX6_enter_81 : decode cX6_enter 81 = .ok (.invokestatic 248, 3) := by decide +kernel
theorem dX6_enter_84 : decode cX6_enter 84 = .ok (.aload_n 0, 1) := by decide +kernel
theorem dX6_enter_85 : decode cX6_enter 85 = .ok (.getfield 22, 3) := by decide +kernel
theorem dX6_enter_88 : decode cX6_enter 88 = .ok (.iload 4, 2) := by decide +kernel
theorem dX6_enter_90 : decode cX6_enter 90 = .ok (.iload_n 2, 1) := by decide +kernel
theorem dX6_enter_91 : decode cX6_enter 91 = .ok (.iadd, 1) := by decide +kernel
theorem dX6_enter_92 : decode cX6_enter 92 = .ok (.iload 4, 2) := by decide +kernel
theorem dX6_enter_94 : decode cX6_enter 94 = .ok (.bipush 12, 2) := by decide +kernel
theorem dX6_enter_96 : decode cX6_enter 96 = .ok (.iadd, 1) := by decide +kernel
theorem dX6_enter_97 : decode cX6_enter 97 = .ok (.bipush 67, 2) := by decide +kernel
theorem dX6_enter_99 : decode cX6_enter 99 = .ok (.invokestatic 80, 3) := by decide +kernel
theorem dX6_enter_102 : decode cX6_enter 102 = .ok (.aload_n 0, 1) := by decide +kernel
theorem dX6_enter_103 : decode cX6_enter 103 = .ok (.getfield 29, 3) := by decide +kernel
theorem dX6_enter_106 : decode cX6_enter 106 = .ok (.aload_n 0, 1) := by decide +kernel
theorem dX6_enter_107 : decode cX6_enter 107 = .ok (.getfield 77, 3) := by decide +kernel
theorem dX6_enter_110 : decode cX6_enter 110 = .ok (.iconst 0, 1) := by decide +kernel
theorem dX6_enter_111 : decode cX6_enter 111 = .ok (.iastore, 1) := by decide +kernel
theorem dX6_enter_112 : decode cX6_enter 112 = .ok (.aload_n 0, 1) := by decide +kernel
theorem dX6_enter_113 : decode cX6_enter 113 = .ok (.getfield 26, 3) := by decide +kernel
theorem dX6_enter_116 : decode cX6_enter 116 = .ok (.aload_n 0, 1) := by decide +kernel
theorem dX6_enter_117 : decode cX6_enter 117 = .ok (.getfield 77, 3) := by decide +kernel
theorem dX6_enter_120 : decode cX6_enter 120 = .ok (.aload_n 0, 1) := by decide +kernel
theorem dX6_enter_121 : decode cX6_enter 121 = .ok (.getfield 45, 3) := by decide +kernel
theorem dX6_enter_124 : decode cX6_enter 124 = .ok (.getfield 86, 3) := by decide +kernel
theorem dX6_enter_127 : decode cX6_enter 127 = .ok (.iload_n 1, 1) := by decide +kernel
theorem dX6_enter_128 : decode cX6_enter 128 = .ok (.iaload, 1) := by decide +kernel
theorem dX6_enter_129 : decode cX6_enter 129 = .ok (.iastore, 1) := by decide +kernel
theorem dX6_enter_130 : decode cX6_enter 130 = .ok (.return_, 1) := by decide +kernel
theorem dX6_leave_0 : decode cX6_leave 0 = .ok (.aload_n 0, 1) := by decide +kernel
theorem dX6_leave_1 : decode cX6_leave 1 = .ok (.getfield 77, 3) := by decide +kernel
theorem dX6_leave_4 : decode cX6_leave 4 = .ok (.ifCond .ne 9, 3) := by decide +kernel
theorem dX6_leave_7 : decode cX6_leave 7 = .ok (.aload_n 0, 1) := by decide +kernel
theorem dX6_leave_8 : decode cX6_leave 8 = .ok (.iconst 0, 1) := by decide +kernel
theorem dX6_leave_9 : decode cX6_leave 9 = .ok (.putfield 71, 3) := by decide +kernel
theorem dX6_leave_12 : decode cX6_leave 12 = .ok (.return_, 1) := by decide +kernel
theorem dX6_leave_13 : decode cX6_leave 13 = .ok (.aload_n 0, 1) := by decide +kernel
theorem dX6_leave_14 : decode cX6_leave 14 = .ok (.invokevirtual 138, 3) := by decide +kernel
theorem dX6_leave_17 : decode cX6_leave 17 = .ok (.iconst 1, 1) := by decide +kernel
theorem dX6_leave_18 : decode cX6_leave 18 = .ok (.isub, 1) := by decide +kernel
theorem dX6_leave_19 : decode cX6_leave 19 = .ok (.istore_n 2, 1) := by decide +kernel
theorem dX6_leave_20 : decode cX6_leave 20 = .ok (.aload_n 0, 1) := by decide +kernel
theorem dX6_leave_21 : decode cX6_leave 21 = .ok (.dup, 1) := by decide +kernel
theorem dX6_leave_22 : decode cX6_leave 22 = .ok (.getfield 77, 3) := by decide +kernel
theorem dX6_leave_25 : decode cX6_leave 25 = .ok (.iconst 1, 1) := by decide +kernel
theorem dX6_leave_26 : decode cX6_leave 26 = .ok (.isub, 1) := by decide +kernel
theorem dX6_leave_27 : decode cX6_leave 27 = .ok (.putfield 77, 3) := by decide +kernel
theorem dX6_leave_30 : decode cX6_leave 30 = .ok (.iload_n 1, 1) := by decide +kernel
theorem dX6_leave_31 : decode cX6_leave 31 = .ok (.ifCond .eq 19, 3) := by decide +kernel
theorem dX6_leave_34 : decode cX6_leave 34 = .ok (.aload_n 0, 1) := by decide +kernel
theorem dX6_leave_35 : decode cX6_leave 35 = .ok (.aload_n 0, 1) := by decide +kernel
theorem dX6_leave_36 : decode cX6_leave 36 = .ok (.getfield 18, 3) := by decide +kernel
theorem dX6_leave_39 : decode cX6_leave 39 = .ok (.iload_n 2, 1) := by decide +kernel
theorem dX6_leave_40 : decode cX6_leave 40 = .ok (.iaload, 1) := by decide +kernel
theorem dX6_leave_41 : decode cX6_leave 41 = .ok (.aload_n 0, 1) := by decide +kernel
theorem dX6_leave_42 : decode cX6_leave 42 = .ok (.getfield 22, 3) := by decide +kernel
theorem dX6_leave_45 : decode cX6_leave 45 = .ok (.iload_n 2, 1) := by decide +kernel
theorem dX6_leave_46 : decode cX6_leave 46 = .ok (.baload, 1) := by decide +kernel
theorem dX6_leave_47 : decode cX6_leave 47 = .ok (.invokevirtual 160, 3) := by decide +kernel
theorem dX6_leave_50 : decode cX6_leave 50 = .ok (.return_, 1) := by decide +kernel
theorem dX6_write_0 : decode cX6_write 0 = .ok (.aload_n 0, 1) := by decide +kernel
theorem dX6_write_1 : decode cX6_write 1 = .ok (.getfield 65, 3) := by decide +kernel
theorem dX6_write_4 : decode cX6_write 4 = .ok (.sipush 256, 3) := by decide +kernel
theorem dX6_write_7 : decode cX6_write 7 = .ok (.if_icmp .ge 13, 3) := by decide +kernel
theorem dX6_write_10 : decode cX6_write 10 = .ok (.aload_n 0, 1) := by decide +kernel
theorem dX6_write_11 : decode cX6_write 11 = .ok (.getfield 35, 3) := by decide +kernel
theorem dX6_write_14 : decode cX6_write 14 = .ok (.aload_n 0, 1) := by decide +kernel
theorem dX6_write_15 : decode cX6_write 15 = .ok (.getfield 65, 3) := by decide +kernel
theorem dX6_write_18 : decode cX6_write 18 = .ok (.iload_n 1, 1) := by decide +kernel
theorem dX6_write_19 : decode cX6_write 19 = .ok (.iastore, 1) := by decide +kernel
theorem dX6_write_20 : decode cX6_write 20 = .ok (.aload_n 0, 1) := by decide +kernel
theorem dX6_write_21 : decode cX6_write 21 = .ok (.dup, 1) := by decide +kernel
theorem dX6_write_22 : decode cX6_write 22 = .ok (.getfield 65, 3) := by decide +kernel
theorem dX6_write_25 : decode cX6_write 25 = .ok (.iconst 1, 1) := by decide +kernel
theorem dX6_write_26 : decode cX6_write 26 = .ok (.iadd, 1) := by decide +kernel
theorem dX6_write_27 : decode cX6_write 27 = .ok (.putfield 65, 3) := by decide +kernel
theorem dX6_write_30 : decode cX6_write 30 = .ok (.return_, 1) := by decide +kernel
theorem dX6_raise_0 : decode cX6_raise 0 = .ok (.aload_n 0, 1) := by decide +kernel
theorem dX6_raise_1 : decode cX6_raise 1 = .ok (.aload_n 0, 1) := by decide +kernel
theorem dX6_raise_2 : decode cX6_raise 2 = .ok (.getfield 12, 3) := by decide +kernel
theorem dX6_raise_5 : decode cX6_raise 5 = .ok (.iload_n 1, 1) := by decide +kernel
theorem dX6_raise_6 : decode cX6_raise 6 = .ok (.iconst 0, 1) := by decide +kernel
theorem dX6_raise_7 : decode cX6_raise 7 = .ok (.bipush 48, 2) := by decide +kernel
theorem dX6_raise_9 : decode cX6_raise 9 = .ok (.iload_n 1, 1) := by decide +kernel
theorem dX6_raise_10 : decode cX6_raise 10 = .ok (.iadd, 1) := by decide +kernel
theorem dX6_raise_11 : decode cX6_raise 11 = .ok (.iconst 2, 1) := by decide +kernel
theorem dX6_raise_12 : decode cX6_raise 12 = .ok (.isub, 1) := by decide +kernel
theorem dX6_raise_13 : decode cX6_raise 13 = .ok (.invokevirtual 212, 3) := by decide +kernel
theorem dX6_raise_16 : decode cX6_raise 16 = .ok (.putfield 74, 3) := by decide +kernel
theorem dX6_raise_19 : decode cX6_raise 19 = .ok (.aload_n 0, 1) := by decide +kernel
theorem dX6_raise_20 : decode cX6_raise 20 = .ok (.getfield 74, 3) := by decide +kernel
theorem dX6_raise_23 : decode cX6_raise 23 = .ok (.ifCond .ne 8, 3) := by decide +kernel
theorem dX6_raise_26 : decode cX6_raise 26 = .ok (.aload_n 0, 1) := by decide +kernel
theorem dX6_raise_27 : decode cX6_raise 27 = .ok (.iconst 3, 1) := by decide +kernel
theorem dX6_raise_28 : decode cX6_raise 28 = .ok (.putfield 71, 3) := by decide +kernel
theorem dX6_raise_31 : decode cX6_raise 31 = .ok (.return_, 1) := by decide +kernel
theorem dX6_raiseObject_0 : decode cX6_raiseObject 0 = .ok (.iload_n 1, 1) := by decide +kernel
theorem dX6_raiseObject_1 : decode cX6_raiseObject 1 = .ok (.ifCond .ne 11, 3) := by decide +kernel
theorem dX6_raiseObject_4 : decode cX6_raiseObject 4 = .ok (.aload_n 0, 1) := by decide +kernel
theorem dX6_raiseObject_5 : decode cX6_raiseObject 5 = .ok (.iconst 2, 1) := by decide +kernel
theorem dX6_raiseObject_6 : decode cX6_raiseObject 6 = .ok (.invokevirtual 178, 3) := by decide +kernel
theorem dX6_raiseObject_9 : decode cX6_raiseObject 9 = .ok (.goto 8, 3) := by decide +kernel
theorem dX6_raiseObject_12 : decode cX6_raiseObject 12 = .ok (.aload_n 0, 1) := by decide +kernel
theorem dX6_raiseObject_13 : decode cX6_raiseObject 13 = .ok (.iload_n 1, 1) := by decide +kernel
theorem dX6_raiseObject_14 : decode cX6_raiseObject 14 = .ok (.putfield 74, 3) := by decide +kernel
theorem dX6_raiseObject_17 : decode cX6_raiseObject 17 = .ok (.return_, 1) := by decide +kernel
theorem dX6_passUp_0 : decode cX6_passUp 0 = .ok (.aload_n 0, 1) := by decide +kernel
theorem dX6_passUp_1 : decode cX6_passUp 1 = .ok (.getfield 74, 3) := by decide +kernel
theorem dX6_passUp_4 : decode cX6_passUp 4 = .ok (.istore_n 1, 1) := by decide +kernel
theorem dX6_passUp_5 : decode cX6_passUp 5 = .ok (.aload_n 0, 1) := by decide +kernel
theorem dX6_passUp_6 : decode cX6_passUp 6 = .ok (.getfield 38, 3) := by decide +kernel
theorem dX6_passUp_9 : decode cX6_passUp 9 = .ok (.istore_n 2, 1) := by decide +kernel
theorem dX6_passUp_10 : decode cX6_passUp 10 = .ok (.aload_n 0, 1) := by decide +kernel
theorem dX6_passUp_11 : decode cX6_passUp 11 = .ok (.iconst 0, 1) := by decide +kernel
theorem dX6_passUp_12 : decode cX6_passUp 12 = .ok (.putfield 74, 3) := by decide +kernel
theorem dX6_passUp_15 : decode cX6_passUp 15 = .ok (.aload_n 0, 1) := by decide +kernel
theorem dX6_passUp_16 : decode cX6_passUp 16 = .ok (.getfield 77, 3) := by decide +kernel
theorem dX6_passUp_19 : decode cX6_passUp 19 = .ok (.istore_n 3, 1) := by decide +kernel
theorem dX6_passUp_20 : decode cX6_passUp 20 = .ok (.iload_n 3, 1) := by decide +kernel
theorem dX6_passUp_21 : decode cX6_passUp 21 = .ok (.ifCond .lt 76, 3) := by decide +kernel
theorem dX6_passUp_24 : decode cX6_passUp 24 = .ok (.aload_n 0, 1) := by decide +kernel
theorem dX6_passUp_25 : decode cX6_passUp 25 = .ok (.iload_n 2, 1) := by decide +kernel
theorem dX6_passUp_26 : decode cX6_passUp 26 = .ok (.aload_n 0, 1) := by decide +kernel
theorem dX6_passUp_27 : decode cX6_passUp 27 = .ok (.getfield 12, 3) := by decide +kernel
theorem dX6_passUp_30 : decode cX6_passUp 30 = .ok (.getfield 163, 3) := by decide +kernel
theorem dX6_passUp_33 : decode cX6_passUp 33 = .ok (.iload_n 1, 1) := by decide +kernel
theorem dX6_passUp_34 : decode cX6_passUp 34 = .ok (.iaload, 1) := by decide +kernel
theorem dX6_passUp_35 : decode cX6_passUp 35 = .ok (.invokevirtual 254, 3) := by decide +kernel
theorem dX6_passUp_38 : decode cX6_passUp 38 = .ok (.istore 4, 2) := by decide +kernel
theorem dX6_passUp_40 : decode cX6_passUp 40 = .ok (.iload 4, 2) := by decide +kernel
theorem dX6_passUp_42 : decode cX6_passUp 42 = .ok (.iconst (-1), 1) := by decide +kernel
theorem dX6_passUp_43 : decode cX6_passUp 43 = .ok (.if_icmp .eq 29, 3) := by decide +kernel
theorem dX6_passUp_46 : decode cX6_passUp 46 = .ok (.aload_n 0, 1) := by decide +kernel
theorem dX6_passUp_47 : decode cX6_passUp 47 = .ok (.iload_n 3, 1) := by decide +kernel
theorem dX6_passUp_48 : decode cX6_passUp 48 = .ok (.putfield 77, 3) := by decide +kernel
theorem dX6_passUp_51 : decode cX6_passUp 51 = .ok (.aload_n 0, 1) := by decide +kernel
theorem dX6_passUp_52 : decode cX6_passUp 52 = .ok (.getfield 29, 3) := by decide +kernel
theorem dX6_passUp_55 : decode cX6_passUp 55 = .ok (.iload_n 3, 1) := by decide +kernel
theorem dX6_passUp_56 : decode cX6_passUp 56 = .ok (.iconst 0, 1) := by decide +kernel
theorem dX6_passUp_57 : decode cX6_passUp 57 = .ok (.iastore, 1) := by decide +kernel
theorem dX6_passUp_58 : decode cX6_passUp 58 = .ok (.aload_n 0, 1) := by decide +kernel
theorem dX6_passUp_59 : decode cX6_passUp 59 = .ok (.getfield 26, 3) := by decide +kernel
theorem dX6_passUp_62 : decode cX6_passUp 62 = .ok (.iload_n 3, 1) := by decide +kernel
theorem dX6_passUp_63 : decode cX6_passUp 63 = .ok (.iload 4, 2) := by decide +kernel
theorem dX6_passUp_65 : decode cX6_passUp 65 = .ok (.iastore, 1) := by decide +kernel
theorem dX6_passUp_66 : decode cX6_passUp 66 = .ok (.aload_n 0, 1) := by decide +kernel
theorem dX6_passUp_67 : decode cX6_passUp 67 = .ok (.iload_n 1, 1) := by decide +kernel
theorem dX6_passUp_68 : decode cX6_passUp 68 = .ok (.invokevirtual 169, 3) := by decide +kernel
theorem dX6_passUp_71 : decode cX6_passUp 71 = .ok (.return_, 1) := by decide +kernel
theorem dX6_passUp_72 : decode cX6_passUp 72 = .ok (.iload_n 3, 1) := by decide +kernel
theorem dX6_passUp_73 : decode cX6_passUp 73 = .ok (.ifCond .le 16, 3) := by decide +kernel
theorem dX6_passUp_76 : decode cX6_passUp 76 = .ok (.aload_n 0, 1) := by decide +kernel
theorem dX6_passUp_77 : decode cX6_passUp 77 = .ok (.getfield 26, 3) := by decide +kernel
theorem dX6_passUp_80 : decode cX6_passUp 80 = .ok (.iload_n 3, 1) := by decide +kernel
theorem dX6_passUp_81 : decode cX6_passUp 81 = .ok (.iconst 1, 1) := by decide +kernel
theorem dX6_passUp_82 : decode cX6_passUp 82 = .ok (.isub, 1) := by decide +kernel
theorem dX6_passUp_83 : decode cX6_passUp 83 = .ok (.iaload, 1) := by decide +kernel
theorem dX6_passUp_84 : decode cX6_passUp 84 = .ok (.iconst 1, 1) := by decide +kernel
theorem dX6_passUp_85 : decode cX6_passUp 85 = .ok (.isub, 1) := by decide +kernel
theorem dX6_passUp_86 : decode cX6_passUp 86 = .ok (.goto 4, 3) := by decide +kernel
theorem dX6_passUp_89 : decode cX6_passUp 89 = .ok (.iload_n 2, 1) := by decide +kernel
theorem dX6_passUp_90 : decode cX6_passUp 90 = .ok (.istore_n 2, 1) := by decide +kernel
theorem dX6_passUp_91 : decode cX6_passUp 91 = .ok (.iinc 3 (-1), 3) := by decide +kernel
theorem dX6_passUp_94 : decode cX6_passUp 94 = .ok (.goto (-74), 3) := by decide +kernel
theorem dX6_passUp_97 : decode cX6_passUp 97 = .ok (.aload_n 0, 1) := by decide +kernel
theorem dX6_passUp_98 : decode cX6_passUp 98 = .ok (.iconst 1, 1) := by decide +kernel
theorem dX6_passUp_99 : decode cX6_passUp 99 = .ok (.putfield 71, 3) := by decide +kernel
theorem dX6_passUp_102 : decode cX6_passUp 102 = .ok (.aload_n 0, 1) := by decide +kernel
theorem dX6_passUp_103 : decode cX6_passUp 103 = .ok (.aload_n 0, 1) := by decide +kernel
theorem dX6_passUp_104 : decode cX6_passUp 104 = .ok (.getfield 12, 3) := by decide +kernel
theorem dX6_passUp_107 : decode cX6_passUp 107 = .ok (.getfield 257, 3) := by decide +kernel
theorem dX6_passUp_110 : decode cX6_passUp 110 = .ok (.iload_n 1, 1) := by decide +kernel
theorem dX6_passUp_111 : decode cX6_passUp 111 = .ok (.iaload, 1) := by decide +kernel
theorem dX6_passUp_112 : decode cX6_passUp 112 = .ok (.putfield 42, 3) := by decide +kernel
theorem dX6_passUp_115 : decode cX6_passUp 115 = .ok (.return_, 1) := by decide +kernel
theorem dX6_handlerOf_0 : decode cX6_handlerOf 0 = .ok (.aload_n 0, 1) := by decide +kernel
theorem dX6_handlerOf_1 : decode cX6_handlerOf 1 = .ok (.getfield 55, 3) := by decide +kernel
theorem dX6_handlerOf_4 : decode cX6_handlerOf 4 = .ok (.getfield 258, 3) := by decide +kernel
theorem dX6_handlerOf_7 : decode cX6_handlerOf 7 = .ok (.iload_n 1, 1) := by decide +kernel
theorem dX6_handlerOf_8 : decode cX6_handlerOf 8 = .ok (.iaload, 1) := by decide +kernel
theorem dX6_handlerOf_9 : decode cX6_handlerOf 9 = .ok (.istore_n 3, 1) := by decide +kernel
theorem dX6_handlerOf_10 : decode cX6_handlerOf 10 = .ok (.aload_n 0, 1) := by decide +kernel
theorem dX6_handlerOf_11 : decode cX6_handlerOf 11 = .ok (.getfield 45, 3) := by decide +kernel
theorem dX6_handlerOf_14 : decode cX6_handlerOf 14 = .ok (.getfield 261, 3) := by decide +kernel
theorem dX6_handlerOf_17 : decode cX6_handlerOf 17 = .ok (.iload_n 3, 1) := by decide +kernel
theorem dX6_handlerOf_18 : decode cX6_handlerOf 18 = .ok (.iaload, 1) := by decide +kernel
theorem dX6_handlerOf_19 : decode cX6_handlerOf 19 = .ok (.istore 4, 2) := by decide +kernel
theorem dX6_handlerOf_21 : decode cX6_handlerOf 21 = .ok (.iload 4, 2) := by decide +kernel
theorem dX6_handlerOf_23 : decode cX6_handlerOf 23 = .ok (.aload_n 0, 1) := by decide +kernel
theorem dX6_handlerOf_24 : decode cX6_handlerOf 24 = .ok (.getfield 45, 3) := by decide +kernel
theorem dX6_handlerOf_27 : decode cX6_handlerOf 27 = .ok (.getfield 264, 3) := by decide +kernel
theorem dX6_handlerOf_30 : decode cX6_handlerOf 30 = .ok (.iload_n 3, 1) := by decide +kernel
theorem dX6_handlerOf_31 : decode cX6_handlerOf 31 = .ok (.iaload, 1) := by decide +kernel
theorem dX6_handlerOf_32 : decode cX6_handlerOf 32 = .ok (.if_icmp .ge 57, 3) := by decide +kernel
theorem dX6_handlerOf_35 : decode cX6_handlerOf 35 = .ok (.aload_n 0, 1) := by decide +kernel
theorem dX6_handlerOf_36 : decode cX6_handlerOf 36 = .ok (.getfield 55, 3) := by decide +kernel
theorem dX6_handlerOf_39 : decode cX6_handlerOf 39 = .ok (.iload_n 1, 1) := by decide +kernel
theorem dX6_handlerOf_40 : decode cX6_handlerOf 40 = .ok (.iload 4, 2) := by decide +kernel
theorem dX6_handlerOf_42 : decode cX6_handlerOf 42 = .ok (.invokevirtual 267, 3) := by decide +kernel
theorem dX6_handlerOf_45 : decode cX6_handlerOf 45 = .ok (.ifCond .eq 38, 3) := by decide +kernel
theorem dX6_handlerOf_48 : decode cX6_handlerOf 48 = .ok (.aload_n 0, 1) := by decide +kernel
theorem dX6_handlerOf_49 : decode cX6_handlerOf 49 = .ok (.getfield 45, 3) := by decide +kernel
theorem dX6_handlerOf_52 : decode cX6_handlerOf 52 = .ok (.getfield 150, 3) := by decide +kernel
theorem dX6_handlerOf_55 : decode cX6_handlerOf 55 = .ok (.iload_n 2, 1) := by decide +kernel
theorem dX6_handlerOf_56 : decode cX6_handlerOf 56 = .ok (.aload_n 0, 1) := by decide +kernel
theorem dX6_handlerOf_57 : decode cX6_handlerOf 57 = .ok (.getfield 55, 3) := by decide +kernel
theorem dX6_handlerOf_60 : decode cX6_handlerOf 60 = .ok (.getfield 270, 3) := by decide +kernel
theorem dX6_handlerOf_63 : decode cX6_handlerOf 63 = .ok (.iload 4, 2) := by decide +kernel
theorem dX6_handlerOf_65 : decode cX6_handlerOf 65 = .ok (.iaload, 1) := by decide +kernel
theorem dX6_handlerOf_66 : decode cX6_handlerOf 66 = .ok (.invokevirtual 209, 3) := by decide +kernel
theorem dX6_handlerOf_69 : decode cX6_handlerOf 69 = .ok (.ifCond .eq 14, 3) := by decide +kernel
theorem dX6_handlerOf_72 : decode cX6_handlerOf 72 = .ok (.aload_n 0, 1) := by decide +kernel
theorem dX6_handlerOf_73 : decode cX6_handlerOf 73 = .ok (.getfield 55, 3) := by decide +kernel
theorem dX6_handlerOf_76 : decode cX6_handlerOf 76 = .ok (.getfield 273, 3) := by decide +kernel
theorem dX6_handlerOf_79 : decode cX6_handlerOf 79 = .ok (.iload 4, 2) := by decide +kernel
theorem dX6_handlerOf_81 : decode cX6_handlerOf 81 = .ok (.iaload, 1) := by decide +kernel
