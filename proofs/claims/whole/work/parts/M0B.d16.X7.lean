theorem dX7_init_0 : decode cX7_init 0 = .ok (.aload_n 0, 1) := by decide +kernel
theorem dX7_init_1 : decode cX7_init 1 = .ok (.invokespecial 3, 3) := by decide +kernel
theorem dX7_init_4 : decode cX7_init 4 = .ok (.aload_n 0, 1) := by decide +kernel
theorem dX7_init_5 : decode cX7_init 5 = .ok (.ldc 9, 2) := by decide +kernel
theorem dX7_init_7 : decode cX7_init 7 = .ok (.putfield 11, 3) := by decide +kernel
theorem dX7_init_10 : decode cX7_init 10 = .ok (.aload_n 0, 1) := by decide +kernel
theorem dX7_init_11 : decode cX7_init 11 = .ok (.aload_n 1, 1) := by decide +kernel
theorem dX7_init_12 : decode cX7_init 12 = .ok (.putfield 17, 3) := by decide +kernel
theorem dX7_init_15 : decode cX7_init 15 = .ok (.return_, 1) := by decide +kernel
theorem dX7_firstFault_0 : decode cX7_firstFault 0 = .ok (.aload_n 0, 1) := by decide +kernel
theorem dX7_firstFault_1 : decode cX7_firstFault 1 = .ok (.ldc 9, 2) := by decide +kernel
theorem dX7_firstFault_3 : decode cX7_firstFault 3 = .ok (.putfield 11, 3) := by decide +kernel
theorem dX7_firstFault_6 : decode cX7_firstFault 6 = .ok (.aload_n 0, 1) := by decide +kernel
theorem dX7_firstFault_7 : decode cX7_firstFault 7 = .ok (.iconst 0, 1) := by decide +kernel
theorem dX7_firstFault_8 : decode cX7_firstFault 8 = .ok (.putfield 21, 3) := by decide +kernel
theorem dX7_firstFault_11 : decode cX7_firstFault 11 = .ok (.aload_n 0, 1) := by decide +kernel
theorem dX7_firstFault_12 : decode cX7_firstFault 12 = .ok (.iconst 0, 1) := by decide +kernel
theorem dX7_firstFault_13 : decode cX7_firstFault 13 = .ok (.putfield 25, 3) := by decide +kernel
theorem dX7_firstFault_16 : decode cX7_firstFault 16 = .ok (.iconst 0, 1) := by decide +kernel
theorem dX7_firstFault_17 : decode cX7_firstFault 17 = .ok (.istore_n 1, 1) := by decide +kernel
theorem dX7_firstFault_18 : decode cX7_firstFault 18 = .ok (.iload_n 1, 1) := by decide +kernel
theorem dX7_firstFault_19 : decode cX7_firstFault 19 = .ok (.aload_n 0, 1) := by decide +kernel
theorem dX7_firstFault_20 : decode cX7_firstFault 20 = .ok (.getfield 17, 3) := by decide +kernel
theorem dX7_firstFault_23 : decode cX7_firstFault 23 = .ok (.getfield 28, 3) := by decide +kernel
theorem dX7_firstFault_26 : decode cX7_firstFault 26 = .ok (.if_icmp .ge 65, 3) := by decide +kernel
theorem dX7_firstFault_29 : decode cX7_firstFault 29 = .ok (.aload_n 0, 1) := by decide +kernel
theorem dX7_firstFault_30 : decode cX7_firstFault 30 = .ok (.getfield 17, 3) := by decide +kernel
theorem dX7_firstFault_33 : decode cX7_firstFault 33 = .ok (.getfield 33, 3) := by decide +kernel
theorem dX7_firstFault_36 : decode cX7_firstFault 36 = .ok (.iload_n 1, 1) := by decide +kernel
theorem dX7_firstFault_37 : decode cX7_firstFault 37 = .ok (.bipush 53, 2) := by decide +kernel
theorem dX7_firstFault_39 : decode cX7_firstFault 39 = .ok (.bastore, 1) := by decide +kernel
theorem dX7_firstFault_40 : decode cX7_firstFault 40 = .ok (.aload_n 0, 1) := by decide +kernel
theorem dX7_firstFault_41 : decode cX7_firstFault 41 = .ok (.getfield 21, 3) := by decide +kernel
theorem dX7_firstFault_44 : decode cX7_firstFault 44 = .ok (.aload_n 0, 1) := by decide +kernel
theorem dX7_firstFault_45 : decode cX7_firstFault 45 = .ok (.getfield 11, 3) := by decide +kernel
theorem dX7_firstFault_48 : decode cX7_firstFault 48 = .ok (.invokevirtual 37, 3) := by decide +kernel
theorem dX7_firstFault_51 : decode cX7_firstFault 51 = .ok (.if_icmp .ge 22, 3) := by decide +kernel
theorem dX7_firstFault_54 : decode cX7_firstFault 54 = .ok (.aload_n 0, 1) := by decide +kernel
theorem dX7_firstFault_55 : decode cX7_firstFault 55 = .ok (.iload_n 1, 1) := by decide +kernel
theorem dX7_firstFault_56 : decode cX7_firstFault 56 = .ok (.aload_n 0, 1) := by decide +kernel
theorem dX7_firstFault_57 : decode cX7_firstFault 57 = .ok (.getfield 11, 3) := by decide +kernel
theorem dX7_firstFault_60 : decode cX7_firstFault 60 = .ok (.aload_n 0, 1) := by decide +kernel
theorem dX7_firstFault_61 : decode cX7_firstFault 61 = .ok (.getfield 21, 3) := by decide +kernel
theorem dX7_firstFault_64 : decode cX7_firstFault 64 = .ok (.invokevirtual 43, 3) := by decide +kernel
theorem dX7_firstFault_67 : decode cX7_firstFault 67 = .ok (.invokevirtual 47, 3) := by decide +kernel
theorem dX7_firstFault_70 : decode cX7_firstFault 70 = .ok (.goto 8, 3) := by decide +kernel
theorem dX7_firstFault_73 : decode cX7_firstFault 73 = .ok (.aload_n 0, 1) := by decide +kernel
theorem dX7_firstFault_74 : decode cX7_firstFault 74 = .ok (.iload_n 1, 1) := by decide +kernel
theorem dX7_firstFault_75 : decode cX7_firstFault 75 = .ok (.invokevirtual 51, 3) := by decide +kernel
theorem dX7_firstFault_78 : decode cX7_firstFault 78 = .ok (.istore_n 2, 1) := by decide +kernel
theorem dX7_firstFault_79 : decode cX7_firstFault 79 = .ok (.iload_n 2, 1) := by decide +kernel
theorem dX7_firstFault_80 : decode cX7_firstFault 80 = .ok (.ifCond .ne 5, 3) := by decide +kernel
theorem dX7_firstFault_83 : decode cX7_firstFault 83 = .ok (.iload_n 1, 1) := by decide +kernel
theorem dX7_firstFault_84 : decode cX7_firstFault 84 = .ok (.ireturn, 1) := by decide +kernel
theorem dX7_firstFault_85 : decode cX7_firstFault 85 = .ok (.iinc 1 1, 3) := by decide +kernel
theorem dX7_firstFault_88 : decode cX7_firstFault 88 = .ok (.goto (-70), 3) := by decide +kernel
theorem dX7_firstFault_91 : decode cX7_firstFault 91 = .ok (.aload_n 0, 1) := by decide +kernel
theorem dX7_firstFault_92 : decode cX7_firstFault 92 = .ok (.getfield 25, 3) := by decide +kernel
theorem dX7_firstFault_95 : decode cX7_firstFault 95 = .ok (.ifCond .ne 21, 3) := by decide +kernel
theorem dX7_firstFault_98 : decode cX7_firstFault 98 = .ok (.aload_n 0, 1) := by decide +kernel
theorem dX7_firstFault_99 : decode cX7_firstFault 99 = .ok (.getfield 21, 3) := by decide +kernel
theorem dX7_firstFault_102 : decode cX7_firstFault 102 = .ok (.aload_n 0, 1) := by decide +kernel
theorem dX7_firstFault_103 : decode cX7_firstFault 103 = .ok (.getfield 11, 3) := by decide +kernel
theorem dX7_firstFault_106 : decode cX7_firstFault 106 = .ok (.invokevirtual 37, 3) := by decide +kernel
theorem dX7_firstFault_109 : decode cX7_firstFault 109 = .ok (.if_icmp .ne 7, 3) := by decide +kernel
theorem dX7_firstFault_112 : decode cX7_firstFault 112 = .ok (.iconst (-1), 1) := by decide +kernel
theorem dX7_firstFault_113 : decode cX7_firstFault 113 = .ok (.goto 10, 3) := by decide +kernel
theorem dX7_firstFault_116 : decode cX7_firstFault 116 = .ok (.aload_n 0, 1) := by decide +kernel
theorem dX7_firstFault_117 : decode cX7_firstFault 117 = .ok (.getfield 17, 3) := by decide +kernel
theorem dX7_firstFault_120 : decode cX7_firstFault 120 = .ok (.getfield 28, 3) := by decide +kernel
theorem dX7_firstFault_123 : decode cX7_firstFault 123 = .ok (.ireturn, 1) := by decide +kernel
theorem dX7_takesPart_0 : decode cX7_takesPart 0 = .ok (.iload_n 2, 1) := by decide +kernel
theorem dX7_takesPart_1 : decode cX7_takesPart 1 = .ok (.bipush 80, 2) := by decide +kernel
theorem dX7_takesPart_3 : decode cX7_takesPart 3 = .ok (.if_icmp .ne 25, 3) := by decide +kernel
theorem dX7_takesPart_6 : decode cX7_takesPart 6 = .ok (.aload_n 0, 1) := by decide +kernel
theorem dX7_takesPart_7 : decode cX7_takesPart 7 = .ok (.getfield 17, 3) := by decide +kernel
theorem dX7_takesPart_10 : decode cX7_takesPart 10 = .ok (.iload_n 1, 1) := by decide +kernel
theorem dX7_takesPart_11 : decode cX7_takesPart 11 = .ok (.bipush 41, 2) := by decide +kernel
theorem dX7_takesPart_13 : decode cX7_takesPart 13 = .ok (.invokevirtual 55, 3) := by decide +kernel
theorem dX7_takesPart_16 : decode cX7_takesPart 16 = .ok (.ifCond .ne 12, 3) := by decide +kernel
theorem dX7_takesPart_19 : decode cX7_takesPart 19 = .ok (.aload_n 0, 1) := by decide +kernel
theorem dX7_takesPart_20 : decode cX7_takesPart 20 = .ok (.getfield 17, 3) := by decide +kernel
theorem dX7_takesPart_23 : decode cX7_takesPart 23 = .ok (.iload_n 1, 1) := by decide +kernel
theorem dX7_takesPart_24 : decode cX7_takesPart 24 = .ok (.invokevirtual 58, 3) := by decide +kernel
theorem dX7_takesPart_27 : decode cX7_takesPart 27 = .ok (.ireturn, 1) := by decide +kernel
theorem dX7_takesPart_28 : decode cX7_takesPart 28 = .ok (.aload_n 0, 1) := by decide +kernel
theorem dX7_takesPart_29 : decode cX7_takesPart 29 = .ok (.dup, 1) := by decide +kernel
theorem dX7_takesPart_30 : decode cX7_takesPart 30 = .ok (.getfield 21, 3) := by decide +kernel
theorem dX7_takesPart_33 : decode cX7_takesPart 33 = .ok (.iconst 1, 1) := by decide +kernel
theorem dX7_takesPart_34 : decode cX7_takesPart 34 = .ok (.iadd, 1) := by decide +kernel
theorem dX7_takesPart_35 : decode cX7_takesPart 35 = .ok (.putfield 21, 3) := by decide +kernel
theorem dX7_takesPart_38 : decode cX7_takesPart 38 = .ok (.aload_n 0, 1) := by decide +kernel
theorem dX7_takesPart_39 : decode cX7_takesPart 39 = .ok (.dup, 1) := by decide +kernel
theorem dX7_takesPart_40 : decode cX7_takesPart 40 = .ok (.getfield 25, 3) := by decide +kernel
theorem dX7_takesPart_43 : decode cX7_takesPart 43 = .ok (.iload_n 2, 1) := by decide +kernel
theorem dX7_takesPart_44 : decode cX7_takesPart 44 = .ok (.bipush 123, 2) := by decide +kernel
theorem dX7_takesPart_46 : decode cX7_takesPart 46 = .ok (.if_icmp .ne 7, 3) := by decide +kernel
theorem dX7_takesPart_49 : decode cX7_takesPart 49 = .ok (.iconst 1, 1) := by decide +kernel
theorem dX7_takesPart_50 : decode cX7_takesPart 50 = .ok (.goto 4, 3) := by decide +kernel
theorem dX7_takesPart_53 : decode cX7_takesPart 53 = .ok (.iconst 0, 1) := by decide +kernel
theorem dX7_takesPart_54 : decode cX7_takesPart 54 = .ok (.iadd, 1) := by decide +kernel
theorem dX7_takesPart_55 : decode cX7_takesPart 55 = .ok (.putfield 25, 3) := by decide +kernel
theorem dX7_takesPart_58 : decode cX7_takesPart 58 = .ok (.iload_n 2, 1) := by decide +kernel
theorem dX7_takesPart_59 : decode cX7_takesPart 59 = .ok (.lookupswitch 237 #[(67, 100), (69, 168), (70, 228), (78, 159), (80, 89), (82, 129), (84, 120), (89, 198), (110, 91), (111, 109)], 89) := by decide +kernel
theorem dX7_takesPart_148 : decode cX7_takesPart 148 = .ok (.iconst 1, 1) := by decide +kernel
theorem dX7_takesPart_149 : decode cX7_takesPart 149 = .ok (.ireturn, 1) := by decide +kernel
theorem dX7_takesPart_150 : decode cX7_takesPart 150 = .ok (.aload_n 0, 1) := by decide +kernel
theorem dX7_takesPart_151 : decode cX7_takesPart 151 = .ok (.getfield 17, 3) := by decide +kernel
theorem dX7_takesPart_154 : decode cX7_takesPart 154 = .ok (.iload_n 1, 1) := by decide +kernel
theorem dX7_takesPart_155 : decode cX7_takesPart 155 = .ok (.invokevirtual 61, 3) := by decide +kernel
theorem dX7_takesPart_158 : decode cX7_takesPart 158 = .ok (.ireturn, 1) := by decide +kernel
theorem dX7_takesPart_159 : decode cX7_takesPart 159 = .ok (.aload_n 0, 1) := by decide +kernel
theorem dX7_takesPart_160 : decode cX7_takesPart 160 = .ok (.getfield 17, 3) := by decide +kernel
theorem dX7_takesPart_163 : decode cX7_takesPart 163 = .ok (.iload_n 1, 1) := by decide +kernel
theorem dX7_takesPart_164 : decode cX7_takesPart 164 = .ok (.invokevirtual 64, 3) := by decide +kernel
theorem dX7_takesPart_167 : decode cX7_takesPart 167 = .ok (.ireturn, 1) := by decide +kernel
theorem dX7_takesPart_168 : decode cX7_takesPart 168 = .ok (.aload_n 0, 1) := by decide +kernel
theorem dX7_takesPart_169 : decode cX7_takesPart 169 = .ok (.getfield 17, 3) := by decide +kernel
theorem dX7_takesPart_172 : decode cX7_takesPart 172 = .ok (.iload_n 1, 1) := by decide +kernel
theorem dX7_takesPart_173 : decode cX7_takesPart 173 = .ok (.ldc 67, 2) := by decide +kernel
theorem dX7_takesPart_175 : decode cX7_takesPart 175 = .ok (.invokevirtual 69, 3) := by decide +kernel
theorem dX7_takesPart_178 : decode cX7_takesPart 178 = .ok (.ireturn, 1) := by decide +kernel
theorem dX7_takesPart_179 : decode cX7_takesPart 179 = .ok (.aload_n 0, 1) := by decide +kernel
theorem dX7_takesPart_180 : decode cX7_takesPart 180 = .ok (.getfield 17, 3) := by decide +kernel
theorem dX7_takesPart_183 : decode cX7_takesPart 183 = .ok (.iload_n 1, 1) := by decide +kernel
theorem dX7_takesPart_184 : decode cX7_takesPart 184 = .ok (.invokevirtual 58, 3) := by decide +kernel
theorem dX7_takesPart_187 : decode cX7_takesPart 187 = .ok (.ireturn, 1) := by decide +kernel
theorem dX7_takesPart_188 : decode cX7_takesPart 188 = .ok (.aload_n 0, 1) := by decide +kernel
theorem dX7_takesPart_189 : decode cX7_takesPart 189 = .ok (.getfield 17, 3) := by decide +kernel
theorem dX7_takesPart_192 : decode cX7_takesPart 192 = .ok (.iload_n 1, 1) := by decide +kernel
theorem dX7_takesPart_193 : decode cX7_takesPart 193 = .ok (.invokevirtual 58, 3) := by decide +kernel
theorem dX7_takesPart_196 : decode cX7_takesPart 196 = .ok (.ifCond .ne 16, 3) := by decide +kernel
theorem dX7_takesPart_199 : decode cX7_takesPart 199 = .ok (.aload_n 0, 1) := by decide +kernel
theorem dX7_takesPart_200 : decode cX7_takesPart 200 = .ok (.getfield 17, 3) := by decide +kernel
theorem dX7_takesPart_203 : decode cX7_takesPart 203 = .ok (.iload_n 1, 1) := by decide +kernel
theorem dX7_takesPart_204 : decode cX7_takesPart 204 = .ok (.ldc 73, 2) := by decide +kernel
theorem dX7_takesPart_206 : decode cX7_takesPart 206 = .ok (.invokevirtual 69, 3) := by decide +kernel
theorem dX7_takesPart_209 : decode cX7_takesPart 209 = .ok (.ifCond .eq 7, 3) := by decide +kernel
theorem dX7_takesPart_212 : decode cX7_takesPart 212 = .ok (.iconst 1, 1) := by decide +kernel
theorem dX7_takesPart_213 : decode cX7_takesPart 213 = .ok (.goto 4, 3) := by decide +kernel
theorem dX7_takesPart_216 : decode cX7_takesPart 216 = .ok (.iconst 0, 1) := by decide +kernel
theorem dX7_takesPart_217 : decode cX7_takesPart 217 = .ok (.ireturn, 1) := by decide +kernel
theorem dX7_takesPart_218 : decode cX7_takesPart 218 = .ok (.aload_n 0, 1) := by decide +kernel
theorem dX7_takesPart_219 : decode cX7_takesPart 219 = .ok (.getfield 17, 3) := by decide +kernel
theorem dX7_takesPart_222 : decode cX7_takesPart 222 = .ok (.iload_n 1, 1) := by decide +kernel
theorem dX7_takesPart_223 : decode cX7_takesPart 223 = .ok (.invokevirtual 75, 3) := by decide +kernel
theorem dX7_takesPart_226 : decode cX7_takesPart 226 = .ok (.ireturn, 1) := by decide +kernel
theorem dX7_takesPart_227 : decode cX7_takesPart 227 = .ok (.aload_n 0, 1) := by decide +kernel
theorem dX7_takesPart_228 : decode cX7_takesPart 228 = .ok (.getfield 17, 3) := by decide +kernel
theorem dX7_takesPart_231 : decode cX7_takesPart 231 = .ok (.iload_n 1, 1) := by decide +kernel
theorem dX7_takesPart_232 : decode cX7_takesPart 232 = .ok (.invokevirtual 64, 3) := by decide +kernel
theorem dX7_takesPart_235 : decode cX7_takesPart 235 = .ok (.ifCond .ne 16, 3) := by decide +kernel
theorem dX7_takesPart_238 : decode cX7_takesPart 238 = .ok (.aload_n 0, 1) := by decide +kernel
theorem dX7_takesPart_239 : decode cX7_takesPart 239 = .ok (.getfield 17, 3) := by decide +kernel
theorem dX7_takesPart_242 : decode cX7_takesPart 242 = .ok (.iload_n 1, 1) := by decide +kernel
theorem dX7_takesPart_243 : decode cX7_takesPart 243 = .ok (.ldc 78, 2) := by decide +kernel
theorem dX7_takesPart_245 : decode cX7_takesPart 245 = .ok (.invokevirtual 69, 3) := by decide +kernel
theorem dX7_takesPart_248 : decode cX7_takesPart 248 = .ok (.ifCond .eq 7, 3) := by decide +kernel
theorem dX7_takesPart_251 : decode cX7_takesPart 251 = .ok (.iconst 1, 1) := by decide +kernel
theorem dX7_takesPart_252 : decode cX7_takesPart 252 = .ok (.goto 4, 3) := by decide +kernel
theorem dX7_takesPart_255 : decode cX7_takesPart 255 = .ok (.iconst 0, 1) := by decide +kernel
theorem dX7_takesPart_256 : decode cX7_takesPart 256 = .ok (.ireturn, 1) := by decide +kernel
theorem dX7_takesPart_257 : decode cX7_takesPart 257 = .ok (.aload_n 0, 1) := by decide +kernel
theorem dX7_takesPart_258 : decode cX7_takesPart 258 = .ok (.getfield 17, 3) := by decide +kernel
theorem dX7_takesPart_261 : decode cX7_takesPart 261 = .ok (.iload_n 1, 1) := by decide +kernel
theorem dX7_takesPart_262 : decode cX7_takesPart 262 = .ok (.invokevirtual 58, 3) := by decide +kernel
theorem dX7_takesPart_265 : decode cX7_takesPart 265 = .ok (.ifCond .eq 20, 3) := by decide +kernel
theorem dX7_takesPart_268 : decode cX7_takesPart 268 = .ok (.aload_n 0, 1) := by decide +kernel
theorem dX7_takesPart_269 : decode cX7_takesPart 269 = .ok (.getfield 17, 3) := by decide +kernel
theorem dX7_takesPart_272 : decode cX7_takesPart 272 = .ok (.iload_n 1, 1) := by decide +kernel
theorem dX7_takesPart_273 : decode cX7_takesPart 273 = .ok (.ldc 78, 2) := by decide +kernel
theorem dX7_takesPart_275 : decode cX7_takesPart 275 = .ok (.invokevirtual 69, 3) := by decide +kernel
theorem dX7_takesPart_278 : decode cX7_takesPart 278 = .ok (.ifCond .ne 7, 3) := by decide +kernel
theorem dX7_takesPart_281 : decode cX7_takesPart 281 = .ok (.iconst 1, 1) := by decide +kernel
theorem dX7_takesPart_282 : decode cX7_takesPart 282 = .ok (.goto 4, 3) := by decide +kernel
theorem dX7_takesPart_285 : decode cX7_takesPart 285 = .ok (.iconst 0, 1) := by decide +kernel
theorem dX7_takesPart_286 : decode cX7_takesPart 286 = .ok (.ireturn, 1) := by decide +kernel
theorem dX7_takesPart_287 : decode cX7_takesPart 287 = .ok (.aload_n 0, 1) := by decide +kernel
theorem dX7_takesPart_288 : decode cX7_takesPart 288 = .ok (.getfield 17, 3) := by decide +kernel
theorem dX7_takesPart_291 : decode cX7_takesPart 291 = .ok (.iload_n 1, 1) := by decide +kernel
theorem dX7_takesPart_292 : decode cX7_takesPart 292 = .ok (.invokevirtual 80, 3) := by decide +kernel
theorem dX7_takesPart_295 : decode cX7_takesPart 295 = .ok (.ireturn, 1) := by decide +kernel
theorem dX7_takesPart_296 : decode cX7_takesPart 296 = .ok (.aload_n 0, 1) := by decide +kernel
theorem dX7_takesPart_297 : decode cX7_takesPart 297 = .ok (.getfield 17, 3) := by decide +kernel
theorem dX7_takesPart_300 : decode cX7_takesPart 300 = .ok (.iload_n 1, 1) := by decide +kernel
theorem dX7_takesPart_301 : decode cX7_takesPart 301 = .ok (.iload_n 2, 1) := by decide +kernel
theorem dX7_takesPart_302 : decode cX7_takesPart 302 = .ok (.invokevirtual 55, 3) := by decide +kernel
theorem dX7_takesPart_305 : decode cX7_takesPart 305 = .ok (.ireturn, 1) := by decide +kernel
theorem dX7_begins_0 : decode cX7_begins 0 = .ok (.aload_n 0, 1) := by decide +kernel
theorem dX7_begins_1 : decode cX7_begins 1 = .ok (.getfield 25, 3) := by decide +kernel
theorem dX7_begins_4 : decode cX7_begins 4 = .ok (.ifCond .le 53, 3) := by decide +kernel
theorem dX7_begins_7 : decode cX7_begins 7 = .ok (.aload_n 0, 1) := by decide +kernel
theorem dX7_begins_8 : decode cX7_begins 8 = .ok (.getfield 17, 3) := by decide +kernel
theorem dX7_begins_11 : decode cX7_begins 11 = .ok (.iload_n 1, 1) := by decide +kernel
theorem dX7_begins_12 : decode cX7_begins 12 = .ok (.bipush 125, 2) := by decide +kernel
theorem dX7_begins_14 : decode cX7_begins 14 = .ok (.invokevirtual 55, 3) := by decide +kernel
theorem dX7_begins_17 : decode cX7_begins 17 = .ok (.ifCond .eq 40, 3) := by decide +kernel
theorem dX7_begins_20 : decode cX7_begins 20 = .ok (.aload_n 0, 1) := by decide +kernel
theorem dX7_begins_21 : decode cX7_begins 21 = .ok (.dup, 1) := by decide +kernel
theorem dX7_begins_22 : decode cX7_begins 22 = .ok (.getfield 25, 3) := by decide +kernel
theorem dX7_begins_25 : decode cX7_begins 25 = .ok (.iconst 1, 1) := by decide +kernel
theorem dX7_begins_26 : decode cX7_begins 26 = .ok (.isub, 1) := by decide +kernel
theorem dX7_begins_27 : decode cX7_begins 27 = .ok (.putfield 25, 3) := by decide +kernel
theorem dX7_begins_30 : decode cX7_begins 30 = .ok (.aload_n 0, 1) := by decide +kernel
theorem dX7_begins_31 : decode cX7_begins 31 = .ok (.getfield 17, 3) := by decide +kernel
theorem dX7_begins_34 : decode cX7_begins 34 = .ok (.getfield 33, 3) := by decide +kernel
theorem dX7_begins_37 : decode cX7_begins 37 = .ok (.iload_n 1, 1) := by decide +kernel
theorem dX7_begins_38 : decode cX7_begins 38 = .ok (.aload_n 0, 1) := by decide +kernel
theorem dX7_begins_39 : decode cX7_begins 39 = .ok (.getfield 25, 3) := by decide +kernel
theorem dX7_begins_42 : decode cX7_begins 42 = .ok (.iconst 1, 1) := by decide +kernel
theorem dX7_begins_43 : decode cX7_begins 43 = .ok (.if_icmp .ne 8, 3) := by decide +kernel
theorem dX7_begins_46 : decode cX7_begins 46 = .ok (.bipush 52, 2) := by decide +kernel
theorem dX7_begins_48 : decode cX7_begins 48 = .ok (.goto 5, 3) := by decide +kernel
theorem dX7_begins_51 : decode cX7_begins 51 = .ok (.bipush 53, 2) := by decide +kernel
theorem dX7_begins_53 : decode cX7_begins 53 = .ok (.i2b, 1) := by decide +kernel
theorem dX7_begins_54 : decode cX7_begins 54 = .ok (.bastore, 1) := by decide +kernel
theorem dX7_begins_55 : decode cX7_begins 55 = .ok (.iconst 1, 1) := by decide +kernel
theorem dX7_begins_56 : decode cX7_begins 56 = .ok (.ireturn, 1) := by decide +kernel
theorem dX7_begins_57 : decode cX7_begins 57 = .ok (.aload_n 0, 1) := by decide +kernel
theorem dX7_begins_58 : decode cX7_begins 58 = .ok (.getfield 25, 3) := by decide +kernel
theorem dX7_begins_61 : decode cX7_begins 61 = .ok (.lookupswitch 39 #[(0, 27), (1, 33)], 27) := by decide +kernel
theorem dX7_begins_88 : decode cX7_begins 88 = .ok (.aload_n 0, 1) := by decide +kernel
theorem dX7_begins_89 : decode cX7_begins 89 = .ok (.iload_n 1, 1) := by decide +kernel
theorem dX7_begins_90 : decode cX7_begins 90 = .ok (.invokevirtual 83, 3) := by decide +kernel
theorem dX7_begins_93 : decode cX7_begins 93 = .ok (.ireturn, 1) := by decide +kernel
theorem dX7_begins_94 : decode cX7_begins 94 = .ok (.aload_n 0, 1) := by decide +kernel
theorem dX7_begins_95 : decode cX7_begins 95 = .ok (.iload_n 1, 1) := by decide +kernel
theorem dX7_begins_96 : decode cX7_begins 96 = .ok (.invokevirtual 86, 3) := by decide +kernel
theorem dX7_begins_99 : decode cX7_begins 99 = .ok (.ireturn, 1) := by decide +kernel
theorem dX7_begins_100 : decode cX7_begins 100 = .ok (.aload_n 0, 1) := by decide +kernel
theorem dX7_begins_101 : decode cX7_begins 101 = .ok (.iload_n 1, 1) := by decide +kernel
theorem dX7_begins_102 : decode cX7_begins 102 = .ok (.invokevirtual 89, 3) := by decide +kernel
theorem dX7_begins_105 : decode cX7_begins 105 = .ok (.ireturn, 1) := by decide +kernel
theorem dX7_beginsClass_0 : decode cX7_beginsClass 0 = .ok (.aload_n 0, 1) := by decide +kernel
theorem dX7_beginsClass_1 : decode cX7_beginsClass 1 = .ok (.iload_n 1, 1) := by decide +kernel
theorem dX7_beginsClass_2 : decode cX7_beginsClass 2 = .ok (.bipush 48, 2) := by decide +kernel
theorem dX7_beginsClass_4 : decode cX7_beginsClass 4 = .ok (.ldc 92, 2) := by decide +kernel
theorem dX7_beginsClass_6 : decode cX7_beginsClass 6 = .ok (.invokevirtual 94, 3) := by decide +kernel
theorem dX7_beginsClass_9 : decode cX7_beginsClass 9 = .ok (.aload_n 0, 1) := by decide +kernel
theorem dX7_beginsClass_10 : decode cX7_beginsClass 10 = .ok (.getfield 17, 3) := by decide +kernel
theorem dX7_beginsClass_13 : decode cX7_beginsClass 13 = .ok (.iload_n 1, 1) := by decide +kernel
theorem dX7_beginsClass_14 : decode cX7_beginsClass 14 = .ok (.ldc 98, 2) := by decide +kernel
theorem dX7_beginsClass_16 : decode cX7_beginsClass 16 = .ok (.invokevirtual 69, 3) := by decide +kernel
theorem dX7_beginsClass_19 : decode cX7_beginsClass 19 = .ok (.ireturn, 1) := by decide +kernel
theorem dX7_beginsMember_0 : decode cX7_beginsMember 0 = .ok (.aload_n 0, 1) := by decide +kernel
theorem dX7_beginsMember_1 : decode cX7_beginsMember 1 = .ok (.getfield 17, 3) := by decide +kernel
theorem dX7_beginsMember_4 : decode cX7_beginsMember 4 = .ok (.iload_n 1, 1) := by decide +kernel
theorem dX7_beginsMember_5 : decode cX7_beginsMember 5 = .ok (.ldc 100, 2) := by decide +kernel
theorem dX7_beginsMember_7 : decode cX7_beginsMember 7 = .ok (.invokevirtual 69, 3) := by decide +kernel
theorem dX7_beginsMember_10 : decode cX7_beginsMember 10 = .ok (.ifCond .eq 14, 3) := by decide +kernel
theorem dX7_beginsMember_13 : decode cX7_beginsMember 13 = .ok (.aload_n 0, 1) := by decide +kernel
theorem dX7_beginsMember_14 : decode cX7_beginsMember 14 = .ok (.iload_n 1, 1) := by decide +kernel
theorem dX7_beginsMember_15 : decode cX7_beginsMember 15 = .ok (.bipush 49, 2) := by decide +kernel
theorem dX7_beginsMember_17 : decode cX7_beginsMember 17 = .ok (.ldc 102, 2) := by decide +kernel
theorem dX7_beginsMember_19 : decode cX7_beginsMember 19 = .ok (.invokevirtual 94, 3) := by decide +kernel
theorem dX7_beginsMember_22 : decode cX7_beginsMember 22 = .ok (.iconst 1, 1) := by decide +kernel
theorem dX7_beginsMember_23 : decode cX7_beginsMember 23 = .ok (.ireturn, 1) := by decide +kernel
theorem dX7_beginsMember_24 : decode cX7_beginsMember 24 = .ok (.aload_n 0, 1) := by decide +kernel
theorem dX7_beginsMember_25 : decode cX7_beginsMember 25 = .ok (.getfield 17, 3) := by decide +kernel
theorem dX7_beginsMember_28 : decode cX7_beginsMember 28 = .ok (.iload_n 1, 1) := by decide +kernel
theorem dX7_beginsMember_29 : decode cX7_beginsMember 29 = .ok (.ldc 104, 2) := by decide +kernel
theorem dX7_beginsMember_31 : decode cX7_beginsMember 31 = .ok (.invokevirtual 69, 3) := by decide +kernel
theorem dX7_beginsMember_34 : decode cX7_beginsMember 34 = .ok (.istore_n 2, 1) := by decide +kernel
theorem dX7_beginsMember_35 : decode cX7_beginsMember 35 = .ok (.aload_n 0, 1) := by decide +kernel
theorem dX7_beginsMember_36 : decode cX7_beginsMember 36 = .ok (.iload_n 1, 1) := by decide +kernel
theorem dX7_beginsMember_37 : decode cX7_beginsMember 37 = .ok (.iload_n 2, 1) := by decide +kernel
theorem dX7_beginsMember_38 : decode cX7_beginsMember 38 = .ok (.ifCond .eq 8, 3) := by decide +kernel
theorem dX7_beginsMember_41 : decode cX7_beginsMember 41 = .ok (.bipush 50, 2) := by decide +kernel
theorem dX7_beginsMember_43 : decode cX7_beginsMember 43 = .ok (.goto 5, 3) := by decide +kernel
theorem dX7_beginsMember_46 : decode cX7_beginsMember 46 = .ok (.bipush 51, 2) := by decide +kernel
theorem dX7_beginsMember_48 : decode cX7_beginsMember 48 = .ok (.ldc 106, 2) := by decide +kernel
theorem dX7_beginsMember_50 : decode cX7_beginsMember 50 = .ok (.invokevirtual 94, 3) := by decide +kernel
theorem dX7_beginsMember_53 : decode cX7_beginsMember 53 = .ok (.iload_n 2, 1) := by decide +kernel
theorem dX7_beginsMember_54 : decode cX7_beginsMember 54 = .ok (.ifCond .ne 16, 3) := by decide +kernel
theorem dX7_beginsMember_57 : decode cX7_beginsMember 57 = .ok (.aload_n 0, 1) := by decide +kernel
theorem dX7_beginsMember_58 : decode cX7_beginsMember 58 = .ok (.getfield 17, 3) := by decide +kernel
theorem dX7_beginsMember_61 : decode cX7_beginsMember 61 = .ok (.iload_n 1, 1) := by decide +kernel
theorem dX7_beginsMember_62 : decode cX7_beginsMember 62 = .ok (.ldc 108, 2) := by decide +kernel
theorem dX7_beginsMember_64 : decode cX7_beginsMember 64 = .ok (.invokevirtual 69, 3) := by decide +kernel
theorem dX7_beginsMember_67 : decode cX7_beginsMember 67 = .ok (.ifCond .eq 7, 3) := by decide +kernel
theorem dX7_beginsMember_70 : decode cX7_beginsMember 70 = .ok (.iconst 1, 1) := by decide +kernel
theorem dX7_beginsMember_71 : decode cX7_beginsMember 71 = .ok (.goto 4, 3) := by decide +kernel
theorem dX7_beginsMember_74 : decode cX7_beginsMember 74 = .ok (.iconst 0, 1) := by decide +kernel
theorem dX7_beginsMember_75 : decode cX7_beginsMember 75 = .ok (.ireturn, 1) := by decide +kernel
theorem dX7_beginsLine_0 : decode cX7_beginsLine 0 = .ok (.aload_n 0, 1) := by decide +kernel
theorem dX7_beginsLine_1 : decode cX7_beginsLine 1 = .ok (.getfield 17, 3) := by decide +kernel
theorem dX7_beginsLine_4 : decode cX7_beginsLine 4 = .ok (.iload_n 1, 1) := by decide +kernel
theorem dX7_beginsLine_5 : decode cX7_beginsLine 5 = .ok (.invokevirtual 61, 3) := by decide +kernel
theorem dX7_beginsLine_8 : decode cX7_beginsLine 8 = .ok (.istore_n 2, 1) := by decide +kernel
theorem dX7_beginsLine_9 : decode cX7_beginsLine 9 = .ok (.iload_n 2, 1) := by decide +kernel
theorem dX7_beginsLine_10 : decode cX7_beginsLine 10 = .ok (.ifCond .eq 31, 3) := by decide +kernel
theorem dX7_beginsLine_13 : decode cX7_beginsLine 13 = .ok (.aload_n 0, 1) := by decide +kernel
theorem dX7_beginsLine_14 : decode cX7_beginsLine 14 = .ok (.getfield 17, 3) := by decide +kernel
theorem dX7_beginsLine_17 : decode cX7_beginsLine 17 = .ok (.ldc 110, 2) := by decide +kernel
theorem dX7_beginsLine_19 : decode cX7_beginsLine 19 = .ok (.aload_n 0, 1) := by decide +kernel
theorem dX7_beginsLine_20 : decode cX7_beginsLine 20 = .ok (.getfield 17, 3) := by decide +kernel
theorem dX7_beginsLine_23 : decode cX7_beginsLine 23 = .ok (.iload_n 1, 1) := by decide +kernel
theorem dX7_beginsLine_24 : decode cX7_beginsLine 24 = .ok (.invokevirtual 112, 3) := by decide +kernel
theorem dX7_beginsLine_27 : decode cX7_beginsLine 27 = .ok (.aload_n 0, 1) := by decide +kernel
theorem dX7_beginsLine_28 : decode cX7_beginsLine 28 = .ok (.getfield 17, 3) := by decide +kernel
theorem dX7_beginsLine_31 : decode cX7_beginsLine 31 = .ok (.iload_n 1, 1) := by decide +kernel
theorem dX7_beginsLine_32 : decode cX7_beginsLine 32 = .ok (.invokevirtual 116, 3) := by decide +kernel
theorem dX7_beginsLine_35 : decode cX7_beginsLine 35 = .ok (.invokevirtual 119, 3) := by decide +kernel
theorem dX7_beginsLine_38 : decode cX7_beginsLine 38 = .ok (.goto 4, 3) := by decide +kernel
theorem dX7_beginsLine_41 : decode cX7_beginsLine 41 = .ok (.iconst (-1), 1) := by decide +kernel
theorem dX7_beginsLine_42 : decode cX7_beginsLine 42 = .ok (.istore_n 3, 1) := by decide +kernel
theorem dX7_beginsLine_43 : decode cX7_beginsLine 43 = .ok (.aload_n 0, 1) := by decide +kernel
theorem dX7_beginsLine_44 : decode cX7_beginsLine 44 = .ok (.getfield 17, 3) := by decide +kernel
theorem dX7_beginsLine_47 : decode cX7_beginsLine 47 = .ok (.iload_n 1, 1) := by decide +kernel
theorem dX7_beginsLine_48 : decode cX7_beginsLine 48 = .ok (.ldc 123, 2) := by decide +kernel
theorem dX7_beginsLine_50 : decode cX7_beginsLine 50 = .ok (.invokevirtual 69, 3) := by decide +kernel
theorem dX7_beginsLine_53 : decode cX7_beginsLine 53 = .ok (.istore 4, 2) := by decide +kernel
theorem dX7_beginsLine_55 : decode cX7_beginsLine 55 = .ok (.aload_n 0, 1) := by decide +kernel
theorem dX7_beginsLine_56 : decode cX7_beginsLine 56 = .ok (.getfield 17, 3) := by decide +kernel
theorem dX7_beginsLine_59 : decode cX7_beginsLine 59 = .ok (.iload_n 1, 1) := by decide +kernel
theorem dX7_beginsLine_60 : decode cX7_beginsLine 60 = .ok (.iconst 1, 1) := by decide +kernel
theorem dX7_beginsLine_61 : decode cX7_beginsLine 61 = .ok (.iadd, 1) := by decide +kernel
theorem dX7_beginsLine_62 : decode cX7_beginsLine 62 = .ok (.bipush 58, 2) := by decide +kernel
theorem dX7_beginsLine_64 : decode cX7_beginsLine 64 = .ok (.invokevirtual 55, 3) := by decide +kernel
theorem dX7_beginsLine_67 : decode cX7_beginsLine 67 = .ok (.ifCond .ne 13, 3) := by decide +kernel
theorem dX7_beginsLine_70 : decode cX7_beginsLine 70 = .ok (.iload_n 3, 1) := by decide +kernel
theorem dX7_beginsLine_71 : decode cX7_beginsLine 71 = .ok (.iconst (-1), 1) := by decide +kernel
theorem dX7_beginsLine_72 : decode cX7_beginsLine 72 = .ok (.if_icmp .ne 20, 3) := by decide +kernel
theorem dX7_beginsLine_75 : decode cX7_beginsLine 75 = .ok (.iload 4, 2) := by decide +kernel
theorem dX7_beginsLine_77 : decode cX7_beginsLine 77 = .ok (.ifCond .ne 15, 3) := by decide +kernel
theorem dX7_beginsLine_80 : decode cX7_beginsLine 80 = .ok (.aload_n 0, 1) := by decide +kernel
theorem dX7_beginsLine_81 : decode cX7_beginsLine 81 = .ok (.iload_n 1, 1) := by decide +kernel
theorem dX7_beginsLine_82 : decode cX7_beginsLine 82 = .ok (.bipush 47, 2) := by decide +kernel
theorem dX7_beginsLine_84 : decode cX7_beginsLine 84 = .ok (.ldc 125, 2) := by decide +kernel
theorem dX7_beginsLine_86 : decode cX7_beginsLine 86 = .ok (.invokevirtual 94, 3) := by decide +kernel
theorem dX7_beginsLine_89 : decode cX7_beginsLine 89 = .ok (.goto 30, 3) := by decide +kernel
theorem dX7_beginsLine_92 : decode cX7_beginsLine 92 = .ok (.iload 4, 2) := by decide +kernel
theorem dX7_beginsLine_94 : decode cX7_beginsLine 94 = .ok (.ifCond .eq 15, 3) := by decide +kernel
theorem dX7_beginsLine_97 : decode cX7_beginsLine 97 = .ok (.aload_n 0, 1) := by decide +kernel
theorem dX7_beginsLine_98 : decode cX7_beginsLine 98 = .ok (.iload_n 1, 1) := by decide +kernel
theorem dX7_beginsLine_99 : decode cX7_beginsLine 99 = .ok (.bipush 46, 2) := by decide +kernel
theorem dX7_beginsLine_101 : decode cX7_beginsLine 101 = .ok (.ldc 127, 2) := by decide +kernel
theorem dX7_beginsLine_103 : decode cX7_beginsLine 103 = .ok (.invokevirtual 94, 3) := by decide +kernel
theorem dX7_beginsLine_106 : decode cX7_beginsLine 106 = .ok (.goto 13, 3) := by decide +kernel
theorem dX7_beginsLine_109 : decode cX7_beginsLine 109 = .ok (.aload_n 0, 1) := by decide +kernel
theorem dX7_beginsLine_110 : decode cX7_beginsLine 110 = .ok (.iload_n 1, 1) := by decide +kernel
theorem dX7_beginsLine_111 : decode cX7_beginsLine 111 = .ok (.iload_n 3, 1) := by decide +kernel
theorem dX7_beginsLine_112 : decode cX7_beginsLine 112 = .ok (.iload_n 3, 1) := by decide +kernel
theorem dX7_beginsLine_113 : decode cX7_beginsLine 113 = .ok (.invokestatic 129, 3) := by decide +kernel
theorem dX7_beginsLine_116 : decode cX7_beginsLine 116 = .ok (.invokevirtual 94, 3) := by decide +kernel
theorem dX7_beginsLine_119 : decode cX7_beginsLine 119 = .ok (.iload_n 2, 1) := by decide +kernel
theorem dX7_beginsLine_120 : decode cX7_beginsLine 120 = .ok (.ireturn, 1) := by decide +kernel
theorem dX7_expect_0 : decode cX7_expect 0 = .ok (.aload_n 0, 1) := by decide +kernel
theorem dX7_expect_1 : decode cX7_expect 1 = .ok (.getfield 17, 3) := by decide +kernel
theorem dX7_expect_4 : decode cX7_expect 4 = .ok (.getfield 33, 3) := by decide +kernel
theorem dX7_expect_7 : decode cX7_expect 7 = .ok (.iload_n 1, 1) := by decide +kernel
theorem dX7_expect_8 : decode cX7_expect 8 = .ok (.iload_n 2, 1) := by decide +kernel
theorem dX7_expect_9 : decode cX7_expect 9 = .ok (.i2b, 1) := by decide +kernel
theorem dX7_expect_10 : decode cX7_expect 10 = .ok (.bastore, 1) := by decide +kernel
theorem dX7_expect_11 : decode cX7_expect 11 = .ok (.aload_n 0, 1) := by decide +kernel
theorem dX7_expect_12 : decode cX7_expect 12 = .ok (.aload_n 3, 1) := by decide +kernel
theorem dX7_expect_13 : decode cX7_expect 13 = .ok (.putfield 11, 3) := by decide +kernel
theorem dX7_expect_16 : decode cX7_expect 16 = .ok (.aload_n 0, 1) := by decide +kernel
theorem dX7_expect_17 : decode cX7_expect 17 = .ok (.iconst 0, 1) := by decide +kernel
theorem dX7_expect_18 : decode cX7_expect 18 = .ok (.putfield 21, 3) := by decide +kernel
theorem dX7_expect_21 : decode cX7_expect 21 = .ok (.return_, 1) := by decide +kernel
theorem dX7_operandsOf_0 : decode cX7_operandsOf 0 = .ok (.iload_n 0, 1) := by decide +kernel
theorem dX7_operandsOf_1 : decode cX7_operandsOf 1 = .ok (.tableswitch 197 0 40 #[179, 197, 179, 179, 182, 197, 197, 197, 197, 197, 197, 197, 197, 197, 197, 197, 197, 197, 197, 197, 197, 197, 197, 197, 197, 197, 197, 197, 197, 197, 185, 188, 197, 197, 197, 191, 191, 194, 194, 191, 191], 179) := by decide +kernel
theorem dX7_operandsOf_180 : decode cX7_operandsOf 180 = .ok (.ldc 133, 2) := by decide +kernel
theorem dX7_operandsOf_182 : decode cX7_operandsOf 182 = .ok (.areturn, 1) := by decide +kernel
theorem dX7_operandsOf_183 : decode cX7_operandsOf 183 = .ok (.ldc 135, 2) := by decide +kernel
theorem dX7_operandsOf_185 : decode cX7_operandsOf 185 = .ok (.areturn, 1) := by decide +kernel
theorem dX7_operandsOf_186 : decode cX7_operandsOf 186 = .ok (.ldc 137, 2) := by decide +kernel
theorem dX7_operandsOf_188 : decode cX7_operandsOf 188 = .ok (.areturn, 1) := by decide +kernel
theorem dX7_operandsOf_189 : decode cX7_operandsOf 189 = .ok (.ldc 139, 2) := by decide +kernel
theorem dX7_operandsOf_191 : decode cX7_operandsOf 191 = .ok (.areturn, 1) := by decide +kernel
theorem dX7_operandsOf_192 : decode cX7_operandsOf 192 = .ok (.ldc 141, 2) := by decide +kernel
theorem dX7_operandsOf_194 : decode cX7_operandsOf 194 = .ok (.areturn, 1) := by decide +kernel
theorem dX7_operandsOf_195 : decode cX7_operandsOf 195 = .ok (.ldc 143, 2) := by decide +kernel
theorem dX7_operandsOf_197 : decode cX7_operandsOf 197 = .ok (.areturn, 1) := by decide +kernel
theorem dX7_operandsOf_198 : decode cX7_operandsOf 198 = .ok (.iload_n 0, 1) := by decide +kernel
theorem dX7_operandsOf_199 : decode cX7_operandsOf 199 = .ok (.bipush 19, 2) := by decide +kernel
theorem dX7_operandsOf_201 : decode cX7_operandsOf 201 = .ok (.if_icmp .lt 14, 3) := by decide +kernel
theorem dX7_operandsOf_204 : decode cX7_operandsOf 204 = .ok (.iload_n 0, 1) := by decide +kernel
theorem dX7_operandsOf_205 : decode cX7_operandsOf 205 = .ok (.bipush 29, 2) := by decide +kernel
theorem dX7_operandsOf_207 : decode cX7_operandsOf 207 = .ok (.if_icmp .gt 8, 3) := by decide +kernel
theorem dX7_operandsOf_210 : decode cX7_operandsOf 210 = .ok (.ldc 145, 2) := by decide +kernel
theorem dX7_operandsOf_212 : decode cX7_operandsOf 212 = .ok (.goto 5, 3) := by decide +kernel
theorem dX7_operandsOf_215 : decode cX7_operandsOf 215 = .ok (.ldc 9, 2) := by decide +kernel
theorem dX7_operandsOf_217 : decode cX7_operandsOf 217 = .ok (.areturn, 1) := by decide +kernel
