theorem dX12_raise_21 : decode cX12_raise 21 = .ok (.aload_n 0, 1) := by decide +kernel
theorem dX12_raise_22 : decode cX12_raise 22 = .ok (.lload_n 3, 1) := by decide +kernel
theorem dX12_raise_23 : decode cX12_raise 23 = .ok (.iload_n 2, 1) := by decide +kernel
theorem dX12_raise_24 : decode cX12_raise 24 = .ok (.invokevirtual 578, 3) := by decide +kernel
theorem dX12_raise_27 : decode cX12_raise 27 = .ok (.return_, 1) := by decide +kernel
theorem dX12_toss_0 : decode cX12_toss 0 = .ok (.aload_n 0, 1) := by decide +kernel
theorem dX12_toss_1 : decode cX12_toss 1 = .ok (.getfield 77, 3) := by decide +kernel
theorem dX12_toss_4 : decode cX12_toss 4 = .ok (.lload_n 1, 1) := by decide +kernel
theorem dX12_toss_5 : decode cX12_toss 5 = .ok (.invokestatic 566, 3) := by decide +kernel
theorem dX12_toss_8 : decode cX12_toss 8 = .ok (.iaload, 1) := by decide +kernel
theorem dX12_toss_9 : decode cX12_toss 9 = .ok (.istore 4, 2) := by decide +kernel
theorem dX12_toss_11 : decode cX12_toss 11 = .ok (.aload_n 0, 1) := by decide +kernel
theorem dX12_toss_12 : decode cX12_toss 12 = .ok (.getfield 533, 3) := by decide +kernel
theorem dX12_toss_15 : decode cX12_toss 15 = .ok (.ifCond .le 131, 3) := by decide +kernel
theorem dX12_toss_18 : decode cX12_toss 18 = .ok (.aload_n 0, 1) := by decide +kernel
theorem dX12_toss_19 : decode cX12_toss 19 = .ok (.getfield 74, 3) := by decide +kernel
theorem dX12_toss_22 : decode cX12_toss 22 = .ok (.aload_n 0, 1) := by decide +kernel
theorem dX12_toss_23 : decode cX12_toss 23 = .ok (.getfield 533, 3) := by decide +kernel
theorem dX12_toss_26 : decode cX12_toss 26 = .ok (.iconst 1, 1) := by decide +kernel
theorem dX12_toss_27 : decode cX12_toss 27 = .ok (.isub, 1) := by decide +kernel
theorem dX12_toss_28 : decode cX12_toss 28 = .ok (.iaload, 1) := by decide +kernel
theorem dX12_toss_29 : decode cX12_toss 29 = .ok (.istore 5, 2) := by decide +kernel
theorem dX12_toss_31 : decode cX12_toss 31 = .ok (.iconst 0, 1) := by decide +kernel
theorem dX12_toss_32 : decode cX12_toss 32 = .ok (.istore 6, 2) := by decide +kernel
theorem dX12_toss_34 : decode cX12_toss 34 = .ok (.iload 6, 2) := by decide +kernel
theorem dX12_toss_36 : decode cX12_toss 36 = .ok (.aload_n 0, 1) := by decide +kernel
theorem dX12_toss_37 : decode cX12_toss 37 = .ok (.getfield 10, 3) := by decide +kernel
theorem dX12_toss_40 : decode cX12_toss 40 = .ok (.getfield 324, 3) := by decide +kernel
theorem dX12_toss_43 : decode cX12_toss 43 = .ok (.if_icmp .ge 90, 3) := by decide +kernel
theorem dX12_toss_46 : decode cX12_toss 46 = .ok (.aload_n 0, 1) := by decide +kernel
theorem dX12_toss_47 : decode cX12_toss 47 = .ok (.getfield 10, 3) := by decide +kernel
theorem dX12_toss_50 : decode cX12_toss 50 = .ok (.iload 6, 2) := by decide +kernel
theorem dX12_toss_52 : decode cX12_toss 52 = .ok (.iload 5, 2) := by decide +kernel
theorem dX12_toss_54 : decode cX12_toss 54 = .ok (.invokestatic 421, 3) := by decide +kernel
theorem dX12_toss_57 : decode cX12_toss 57 = .ok (.ifCond .eq 70, 3) := by decide +kernel
theorem dX12_toss_60 : decode cX12_toss 60 = .ok (.aload_n 0, 1) := by decide +kernel
theorem dX12_toss_61 : decode cX12_toss 61 = .ok (.getfield 10, 3) := by decide +kernel
theorem dX12_toss_64 : decode cX12_toss 64 = .ok (.iload 4, 2) := by decide +kernel
theorem dX12_toss_66 : decode cX12_toss 66 = .ok (.bipush 8, 2) := by decide +kernel
theorem dX12_toss_68 : decode cX12_toss 68 = .ok (.aload_n 0, 1) := by decide +kernel
theorem dX12_toss_69 : decode cX12_toss 69 = .ok (.getfield 10, 3) := by decide +kernel
theorem dX12_toss_72 : decode cX12_toss 72 = .ok (.getfield 371, 3) := by decide +kernel
theorem dX12_toss_75 : decode cX12_toss 75 = .ok (.iload 6, 2) := by decide +kernel
theorem dX12_toss_77 : decode cX12_toss 77 = .ok (.iaload, 1) := by decide +kernel
theorem dX12_toss_78 : decode cX12_toss 78 = .ok (.iadd, 1) := by decide +kernel
theorem dX12_toss_79 : decode cX12_toss 79 = .ok (.invokestatic 436, 3) := by decide +kernel
theorem dX12_toss_82 : decode cX12_toss 82 = .ok (.ifCond .ne 6, 3) := by decide +kernel
theorem dX12_toss_85 : decode cX12_toss 85 = .ok (.goto 42, 3) := by decide +kernel
theorem dX12_toss_88 : decode cX12_toss 88 = .ok (.aload_n 0, 1) := by decide +kernel
theorem dX12_toss_89 : decode cX12_toss 89 = .ok (.getfield 71, 3) := by decide +kernel
theorem dX12_toss_92 : decode cX12_toss 92 = .ok (.aload_n 0, 1) := by decide +kernel
theorem dX12_toss_93 : decode cX12_toss 93 = .ok (.getfield 533, 3) := by decide +kernel
theorem dX12_toss_96 : decode cX12_toss 96 = .ok (.iconst 1, 1) := by decide +kernel
theorem dX12_toss_97 : decode cX12_toss 97 = .ok (.isub, 1) := by decide +kernel
theorem dX12_toss_98 : decode cX12_toss 98 = .ok (.iconst 0, 1) := by decide +kernel
theorem dX12_toss_99 : decode cX12_toss 99 = .ok (.iastore, 1) := by decide +kernel
theorem dX12_toss_100 : decode cX12_toss 100 = .ok (.aload_n 0, 1) := by decide +kernel
theorem dX12_toss_101 : decode cX12_toss 101 = .ok (.lload_n 1, 1) := by decide +kernel
theorem dX12_toss_102 : decode cX12_toss 102 = .ok (.invokevirtual 582, 3) := by decide +kernel
theorem dX12_toss_105 : decode cX12_toss 105 = .ok (.aload_n 0, 1) := by decide +kernel
theorem dX12_toss_106 : decode cX12_toss 106 = .ok (.getfield 74, 3) := by decide +kernel
theorem dX12_toss_109 : decode cX12_toss 109 = .ok (.aload_n 0, 1) := by decide +kernel
theorem dX12_toss_110 : decode cX12_toss 110 = .ok (.getfield 533, 3) := by decide +kernel
theorem dX12_toss_113 : decode cX12_toss 113 = .ok (.iconst 1, 1) := by decide +kernel
theorem dX12_toss_114 : decode cX12_toss 114 = .ok (.isub, 1) := by decide +kernel
theorem dX12_toss_115 : decode cX12_toss 115 = .ok (.aload_n 0, 1) := by decide +kernel
theorem dX12_toss_116 : decode cX12_toss 116 = .ok (.getfield 10, 3) := by decide +kernel
theorem dX12_toss_119 : decode cX12_toss 119 = .ok (.getfield 368, 3) := by decide +kernel
theorem dX12_toss_122 : decode cX12_toss 122 = .ok (.iload 6, 2) := by decide +kernel
theorem dX12_toss_124 : decode cX12_toss 124 = .ok (.iaload, 1) := by decide +kernel
theorem dX12_toss_125 : decode cX12_toss 125 = .ok (.iastore, 1) := by decide +kernel
theorem dX12_toss_126 : decode cX12_toss 126 = .ok (.return_, 1) := by decide +kernel
theorem dX12_toss_127 : decode cX12_toss 127 = .ok (.iinc 6 1, 3) := by decide +kernel
theorem dX12_toss_130 : decode cX12_toss 130 = .ok (.goto (-96), 3) := by decide +kernel
theorem dX12_toss_133 : decode cX12_toss 133 = .ok (.aload_n 0, 1) := by decide +kernel
theorem dX12_toss_134 : decode cX12_toss 134 = .ok (.dup, 1) := by decide +kernel
theorem dX12_toss_135 : decode cX12_toss 135 = .ok (.getfield 533, 3) := by decide +kernel
theorem dX12_toss_138 : decode cX12_toss 138 = .ok (.iconst 1, 1) := by decide +kernel
theorem dX12_toss_139 : decode cX12_toss 139 = .ok (.isub, 1) := by decide +kernel
theorem dX12_toss_140 : decode cX12_toss 140 = .ok (.putfield 533, 3) := by decide +kernel
theorem dX12_toss_143 : decode cX12_toss 143 = .ok (.goto (-132), 3) := by decide +kernel
theorem dX12_toss_146 : decode cX12_toss 146 = .ok (.aload_n 0, 1) := by decide +kernel
theorem dX12_toss_147 : decode cX12_toss 147 = .ok (.aload_n 0, 1) := by decide +kernel
theorem dX12_toss_148 : decode cX12_toss 148 = .ok (.getfield 80, 3) := by decide +kernel
theorem dX12_toss_151 : decode cX12_toss 151 = .ok (.lload_n 1, 1) := by decide +kernel
theorem dX12_toss_152 : decode cX12_toss 152 = .ok (.invokestatic 566, 3) := by decide +kernel
theorem dX12_toss_155 : decode cX12_toss 155 = .ok (.iaload, 1) := by decide +kernel
theorem dX12_toss_156 : decode cX12_toss 156 = .ok (.putfield 101, 3) := by decide +kernel
theorem dX12_toss_159 : decode cX12_toss 159 = .ok (.aload_n 0, 1) := by decide +kernel
theorem dX12_toss_160 : decode cX12_toss 160 = .ok (.iconst 1, 1) := by decide +kernel
theorem dX12_toss_161 : decode cX12_toss 161 = .ok (.iload_n 3, 1) := by decide +kernel
theorem dX12_toss_162 : decode cX12_toss 162 = .ok (.invokevirtual 570, 3) := by decide +kernel
theorem dX12_toss_165 : decode cX12_toss 165 = .ok (.return_, 1) := by decide +kernel
theorem dX12_next_0 : decode cX12_next 0 = .ok (.aload_n 0, 1) := by decide +kernel
theorem dX12_next_1 : decode cX12_next 1 = .ok (.getfield 74, 3) := by decide +kernel
theorem dX12_next_4 : decode cX12_next 4 = .ok (.aload_n 0, 1) := by decide +kernel
theorem dX12_next_5 : decode cX12_next 5 = .ok (.getfield 533, 3) := by decide +kernel
theorem dX12_next_8 : decode cX12_next 8 = .ok (.iconst 1, 1) := by decide +kernel
theorem dX12_next_9 : decode cX12_next 9 = .ok (.isub, 1) := by decide +kernel
theorem dX12_next_10 : decode cX12_next 10 = .ok (.dup2, 1) := by decide +kernel
theorem dX12_next_11 : decode cX12_next 11 = .ok (.iaload, 1) := by decide +kernel
theorem dX12_next_12 : decode cX12_next 12 = .ok (.iconst 1, 1) := by decide +kernel
theorem dX12_next_13 : decode cX12_next 13 = .ok (.iadd, 1) := by decide +kernel
theorem dX12_next_14 : decode cX12_next 14 = .ok (.iastore, 1) := by decide +kernel
theorem dX12_next_15 : decode cX12_next 15 = .ok (.return_, 1) := by decide +kernel
theorem dX12_step_0 : decode cX12_step 0 = .ok (.aload_n 0, 1) := by decide +kernel
theorem dX12_step_1 : decode cX12_step 1 = .ok (.getfield 10, 3) := by decide +kernel
theorem dX12_step_4 : decode cX12_step 4 = .ok (.getfield 353, 3) := by decide +kernel
theorem dX12_step_7 : decode cX12_step 7 = .ok (.iload_n 1, 1) := by decide +kernel
theorem dX12_step_8 : decode cX12_step 8 = .ok (.iaload, 1) := by decide +kernel
theorem dX12_step_9 : decode cX12_step 9 = .ok (.istore_n 2, 1) := by decide +kernel
theorem dX12_step_10 : decode cX12_step 10 = .ok (.aload_n 0, 1) := by decide +kernel
theorem dX12_step_11 : decode cX12_step 11 = .ok (.getfield 10, 3) := by decide +kernel
theorem dX12_step_14 : decode cX12_step 14 = .ok (.getfield 376, 3) := by decide +kernel
theorem dX12_step_17 : decode cX12_step 17 = .ok (.iload_n 1, 1) := by decide +kernel
theorem dX12_step_18 : decode cX12_step 18 = .ok (.iaload, 1) := by decide +kernel
theorem dX12_step_19 : decode cX12_step 19 = .ok (.istore_n 3, 1) := by decide +kernel
theorem dX12_step_20 : decode cX12_step 20 = .ok (.iload_n 2, 1) := by decide +kernel
theorem dX12_step_21 : decode cX12_step 21 = .ok (.tableswitch 467 0 45 #[199, 208, 218, 230, 253, 289, 310, 319, 467, 467, 467, 467, 467, 467, 467, 467, 467, 467, 453, 440, 467, 467, 467, 467, 467, 467, 467, 467, 467, 467, 467, 467, 467, 467, 467, 467, 467, 467, 467, 467, 467, 467, 467, 467, 346, 399], 199) := by decide +kernel
theorem dX12_step_220 : decode cX12_step 220 = .ok (.aload_n 0, 1) := by decide +kernel
theorem dX12_step_221 : decode cX12_step 221 = .ok (.iload_n 3, 1) := by decide +kernel
theorem dX12_step_222 : decode cX12_step 222 = .ok (.i2l, 1) := by decide +kernel
theorem dX12_step_223 : decode cX12_step 223 = .ok (.invokevirtual 582, 3) := by decide +kernel
theorem dX12_step_226 : decode cX12_step 226 = .ok (.goto 312, 3) := by decide +kernel
theorem dX12_step_229 : decode cX12_step 229 = .ok (.aload_n 0, 1) := by decide +kernel
theorem dX12_step_230 : decode cX12_step 230 = .ok (.ldc2_w 553, 3) := by decide +kernel
theorem dX12_step_233 : decode cX12_step 233 = .ok (.invokevirtual 582, 3) := by decide +kernel
theorem dX12_step_236 : decode cX12_step 236 = .ok (.goto 302, 3) := by decide +kernel
theorem dX12_step_239 : decode cX12_step 239 = .ok (.aload_n 0, 1) := by decide +kernel
theorem dX12_step_240 : decode cX12_step 240 = .ok (.aload_n 0, 1) := by decide +kernel
theorem dX12_step_241 : decode cX12_step 241 = .ok (.iload_n 3, 1) := by decide +kernel
theorem dX12_step_242 : decode cX12_step 242 = .ok (.invokevirtual 555, 3) := by decide +kernel
theorem dX12_step_245 : decode cX12_step 245 = .ok (.invokevirtual 582, 3) := by decide +kernel
theorem dX12_step_248 : decode cX12_step 248 = .ok (.goto 290, 3) := by decide +kernel
theorem dX12_step_251 : decode cX12_step 251 = .ok (.aload_n 0, 1) := by decide +kernel
theorem dX12_step_252 : decode cX12_step 252 = .ok (.getfield 64, 3) := by decide +kernel
theorem dX12_step_255 : decode cX12_step 255 = .ok (.aload_n 0, 1) := by decide +kernel
theorem dX12_step_256 : decode cX12_step 256 = .ok (.getfield 533, 3) := by decide +kernel
theorem dX12_step_259 : decode cX12_step 259 = .ok (.iconst 1, 1) := by decide +kernel
theorem dX12_step_260 : decode cX12_step 260 = .ok (.isub, 1) := by decide +kernel
theorem dX12_step_261 : decode cX12_step 261 = .ok (.bipush 12, 2) := by decide +kernel
theorem dX12_step_263 : decode cX12_step 263 = .ok (.imul, 1) := by decide +kernel
theorem dX12_step_264 : decode cX12_step 264 = .ok (.iload_n 3, 1) := by decide +kernel
theorem dX12_step_265 : decode cX12_step 265 = .ok (.iadd, 1) := by decide +kernel
theorem dX12_step_266 : decode cX12_step 266 = .ok (.aload_n 0, 1) := by decide +kernel
theorem dX12_step_267 : decode cX12_step 267 = .ok (.invokevirtual 586, 3) := by decide +kernel
theorem dX12_step_270 : decode cX12_step 270 = .ok (.lastore, 1) := by decide +kernel
theorem dX12_step_271 : decode cX12_step 271 = .ok (.goto 267, 3) := by decide +kernel
theorem dX12_step_274 : decode cX12_step 274 = .ok (.aload_n 0, 1) := by decide +kernel
theorem dX12_step_275 : decode cX12_step 275 = .ok (.getfield 64, 3) := by decide +kernel
theorem dX12_step_278 : decode cX12_step 278 = .ok (.aload_n 0, 1) := by decide +kernel
theorem dX12_step_279 : decode cX12_step 279 = .ok (.getfield 533, 3) := by decide +kernel
theorem dX12_step_282 : decode cX12_step 282 = .ok (.iconst 1, 1) := by decide +kernel
theorem dX12_step_283 : decode cX12_step 283 = .ok (.isub, 1) := by decide +kernel
theorem dX12_step_284 : decode cX12_step 284 = .ok (.bipush 12, 2) := by decide +kernel
theorem dX12_step_286 : decode cX12_step 286 = .ok (.imul, 1) := by decide +kernel
theorem dX12_step_287 : decode cX12_step 287 = .ok (.iload_n 3, 1) := by decide +kernel
theorem dX12_step_288 : decode cX12_step 288 = .ok (.iadd, 1) := by decide +kernel
theorem dX12_step_289 : decode cX12_step 289 = .ok (.aload_n 0, 1) := by decide +kernel
theorem dX12_step_290 : decode cX12_step 290 = .ok (.iload_n 3, 1) := by decide +kernel
theorem dX12_step_291 : decode cX12_step 291 = .ok (.invokevirtual 555, 3) := by decide +kernel
theorem dX12_step_294 : decode cX12_step 294 = .ok (.l2i, 1) := by decide +kernel
theorem dX12_step_295 : decode cX12_step 295 = .ok (.aload_n 0, 1) := by decide +kernel
theorem dX12_step_296 : decode cX12_step 296 = .ok (.getfield 10, 3) := by decide +kernel
theorem dX12_step_299 : decode cX12_step 299 = .ok (.getfield 379, 3) := by decide +kernel
theorem dX12_step_302 : decode cX12_step 302 = .ok (.iload_n 1, 1) := by decide +kernel
theorem dX12_step_303 : decode cX12_step 303 = .ok (.iaload, 1) := by decide +kernel
theorem dX12_step_304 : decode cX12_step 304 = .ok (.iadd, 1) := by decide +kernel
theorem dX12_step_305 : decode cX12_step 305 = .ok (.i2l, 1) := by decide +kernel
theorem dX12_step_306 : decode cX12_step 306 = .ok (.lastore, 1) := by decide +kernel
theorem dX12_step_307 : decode cX12_step 307 = .ok (.goto 231, 3) := by decide +kernel
theorem dX12_step_310 : decode cX12_step 310 = .ok (.aload_n 0, 1) := by decide +kernel
theorem dX12_step_311 : decode cX12_step 311 = .ok (.invokevirtual 586, 3) := by decide +kernel
theorem dX12_step_314 : decode cX12_step 314 = .ok (.lstore 4, 2) := by decide +kernel
theorem dX12_step_316 : decode cX12_step 316 = .ok (.aload_n 0, 1) := by decide +kernel
theorem dX12_step_317 : decode cX12_step 317 = .ok (.lload 4, 2) := by decide +kernel
theorem dX12_step_319 : decode cX12_step 319 = .ok (.invokevirtual 582, 3) := by decide +kernel
theorem dX12_step_322 : decode cX12_step 322 = .ok (.aload_n 0, 1) := by decide +kernel
theorem dX12_step_323 : decode cX12_step 323 = .ok (.lload 4, 2) := by decide +kernel
theorem dX12_step_325 : decode cX12_step 325 = .ok (.invokevirtual 582, 3) := by decide +kernel
theorem dX12_step_328 : decode cX12_step 328 = .ok (.goto 210, 3) := by decide +kernel
theorem dX12_step_331 : decode cX12_step 331 = .ok (.aload_n 0, 1) := by decide +kernel
theorem dX12_step_332 : decode cX12_step 332 = .ok (.invokevirtual 586, 3) := by decide +kernel
theorem dX12_step_335 : decode cX12_step 335 = .ok (.lstore 6, 2) := by decide +kernel
theorem dX12_step_337 : decode cX12_step 337 = .ok (.goto 201, 3) := by decide +kernel
theorem dX12_step_340 : decode cX12_step 340 = .ok (.aload_n 0, 1) := by decide +kernel
theorem dX12_step_341 : decode cX12_step 341 = .ok (.invokevirtual 586, 3) := by decide +kernel
theorem dX12_step_344 : decode cX12_step 344 = .ok (.lstore 8, 2) := by decide +kernel
theorem dX12_step_346 : decode cX12_step 346 = .ok (.aload_n 0, 1) := by decide +kernel
theorem dX12_step_347 : decode cX12_step 347 = .ok (.invokevirtual 586, 3) := by decide +kernel
theorem dX12_step_350 : decode cX12_step 350 = .ok (.lstore 10, 2) := by decide +kernel
theorem dX12_step_352 : decode cX12_step 352 = .ok (.aload_n 0, 1) := by decide +kernel
theorem dX12_step_353 : decode cX12_step 353 = .ok (.lload 8, 2) := by decide +kernel
theorem dX12_step_355 : decode cX12_step 355 = .ok (.invokevirtual 582, 3) := by decide +kernel
theorem dX12_step_358 : decode cX12_step 358 = .ok (.aload_n 0, 1) := by decide +kernel
theorem dX12_step_359 : decode cX12_step 359 = .ok (.lload 10, 2) := by decide +kernel
theorem dX12_step_361 : decode cX12_step 361 = .ok (.invokevirtual 582, 3) := by decide +kernel
theorem dX12_step_364 : decode cX12_step 364 = .ok (.goto 174, 3) := by decide +kernel
theorem dX12_step_367 : decode cX12_step 367 = .ok (.aload_n 0, 1) := by decide +kernel
theorem dX12_step_368 : decode cX12_step 368 = .ok (.aload_n 0, 1) := by decide +kernel
theorem dX12_step_369 : decode cX12_step 369 = .ok (.getfield 524, 3) := by decide +kernel
theorem dX12_step_372 : decode cX12_step 372 = .ok (.aload_n 0, 1) := by decide +kernel
theorem dX12_step_373 : decode cX12_step 373 = .ok (.getfield 515, 3) := by decide +kernel
theorem dX12_step_376 : decode cX12_step 376 = .ok (.if_icmp .ge 16, 3) := by decide +kernel
theorem dX12_step_379 : decode cX12_step 379 = .ok (.aload_n 0, 1) := by decide +kernel
theorem dX12_step_380 : decode cX12_step 380 = .ok (.getfield 92, 3) := by decide +kernel
theorem dX12_step_383 : decode cX12_step 383 = .ok (.aload_n 0, 1) := by decide +kernel
theorem dX12_step_384 : decode cX12_step 384 = .ok (.getfield 524, 3) := by decide +kernel
theorem dX12_step_387 : decode cX12_step 387 = .ok (.iaload, 1) := by decide +kernel
theorem dX12_step_388 : decode cX12_step 388 = .ok (.i2l, 1) := by decide +kernel
theorem dX12_step_389 : decode cX12_step 389 = .ok (.goto 4, 3) := by decide +kernel
theorem dX12_step_392 : decode cX12_step 392 = .ok (.lconst 0, 1) := by decide +kernel
theorem dX12_step_393 : decode cX12_step 393 = .ok (.invokevirtual 582, 3) := by decide +kernel
theorem dX12_step_396 : decode cX12_step 396 = .ok (.aload_n 0, 1) := by decide +kernel
theorem dX12_step_397 : decode cX12_step 397 = .ok (.getfield 524, 3) := by decide +kernel
theorem dX12_step_400 : decode cX12_step 400 = .ok (.aload_n 0, 1) := by decide +kernel
theorem dX12_step_401 : decode cX12_step 401 = .ok (.getfield 515, 3) := by decide +kernel
theorem dX12_step_404 : decode cX12_step 404 = .ok (.if_icmp .ge 134, 3) := by decide +kernel
theorem dX12_step_407 : decode cX12_step 407 = .ok (.aload_n 0, 1) := by decide +kernel
theorem dX12_step_408 : decode cX12_step 408 = .ok (.dup, 1) := by decide +kernel
theorem dX12_step_409 : decode cX12_step 409 = .ok (.getfield 524, 3) := by decide +kernel
theorem dX12_step_412 : decode cX12_step 412 = .ok (.iconst 1, 1) := by decide +kernel
theorem dX12_step_413 : decode cX12_step 413 = .ok (.iadd, 1) := by decide +kernel
theorem dX12_step_414 : decode cX12_step 414 = .ok (.putfield 524, 3) := by decide +kernel
theorem dX12_step_417 : decode cX12_step 417 = .ok (.goto 121, 3) := by decide +kernel
theorem dX12_step_420 : decode cX12_step 420 = .ok (.aload_n 0, 1) := by decide +kernel
theorem dX12_step_421 : decode cX12_step 421 = .ok (.invokevirtual 586, 3) := by decide +kernel
theorem dX12_step_424 : decode cX12_step 424 = .ok (.l2i, 1) := by decide +kernel
theorem dX12_step_425 : decode cX12_step 425 = .ok (.istore 12, 2) := by decide +kernel
theorem dX12_step_427 : decode cX12_step 427 = .ok (.aload_n 0, 1) := by decide +kernel
theorem dX12_step_428 : decode cX12_step 428 = .ok (.getfield 527, 3) := by decide +kernel
theorem dX12_step_431 : decode cX12_step 431 = .ok (.sipush 256, 3) := by decide +kernel
theorem dX12_step_434 : decode cX12_step 434 = .ok (.if_icmp .ge 14, 3) := by decide +kernel
theorem dX12_step_437 : decode cX12_step 437 = .ok (.aload_n 0, 1) := by decide +kernel
theorem dX12_step_438 : decode cX12_step 438 = .ok (.getfield 95, 3) := by decide +kernel
theorem dX12_step_441 : decode cX12_step 441 = .ok (.aload_n 0, 1) := by decide +kernel
theorem dX12_step_442 : decode cX12_step 442 = .ok (.getfield 527, 3) := by decide +kernel
theorem dX12_step_445 : decode cX12_step 445 = .ok (.iload 12, 2) := by decide +kernel
theorem dX12_step_447 : decode cX12_step 447 = .ok (.iastore, 1) := by decide +kernel
theorem dX12_step_448 : decode cX12_step 448 = .ok (.aload_n 0, 1) := by decide +kernel
theorem dX12_step_449 : decode cX12_step 449 = .ok (.dup, 1) := by decide +kernel
theorem dX12_step_450 : decode cX12_step 450 = .ok (.getfield 527, 3) := by decide +kernel
theorem dX12_step_453 : decode cX12_step 453 = .ok (.iconst 1, 1) := by decide +kernel
theorem dX12_step_454 : decode cX12_step 454 = .ok (.iadd, 1) := by decide +kernel
theorem dX12_step_455 : decode cX12_step 455 = .ok (.putfield 527, 3) := by decide +kernel
theorem dX12_step_458 : decode cX12_step 458 = .ok (.goto 80, 3) := by decide +kernel
theorem dX12_step_461 : decode cX12_step 461 = .ok (.aload_n 0, 1) := by decide +kernel
theorem dX12_step_462 : decode cX12_step 462 = .ok (.getfield 74, 3) := by decide +kernel
theorem dX12_step_465 : decode cX12_step 465 = .ok (.aload_n 0, 1) := by decide +kernel
theorem dX12_step_466 : decode cX12_step 466 = .ok (.getfield 533, 3) := by decide +kernel
theorem dX12_step_469 : decode cX12_step 469 = .ok (.iconst 1, 1) := by decide +kernel
theorem dX12_step_470 : decode cX12_step 470 = .ok (.isub, 1) := by decide +kernel
theorem dX12_step_471 : decode cX12_step 471 = .ok (.iload_n 3, 1) := by decide +kernel
theorem dX12_step_472 : decode cX12_step 472 = .ok (.iastore, 1) := by decide +kernel
theorem dX12_step_473 : decode cX12_step 473 = .ok (.return_, 1) := by decide +kernel
theorem dX12_step_474 : decode cX12_step 474 = .ok (.aload_n 0, 1) := by decide +kernel
theorem dX12_step_475 : decode cX12_step 475 = .ok (.aload_n 0, 1) := by decide +kernel
theorem dX12_step_476 : decode cX12_step 476 = .ok (.invokevirtual 586, 3) := by decide +kernel
theorem dX12_step_479 : decode cX12_step 479 = .ok (.l2i, 1) := by decide +kernel
theorem dX12_step_480 : decode cX12_step 480 = .ok (.ineg, 1) := by decide +kernel
theorem dX12_step_481 : decode cX12_step 481 = .ok (.i2l, 1) := by decide +kernel
theorem dX12_step_482 : decode cX12_step 482 = .ok (.invokevirtual 582, 3) := by decide +kernel
theorem dX12_step_485 : decode cX12_step 485 = .ok (.goto 53, 3) := by decide +kernel
theorem dX12_step_488 : decode cX12_step 488 = .ok (.iload_n 2, 1) := by decide +kernel
theorem dX12_step_489 : decode cX12_step 489 = .ok (.bipush 8, 2) := by decide +kernel
theorem dX12_step_491 : decode cX12_step 491 = .ok (.if_icmp .lt 18, 3) := by decide +kernel
theorem dX12_step_494 : decode cX12_step 494 = .ok (.iload_n 2, 1) := by decide +kernel
theorem dX12_step_495 : decode cX12_step 495 = .ok (.bipush 17, 2) := by decide +kernel
theorem dX12_step_497 : decode cX12_step 497 = .ok (.if_icmp .gt 12, 3) := by decide +kernel
theorem dX12_step_500 : decode cX12_step 500 = .ok (.aload_n 0, 1) := by decide +kernel
theorem dX12_step_501 : decode cX12_step 501 = .ok (.iload_n 2, 1) := by decide +kernel
theorem dX12_step_502 : decode cX12_step 502 = .ok (.iload_n 1, 1) := by decide +kernel
theorem dX12_step_503 : decode cX12_step 503 = .ok (.invokevirtual 590, 3) := by decide +kernel
theorem dX12_step_506 : decode cX12_step 506 = .ok (.goto 31, 3) := by decide +kernel
theorem dX12_step_509 : decode cX12_step 509 = .ok (.iload_n 2, 1) := by decide +kernel
theorem dX12_step_510 : decode cX12_step 510 = .ok (.bipush 20, 2) := by decide +kernel
theorem dX12_step_512 : decode cX12_step 512 = .ok (.if_icmp .lt 18, 3) := by decide +kernel
theorem dX12_step_515 : decode cX12_step 515 = .ok (.iload_n 2, 1) := by decide +kernel
theorem dX12_step_516 : decode cX12_step 516 = .ok (.bipush 29, 2) := by decide +kernel
theorem dX12_step_518 : decode cX12_step 518 = .ok (.if_icmp .gt 12, 3) := by decide +kernel
theorem dX12_step_521 : decode cX12_step 521 = .ok (.aload_n 0, 1) := by decide +kernel
theorem dX12_step_522 : decode cX12_step 522 = .ok (.iload_n 2, 1) := by decide +kernel
theorem dX12_step_523 : decode cX12_step 523 = .ok (.iload_n 3, 1) := by decide +kernel
theorem dX12_step_524 : decode cX12_step 524 = .ok (.invokevirtual 593, 3) := by decide +kernel
theorem dX12_step_527 : decode cX12_step 527 = .ok (.goto 10, 3) := by decide +kernel
theorem dX12_step_530 : decode cX12_step 530 = .ok (.aload_n 0, 1) := by decide +kernel
theorem dX12_step_531 : decode cX12_step 531 = .ok (.iload_n 2, 1) := by decide +kernel
theorem dX12_step_532 : decode cX12_step 532 = .ok (.iload_n 3, 1) := by decide +kernel
theorem dX12_step_533 : decode cX12_step 533 = .ok (.iload_n 1, 1) := by decide +kernel
theorem dX12_step_534 : decode cX12_step 534 = .ok (.invokevirtual 596, 3) := by decide +kernel
theorem dX12_step_537 : decode cX12_step 537 = .ok (.return_, 1) := by decide +kernel
theorem dX12_step_538 : decode cX12_step 538 = .ok (.aload_n 0, 1) := by decide +kernel
theorem dX12_step_539 : decode cX12_step 539 = .ok (.invokevirtual 600, 3) := by decide +kernel
theorem dX12_step_542 : decode cX12_step 542 = .ok (.return_, 1) := by decide +kernel
theorem dX12_reckon_0 : decode cX12_reckon 0 = .ok (.aload_n 0, 1) := by decide +kernel
theorem dX12_reckon_1 : decode cX12_reckon 1 = .ok (.invokevirtual 586, 3) := by decide +kernel
theorem dX12_reckon_4 : decode cX12_reckon 4 = .ok (.l2i, 1) := by decide +kernel
theorem dX12_reckon_5 : decode cX12_reckon 5 = .ok (.istore_n 3, 1) := by decide +kernel
theorem dX12_reckon_6 : decode cX12_reckon 6 = .ok (.aload_n 0, 1) := by decide +kernel
theorem dX12_reckon_7 : decode cX12_reckon 7 = .ok (.invokevirtual 586, 3) := by decide +kernel
theorem dX12_reckon_10 : decode cX12_reckon 10 = .ok (.l2i, 1) := by decide +kernel
theorem dX12_reckon_11 : decode cX12_reckon 11 = .ok (.istore 4, 2) := by decide +kernel
theorem dX12_reckon_13 : decode cX12_reckon 13 = .ok (.iload_n 1, 1) := by decide +kernel
theorem dX12_reckon_14 : decode cX12_reckon 14 = .ok (.bipush 11, 2) := by decide +kernel
theorem dX12_reckon_16 : decode cX12_reckon 16 = .ok (.if_icmp .eq 9, 3) := by decide +kernel
theorem dX12_reckon_19 : decode cX12_reckon 19 = .ok (.iload_n 1, 1) := by decide +kernel
theorem dX12_reckon_20 : decode cX12_reckon 20 = .ok (.bipush 12, 2) := by decide +kernel
theorem dX12_reckon_22 : decode cX12_reckon 22 = .ok (.if_icmp .ne 14, 3) := by decide +kernel
theorem dX12_reckon_25 : decode cX12_reckon 25 = .ok (.iload_n 3, 1) := by decide +kernel
theorem dX12_reckon_26 : decode cX12_reckon 26 = .ok (.ifCond .ne 10, 3) := by decide +kernel
theorem dX12_reckon_29 : decode cX12_reckon 29 = .ok (.aload_n 0, 1) := by decide +kernel
theorem dX12_reckon_30 : decode cX12_reckon 30 = .ok (.iconst 3, 1) := by decide +kernel
theorem dX12_reckon_31 : decode cX12_reckon 31 = .ok (.iload_n 2, 1) := by decide +kernel
theorem dX12_reckon_32 : decode cX12_reckon 32 = .ok (.invokevirtual 603, 3) := by decide +kernel
theorem dX12_reckon_35 : decode cX12_reckon 35 = .ok (.return_, 1) := by decide +kernel
theorem dX12_reckon_36 : decode cX12_reckon 36 = .ok (.aload_n 0, 1) := by decide +kernel
theorem dX12_reckon_37 : decode cX12_reckon 37 = .ok (.iload_n 1, 1) := by decide +kernel
theorem dX12_reckon_38 : decode cX12_reckon 38 = .ok (.bipush 8, 2) := by decide +kernel
theorem dX12_reckon_40 : decode cX12_reckon 40 = .ok (.if_icmp .ne 11, 3) := by decide +kernel
theorem dX12_reckon_43 : decode cX12_reckon 43 = .ok (.iload 4, 2) := by decide +kernel
theorem dX12_reckon_45 : decode cX12_reckon 45 = .ok (.iload_n 3, 1) := by decide +kernel
theorem dX12_reckon_46 : decode cX12_reckon 46 = .ok (.iadd, 1) := by decide +kernel
theorem dX12_reckon_47 : decode cX12_reckon 47 = .ok (.i2l, 1) := by decide +kernel
theorem dX12_reckon_48 : decode cX12_reckon 48 = .ok (.goto 126, 3) := by decide +kernel
theorem dX12_reckon_51 : decode cX12_reckon 51 = .ok (.iload_n 1, 1) := by decide +kernel
theorem dX12_reckon_52 : decode cX12_reckon 52 = .ok (.bipush 9, 2) := by decide +kernel
theorem dX12_reckon_54 : decode cX12_reckon 54 = .ok (.if_icmp .ne 11, 3) := by decide +kernel
theorem dX12_reckon_57 : decode cX12_reckon 57 = .ok (.iload 4, 2) := by decide +kernel
theorem dX12_reckon_59 : decode cX12_reckon 59 = .ok (.iload_n 3, 1) := by decide +kernel
theorem dX12_reckon_60 : decode cX12_reckon 60 = .ok (.isub, 1) := by decide +kernel
theorem dX12_reckon_61 : decode cX12_reckon 61 = .ok (.i2l, 1) := by decide +kernel
theorem dX12_reckon_62 : decode cX12_reckon 62 = .ok (.goto 112, 3) := by decide +kernel
theorem dX12_reckon_65 : decode cX12_reckon 65 = .ok (.iload_n 1, 1) := by decide +kernel
theorem dX12_reckon_66 : decode cX12_reckon 66 = .ok (.bipush 10, 2) := by decide +kernel
theorem dX12_reckon_68 : decode cX12_reckon 68 = .ok (.if_icmp .ne 11, 3) := by decide +kernel
theorem dX12_reckon_71 : decode cX12_reckon 71 = .ok (.iload 4, 2) := by decide +kernel
theorem dX12_reckon_73 : decode cX12_reckon 73 = .ok (.iload_n 3, 1) := by decide +kernel
theorem dX12_reckon_74 : decode cX12_reckon 74 = .ok (.imul, 1) := by decide +kernel
theorem dX12_reckon_75 : decode cX12_reckon 75 = .ok (.i2l, 1) := by decide +kernel
theorem dX12_reckon_76 : decode cX12_reckon 76 = .ok (.goto 98, 3) := by decide +kernel
theorem dX12_reckon_79 : decode cX12_reckon 79 = .ok (.iload_n 1, 1) := by decide +kernel
theorem dX12_reckon_80 : decode cX12_reckon 80 = .ok (.bipush 11, 2) := by decide +kernel
theorem dX12_reckon_82 : decode cX12_reckon 82 = .ok (.if_icmp .ne 11, 3) := by decide +kernel
theorem dX12_reckon_85 : decode cX12_reckon 85 = .ok (.iload 4, 2) := by decide +kernel
theorem dX12_reckon_87 : decode cX12_reckon 87 = .ok (.iload_n 3, 1) := by decide +kernel
theorem dX12_reckon_88 : decode cX12_reckon 88 = .ok (.idiv, 1) := by decide +kernel
theorem dX12_reckon_89 : decode cX12_reckon 89 = .ok (.i2l, 1) := by decide +kernel
theorem dX12_reckon_90 : decode cX12_reckon 90 = .ok (.goto 84, 3) := by decide +kernel
theorem dX12_reckon_93 : decode cX12_reckon 93 = .ok (.iload_n 1, 1) := by decide +kernel
theorem dX12_reckon_94 : decode cX12_reckon 94 = .ok (.bipush 12, 2) := by decide +kernel
theorem dX12_reckon_96 : decode cX12_reckon 96 = .ok (.if_icmp .ne 11, 3) := by decide +kernel
theorem dX12_reckon_99 : decode cX12_reckon 99 = .ok (.iload 4, 2) := by decide +kernel
theorem dX12_reckon_101 : decode cX12_reckon 101 = .ok (.iload_n 3, 1) := by decide +kernel
theorem dX12_reckon_102 : decode cX12_reckon 102 = .ok (.irem, 1) := by decide +kernel
theorem dX12_reckon_103 : decode cX12_reckon 103 = .ok (.i2l, 1) := by decide +kernel
theorem dX12_reckon_104 : decode cX12_reckon 104 = .ok (.goto 70, 3) := by decide +kernel
theorem dX12_reckon_107 : decode cX12_reckon 107 = .ok (.iload_n 1, 1) := by decide +kernel
theorem dX12_reckon_108 : decode cX12_reckon 108 = .ok (.bipush 13, 2) := by decide +kernel
theorem dX12_reckon_110 : decode cX12_reckon 110 = .ok (.if_icmp .ne 11, 3) := by decide +kernel
theorem dX12_reckon_113 : decode cX12_reckon 113 = .ok (.iload 4, 2) := by decide +kernel
theorem dX12_reckon_115 : decode cX12_reckon 115 = .ok (.iload_n 3, 1) := by decide +kernel
theorem dX12_reckon_116 : decode cX12_reckon 116 = .ok (.iand, 1) := by decide +kernel
theorem dX12_reckon_117 : decode cX12_reckon 117 = .ok (.i2l, 1) := by decide +kernel
theorem dX12_reckon_118 : decode cX12_reckon 118 = .ok (.goto 56, 3) := by decide +kernel
theorem dX12_reckon_121 : decode cX12_reckon 121 = .ok (.iload_n 1, 1) := by decide +kernel
theorem dX12_reckon_122 : decode cX12_reckon 122 = .ok (.bipush 14, 2) := by decide +kernel
theorem dX12_reckon_124 : decode cX12_reckon 124 = .ok (.if_icmp .ne 11, 3) := by decide +kernel
theorem dX12_reckon_127 : decode cX12_reckon 127 = .ok (.iload 4, 2) := by decide +kernel
theorem dX12_reckon_129 : decode cX12_reckon 129 = .ok (.iload_n 3, 1) := by decide +kernel
theorem dX12_reckon_130 : decode cX12_reckon 130 = .ok (.ior, 1) := by decide +kernel
theorem dX12_reckon_131 : decode cX12_reckon 131 = .ok (.i2l, 1) := by decide +kernel
theorem dX12_reckon_132 : decode cX12_reckon 132 = .ok (.goto 42, 3) := by decide +kernel
theorem dX12_reckon_135 : decode cX12_reckon 135 = .ok (.iload_n 1, 1) := by decide +kernel
theorem dX12_reckon_136 : decode cX12_reckon 136 = .ok (.bipush 15, 2) := by decide +kernel
theorem dX12_reckon_138 : decode cX12_reckon 138 = .ok (.if_icmp .ne 11, 3) := by decide +kernel
theorem dX12_reckon_141 : decode cX12_reckon 141 = .ok (.iload 4, 2) := by decide +kernel
theorem dX12_reckon_143 : decode cX12_reckon 143 = .ok (.iload_n 3, 1) := by decide +kernel
theorem dX12_reckon_144 : decode cX12_reckon 144 = .ok (.ixor, 1) := by decide +kernel
theorem dX12_reckon_145 : decode cX12_reckon 145 = .ok (.i2l, 1) := by decide +kernel
theorem dX12_reckon_146 : decode cX12_reckon 146 = .ok (.goto 28, 3) := by decide +kernel
theorem dX12_reckon_149 : decode cX12_reckon 149 = .ok (.iload_n 1, 1) := by decide +kernel
theorem dX12_reckon_150 : decode cX12_reckon 150 = .ok (.bipush 16, 2) := by decide +kernel
theorem dX12_reckon_152 : decode cX12_reckon 152 = .ok (.if_icmp .ne 14, 3) := by decide +kernel
theorem dX12_reckon_155 : decode cX12_reckon 155 = .ok (.iload 4, 2) := by decide +kernel
theorem dX12_reckon_157 : decode cX12_reckon 157 = .ok (.iload_n 3, 1) := by decide +kernel
theorem dX12_reckon_158 : decode cX12_reckon 158 = .ok (.bipush 31, 2) := by decide +kernel
theorem dX12_reckon_160 : decode cX12_reckon 160 = .ok (.iand, 1) := by decide +kernel
theorem dX12_reckon_161 : decode cX12_reckon 161 = .ok (.ishl, 1) := by decide +kernel
theorem dX12_reckon_162 : decode cX12_reckon 162 = .ok (.i2l, 1) := by decide +kernel
theorem dX12_reckon_163 : decode cX12_reckon 163 = .ok (.goto 11, 3) := by decide +kernel
theorem dX12_reckon_166 : decode cX12_reckon 166 = .ok (.iload 4, 2) := by decide +kernel
theorem dX12_reckon_168 : decode cX12_reckon 168 = .ok (.iload_n 3, 1) := by decide +kernel
theorem dX12_reckon_169 : decode cX12_reckon 169 = .ok (.bipush 31, 2) := by decide +kernel
theorem dX12_reckon_171 : decode cX12_reckon 171 = .ok (.iand, 1) := by decide +kernel
theorem dX12_reckon_172 : decode cX12_reckon 172 = .ok (.ishr, 1) := by decide +kernel
theorem dX12_reckon_173 : decode cX12_reckon 173 = .ok (.i2l, 1) := by decide +kernel
theorem dX12_reckon_174 : decode cX12_reckon 174 = .ok (.invokevirtual 582, 3) := by decide +kernel
theorem dX12_reckon_177 : decode cX12_reckon 177 = .ok (.aload_n 0, 1) := by decide +kernel
theorem dX12_reckon_178 : decode cX12_reckon 178 = .ok (.invokevirtual 600, 3) := by decide +kernel
theorem dX12_reckon_181 : decode cX12_reckon 181 = .ok (.return_, 1) := by decide +kernel
theorem dX12_branch_0 : decode cX12_branch 0 = .ok (.aload_n 0, 1) := by decide +kernel
theorem dX12_branch_1 : decode cX12_branch 1 = .ok (.invokevirtual 586, 3) := by decide +kernel
theorem dX12_branch_4 : decode cX12_branch 4 = .ok (.lstore_n 3, 1) := by decide +kernel
theorem dX12_branch_5 : decode cX12_branch 5 = .ok (.iload_n 1, 1) := by decide +kernel
theorem dX12_branch_6 : decode cX12_branch 6 = .ok (.bipush 26, 2) := by decide +kernel
theorem dX12_branch_8 : decode cX12_branch 8 = .ok (.if_icmp .eq 9, 3) := by decide +kernel
theorem dX12_branch_11 : decode cX12_branch 11 = .ok (.iload_n 1, 1) := by decide +kernel
theorem dX12_branch_12 : decode cX12_branch 12 = .ok (.bipush 27, 2) := by decide +kernel
theorem dX12_branch_14 : decode cX12_branch 14 = .ok (.if_icmp .ne 40, 3) := by decide +kernel
theorem dX12_branch_17 : decode cX12_branch 17 = .ok (.lload_n 3, 1) := by decide +kernel
theorem dX12_branch_18 : decode cX12_branch 18 = .ok (.ldc2_w 553, 3) := by decide +kernel
theorem dX12_branch_21 : decode cX12_branch 21 = .ok (.lcmp, 1) := by decide +kernel
theorem dX12_branch_22 : decode cX12_branch 22 = .ok (.ifCond .ne 7, 3) := by decide +kernel
theorem dX12_branch_25 : decode cX12_branch 25 = .ok (.iconst 1, 1) := by decide +kernel
theorem dX12_branch_26 : decode cX12_branch 26 = .ok (.goto 4, 3) := by decide +kernel
theorem dX12_branch_29 : decode cX12_branch 29 = .ok (.iconst 0, 1) := by decide +kernel
theorem dX12_branch_30 : decode cX12_branch 30 = .ok (.iload_n 1, 1) := by decide +kernel
theorem dX12_branch_31 : decode cX12_branch 31 = .ok (.bipush 26, 2) := by decide +kernel
theorem dX12_branch_33 : decode cX12_branch 33 = .ok (.if_icmp .ne 7, 3) := by decide +kernel
theorem dX12_branch_36 : decode cX12_branch 36 = .ok (.iconst 1, 1) := by decide +kernel
theorem dX12_branch_37 : decode cX12_branch 37 = .ok (.goto 4, 3) := by decide +kernel
theorem dX12_branch_40 : decode cX12_branch 40 = .ok (.iconst 0, 1) := by decide +kernel
theorem dX12_branch_41 : decode cX12_branch 41 = .ok (.if_icmp .ne 7, 3) := by decide +kernel
theorem dX12_branch_44 : decode cX12_branch 44 = .ok (.iconst 1, 1) := by decide +kernel
theorem dX12_branch_45 : decode cX12_branch 45 = .ok (.goto 4, 3) := by decide +kernel
theorem dX12_branch_48 : decode cX12_branch 48 = .ok (.iconst 0, 1) := by decide +kernel
theorem dX12_branch_49 : decode cX12_branch 49 = .ok (.istore 5, 2) := by decide +kernel
theorem dX12_branch_51 : decode cX12_branch 51 = .ok (.goto 140, 3) := by decide +kernel
theorem dX12_branch_54 : decode cX12_branch 54 = .ok (.aload_n 0, 1) := by decide +kernel
theorem dX12_branch_55 : decode cX12_branch 55 = .ok (.invokevirtual 586, 3) := by decide +kernel
theorem dX12_branch_58 : decode cX12_branch 58 = .ok (.lstore 6, 2) := by decide +kernel
theorem dX12_branch_60 : decode cX12_branch 60 = .ok (.iload_n 1, 1) := by decide +kernel
theorem dX12_branch_61 : decode cX12_branch 61 = .ok (.bipush 20, 2) := by decide +kernel
theorem dX12_branch_63 : decode cX12_branch 63 = .ok (.if_icmp .eq 9, 3) := by decide +kernel
theorem dX12_branch_66 : decode cX12_branch 66 = .ok (.iload_n 1, 1) := by decide +kernel
theorem dX12_branch_67 : decode cX12_branch 67 = .ok (.bipush 28, 2) := by decide +kernel
theorem dX12_branch_69 : decode cX12_branch 69 = .ok (.if_icmp .ne 18, 3) := by decide +kernel
theorem dX12_branch_72 : decode cX12_branch 72 = .ok (.lload 6, 2) := by decide +kernel
theorem dX12_branch_74 : decode cX12_branch 74 = .ok (.lload_n 3, 1) := by decide +kernel
theorem dX12_branch_75 : decode cX12_branch 75 = .ok (.lcmp, 1) := by decide +kernel
theorem dX12_branch_76 : decode cX12_branch 76 = .ok (.ifCond .ne 7, 3) := by decide +kernel
theorem dX12_branch_79 : decode cX12_branch 79 = .ok (.iconst 1, 1) := by decide +kernel
theorem dX12_branch_80 : decode cX12_branch 80 = .ok (.goto 109, 3) := by decide +kernel
theorem dX12_branch_83 : decode cX12_branch 83 = .ok (.iconst 0, 1) := by decide +kernel
theorem dX12_branch_84 : decode cX12_branch 84 = .ok (.goto 105, 3) := by decide +kernel
theorem dX12_branch_87 : decode cX12_branch 87 = .ok (.iload_n 1, 1) := by decide +kernel
theorem dX12_branch_88 : decode cX12_branch 88 = .ok (.bipush 21, 2) := by decide +kernel
theorem dX12_branch_90 : decode cX12_branch 90 = .ok (.if_icmp .eq 9, 3) := by decide +kernel
theorem dX12_branch_93 : decode cX12_branch 93 = .ok (.iload_n 1, 1) := by decide +kernel
theorem dX12_branch_94 : decode cX12_branch 94 = .ok (.bipush 29, 2) := by decide +kernel
theorem dX12_branch_96 : decode cX12_branch 96 = .ok (.if_icmp .ne 18, 3) := by decide +kernel
theorem dX12_branch_99 : decode cX12_branch 99 = .ok (.lload 6, 2) := by decide +kernel
theorem dX12_branch_101 : decode cX12_branch 101 = .ok (.lload_n 3, 1) := by decide +kernel
theorem dX12_branch_102 : decode cX12_branch 102 = .ok (.lcmp, 1) := by decide +kernel
theorem dX12_branch_103 : decode cX12_branch 103 = .ok (.ifCond .eq 7, 3) := by decide +kernel
theorem dX12_branch_106 : decode cX12_branch 106 = .ok (.iconst 1, 1) := by decide +kernel
theorem dX12_branch_107 : decode cX12_branch 107 = .ok (.goto 82, 3) := by decide +kernel
theorem dX12_branch_110 : decode cX12_branch 110 = .ok (.iconst 0, 1) := by decide +kernel
theorem dX12_branch_111 : decode cX12_branch 111 = .ok (.goto 78, 3) := by decide +kernel
theorem dX12_branch_114 : decode cX12_branch 114 = .ok (.iload_n 1, 1) := by decide +kernel
theorem dX12_branch_115 : decode cX12_branch 115 = .ok (.bipush 22, 2) := by decide +kernel
theorem dX12_branch_117 : decode cX12_branch 117 = .ok (.if_icmp .ne 18, 3) := by decide +kernel
theorem dX12_branch_120 : decode cX12_branch 120 = .ok (.lload 6, 2) := by decide +kernel
theorem dX12_branch_122 : decode cX12_branch 122 = .ok (.lload_n 3, 1) := by decide +kernel
theorem dX12_branch_123 : decode cX12_branch 123 = .ok (.lcmp, 1) := by decide +kernel
theorem dX12_branch_124 : decode cX12_branch 124 = .ok (.ifCond .ge 7, 3) := by decide +kernel
theorem dX12_branch_127 : decode cX12_branch 127 = .ok (.iconst 1, 1) := by decide +kernel
theorem dX12_branch_128 : decode cX12_branch 128 = .ok (.goto 61, 3) := by decide +kernel
theorem dX12_branch_131 : decode cX12_branch 131 = .ok (.iconst 0, 1) := by decide +kernel
theorem dX12_branch_132 : decode cX12_branch 132 = .ok (.goto 57, 3) := by decide +kernel
theorem dX12_branch_135 : decode cX12_branch 135 = .ok (.iload_n 1, 1) := by decide +kernel
theorem dX12_branch_136 : decode cX12_branch 136 = .ok (.bipush 23, 2) := by decide +kernel
theorem dX12_branch_138 : decode cX12_branch 138 = .ok (.if_icmp .ne 18, 3) := by decide +kernel
theorem dX12_branch_141 : decode cX12_branch 141 = .ok (.lload 6, 2) := by decide +kernel
theorem dX12_branch_143 : decode cX12_branch 143 = .ok (.lload_n 3, 1) := by decide +kernel
theorem dX12_branch_144 : decode cX12_branch 144 = .ok (.lcmp, 1) := by decide +kernel
theorem dX12_branch_145 : decode cX12_branch 145 = .ok (.ifCond .gt 7, 3) := by decide +kernel
theorem dX12_branch_148 : decode cX12_branch 148 = .ok (.iconst 1, 1) := by decide +kernel
theorem dX12_branch_149 : decode cX12_branch 149 = .ok (.goto 40, 3) := by decide +kernel
theorem dX12_branch_152 : decode cX12_branch 152 = .ok (.iconst 0, 1) := by decide +kernel
theorem dX12_branch_153 : decode cX12_branch 153 = .ok (.goto 36, 3) := by decide +kernel
theorem dX12_branch_156 : decode cX12_branch 156 = .ok (.iload_n 1, 1) := by decide +kernel
theorem dX12_branch_157 : decode cX12_branch 157 = .ok (.bipush 24, 2) := by decide +kernel
theorem dX12_branch_159 : decode cX12_branch 159 = .ok (.if_icmp .ne 18, 3) := by decide +kernel
theorem dX12_branch_162 : decode cX12_branch 162 = .ok (.lload 6, 2) := by decide +kernel
theorem dX12_branch_164 : decode cX12_branch 164 = .ok (.lload_n 3, 1) := by decide +kernel
theorem dX12_branch_165 : decode cX12_branch 165 = .ok (.lcmp, 1) := by decide +kernel
theorem dX12_branch_166 : decode cX12_branch 166 = .ok (.ifCond .le 7, 3) := by decide +kernel
theorem dX12_branch_169 : decode cX12_branch 169 = .ok (.iconst 1, 1) := by decide +kernel
theorem dX12_branch_170 : decode cX12_branch 170 = .ok (.goto 19, 3) := by decide +kernel
theorem dX12_branch_173 : decode cX12_branch 173 = .ok (.iconst 0, 1) := by decide +kernel
theorem dX12_branch_174 : decode cX12_branch 174 = .ok (.goto 15, 3) := by decide +kernel
theorem dX12_branch_177 : decode cX12_branch 177 = .ok (.lload 6, 2) := by decide +kernel
theorem dX12_branch_179 : decode cX12_branch 179 = .ok (.lload_n 3, 1) := by decide +kernel
theorem dX12_branch_180 : decode cX12_branch 180 = .ok (.lcmp, 1) := by decide +kernel
theorem dX12_branch_181 : decode cX12_branch 181 = .ok (.ifCond .lt 7, 3) := by decide +kernel
theorem dX12_branch_184 : decode cX12_branch 184 = .ok (.iconst 1, 1) := by decide +kernel
theorem dX12_branch_185 : decode cX12_branch 185 = .ok (.goto 4, 3) := by decide +kernel
theorem dX12_branch_188 : decode cX12_branch 188 = .ok (.iconst 0, 1) := by decide +kernel
theorem dX12_branch_189 : decode cX12_branch 189 = .ok (.istore 5, 2) := by decide +kernel
theorem dX12_branch_191 : decode cX12_branch 191 = .ok (.iload 5, 2) := by decide +kernel
theorem dX12_branch_193 : decode cX12_branch 193 = .ok (.ifCond .eq 18, 3) := by decide +kernel
theorem dX12_branch_196 : decode cX12_branch 196 = .ok (.aload_n 0, 1) := by decide +kernel
theorem dX12_branch_197 : decode cX12_branch 197 = .ok (.getfield 74, 3) := by decide +kernel
theorem dX12_branch_200 : decode cX12_branch 200 = .ok (.aload_n 0, 1) := by decide +kernel
theorem dX12_branch_201 : decode cX12_branch 201 = .ok (.getfield 533, 3) := by decide +kernel
theorem dX12_branch_204 : decode cX12_branch 204 = .ok (.iconst 1, 1) := by decide +kernel
theorem dX12_branch_205 : decode cX12_branch 205 = .ok (.isub, 1) := by decide +kernel
theorem dX12_branch_206 : decode cX12_branch 206 = .ok (.iload_n 2, 1) := by decide +kernel
theorem dX12_branch_207 : decode cX12_branch 207 = .ok (.iastore, 1) := by decide +kernel
theorem dX12_branch_208 : decode cX12_branch 208 = .ok (.goto 7, 3) := by decide +kernel
theorem dX12_branch_211 : decode cX12_branch 211 = .ok (.aload_n 0, 1) := by decide +kernel
theorem dX12_branch_212 : decode cX12_branch 212 = .ok (.invokevirtual 600, 3) := by decide +kernel
theorem dX12_branch_215 : decode cX12_branch 215 = .ok (.return_, 1) := by decide +kernel
theorem dX12_objectStep_0 : decode cX12_objectStep 0 = .ok (.iload_n 1, 1) := by decide +kernel
theorem dX12_objectStep_1 : decode cX12_objectStep 1 = .ok (.tableswitch 356 30 41 #[63, 63, 71, 115, 115, 122, 122, 216, 216, 316, 316, 324], 63) := by decide +kernel
theorem dX12_objectStep_64 : decode cX12_objectStep 64 = .ok (.aload_n 0, 1) := by decide +kernel
theorem dX12_objectStep_65 : decode cX12_objectStep 65 = .ok (.iload_n 1, 1) := by decide +kernel
theorem dX12_objectStep_66 : decode cX12_objectStep 66 = .ok (.iload_n 2, 1) := by decide +kernel
theorem dX12_objectStep_67 : decode cX12_objectStep 67 = .ok (.iload_n 3, 1) := by decide +kernel
theorem dX12_objectStep_68 : decode cX12_objectStep 68 = .ok (.invokevirtual 606, 3) := by decide +kernel
theorem dX12_objectStep_71 : decode cX12_objectStep 71 = .ok (.return_, 1) := by decide +kernel
theorem dX12_objectStep_72 : decode cX12_objectStep 72 = .ok (.aload_n 0, 1) := by decide +kernel
theorem dX12_objectStep_73 : decode cX12_objectStep 73 = .ok (.invokevirtual 586, 3) := by decide +kernel
theorem dX12_objectStep_76 : decode cX12_objectStep 76 = .ok (.lstore 4, 2) := by decide +kernel
theorem dX12_objectStep_78 : decode cX12_objectStep 78 = .ok (.lload 4, 2) := by decide +kernel
theorem dX12_objectStep_80 : decode cX12_objectStep 80 = .ok (.ldc2_w 553, 3) := by decide +kernel
theorem dX12_objectStep_83 : decode cX12_objectStep 83 = .ok (.lcmp, 1) := by decide +kernel
theorem dX12_objectStep_84 : decode cX12_objectStep 84 = .ok (.ifCond .ne 12, 3) := by decide +kernel
theorem dX12_objectStep_87 : decode cX12_objectStep 87 = .ok (.aload_n 0, 1) := by decide +kernel
theorem dX12_objectStep_88 : decode cX12_objectStep 88 = .ok (.iconst 0, 1) := by decide +kernel
theorem dX12_objectStep_89 : decode cX12_objectStep 89 = .ok (.iload_n 3, 1) := by decide +kernel
theorem dX12_objectStep_90 : decode cX12_objectStep 90 = .ok (.invokevirtual 603, 3) := by decide +kernel
theorem dX12_objectStep_93 : decode cX12_objectStep 93 = .ok (.goto 22, 3) := by decide +kernel
theorem dX12_objectStep_96 : decode cX12_objectStep 96 = .ok (.aload_n 0, 1) := by decide +kernel
theorem dX12_objectStep_97 : decode cX12_objectStep 97 = .ok (.aload_n 0, 1) := by decide +kernel
theorem dX12_objectStep_98 : decode cX12_objectStep 98 = .ok (.getfield 86, 3) := by decide +kernel
theorem dX12_objectStep_101 : decode cX12_objectStep 101 = .ok (.lload 4, 2) := by decide +kernel
theorem dX12_objectStep_103 : decode cX12_objectStep 103 = .ok (.invokestatic 566, 3) := by decide +kernel
theorem dX12_objectStep_106 : decode cX12_objectStep 106 = .ok (.iaload, 1) := by decide +kernel
theorem dX12_objectStep_107 : decode cX12_objectStep 107 = .ok (.i2l, 1) := by decide +kernel
theorem dX12_objectStep_108 : decode cX12_objectStep 108 = .ok (.invokevirtual 582, 3) := by decide +kernel
theorem dX12_objectStep_111 : decode cX12_objectStep 111 = .ok (.aload_n 0, 1) := by decide +kernel
theorem dX12_objectStep_112 : decode cX12_objectStep 112 = .ok (.invokevirtual 600, 3) := by decide +kernel
theorem dX12_objectStep_115 : decode cX12_objectStep 115 = .ok (.return_, 1) := by decide +kernel
theorem dX12_objectStep_116 : decode cX12_objectStep 116 = .ok (.aload_n 0, 1) := by decide +kernel
theorem dX12_objectStep_117 : decode cX12_objectStep 117 = .ok (.iload_n 1, 1) := by decide +kernel
theorem dX12_objectStep_118 : decode cX12_objectStep 118 = .ok (.iload_n 3, 1) := by decide +kernel
theorem dX12_objectStep_119 : decode cX12_objectStep 119 = .ok (.invokevirtual 609, 3) := by decide +kernel
theorem dX12_objectStep_122 : decode cX12_objectStep 122 = .ok (.return_, 1) := by decide +kernel
theorem dX12_objectStep_123 : decode cX12_objectStep 123 = .ok (.iload_n 1, 1) := by decide +kernel
theorem dX12_objectStep_124 : decode cX12_objectStep 124 = .ok (.bipush 36, 2) := by decide +kernel
theorem dX12_objectStep_126 : decode cX12_objectStep 126 = .ok (.if_icmp .ne 10, 3) := by decide +kernel
theorem dX12_objectStep_129 : decode cX12_objectStep 129 = .ok (.aload_n 0, 1) := by decide +kernel
theorem dX12_objectStep_130 : decode cX12_objectStep 130 = .ok (.invokevirtual 586, 3) := by decide +kernel
theorem dX12_objectStep_133 : decode cX12_objectStep 133 = .ok (.goto 4, 3) := by decide +kernel
theorem dX12_objectStep_136 : decode cX12_objectStep 136 = .ok (.lconst 0, 1) := by decide +kernel
theorem dX12_objectStep_137 : decode cX12_objectStep 137 = .ok (.lstore 6, 2) := by decide +kernel
theorem dX12_objectStep_139 : decode cX12_objectStep 139 = .ok (.aload_n 0, 1) := by decide +kernel
theorem dX12_objectStep_140 : decode cX12_objectStep 140 = .ok (.invokevirtual 586, 3) := by decide +kernel
theorem dX12_objectStep_143 : decode cX12_objectStep 143 = .ok (.lstore 8, 2) := by decide +kernel
theorem dX12_objectStep_145 : decode cX12_objectStep 145 = .ok (.lload 8, 2) := by decide +kernel
theorem dX12_objectStep_147 : decode cX12_objectStep 147 = .ok (.ldc2_w 553, 3) := by decide +kernel
theorem dX12_objectStep_150 : decode cX12_objectStep 150 = .ok (.lcmp, 1) := by decide +kernel
theorem dX12_objectStep_151 : decode cX12_objectStep 151 = .ok (.ifCond .ne 10, 3) := by decide +kernel
theorem dX12_objectStep_154 : decode cX12_objectStep 154 = .ok (.aload_n 0, 1) := by decide +kernel
theorem dX12_objectStep_155 : decode cX12_objectStep 155 = .ok (.iconst 0, 1) := by decide +kernel
theorem dX12_objectStep_156 : decode cX12_objectStep 156 = .ok (.iload_n 3, 1) := by decide +kernel
theorem dX12_objectStep_157 : decode cX12_objectStep 157 = .ok (.invokevirtual 603, 3) := by decide +kernel
theorem dX12_objectStep_160 : decode cX12_objectStep 160 = .ok (.return_, 1) := by decide +kernel
theorem dX12_objectStep_161 : decode cX12_objectStep 161 = .ok (.aload_n 0, 1) := by decide +kernel
theorem dX12_objectStep_162 : decode cX12_objectStep 162 = .ok (.getfield 83, 3) := by decide +kernel
theorem dX12_objectStep_165 : decode cX12_objectStep 165 = .ok (.lload 8, 2) := by decide +kernel
theorem dX12_objectStep_167 : decode cX12_objectStep 167 = .ok (.invokestatic 566, 3) := by decide +kernel
theorem dX12_objectStep_170 : decode cX12_objectStep 170 = .ok (.iaload, 1) := by decide +kernel
theorem dX12_objectStep_171 : decode cX12_objectStep 171 = .ok (.aload_n 0, 1) := by decide +kernel
theorem dX12_objectStep_172 : decode cX12_objectStep 172 = .ok (.getfield 10, 3) := by decide +kernel
theorem dX12_objectStep_175 : decode cX12_objectStep 175 = .ok (.getfield 397, 3) := by decide +kernel
theorem dX12_objectStep_178 : decode cX12_objectStep 178 = .ok (.iload_n 2, 1) := by decide +kernel
theorem dX12_objectStep_179 : decode cX12_objectStep 179 = .ok (.iaload, 1) := by decide +kernel
theorem dX12_objectStep_180 : decode cX12_objectStep 180 = .ok (.iadd, 1) := by decide +kernel
theorem dX12_objectStep_181 : decode cX12_objectStep 181 = .ok (.istore 10, 2) := by decide +kernel
theorem dX12_objectStep_183 : decode cX12_objectStep 183 = .ok (.iload_n 1, 1) := by decide +kernel
theorem dX12_objectStep_184 : decode cX12_objectStep 184 = .ok (.bipush 36, 2) := by decide +kernel
theorem dX12_objectStep_186 : decode cX12_objectStep 186 = .ok (.if_icmp .ne 15, 3) := by decide +kernel
theorem dX12_objectStep_189 : decode cX12_objectStep 189 = .ok (.aload_n 0, 1) := by decide +kernel
theorem dX12_objectStep_190 : decode cX12_objectStep 190 = .ok (.getfield 89, 3) := by decide +kernel
theorem dX12_objectStep_193 : decode cX12_objectStep 193 = .ok (.iload 10, 2) := by decide +kernel
theorem dX12_objectStep_195 : decode cX12_objectStep 195 = .ok (.lload 6, 2) := by decide +kernel
theorem dX12_objectStep_197 : decode cX12_objectStep 197 = .ok (.lastore, 1) := by decide +kernel
theorem dX12_objectStep_198 : decode cX12_objectStep 198 = .ok (.goto 14, 3) := by decide +kernel
theorem dX12_objectStep_201 : decode cX12_objectStep 201 = .ok (.aload_n 0, 1) := by decide +kernel
theorem dX12_objectStep_202 : decode cX12_objectStep 202 = .ok (.aload_n 0, 1) := by decide +kernel
theorem dX12_objectStep_203 : decode cX12_objectStep 203 = .ok (.getfield 89, 3) := by decide +kernel
theorem dX12_objectStep_206 : decode cX12_objectStep 206 = .ok (.iload 10, 2) := by decide +kernel
theorem dX12_objectStep_208 : decode cX12_objectStep 208 = .ok (.laload, 1) := by decide +kernel
theorem dX12_objectStep_209 : decode cX12_objectStep 209 = .ok (.invokevirtual 582, 3) := by decide +kernel
theorem dX12_objectStep_212 : decode cX12_objectStep 212 = .ok (.aload_n 0, 1) := by decide +kernel
theorem dX12_objectStep_213 : decode cX12_objectStep 213 = .ok (.invokevirtual 600, 3) := by decide +kernel
theorem dX12_objectStep_216 : decode cX12_objectStep 216 = .ok (.return_, 1) := by decide +kernel
theorem dX12_objectStep_217 : decode cX12_objectStep 217 = .ok (.aload_n 0, 1) := by decide +kernel
theorem dX12_objectStep_218 : decode cX12_objectStep 218 = .ok (.invokevirtual 586, 3) := by decide +kernel
theorem dX12_objectStep_221 : decode cX12_objectStep 221 = .ok (.lstore 11, 2) := by decide +kernel
theorem dX12_objectStep_223 : decode cX12_objectStep 223 = .ok (.lload 11, 2) := by decide +kernel
theorem dX12_objectStep_225 : decode cX12_objectStep 225 = .ok (.ldc2_w 553, 3) := by decide +kernel
theorem dX12_objectStep_228 : decode cX12_objectStep 228 = .ok (.lcmp, 1) := by decide +kernel
theorem dX12_objectStep_229 : decode cX12_objectStep 229 = .ok (.ifCond .eq 28, 3) := by decide +kernel
theorem dX12_objectStep_232 : decode cX12_objectStep 232 = .ok (.aload_n 0, 1) := by decide +kernel
theorem dX12_objectStep_233 : decode cX12_objectStep 233 = .ok (.getfield 10, 3) := by decide +kernel
theorem dX12_objectStep_236 : decode cX12_objectStep 236 = .ok (.aload_n 0, 1) := by decide +kernel
theorem dX12_objectStep_237 : decode cX12_objectStep 237 = .ok (.getfield 77, 3) := by decide +kernel
theorem dX12_objectStep_240 : decode cX12_objectStep 240 = .ok (.lload 11, 2) := by decide +kernel
theorem dX12_objectStep_242 : decode cX12_objectStep 242 = .ok (.invokestatic 566, 3) := by decide +kernel
theorem dX12_objectStep_245 : decode cX12_objectStep 245 = .ok (.iaload, 1) := by decide +kernel
theorem dX12_objectStep_246 : decode cX12_objectStep 246 = .ok (.iload_n 2, 1) := by decide +kernel
theorem dX12_objectStep_247 : decode cX12_objectStep 247 = .ok (.invokestatic 436, 3) := by decide +kernel
theorem dX12_objectStep_250 : decode cX12_objectStep 250 = .ok (.ifCond .eq 7, 3) := by decide +kernel
theorem dX12_objectStep_253 : decode cX12_objectStep 253 = .ok (.iconst 1, 1) := by decide +kernel
theorem dX12_objectStep_254 : decode cX12_objectStep 254 = .ok (.goto 4, 3) := by decide +kernel
theorem dX12_objectStep_257 : decode cX12_objectStep 257 = .ok (.iconst 0, 1) := by decide +kernel
theorem dX12_objectStep_258 : decode cX12_objectStep 258 = .ok (.istore 13, 2) := by decide +kernel
theorem dX12_objectStep_260 : decode cX12_objectStep 260 = .ok (.iload_n 1, 1) := by decide +kernel
theorem dX12_objectStep_261 : decode cX12_objectStep 261 = .ok (.bipush 37, 2) := by decide +kernel
theorem dX12_objectStep_263 : decode cX12_objectStep 263 = .ok (.if_icmp .ne 24, 3) := by decide +kernel
theorem dX12_objectStep_266 : decode cX12_objectStep 266 = .ok (.lload 11, 2) := by decide +kernel
theorem dX12_objectStep_268 : decode cX12_objectStep 268 = .ok (.ldc2_w 553, 3) := by decide +kernel
theorem dX12_objectStep_271 : decode cX12_objectStep 271 = .ok (.lcmp, 1) := by decide +kernel
theorem dX12_objectStep_272 : decode cX12_objectStep 272 = .ok (.ifCond .eq 15, 3) := by decide +kernel
theorem dX12_objectStep_275 : decode cX12_objectStep 275 = .ok (.iload 13, 2) := by decide +kernel
theorem dX12_objectStep_277 : decode cX12_objectStep 277 = .ok (.ifCond .ne 10, 3) := by decide +kernel
theorem dX12_objectStep_280 : decode cX12_objectStep 280 = .ok (.aload_n 0, 1) := by decide +kernel
theorem dX12_objectStep_281 : decode cX12_objectStep 281 = .ok (.iconst 4, 1) := by decide +kernel
theorem dX12_objectStep_282 : decode cX12_objectStep 282 = .ok (.iload_n 3, 1) := by decide +kernel
theorem dX12_objectStep_283 : decode cX12_objectStep 283 = .ok (.invokevirtual 603, 3) := by decide +kernel
theorem dX12_objectStep_286 : decode cX12_objectStep 286 = .ok (.return_, 1) := by decide +kernel
theorem dX12_objectStep_287 : decode cX12_objectStep 287 = .ok (.aload_n 0, 1) := by decide +kernel
theorem dX12_objectStep_288 : decode cX12_objectStep 288 = .ok (.iload_n 1, 1) := by decide +kernel
theorem dX12_objectStep_289 : decode cX12_objectStep 289 = .ok (.bipush 37, 2) := by decide +kernel
theorem dX12_objectStep_291 : decode cX12_objectStep 291 = .ok (.if_icmp .ne 8, 3) := by decide +kernel
theorem dX12_objectStep_294 : decode cX12_objectStep 294 = .ok (.lload 11, 2) := by decide +kernel
theorem dX12_objectStep_296 : decode cX12_objectStep 296 = .ok (.goto 13, 3) := by decide +kernel
theorem dX12_objectStep_299 : decode cX12_objectStep 299 = .ok (.iload 13, 2) := by decide +kernel
theorem dX12_objectStep_301 : decode cX12_objectStep 301 = .ok (.ifCond .eq 7, 3) := by decide +kernel
theorem dX12_objectStep_304 : decode cX12_objectStep 304 = .ok (.lconst 1, 1) := by decide +kernel
theorem dX12_objectStep_305 : decode cX12_objectStep 305 = .ok (.goto 4, 3) := by decide +kernel
theorem dX12_objectStep_308 : decode cX12_objectStep 308 = .ok (.lconst 0, 1) := by decide +kernel
theorem dX12_objectStep_309 : decode cX12_objectStep 309 = .ok (.invokevirtual 582, 3) := by decide +kernel
theorem dX12_objectStep_312 : decode cX12_objectStep 312 = .ok (.aload_n 0, 1) := by decide +kernel
theorem dX12_objectStep_313 : decode cX12_objectStep 313 = .ok (.invokevirtual 600, 3) := by decide +kernel
theorem dX12_objectStep_316 : decode cX12_objectStep 316 = .ok (.return_, 1) := by decide +kernel
theorem dX12_objectStep_317 : decode cX12_objectStep 317 = .ok (.aload_n 0, 1) := by decide +kernel
theorem dX12_objectStep_318 : decode cX12_objectStep 318 = .ok (.iload_n 1, 1) := by decide +kernel
theorem dX12_objectStep_319 : decode cX12_objectStep 319 = .ok (.iload_n 2, 1) := by decide +kernel
theorem dX12_objectStep_320 : decode cX12_objectStep 320 = .ok (.iload_n 3, 1) := by decide +kernel
theorem dX12_objectStep_321 : decode cX12_objectStep 321 = .ok (.invokevirtual 612, 3) := by decide +kernel
theorem dX12_objectStep_324 : decode cX12_objectStep 324 = .ok (.return_, 1) := by decide +kernel
theorem dX12_objectStep_325 : decode cX12_objectStep 325 = .ok (.aload_n 0, 1) := by decide +kernel
theorem dX12_objectStep_326 : decode cX12_objectStep 326 = .ok (.invokevirtual 586, 3) := by decide +kernel
theorem dX12_objectStep_329 : decode cX12_objectStep 329 = .ok (.lstore 14, 2) := by decide +kernel
theorem dX12_objectStep_331 : decode cX12_objectStep 331 = .ok (.lload 14, 2) := by decide +kernel
theorem dX12_objectStep_333 : decode cX12_objectStep 333 = .ok (.ldc2_w 553, 3) := by decide +kernel
theorem dX12_objectStep_336 : decode cX12_objectStep 336 = .ok (.lcmp, 1) := by decide +kernel
theorem dX12_objectStep_337 : decode cX12_objectStep 337 = .ok (.ifCond .ne 12, 3) := by decide +kernel
theorem dX12_objectStep_340 : decode cX12_objectStep 340 = .ok (.aload_n 0, 1) := by decide +kernel
theorem dX12_objectStep_341 : decode cX12_objectStep 341 = .ok (.iconst 0, 1) := by decide +kernel
theorem dX12_objectStep_342 : decode cX12_objectStep 342 = .ok (.iload_n 3, 1) := by decide +kernel
theorem dX12_objectStep_343 : decode cX12_objectStep 343 = .ok (.invokevirtual 603, 3) := by decide +kernel
theorem dX12_objectStep_346 : decode cX12_objectStep 346 = .ok (.goto 10, 3) := by decide +kernel
theorem dX12_objectStep_349 : decode cX12_objectStep 349 = .ok (.aload_n 0, 1) := by decide +kernel
theorem dX12_objectStep_350 : decode cX12_objectStep 350 = .ok (.lload 14, 2) := by decide +kernel
theorem dX12_objectStep_352 : decode cX12_objectStep 352 = .ok (.iload_n 3, 1) := by decide +kernel
theorem dX12_objectStep_353 : decode cX12_objectStep 353 = .ok (.invokevirtual 578, 3) := by decide +kernel
theorem dX12_objectStep_356 : decode cX12_objectStep 356 = .ok (.return_, 1) := by decide +kernel
theorem dX12_objectStep_357 : decode cX12_objectStep 357 = .ok (.iload_n 1, 1) := by decide +kernel
theorem dX12_objectStep_358 : decode cX12_objectStep 358 = .ok (.bipush 42, 2) := by decide +kernel
theorem dX12_objectStep_360 : decode cX12_objectStep 360 = .ok (.if_icmp .ne 10, 3) := by decide +kernel
theorem dX12_objectStep_363 : decode cX12_objectStep 363 = .ok (.aload_n 0, 1) := by decide +kernel
theorem dX12_objectStep_364 : decode cX12_objectStep 364 = .ok (.invokevirtual 586, 3) := by decide +kernel
theorem dX12_objectStep_367 : decode cX12_objectStep 367 = .ok (.goto 4, 3) := by decide +kernel
theorem dX12_objectStep_370 : decode cX12_objectStep 370 = .ok (.lconst 0, 1) := by decide +kernel
theorem dX12_objectStep_371 : decode cX12_objectStep 371 = .ok (.lstore 16, 2) := by decide +kernel
theorem dX12_objectStep_373 : decode cX12_objectStep 373 = .ok (.aload_n 0, 1) := by decide +kernel
theorem dX12_objectStep_374 : decode cX12_objectStep 374 = .ok (.getfield 533, 3) := by decide +kernel
theorem dX12_objectStep_377 : decode cX12_objectStep 377 = .ok (.iconst 1, 1) := by decide +kernel
theorem dX12_objectStep_378 : decode cX12_objectStep 378 = .ok (.if_icmp .ne 10, 3) := by decide +kernel
theorem dX12_objectStep_381 : decode cX12_objectStep 381 = .ok (.aload_n 0, 1) := by decide +kernel
theorem dX12_objectStep_382 : decode cX12_objectStep 382 = .ok (.iconst 0, 1) := by decide +kernel
theorem dX12_objectStep_383 : decode cX12_objectStep 383 = .ok (.iload_n 3, 1) := by decide +kernel
theorem dX12_objectStep_384 : decode cX12_objectStep 384 = .ok (.invokevirtual 570, 3) := by decide +kernel
theorem dX12_objectStep_387 : decode cX12_objectStep 387 = .ok (.return_, 1) := by decide +kernel
theorem dX12_objectStep_388 : decode cX12_objectStep 388 = .ok (.aload_n 0, 1) := by decide +kernel
theorem dX12_objectStep_389 : decode cX12_objectStep 389 = .ok (.dup, 1) := by decide +kernel
theorem dX12_objectStep_390 : decode cX12_objectStep 390 = .ok (.getfield 533, 3) := by decide +kernel
theorem dX12_objectStep_393 : decode cX12_objectStep 393 = .ok (.iconst 1, 1) := by decide +kernel
theorem dX12_objectStep_394 : decode cX12_objectStep 394 = .ok (.isub, 1) := by decide +kernel
theorem dX12_objectStep_395 : decode cX12_objectStep 395 = .ok (.putfield 533, 3) := by decide +kernel
theorem dX12_objectStep_398 : decode cX12_objectStep 398 = .ok (.iload_n 1, 1) := by decide +kernel
theorem dX12_objectStep_399 : decode cX12_objectStep 399 = .ok (.bipush 42, 2) := by decide +kernel
theorem dX12_objectStep_401 : decode cX12_objectStep 401 = .ok (.if_icmp .ne 9, 3) := by decide +kernel
theorem dX12_objectStep_404 : decode cX12_objectStep 404 = .ok (.aload_n 0, 1) := by decide +kernel
