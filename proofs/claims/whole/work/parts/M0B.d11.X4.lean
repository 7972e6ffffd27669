theorem dX4_endFault_18 : decode cX4_endFault 18 = .ok (.iastore, 1) := by decide +kernel
theorem dX4_endFault_19 : decode cX4_endFault 19 = .ok (.aload_n 0, 1) := by decide +kernel
theorem dX4_endFault_20 : decode cX4_endFault 20 = .ok (.getfield 22, 3) := by decide +kernel
theorem dX4_endFault_23 : decode cX4_endFault 23 = .ok (.getfield 204, 3) := by decide +kernel
theorem dX4_endFault_26 : decode cX4_endFault 26 = .ok (.aload_n 0, 1) := by decide +kernel
theorem dX4_endFault_27 : decode cX4_endFault 27 = .ok (.getfield 150, 3) := by decide +kernel
theorem dX4_endFault_30 : decode cX4_endFault 30 = .ok (.aload_n 0, 1) := by decide +kernel
theorem dX4_endFault_31 : decode cX4_endFault 31 = .ok (.getfield 37, 3) := by decide +kernel
theorem dX4_endFault_34 : decode cX4_endFault 34 = .ok (.getfield 181, 3) := by decide +kernel
theorem dX4_endFault_37 : decode cX4_endFault 37 = .ok (.iastore, 1) := by decide +kernel
theorem dX4_endFault_38 : decode cX4_endFault 38 = .ok (.aload_n 0, 1) := by decide +kernel
theorem dX4_endFault_39 : decode cX4_endFault 39 = .ok (.getfield 37, 3) := by decide +kernel
theorem dX4_endFault_42 : decode cX4_endFault 42 = .ok (.getfield 175, 3) := by decide +kernel
theorem dX4_endFault_45 : decode cX4_endFault 45 = .ok (.aload_n 0, 1) := by decide +kernel
theorem dX4_endFault_46 : decode cX4_endFault 46 = .ok (.getfield 22, 3) := by decide +kernel
theorem dX4_endFault_49 : decode cX4_endFault 49 = .ok (.getfield 172, 3) := by decide +kernel
theorem dX4_endFault_52 : decode cX4_endFault 52 = .ok (.aload_n 0, 1) := by decide +kernel
theorem dX4_endFault_53 : decode cX4_endFault 53 = .ok (.getfield 150, 3) := by decide +kernel
theorem dX4_endFault_56 : decode cX4_endFault 56 = .ok (.iaload, 1) := by decide +kernel
theorem dX4_endFault_57 : decode cX4_endFault 57 = .ok (.if_icmp .ne 7, 3) := by decide +kernel
theorem dX4_endFault_60 : decode cX4_endFault 60 = .ok (.iconst 1, 1) := by decide +kernel
theorem dX4_endFault_61 : decode cX4_endFault 61 = .ok (.goto 4, 3) := by decide +kernel
theorem dX4_endFault_64 : decode cX4_endFault 64 = .ok (.iconst 0, 1) := by decide +kernel
theorem dX4_endFault_65 : decode cX4_endFault 65 = .ok (.istore_n 2, 1) := by decide +kernel
theorem dX4_endFault_66 : decode cX4_endFault 66 = .ok (.iload_n 2, 1) := by decide +kernel
theorem dX4_endFault_67 : decode cX4_endFault 67 = .ok (.ifCond .ne 26, 3) := by decide +kernel
theorem dX4_endFault_70 : decode cX4_endFault 70 = .ok (.aload_n 0, 1) := by decide +kernel
theorem dX4_endFault_71 : decode cX4_endFault 71 = .ok (.getfield 37, 3) := by decide +kernel
theorem dX4_endFault_74 : decode cX4_endFault 74 = .ok (.getfield 207, 3) := by decide +kernel
theorem dX4_endFault_77 : decode cX4_endFault 77 = .ok (.aload_n 0, 1) := by decide +kernel
theorem dX4_endFault_78 : decode cX4_endFault 78 = .ok (.getfield 37, 3) := by decide +kernel
theorem dX4_endFault_81 : decode cX4_endFault 81 = .ok (.getfield 175, 3) := by decide +kernel
theorem dX4_endFault_84 : decode cX4_endFault 84 = .ok (.iconst 1, 1) := by decide +kernel
theorem dX4_endFault_85 : decode cX4_endFault 85 = .ok (.isub, 1) := by decide +kernel
theorem dX4_endFault_86 : decode cX4_endFault 86 = .ok (.iaload, 1) := by decide +kernel
theorem dX4_endFault_87 : decode cX4_endFault 87 = .ok (.invokestatic 210, 3) := by decide +kernel
theorem dX4_endFault_90 : decode cX4_endFault 90 = .ok (.ifCond .eq 7, 3) := by decide +kernel
theorem dX4_endFault_93 : decode cX4_endFault 93 = .ok (.iload_n 1, 1) := by decide +kernel
theorem dX4_endFault_94 : decode cX4_endFault 94 = .ok (.goto 4, 3) := by decide +kernel
theorem dX4_endFault_97 : decode cX4_endFault 97 = .ok (.iconst (-1), 1) := by decide +kernel
theorem dX4_endFault_98 : decode cX4_endFault 98 = .ok (.ireturn, 1) := by decide +kernel
theorem dX4_hasRoomFor_0 : decode cX4_hasRoomFor 0 = .ok (.aload_n 0, 1) := by decide +kernel
theorem dX4_hasRoomFor_1 : decode cX4_hasRoomFor 1 = .ok (.getfield 37, 3) := by decide +kernel
theorem dX4_hasRoomFor_4 : decode cX4_hasRoomFor 4 = .ok (.getfield 175, 3) := by decide +kernel
theorem dX4_hasRoomFor_7 : decode cX4_hasRoomFor 7 = .ok (.sipush 1024, 3) := by decide +kernel
theorem dX4_hasRoomFor_10 : decode cX4_hasRoomFor 10 = .ok (.if_icmp .ge 26, 3) := by decide +kernel
theorem dX4_hasRoomFor_13 : decode cX4_hasRoomFor 13 = .ok (.aload_n 0, 1) := by decide +kernel
theorem dX4_hasRoomFor_14 : decode cX4_hasRoomFor 14 = .ok (.getfield 37, 3) := by decide +kernel
theorem dX4_hasRoomFor_17 : decode cX4_hasRoomFor 17 = .ok (.getfield 213, 3) := by decide +kernel
theorem dX4_hasRoomFor_20 : decode cX4_hasRoomFor 20 = .ok (.bipush 48, 2) := by decide +kernel
theorem dX4_hasRoomFor_22 : decode cX4_hasRoomFor 22 = .ok (.if_icmp .lt 10, 3) := by decide +kernel
theorem dX4_hasRoomFor_25 : decode cX4_hasRoomFor 25 = .ok (.iload_n 1, 1) := by decide +kernel
theorem dX4_hasRoomFor_26 : decode cX4_hasRoomFor 26 = .ok (.invokestatic 216, 3) := by decide +kernel
theorem dX4_hasRoomFor_29 : decode cX4_hasRoomFor 29 = .ok (.ifCond .ne 7, 3) := by decide +kernel
theorem dX4_hasRoomFor_32 : decode cX4_hasRoomFor 32 = .ok (.iconst 1, 1) := by decide +kernel
theorem dX4_hasRoomFor_33 : decode cX4_hasRoomFor 33 = .ok (.goto 4, 3) := by decide +kernel
theorem dX4_hasRoomFor_36 : decode cX4_hasRoomFor 36 = .ok (.iconst 0, 1) := by decide +kernel
theorem dX4_hasRoomFor_37 : decode cX4_hasRoomFor 37 = .ok (.ireturn, 1) := by decide +kernel
theorem dX4_addsInstruction_0 : decode cX4_addsInstruction 0 = .ok (.aload_n 0, 1) := by decide +kernel
theorem dX4_addsInstruction_1 : decode cX4_addsInstruction 1 = .ok (.getfield 18, 3) := by decide +kernel
theorem dX4_addsInstruction_4 : decode cX4_addsInstruction 4 = .ok (.getfield 47, 3) := by decide +kernel
theorem dX4_addsInstruction_7 : decode cX4_addsInstruction 7 = .ok (.iload_n 1, 1) := by decide +kernel
theorem dX4_addsInstruction_8 : decode cX4_addsInstruction 8 = .ok (.baload, 1) := by decide +kernel
theorem dX4_addsInstruction_9 : decode cX4_addsInstruction 9 = .ok (.istore_n 2, 1) := by decide +kernel
theorem dX4_addsInstruction_10 : decode cX4_addsInstruction 10 = .ok (.iload_n 1, 1) := by decide +kernel
theorem dX4_addsInstruction_11 : decode cX4_addsInstruction 11 = .ok (.iconst 1, 1) := by decide +kernel
theorem dX4_addsInstruction_12 : decode cX4_addsInstruction 12 = .ok (.iadd, 1) := by decide +kernel
theorem dX4_addsInstruction_13 : decode cX4_addsInstruction 13 = .ok (.istore_n 3, 1) := by decide +kernel
theorem dX4_addsInstruction_14 : decode cX4_addsInstruction 14 = .ok (.aload_n 0, 1) := by decide +kernel
theorem dX4_addsInstruction_15 : decode cX4_addsInstruction 15 = .ok (.getfield 37, 3) := by decide +kernel
theorem dX4_addsInstruction_18 : decode cX4_addsInstruction 18 = .ok (.getfield 175, 3) := by decide +kernel
theorem dX4_addsInstruction_21 : decode cX4_addsInstruction 21 = .ok (.istore 4, 2) := by decide +kernel
theorem dX4_addsInstruction_23 : decode cX4_addsInstruction 23 = .ok (.aload_n 0, 1) := by decide +kernel
theorem dX4_addsInstruction_24 : decode cX4_addsInstruction 24 = .ok (.getfield 37, 3) := by decide +kernel
theorem dX4_addsInstruction_27 : decode cX4_addsInstruction 27 = .ok (.iload_n 2, 1) := by decide +kernel
theorem dX4_addsInstruction_28 : decode cX4_addsInstruction 28 = .ok (.iload_n 1, 1) := by decide +kernel
theorem dX4_addsInstruction_29 : decode cX4_addsInstruction 29 = .ok (.aload_n 0, 1) := by decide +kernel
theorem dX4_addsInstruction_30 : decode cX4_addsInstruction 30 = .ok (.getfield 150, 3) := by decide +kernel
theorem dX4_addsInstruction_33 : decode cX4_addsInstruction 33 = .ok (.invokevirtual 219, 3) := by decide +kernel
theorem dX4_addsInstruction_36 : decode cX4_addsInstruction 36 = .ok (.iload_n 2, 1) := by decide +kernel
theorem dX4_addsInstruction_37 : decode cX4_addsInstruction 37 = .ok (.tableswitch 372 0 40 #[179, 372, 199, 199, 199, 372, 372, 372, 372, 372, 372, 372, 372, 372, 372, 372, 372, 372, 372, 372, 372, 372, 372, 372, 372, 372, 372, 372, 372, 372, 290, 325, 372, 372, 372, 363, 363, 290, 290, 363, 363], 179) := by decide +kernel
theorem dX4_addsInstruction_216 : decode cX4_addsInstruction 216 = .ok (.aload_n 0, 1) := by decide +kernel
theorem dX4_addsInstruction_217 : decode cX4_addsInstruction 217 = .ok (.getfield 37, 3) := by decide +kernel
theorem dX4_addsInstruction_220 : decode cX4_addsInstruction 220 = .ok (.getfield 222, 3) := by decide +kernel
theorem dX4_addsInstruction_223 : decode cX4_addsInstruction 223 = .ok (.iload 4, 2) := by decide +kernel
theorem dX4_addsInstruction_225 : decode cX4_addsInstruction 225 = .ok (.aload_n 0, 1) := by decide +kernel
theorem dX4_addsInstruction_226 : decode cX4_addsInstruction 226 = .ok (.getfield 18, 3) := by decide +kernel
theorem dX4_addsInstruction_229 : decode cX4_addsInstruction 229 = .ok (.iload_n 3, 1) := by decide +kernel
theorem dX4_addsInstruction_230 : decode cX4_addsInstruction 230 = .ok (.invokevirtual 122, 3) := by decide +kernel
theorem dX4_addsInstruction_233 : decode cX4_addsInstruction 233 = .ok (.iastore, 1) := by decide +kernel
theorem dX4_addsInstruction_234 : decode cX4_addsInstruction 234 = .ok (.iconst 1, 1) := by decide +kernel
theorem dX4_addsInstruction_235 : decode cX4_addsInstruction 235 = .ok (.ireturn, 1) := by decide +kernel
theorem dX4_addsInstruction_236 : decode cX4_addsInstruction 236 = .ok (.aload_n 0, 1) := by decide +kernel
theorem dX4_addsInstruction_237 : decode cX4_addsInstruction 237 = .ok (.getfield 37, 3) := by decide +kernel
theorem dX4_addsInstruction_240 : decode cX4_addsInstruction 240 = .ok (.getfield 222, 3) := by decide +kernel
theorem dX4_addsInstruction_243 : decode cX4_addsInstruction 243 = .ok (.iload 4, 2) := by decide +kernel
theorem dX4_addsInstruction_245 : decode cX4_addsInstruction 245 = .ok (.aload_n 0, 1) := by decide +kernel
theorem dX4_addsInstruction_246 : decode cX4_addsInstruction 246 = .ok (.getfield 18, 3) := by decide +kernel
theorem dX4_addsInstruction_249 : decode cX4_addsInstruction 249 = .ok (.iload_n 3, 1) := by decide +kernel
theorem dX4_addsInstruction_250 : decode cX4_addsInstruction 250 = .ok (.invokevirtual 122, 3) := by decide +kernel
theorem dX4_addsInstruction_253 : decode cX4_addsInstruction 253 = .ok (.iastore, 1) := by decide +kernel
theorem dX4_addsInstruction_254 : decode cX4_addsInstruction 254 = .ok (.aload_n 0, 1) := by decide +kernel
theorem dX4_addsInstruction_255 : decode cX4_addsInstruction 255 = .ok (.getfield 37, 3) := by decide +kernel
theorem dX4_addsInstruction_258 : decode cX4_addsInstruction 258 = .ok (.getfield 225, 3) := by decide +kernel
theorem dX4_addsInstruction_261 : decode cX4_addsInstruction 261 = .ok (.iload 4, 2) := by decide +kernel
theorem dX4_addsInstruction_263 : decode cX4_addsInstruction 263 = .ok (.iload_n 2, 1) := by decide +kernel
theorem dX4_addsInstruction_264 : decode cX4_addsInstruction 264 = .ok (.iconst 4, 1) := by decide +kernel
theorem dX4_addsInstruction_265 : decode cX4_addsInstruction 265 = .ok (.if_icmp .ne 16, 3) := by decide +kernel
theorem dX4_addsInstruction_268 : decode cX4_addsInstruction 268 = .ok (.aload_n 0, 1) := by decide +kernel
theorem dX4_addsInstruction_269 : decode cX4_addsInstruction 269 = .ok (.getfield 18, 3) := by decide +kernel
theorem dX4_addsInstruction_272 : decode cX4_addsInstruction 272 = .ok (.iload_n 3, 1) := by decide +kernel
theorem dX4_addsInstruction_273 : decode cX4_addsInstruction 273 = .ok (.iconst 1, 1) := by decide +kernel
theorem dX4_addsInstruction_274 : decode cX4_addsInstruction 274 = .ok (.iadd, 1) := by decide +kernel
theorem dX4_addsInstruction_275 : decode cX4_addsInstruction 275 = .ok (.invokevirtual 122, 3) := by decide +kernel
theorem dX4_addsInstruction_278 : decode cX4_addsInstruction 278 = .ok (.goto 4, 3) := by decide +kernel
theorem dX4_addsInstruction_281 : decode cX4_addsInstruction 281 = .ok (.iconst 0, 1) := by decide +kernel
theorem dX4_addsInstruction_282 : decode cX4_addsInstruction 282 = .ok (.iastore, 1) := by decide +kernel
theorem dX4_addsInstruction_283 : decode cX4_addsInstruction 283 = .ok (.aload_n 0, 1) := by decide +kernel
theorem dX4_addsInstruction_284 : decode cX4_addsInstruction 284 = .ok (.getfield 37, 3) := by decide +kernel
theorem dX4_addsInstruction_287 : decode cX4_addsInstruction 287 = .ok (.getfield 222, 3) := by decide +kernel
theorem dX4_addsInstruction_290 : decode cX4_addsInstruction 290 = .ok (.iload 4, 2) := by decide +kernel
theorem dX4_addsInstruction_292 : decode cX4_addsInstruction 292 = .ok (.iaload, 1) := by decide +kernel
theorem dX4_addsInstruction_293 : decode cX4_addsInstruction 293 = .ok (.ifCond .lt 32, 3) := by decide +kernel
theorem dX4_addsInstruction_296 : decode cX4_addsInstruction 296 = .ok (.aload_n 0, 1) := by decide +kernel
theorem dX4_addsInstruction_297 : decode cX4_addsInstruction 297 = .ok (.getfield 37, 3) := by decide +kernel
theorem dX4_addsInstruction_300 : decode cX4_addsInstruction 300 = .ok (.getfield 222, 3) := by decide +kernel
theorem dX4_addsInstruction_303 : decode cX4_addsInstruction 303 = .ok (.iload 4, 2) := by decide +kernel
theorem dX4_addsInstruction_305 : decode cX4_addsInstruction 305 = .ok (.iaload, 1) := by decide +kernel
theorem dX4_addsInstruction_306 : decode cX4_addsInstruction 306 = .ok (.aload_n 0, 1) := by decide +kernel
theorem dX4_addsInstruction_307 : decode cX4_addsInstruction 307 = .ok (.getfield 22, 3) := by decide +kernel
theorem dX4_addsInstruction_310 : decode cX4_addsInstruction 310 = .ok (.getfield 131, 3) := by decide +kernel
theorem dX4_addsInstruction_313 : decode cX4_addsInstruction 313 = .ok (.aload_n 0, 1) := by decide +kernel
theorem dX4_addsInstruction_314 : decode cX4_addsInstruction 314 = .ok (.getfield 150, 3) := by decide +kernel
theorem dX4_addsInstruction_317 : decode cX4_addsInstruction 317 = .ok (.iaload, 1) := by decide +kernel
theorem dX4_addsInstruction_318 : decode cX4_addsInstruction 318 = .ok (.if_icmp .ge 7, 3) := by decide +kernel
theorem dX4_addsInstruction_321 : decode cX4_addsInstruction 321 = .ok (.iconst 1, 1) := by decide +kernel
theorem dX4_addsInstruction_322 : decode cX4_addsInstruction 322 = .ok (.goto 4, 3) := by decide +kernel
theorem dX4_addsInstruction_325 : decode cX4_addsInstruction 325 = .ok (.iconst 0, 1) := by decide +kernel
theorem dX4_addsInstruction_326 : decode cX4_addsInstruction 326 = .ok (.ireturn, 1) := by decide +kernel
theorem dX4_addsInstruction_327 : decode cX4_addsInstruction 327 = .ok (.aload_n 0, 1) := by decide +kernel
theorem dX4_addsInstruction_328 : decode cX4_addsInstruction 328 = .ok (.getfield 37, 3) := by decide +kernel
theorem dX4_addsInstruction_331 : decode cX4_addsInstruction 331 = .ok (.getfield 222, 3) := by decide +kernel
theorem dX4_addsInstruction_334 : decode cX4_addsInstruction 334 = .ok (.iload 4, 2) := by decide +kernel
theorem dX4_addsInstruction_336 : decode cX4_addsInstruction 336 = .ok (.aload_n 0, 1) := by decide +kernel
theorem dX4_addsInstruction_337 : decode cX4_addsInstruction 337 = .ok (.iload_n 3, 1) := by decide +kernel
theorem dX4_addsInstruction_338 : decode cX4_addsInstruction 338 = .ok (.invokevirtual 88, 3) := by decide +kernel
theorem dX4_addsInstruction_341 : decode cX4_addsInstruction 341 = .ok (.iastore, 1) := by decide +kernel
theorem dX4_addsInstruction_342 : decode cX4_addsInstruction 342 = .ok (.aload_n 0, 1) := by decide +kernel
theorem dX4_addsInstruction_343 : decode cX4_addsInstruction 343 = .ok (.getfield 37, 3) := by decide +kernel
theorem dX4_addsInstruction_346 : decode cX4_addsInstruction 346 = .ok (.getfield 222, 3) := by decide +kernel
theorem dX4_addsInstruction_349 : decode cX4_addsInstruction 349 = .ok (.iload 4, 2) := by decide +kernel
theorem dX4_addsInstruction_351 : decode cX4_addsInstruction 351 = .ok (.iaload, 1) := by decide +kernel
theorem dX4_addsInstruction_352 : decode cX4_addsInstruction 352 = .ok (.iconst (-1), 1) := by decide +kernel
theorem dX4_addsInstruction_353 : decode cX4_addsInstruction 353 = .ok (.if_icmp .eq 7, 3) := by decide +kernel
theorem dX4_addsInstruction_356 : decode cX4_addsInstruction 356 = .ok (.iconst 1, 1) := by decide +kernel
theorem dX4_addsInstruction_357 : decode cX4_addsInstruction 357 = .ok (.goto 4, 3) := by decide +kernel
theorem dX4_addsInstruction_360 : decode cX4_addsInstruction 360 = .ok (.iconst 0, 1) := by decide +kernel
theorem dX4_addsInstruction_361 : decode cX4_addsInstruction 361 = .ok (.ireturn, 1) := by decide +kernel
theorem dX4_addsInstruction_362 : decode cX4_addsInstruction 362 = .ok (.aload_n 0, 1) := by decide +kernel
theorem dX4_addsInstruction_363 : decode cX4_addsInstruction 363 = .ok (.getfield 37, 3) := by decide +kernel
theorem dX4_addsInstruction_366 : decode cX4_addsInstruction 366 = .ok (.getfield 222, 3) := by decide +kernel
theorem dX4_addsInstruction_369 : decode cX4_addsInstruction 369 = .ok (.iload 4, 2) := by decide +kernel
theorem dX4_addsInstruction_371 : decode cX4_addsInstruction 371 = .ok (.aload_n 0, 1) := by decide +kernel
theorem dX4_addsInstruction_372 : decode cX4_addsInstruction 372 = .ok (.iload_n 3, 1) := by decide +kernel
theorem dX4_addsInstruction_373 : decode cX4_addsInstruction 373 = .ok (.invokevirtual 88, 3) := by decide +kernel
theorem dX4_addsInstruction_376 : decode cX4_addsInstruction 376 = .ok (.invokestatic 228, 3) := by decide +kernel
theorem dX4_addsInstruction_379 : decode cX4_addsInstruction 379 = .ok (.iastore, 1) := by decide +kernel
theorem dX4_addsInstruction_380 : decode cX4_addsInstruction 380 = .ok (.aload_n 0, 1) := by decide +kernel
theorem dX4_addsInstruction_381 : decode cX4_addsInstruction 381 = .ok (.getfield 37, 3) := by decide +kernel
theorem dX4_addsInstruction_384 : decode cX4_addsInstruction 384 = .ok (.getfield 222, 3) := by decide +kernel
theorem dX4_addsInstruction_387 : decode cX4_addsInstruction 387 = .ok (.iload 4, 2) := by decide +kernel
theorem dX4_addsInstruction_389 : decode cX4_addsInstruction 389 = .ok (.iaload, 1) := by decide +kernel
theorem dX4_addsInstruction_390 : decode cX4_addsInstruction 390 = .ok (.iconst (-1), 1) := by decide +kernel
theorem dX4_addsInstruction_391 : decode cX4_addsInstruction 391 = .ok (.if_icmp .eq 7, 3) := by decide +kernel
theorem dX4_addsInstruction_394 : decode cX4_addsInstruction 394 = .ok (.iconst 1, 1) := by decide +kernel
theorem dX4_addsInstruction_395 : decode cX4_addsInstruction 395 = .ok (.goto 4, 3) := by decide +kernel
theorem dX4_addsInstruction_398 : decode cX4_addsInstruction 398 = .ok (.iconst 0, 1) := by decide +kernel
theorem dX4_addsInstruction_399 : decode cX4_addsInstruction 399 = .ok (.ireturn, 1) := by decide +kernel
theorem dX4_addsInstruction_400 : decode cX4_addsInstruction 400 = .ok (.aload_n 0, 1) := by decide +kernel
theorem dX4_addsInstruction_401 : decode cX4_addsInstruction 401 = .ok (.iload 4, 2) := by decide +kernel
theorem dX4_addsInstruction_403 : decode cX4_addsInstruction 403 = .ok (.iload_n 2, 1) := by decide +kernel
theorem dX4_addsInstruction_404 : decode cX4_addsInstruction 404 = .ok (.iload_n 3, 1) := by decide +kernel
theorem dX4_addsInstruction_405 : decode cX4_addsInstruction 405 = .ok (.invokevirtual 231, 3) := by decide +kernel
theorem dX4_addsInstruction_408 : decode cX4_addsInstruction 408 = .ok (.ireturn, 1) := by decide +kernel
theorem dX4_addsInstruction_409 : decode cX4_addsInstruction 409 = .ok (.aload_n 0, 1) := by decide +kernel
theorem dX4_addsInstruction_410 : decode cX4_addsInstruction 410 = .ok (.getfield 37, 3) := by decide +kernel
theorem dX4_addsInstruction_413 : decode cX4_addsInstruction 413 = .ok (.getfield 222, 3) := by decide +kernel
theorem dX4_addsInstruction_416 : decode cX4_addsInstruction 416 = .ok (.iload 4, 2) := by decide +kernel
theorem dX4_addsInstruction_418 : decode cX4_addsInstruction 418 = .ok (.iload_n 2, 1) := by decide +kernel
theorem dX4_addsInstruction_419 : decode cX4_addsInstruction 419 = .ok (.invokestatic 234, 3) := by decide +kernel
theorem dX4_addsInstruction_422 : decode cX4_addsInstruction 422 = .ok (.ifCond .eq 11, 3) := by decide +kernel
theorem dX4_addsInstruction_425 : decode cX4_addsInstruction 425 = .ok (.aload_n 0, 1) := by decide +kernel
theorem dX4_addsInstruction_426 : decode cX4_addsInstruction 426 = .ok (.iload_n 3, 1) := by decide +kernel
theorem dX4_addsInstruction_427 : decode cX4_addsInstruction 427 = .ok (.invokevirtual 192, 3) := by decide +kernel
theorem dX4_addsInstruction_430 : decode cX4_addsInstruction 430 = .ok (.goto 4, 3) := by decide +kernel
theorem dX4_addsInstruction_433 : decode cX4_addsInstruction 433 = .ok (.iconst 0, 1) := by decide +kernel
theorem dX4_addsInstruction_434 : decode cX4_addsInstruction 434 = .ok (.iastore, 1) := by decide +kernel
theorem dX4_addsInstruction_435 : decode cX4_addsInstruction 435 = .ok (.iload_n 2, 1) := by decide +kernel
theorem dX4_addsInstruction_436 : decode cX4_addsInstruction 436 = .ok (.invokestatic 234, 3) := by decide +kernel
theorem dX4_addsInstruction_439 : decode cX4_addsInstruction 439 = .ok (.ifCond .eq 33, 3) := by decide +kernel
theorem dX4_addsInstruction_442 : decode cX4_addsInstruction 442 = .ok (.aload_n 0, 1) := by decide +kernel
theorem dX4_addsInstruction_443 : decode cX4_addsInstruction 443 = .ok (.getfield 37, 3) := by decide +kernel
theorem dX4_addsInstruction_446 : decode cX4_addsInstruction 446 = .ok (.getfield 222, 3) := by decide +kernel
theorem dX4_addsInstruction_449 : decode cX4_addsInstruction 449 = .ok (.iload 4, 2) := by decide +kernel
theorem dX4_addsInstruction_451 : decode cX4_addsInstruction 451 = .ok (.iaload, 1) := by decide +kernel
theorem dX4_addsInstruction_452 : decode cX4_addsInstruction 452 = .ok (.ifCond .lt 24, 3) := by decide +kernel
theorem dX4_addsInstruction_455 : decode cX4_addsInstruction 455 = .ok (.aload_n 0, 1) := by decide +kernel
theorem dX4_addsInstruction_456 : decode cX4_addsInstruction 456 = .ok (.getfield 37, 3) := by decide +kernel
theorem dX4_addsInstruction_459 : decode cX4_addsInstruction 459 = .ok (.getfield 222, 3) := by decide +kernel
theorem dX4_addsInstruction_462 : decode cX4_addsInstruction 462 = .ok (.iload 4, 2) := by decide +kernel
theorem dX4_addsInstruction_464 : decode cX4_addsInstruction 464 = .ok (.iaload, 1) := by decide +kernel
theorem dX4_addsInstruction_465 : decode cX4_addsInstruction 465 = .ok (.aload_n 0, 1) := by decide +kernel
theorem dX4_addsInstruction_466 : decode cX4_addsInstruction 466 = .ok (.getfield 187, 3) := by decide +kernel
theorem dX4_addsInstruction_469 : decode cX4_addsInstruction 469 = .ok (.if_icmp .ge 7, 3) := by decide +kernel
theorem dX4_addsInstruction_472 : decode cX4_addsInstruction 472 = .ok (.iconst 1, 1) := by decide +kernel
theorem dX4_addsInstruction_473 : decode cX4_addsInstruction 473 = .ok (.goto 4, 3) := by decide +kernel
theorem dX4_addsInstruction_476 : decode cX4_addsInstruction 476 = .ok (.iconst 0, 1) := by decide +kernel
theorem dX4_addsInstruction_477 : decode cX4_addsInstruction 477 = .ok (.ireturn, 1) := by decide +kernel
theorem dX4_setsReference_0 : decode cX4_setsReference 0 = .ok (.aload_n 0, 1) := by decide +kernel
theorem dX4_setsReference_1 : decode cX4_setsReference 1 = .ok (.getfield 18, 3) := by decide +kernel
theorem dX4_setsReference_4 : decode cX4_setsReference 4 = .ok (.iload_n 3, 1) := by decide +kernel
theorem dX4_setsReference_5 : decode cX4_setsReference 5 = .ok (.invokevirtual 237, 3) := by decide +kernel
theorem dX4_setsReference_8 : decode cX4_setsReference 8 = .ok (.istore 4, 2) := by decide +kernel
theorem dX4_setsReference_10 : decode cX4_setsReference 10 = .ok (.aload_n 0, 1) := by decide +kernel
theorem dX4_setsReference_11 : decode cX4_setsReference 11 = .ok (.getfield 18, 3) := by decide +kernel
theorem dX4_setsReference_14 : decode cX4_setsReference 14 = .ok (.iload_n 3, 1) := by decide +kernel
theorem dX4_setsReference_15 : decode cX4_setsReference 15 = .ok (.invokevirtual 78, 3) := by decide +kernel
theorem dX4_setsReference_18 : decode cX4_setsReference 18 = .ok (.istore 5, 2) := by decide +kernel
theorem dX4_setsReference_20 : decode cX4_setsReference 20 = .ok (.aload_n 0, 1) := by decide +kernel
theorem dX4_setsReference_21 : decode cX4_setsReference 21 = .ok (.getfield 37, 3) := by decide +kernel
theorem dX4_setsReference_24 : decode cX4_setsReference 24 = .ok (.getfield 225, 3) := by decide +kernel
theorem dX4_setsReference_27 : decode cX4_setsReference 27 = .ok (.iload_n 1, 1) := by decide +kernel
theorem dX4_setsReference_28 : decode cX4_setsReference 28 = .ok (.aload_n 0, 1) := by decide +kernel
theorem dX4_setsReference_29 : decode cX4_setsReference 29 = .ok (.aload_n 0, 1) := by decide +kernel
theorem dX4_setsReference_30 : decode cX4_setsReference 30 = .ok (.getfield 18, 3) := by decide +kernel
theorem dX4_setsReference_33 : decode cX4_setsReference 33 = .ok (.iload_n 3, 1) := by decide +kernel
theorem dX4_setsReference_34 : decode cX4_setsReference 34 = .ok (.invokevirtual 75, 3) := by decide +kernel
theorem dX4_setsReference_37 : decode cX4_setsReference 37 = .ok (.iload 4, 2) := by decide +kernel
theorem dX4_setsReference_39 : decode cX4_setsReference 39 = .ok (.invokevirtual 240, 3) := by decide +kernel
theorem dX4_setsReference_42 : decode cX4_setsReference 42 = .ok (.iastore, 1) := by decide +kernel
theorem dX4_setsReference_43 : decode cX4_setsReference 43 = .ok (.aload_n 0, 1) := by decide +kernel
theorem dX4_setsReference_44 : decode cX4_setsReference 44 = .ok (.getfield 37, 3) := by decide +kernel
theorem dX4_setsReference_47 : decode cX4_setsReference 47 = .ok (.getfield 225, 3) := by decide +kernel
theorem dX4_setsReference_50 : decode cX4_setsReference 50 = .ok (.iload_n 1, 1) := by decide +kernel
theorem dX4_setsReference_51 : decode cX4_setsReference 51 = .ok (.iaload, 1) := by decide +kernel
theorem dX4_setsReference_52 : decode cX4_setsReference 52 = .ok (.iconst (-1), 1) := by decide +kernel
theorem dX4_setsReference_53 : decode cX4_setsReference 53 = .ok (.if_icmp .ne 5, 3) := by decide +kernel
theorem dX4_setsReference_56 : decode cX4_setsReference 56 = .ok (.iconst 0, 1) := by decide +kernel
theorem dX4_setsReference_57 : decode cX4_setsReference 57 = .ok (.ireturn, 1) := by decide +kernel
theorem dX4_setsReference_58 : decode cX4_setsReference 58 = .ok (.iload_n 2, 1) := by decide +kernel
theorem dX4_setsReference_59 : decode cX4_setsReference 59 = .ok (.bipush 35, 2) := by decide +kernel
theorem dX4_setsReference_61 : decode cX4_setsReference 61 = .ok (.if_icmp .eq 9, 3) := by decide +kernel
theorem dX4_setsReference_64 : decode cX4_setsReference 64 = .ok (.iload_n 2, 1) := by decide +kernel
theorem dX4_setsReference_65 : decode cX4_setsReference 65 = .ok (.bipush 36, 2) := by decide +kernel
theorem dX4_setsReference_67 : decode cX4_setsReference 67 = .ok (.if_icmp .ne 50, 3) := by decide +kernel
theorem dX4_setsReference_70 : decode cX4_setsReference 70 = .ok (.aload_n 0, 1) := by decide +kernel
theorem dX4_setsReference_71 : decode cX4_setsReference 71 = .ok (.getfield 37, 3) := by decide +kernel
theorem dX4_setsReference_74 : decode cX4_setsReference 74 = .ok (.getfield 222, 3) := by decide +kernel
theorem dX4_setsReference_77 : decode cX4_setsReference 77 = .ok (.iload_n 1, 1) := by decide +kernel
theorem dX4_setsReference_78 : decode cX4_setsReference 78 = .ok (.aload_n 0, 1) := by decide +kernel
theorem dX4_setsReference_79 : decode cX4_setsReference 79 = .ok (.aload_n 0, 1) := by decide +kernel
theorem dX4_setsReference_80 : decode cX4_setsReference 80 = .ok (.getfield 37, 3) := by decide +kernel
theorem dX4_setsReference_83 : decode cX4_setsReference 83 = .ok (.getfield 225, 3) := by decide +kernel
theorem dX4_setsReference_86 : decode cX4_setsReference 86 = .ok (.iload_n 1, 1) := by decide +kernel
theorem dX4_setsReference_87 : decode cX4_setsReference 87 = .ok (.iaload, 1) := by decide +kernel
theorem dX4_setsReference_88 : decode cX4_setsReference 88 = .ok (.iload 4, 2) := by decide +kernel
theorem dX4_setsReference_90 : decode cX4_setsReference 90 = .ok (.iconst 1, 1) := by decide +kernel
theorem dX4_setsReference_91 : decode cX4_setsReference 91 = .ok (.iadd, 1) := by decide +kernel
theorem dX4_setsReference_92 : decode cX4_setsReference 92 = .ok (.iload 5, 2) := by decide +kernel
theorem dX4_setsReference_94 : decode cX4_setsReference 94 = .ok (.invokevirtual 81, 3) := by decide +kernel
theorem dX4_setsReference_97 : decode cX4_setsReference 97 = .ok (.iastore, 1) := by decide +kernel
theorem dX4_setsReference_98 : decode cX4_setsReference 98 = .ok (.aload_n 0, 1) := by decide +kernel
theorem dX4_setsReference_99 : decode cX4_setsReference 99 = .ok (.getfield 37, 3) := by decide +kernel
theorem dX4_setsReference_102 : decode cX4_setsReference 102 = .ok (.getfield 222, 3) := by decide +kernel
theorem dX4_setsReference_105 : decode cX4_setsReference 105 = .ok (.iload_n 1, 1) := by decide +kernel
theorem dX4_setsReference_106 : decode cX4_setsReference 106 = .ok (.iaload, 1) := by decide +kernel
theorem dX4_setsReference_107 : decode cX4_setsReference 107 = .ok (.iconst (-1), 1) := by decide +kernel
theorem dX4_setsReference_108 : decode cX4_setsReference 108 = .ok (.if_icmp .eq 7, 3) := by decide +kernel
theorem dX4_setsReference_111 : decode cX4_setsReference 111 = .ok (.iconst 1, 1) := by decide +kernel
theorem dX4_setsReference_112 : decode cX4_setsReference 112 = .ok (.goto 4, 3) := by decide +kernel
theorem dX4_setsReference_115 : decode cX4_setsReference 115 = .ok (.iconst 0, 1) := by decide +kernel
theorem dX4_setsReference_116 : decode cX4_setsReference 116 = .ok (.ireturn, 1) := by decide +kernel
theorem dX4_setsReference_117 : decode cX4_setsReference 117 = .ok (.aload_n 0, 1) := by decide +kernel
theorem dX4_setsReference_118 : decode cX4_setsReference 118 = .ok (.aload_n 0, 1) := by decide +kernel
theorem dX4_setsReference_119 : decode cX4_setsReference 119 = .ok (.getfield 37, 3) := by decide +kernel
theorem dX4_setsReference_122 : decode cX4_setsReference 122 = .ok (.getfield 225, 3) := by decide +kernel
theorem dX4_setsReference_125 : decode cX4_setsReference 125 = .ok (.iload_n 1, 1) := by decide +kernel
theorem dX4_setsReference_126 : decode cX4_setsReference 126 = .ok (.iaload, 1) := by decide +kernel
theorem dX4_setsReference_127 : decode cX4_setsReference 127 = .ok (.iload 4, 2) := by decide +kernel
theorem dX4_setsReference_129 : decode cX4_setsReference 129 = .ok (.iconst 1, 1) := by decide +kernel
theorem dX4_setsReference_130 : decode cX4_setsReference 130 = .ok (.iadd, 1) := by decide +kernel
theorem dX4_setsReference_131 : decode cX4_setsReference 131 = .ok (.iload 5, 2) := by decide +kernel
theorem dX4_setsReference_133 : decode cX4_setsReference 133 = .ok (.invokevirtual 95, 3) := by decide +kernel
theorem dX4_setsReference_136 : decode cX4_setsReference 136 = .ok (.istore 6, 2) := by decide +kernel
theorem dX4_setsReference_138 : decode cX4_setsReference 138 = .ok (.iload 6, 2) := by decide +kernel
theorem dX4_setsReference_140 : decode cX4_setsReference 140 = .ok (.iconst (-1), 1) := by decide +kernel
theorem dX4_setsReference_141 : decode cX4_setsReference 141 = .ok (.if_icmp .eq 27, 3) := by decide +kernel
theorem dX4_setsReference_144 : decode cX4_setsReference 144 = .ok (.aload_n 0, 1) := by decide +kernel
theorem dX4_setsReference_145 : decode cX4_setsReference 145 = .ok (.getfield 22, 3) := by decide +kernel
theorem dX4_setsReference_148 : decode cX4_setsReference 148 = .ok (.getfield 134, 3) := by decide +kernel
theorem dX4_setsReference_151 : decode cX4_setsReference 151 = .ok (.iload 6, 2) := by decide +kernel
theorem dX4_setsReference_153 : decode cX4_setsReference 153 = .ok (.baload, 1) := by decide +kernel
theorem dX4_setsReference_154 : decode cX4_setsReference 154 = .ok (.iload_n 2, 1) := by decide +kernel
theorem dX4_setsReference_155 : decode cX4_setsReference 155 = .ok (.bipush 40, 2) := by decide +kernel
theorem dX4_setsReference_157 : decode cX4_setsReference 157 = .ok (.if_icmp .ne 7, 3) := by decide +kernel
theorem dX4_setsReference_160 : decode cX4_setsReference 160 = .ok (.iconst 1, 1) := by decide +kernel
theorem dX4_setsReference_161 : decode cX4_setsReference 161 = .ok (.goto 4, 3) := by decide +kernel
theorem dX4_setsReference_164 : decode cX4_setsReference 164 = .ok (.iconst 0, 1) := by decide +kernel
theorem dX4_setsReference_165 : decode cX4_setsReference 165 = .ok (.if_icmp .eq 5, 3) := by decide +kernel
theorem dX4_setsReference_168 : decode cX4_setsReference 168 = .ok (.iconst 0, 1) := by decide +kernel
theorem dX4_setsReference_169 : decode cX4_setsReference 169 = .ok (.ireturn, 1) := by decide +kernel
theorem dX4_setsReference_170 : decode cX4_setsReference 170 = .ok (.aload_n 0, 1) := by decide +kernel
theorem dX4_setsReference_171 : decode cX4_setsReference 171 = .ok (.getfield 37, 3) := by decide +kernel
theorem dX4_setsReference_174 : decode cX4_setsReference 174 = .ok (.getfield 222, 3) := by decide +kernel
theorem dX4_setsReference_177 : decode cX4_setsReference 177 = .ok (.iload_n 1, 1) := by decide +kernel
theorem dX4_setsReference_178 : decode cX4_setsReference 178 = .ok (.aload_n 0, 1) := by decide +kernel
theorem dX4_setsReference_179 : decode cX4_setsReference 179 = .ok (.getfield 22, 3) := by decide +kernel
theorem dX4_setsReference_182 : decode cX4_setsReference 182 = .ok (.getfield 243, 3) := by decide +kernel
theorem dX4_setsReference_185 : decode cX4_setsReference 185 = .ok (.iload 6, 2) := by decide +kernel
theorem dX4_setsReference_187 : decode cX4_setsReference 187 = .ok (.iaload, 1) := by decide +kernel
theorem dX4_setsReference_188 : decode cX4_setsReference 188 = .ok (.iastore, 1) := by decide +kernel
theorem dX4_setsReference_189 : decode cX4_setsReference 189 = .ok (.iconst 1, 1) := by decide +kernel
theorem dX4_setsReference_190 : decode cX4_setsReference 190 = .ok (.ireturn, 1) := by decide +kernel
theorem dX4_mainFault_0 : decode cX4_mainFault 0 = .ok (.iconst 0, 1) := by decide +kernel
theorem dX4_mainFault_1 : decode cX4_mainFault 1 = .ok (.istore_n 1, 1) := by decide +kernel
theorem dX4_mainFault_2 : decode cX4_mainFault 2 = .ok (.iload_n 1, 1) := by decide +kernel
theorem dX4_mainFault_3 : decode cX4_mainFault 3 = .ok (.aload_n 0, 1) := by decide +kernel
theorem dX4_mainFault_4 : decode cX4_mainFault 4 = .ok (.getfield 22, 3) := by decide +kernel
theorem dX4_mainFault_7 : decode cX4_mainFault 7 = .ok (.getfield 98, 3) := by decide +kernel
theorem dX4_mainFault_10 : decode cX4_mainFault 10 = .ok (.if_icmp .ge 119, 3) := by decide +kernel
theorem dX4_mainFault_13 : decode cX4_mainFault 13 = .ok (.aload_n 0, 1) := by decide +kernel
theorem dX4_mainFault_14 : decode cX4_mainFault 14 = .ok (.getfield 22, 3) := by decide +kernel
theorem dX4_mainFault_17 : decode cX4_mainFault 17 = .ok (.getfield 134, 3) := by decide +kernel
theorem dX4_mainFault_20 : decode cX4_mainFault 20 = .ok (.iload_n 1, 1) := by decide +kernel
theorem dX4_mainFault_21 : decode cX4_mainFault 21 = .ok (.baload, 1) := by decide +kernel
theorem dX4_mainFault_22 : decode cX4_mainFault 22 = .ok (.ifCond .ne 33, 3) := by decide +kernel
theorem dX4_mainFault_25 : decode cX4_mainFault 25 = .ok (.aload_n 0, 1) := by decide +kernel
theorem dX4_mainFault_26 : decode cX4_mainFault 26 = .ok (.getfield 22, 3) := by decide +kernel
theorem dX4_mainFault_29 : decode cX4_mainFault 29 = .ok (.getfield 125, 3) := by decide +kernel
theorem dX4_mainFault_32 : decode cX4_mainFault 32 = .ok (.iload_n 1, 1) := by decide +kernel
theorem dX4_mainFault_33 : decode cX4_mainFault 33 = .ok (.iaload, 1) := by decide +kernel
theorem dX4_mainFault_34 : decode cX4_mainFault 34 = .ok (.ifCond .ne 21, 3) := by decide +kernel
theorem dX4_mainFault_37 : decode cX4_mainFault 37 = .ok (.aload_n 0, 1) := by decide +kernel
theorem dX4_mainFault_38 : decode cX4_mainFault 38 = .ok (.getfield 22, 3) := by decide +kernel
theorem dX4_mainFault_41 : decode cX4_mainFault 41 = .ok (.getfield 128, 3) := by decide +kernel
theorem dX4_mainFault_44 : decode cX4_mainFault 44 = .ok (.iload_n 1, 1) := by decide +kernel
theorem dX4_mainFault_45 : decode cX4_mainFault 45 = .ok (.iaload, 1) := by decide +kernel
theorem dX4_mainFault_46 : decode cX4_mainFault 46 = .ok (.bipush 68, 2) := by decide +kernel
theorem dX4_mainFault_48 : decode cX4_mainFault 48 = .ok (.if_icmp .ne 7, 3) := by decide +kernel
theorem dX4_mainFault_51 : decode cX4_mainFault 51 = .ok (.iconst 1, 1) := by decide +kernel
theorem dX4_mainFault_52 : decode cX4_mainFault 52 = .ok (.goto 4, 3) := by decide +kernel
theorem dX4_mainFault_55 : decode cX4_mainFault 55 = .ok (.iconst 0, 1) := by decide +kernel
theorem dX4_mainFault_56 : decode cX4_mainFault 56 = .ok (.istore_n 2, 1) := by decide +kernel
theorem dX4_mainFault_57 : decode cX4_mainFault 57 = .ok (.aload_n 0, 1) := by decide +kernel
theorem dX4_mainFault_58 : decode cX4_mainFault 58 = .ok (.getfield 32, 3) := by decide +kernel
theorem dX4_mainFault_61 : decode cX4_mainFault 61 = .ok (.getfield 246, 3) := by decide +kernel
theorem dX4_mainFault_64 : decode cX4_mainFault 64 = .ok (.aload_n 0, 1) := by decide +kernel
theorem dX4_mainFault_65 : decode cX4_mainFault 65 = .ok (.getfield 22, 3) := by decide +kernel
theorem dX4_mainFault_68 : decode cX4_mainFault 68 = .ok (.getfield 138, 3) := by decide +kernel
theorem dX4_mainFault_71 : decode cX4_mainFault 71 = .ok (.iload_n 1, 1) := by decide +kernel
theorem dX4_mainFault_72 : decode cX4_mainFault 72 = .ok (.iaload, 1) := by decide +kernel
theorem dX4_mainFault_73 : decode cX4_mainFault 73 = .ok (.iaload, 1) := by decide +kernel
theorem dX4_mainFault_74 : decode cX4_mainFault 74 = .ok (.istore_n 3, 1) := by decide +kernel
theorem dX4_mainFault_75 : decode cX4_mainFault 75 = .ok (.iload_n 2, 1) := by decide +kernel
theorem dX4_mainFault_76 : decode cX4_mainFault 76 = .ok (.ifCond .eq 47, 3) := by decide +kernel
theorem dX4_mainFault_79 : decode cX4_mainFault 79 = .ok (.aload_n 0, 1) := by decide +kernel
theorem dX4_mainFault_80 : decode cX4_mainFault 80 = .ok (.getfield 18, 3) := by decide +kernel
theorem dX4_mainFault_83 : decode cX4_mainFault 83 = .ok (.aload_n 0, 1) := by decide +kernel
theorem dX4_mainFault_84 : decode cX4_mainFault 84 = .ok (.getfield 22, 3) := by decide +kernel
theorem dX4_mainFault_87 : decode cX4_mainFault 87 = .ok (.getfield 141, 3) := by decide +kernel
theorem dX4_mainFault_90 : decode cX4_mainFault 90 = .ok (.iload_n 1, 1) := by decide +kernel
theorem dX4_mainFault_91 : decode cX4_mainFault 91 = .ok (.iaload, 1) := by decide +kernel
theorem dX4_mainFault_92 : decode cX4_mainFault 92 = .ok (.ldc 249, 2) := by decide +kernel
theorem dX4_mainFault_94 : decode cX4_mainFault 94 = .ok (.invokevirtual 118, 3) := by decide +kernel
theorem dX4_mainFault_97 : decode cX4_mainFault 97 = .ok (.ifCond .eq 26, 3) := by decide +kernel
theorem dX4_mainFault_100 : decode cX4_mainFault 100 = .ok (.aload_n 0, 1) := by decide +kernel
theorem dX4_mainFault_101 : decode cX4_mainFault 101 = .ok (.getfield 18, 3) := by decide +kernel
theorem dX4_mainFault_104 : decode cX4_mainFault 104 = .ok (.iload_n 3, 1) := by decide +kernel
theorem dX4_mainFault_105 : decode cX4_mainFault 105 = .ok (.ldc 251, 2) := by decide +kernel
theorem dX4_mainFault_107 : decode cX4_mainFault 107 = .ok (.invokevirtual 118, 3) := by decide +kernel
theorem dX4_mainFault_110 : decode cX4_mainFault 110 = .ok (.ifCond .eq 13, 3) := by decide +kernel
theorem dX4_mainFault_113 : decode cX4_mainFault 113 = .ok (.aload_n 0, 1) := by decide +kernel
theorem dX4_mainFault_114 : decode cX4_mainFault 114 = .ok (.getfield 22, 3) := by decide +kernel
theorem dX4_mainFault_117 : decode cX4_mainFault 117 = .ok (.iload_n 1, 1) := by decide +kernel
theorem dX4_mainFault_118 : decode cX4_mainFault 118 = .ok (.putfield 253, 3) := by decide +kernel
theorem dX4_mainFault_121 : decode cX4_mainFault 121 = .ok (.iconst (-1), 1) := by decide +kernel
theorem dX4_mainFault_122 : decode cX4_mainFault 122 = .ok (.ireturn, 1) := by decide +kernel
theorem dX4_mainFault_123 : decode cX4_mainFault 123 = .ok (.iinc 1 1, 3) := by decide +kernel
theorem dX4_mainFault_126 : decode cX4_mainFault 126 = .ok (.goto (-124), 3) := by decide +kernel
theorem dX4_mainFault_129 : decode cX4_mainFault 129 = .ok (.aload_n 0, 1) := by decide +kernel
theorem dX4_mainFault_130 : decode cX4_mainFault 130 = .ok (.getfield 18, 3) := by decide +kernel
theorem dX4_mainFault_133 : decode cX4_mainFault 133 = .ok (.getfield 41, 3) := by decide +kernel
theorem dX4_mainFault_136 : decode cX4_mainFault 136 = .ok (.ireturn, 1) := by decide +kernel
theorem dX4_classAt_0 : decode cX4_classAt 0 = .ok (.aload_n 0, 1) := by decide +kernel
theorem dX4_classAt_1 : decode cX4_classAt 1 = .ok (.aload_n 0, 1) := by decide +kernel
theorem dX4_classAt_2 : decode cX4_classAt 2 = .ok (.getfield 18, 3) := by decide +kernel
theorem dX4_classAt_5 : decode cX4_classAt 5 = .ok (.iload_n 1, 1) := by decide +kernel
theorem dX4_classAt_6 : decode cX4_classAt 6 = .ok (.invokevirtual 75, 3) := by decide +kernel
theorem dX4_classAt_9 : decode cX4_classAt 9 = .ok (.aload_n 0, 1) := by decide +kernel
theorem dX4_classAt_10 : decode cX4_classAt 10 = .ok (.getfield 18, 3) := by decide +kernel
theorem dX4_classAt_13 : decode cX4_classAt 13 = .ok (.iload_n 1, 1) := by decide +kernel
theorem dX4_classAt_14 : decode cX4_classAt 14 = .ok (.invokevirtual 78, 3) := by decide +kernel
theorem dX4_classAt_17 : decode cX4_classAt 17 = .ok (.invokevirtual 240, 3) := by decide +kernel
theorem dX4_classAt_20 : decode cX4_classAt 20 = .ok (.ireturn, 1) := by decide +kernel
theorem dX4_classIn_0 : decode cX4_classIn 0 = .ok (.bipush 8, 2) := by decide +kernel
theorem dX4_classIn_2 : decode cX4_classIn 2 = .ok (.istore_n 3, 1) := by decide +kernel
theorem dX4_classIn_3 : decode cX4_classIn 3 = .ok (.iload_n 3, 1) := by decide +kernel
theorem dX4_classIn_4 : decode cX4_classIn 4 = .ok (.aload_n 0, 1) := by decide +kernel
theorem dX4_classIn_5 : decode cX4_classIn 5 = .ok (.getfield 32, 3) := by decide +kernel
theorem dX4_classIn_8 : decode cX4_classIn 8 = .ok (.getfield 55, 3) := by decide +kernel
theorem dX4_classIn_11 : decode cX4_classIn 11 = .ok (.if_icmp .ge 32, 3) := by decide +kernel
theorem dX4_classIn_14 : decode cX4_classIn 14 = .ok (.aload_n 0, 1) := by decide +kernel
theorem dX4_classIn_15 : decode cX4_classIn 15 = .ok (.getfield 18, 3) := by decide +kernel
theorem dX4_classIn_18 : decode cX4_classIn 18 = .ok (.aload_n 0, 1) := by decide +kernel
theorem dX4_classIn_19 : decode cX4_classIn 19 = .ok (.getfield 32, 3) := by decide +kernel
theorem dX4_classIn_22 : decode cX4_classIn 22 = .ok (.getfield 246, 3) := by decide +kernel
theorem dX4_classIn_25 : decode cX4_classIn 25 = .ok (.iload_n 3, 1) := by decide +kernel
theorem dX4_classIn_26 : decode cX4_classIn 26 = .ok (.iaload, 1) := by decide +kernel
theorem dX4_classIn_27 : decode cX4_classIn 27 = .ok (.iload_n 1, 1) := by decide +kernel
theorem dX4_classIn_28 : decode cX4_classIn 28 = .ok (.iload_n 2, 1) := by decide +kernel
theorem dX4_classIn_29 : decode cX4_classIn 29 = .ok (.invokevirtual 147, 3) := by decide +kernel
theorem dX4_classIn_32 : decode cX4_classIn 32 = .ok (.ifCond .eq 5, 3) := by decide +kernel
theorem dX4_classIn_35 : decode cX4_classIn 35 = .ok (.iload_n 3, 1) := by decide +kernel
theorem dX4_classIn_36 : decode cX4_classIn 36 = .ok (.ireturn, 1) := by decide +kernel
theorem dX4_classIn_37 : decode cX4_classIn 37 = .ok (.iinc 3 1, 3) := by decide +kernel
theorem dX4_classIn_40 : decode cX4_classIn 40 = .ok (.goto (-37), 3) := by decide +kernel
theorem dX4_classIn_43 : decode cX4_classIn 43 = .ok (.aload_n 0, 1) := by decide +kernel
theorem dX4_classIn_44 : decode cX4_classIn 44 = .ok (.getfield 18, 3) := by decide +kernel
theorem dX4_classIn_47 : decode cX4_classIn 47 = .ok (.ldc 255, 2) := by decide +kernel
theorem dX4_classIn_49 : decode cX4_classIn 49 = .ok (.iload_n 1, 1) := by decide +kernel
theorem dX4_classIn_50 : decode cX4_classIn 50 = .ok (.iload_n 2, 1) := by decide +kernel
theorem dX4_classIn_51 : decode cX4_classIn 51 = .ok (.invokevirtual 257, 3) := by decide +kernel
theorem dX4_classIn_54 : decode cX4_classIn 54 = .ok (.ireturn, 1) := by decide +kernel
theorem dX4_typeAt_0 : decode cX4_typeAt 0 = .ok (.aload_n 0, 1) := by decide +kernel
theorem dX4_typeAt_1 : decode cX4_typeAt 1 = .ok (.getfield 18, 3) := by decide +kernel
theorem dX4_typeAt_4 : decode cX4_typeAt 4 = .ok (.iload_n 1, 1) := by decide +kernel
theorem dX4_typeAt_5 : decode cX4_typeAt 5 = .ok (.invokevirtual 75, 3) := by decide +kernel
theorem dX4_typeAt_8 : decode cX4_typeAt 8 = .ok (.istore_n 2, 1) := by decide +kernel
theorem dX4_typeAt_9 : decode cX4_typeAt 9 = .ok (.aload_n 0, 1) := by decide +kernel
theorem dX4_typeAt_10 : decode cX4_typeAt 10 = .ok (.getfield 18, 3) := by decide +kernel
theorem dX4_typeAt_13 : decode cX4_typeAt 13 = .ok (.iload_n 1, 1) := by decide +kernel
theorem dX4_typeAt_14 : decode cX4_typeAt 14 = .ok (.invokevirtual 261, 3) := by decide +kernel
theorem dX4_typeAt_17 : decode cX4_typeAt 17 = .ok (.istore_n 3, 1) := by decide +kernel
theorem dX4_typeAt_18 : decode cX4_typeAt 18 = .ok (.iload_n 3, 1) := by decide +kernel
theorem dX4_typeAt_19 : decode cX4_typeAt 19 = .ok (.aload_n 0, 1) := by decide +kernel
theorem dX4_typeAt_20 : decode cX4_typeAt 20 = .ok (.getfield 18, 3) := by decide +kernel
theorem dX4_typeAt_23 : decode cX4_typeAt 23 = .ok (.iload_n 1, 1) := by decide +kernel
theorem dX4_typeAt_24 : decode cX4_typeAt 24 = .ok (.invokevirtual 78, 3) := by decide +kernel
theorem dX4_typeAt_27 : decode cX4_typeAt 27 = .ok (.if_icmp .ge 7, 3) := by decide +kernel
theorem dX4_typeAt_30 : decode cX4_typeAt 30 = .ok (.iconst 1, 1) := by decide +kernel
theorem dX4_typeAt_31 : decode cX4_typeAt 31 = .ok (.goto 4, 3) := by decide +kernel
theorem dX4_typeAt_34 : decode cX4_typeAt 34 = .ok (.iconst 0, 1) := by decide +kernel
theorem dX4_typeAt_35 : decode cX4_typeAt 35 = .ok (.istore 4, 2) := by decide +kernel
theorem dX4_typeAt_37 : decode cX4_typeAt 37 = .ok (.aload_n 0, 1) := by decide +kernel
theorem dX4_typeAt_38 : decode cX4_typeAt 38 = .ok (.getfield 18, 3) := by decide +kernel
theorem dX4_typeAt_41 : decode cX4_typeAt 41 = .ok (.iload_n 2, 1) := by decide +kernel
theorem dX4_typeAt_42 : decode cX4_typeAt 42 = .ok (.iload_n 3, 1) := by decide +kernel
theorem dX4_typeAt_43 : decode cX4_typeAt 43 = .ok (.ldc_w 264, 3) := by decide +kernel
theorem dX4_typeAt_46 : decode cX4_typeAt 46 = .ok (.invokevirtual 266, 3) := by decide +kernel
theorem dX4_typeAt_49 : decode cX4_typeAt 49 = .ok (.ifCond .eq 16, 3) := by decide +kernel
theorem dX4_typeAt_52 : decode cX4_typeAt 52 = .ok (.iload 4, 2) := by decide +kernel
theorem dX4_typeAt_54 : decode cX4_typeAt 54 = .ok (.ifCond .eq 8, 3) := by decide +kernel
theorem dX4_typeAt_57 : decode cX4_typeAt 57 = .ok (.bipush 64, 2) := by decide +kernel
theorem dX4_typeAt_59 : decode cX4_typeAt 59 = .ok (.goto 5, 3) := by decide +kernel
theorem dX4_typeAt_62 : decode cX4_typeAt 62 = .ok (.bipush 66, 2) := by decide +kernel
theorem dX4_typeAt_64 : decode cX4_typeAt 64 = .ok (.ireturn, 1) := by decide +kernel
theorem dX4_typeAt_65 : decode cX4_typeAt 65 = .ok (.aload_n 0, 1) := by decide +kernel
theorem dX4_typeAt_66 : decode cX4_typeAt 66 = .ok (.iload_n 2, 1) := by decide +kernel
theorem dX4_typeAt_67 : decode cX4_typeAt 67 = .ok (.iload_n 3, 1) := by decide +kernel
theorem dX4_typeAt_68 : decode cX4_typeAt 68 = .ok (.invokevirtual 240, 3) := by decide +kernel
theorem dX4_typeAt_71 : decode cX4_typeAt 71 = .ok (.istore 5, 2) := by decide +kernel
theorem dX4_typeAt_73 : decode cX4_typeAt 73 = .ok (.iload 4, 2) := by decide +kernel
theorem dX4_typeAt_75 : decode cX4_typeAt 75 = .ok (.ifCond .eq 11, 3) := by decide +kernel
theorem dX4_typeAt_78 : decode cX4_typeAt 78 = .ok (.iload 5, 2) := by decide +kernel
theorem dX4_typeAt_80 : decode cX4_typeAt 80 = .ok (.invokestatic 228, 3) := by decide +kernel
theorem dX4_typeAt_83 : decode cX4_typeAt 83 = .ok (.goto 5, 3) := by decide +kernel
theorem dX4_typeAt_86 : decode cX4_typeAt 86 = .ok (.iload 5, 2) := by decide +kernel
theorem dX4_typeAt_88 : decode cX4_typeAt 88 = .ok (.ireturn, 1) := by decide +kernel
theorem dX4_arrayOf_0 : decode cX4_arrayOf 0 = .ok (.iload_n 0, 1) := by decide +kernel
theorem dX4_arrayOf_1 : decode cX4_arrayOf 1 = .ok (.bipush 66, 2) := by decide +kernel
theorem dX4_arrayOf_3 : decode cX4_arrayOf 3 = .ok (.if_icmp .ne 6, 3) := by decide +kernel
theorem dX4_arrayOf_6 : decode cX4_arrayOf 6 = .ok (.bipush 64, 2) := by decide +kernel
theorem dX4_arrayOf_8 : decode cX4_arrayOf 8 = .ok (.ireturn, 1) := by decide +kernel
theorem dX4_arrayOf_9 : decode cX4_arrayOf 9 = .ok (.iload_n 0, 1) := by decide +kernel
theorem dX4_arrayOf_10 : decode cX4_arrayOf 10 = .ok (.iconst (-1), 1) := by decide +kernel
theorem dX4_arrayOf_11 : decode cX4_arrayOf 11 = .ok (.if_icmp .ne 7, 3) := by decide +kernel
theorem dX4_arrayOf_14 : decode cX4_arrayOf 14 = .ok (.iconst (-1), 1) := by decide +kernel
theorem dX4_arrayOf_15 : decode cX4_arrayOf 15 = .ok (.goto 7, 3) := by decide +kernel
theorem dX4_arrayOf_18 : decode cX4_arrayOf 18 = .ok (.bipush 32, 2) := by decide +kernel
theorem dX4_arrayOf_20 : decode cX4_arrayOf 20 = .ok (.iload_n 0, 1) := by decide +kernel
theorem dX4_arrayOf_21 : decode cX4_arrayOf 21 = .ok (.iadd, 1) := by decide +kernel
theorem dX4_arrayOf_22 : decode cX4_arrayOf 22 = .ok (.ireturn, 1) := by decide +kernel
theorem dX4_fieldNamed_0 : decode cX4_fieldNamed 0 = .ok (.iconst 0, 1) := by decide +kernel
theorem dX4_fieldNamed_1 : decode cX4_fieldNamed 1 = .ok (.istore 4, 2) := by decide +kernel
theorem dX4_fieldNamed_3 : decode cX4_fieldNamed 3 = .ok (.iload 4, 2) := by decide +kernel
theorem dX4_fieldNamed_5 : decode cX4_fieldNamed 5 = .ok (.aload_n 0, 1) := by decide +kernel
theorem dX4_fieldNamed_6 : decode cX4_fieldNamed 6 = .ok (.getfield 32, 3) := by decide +kernel
theorem dX4_fieldNamed_9 : decode cX4_fieldNamed 9 = .ok (.getfield 85, 3) := by decide +kernel
theorem dX4_fieldNamed_12 : decode cX4_fieldNamed 12 = .ok (.if_icmp .ge 55, 3) := by decide +kernel
theorem dX4_fieldNamed_15 : decode cX4_fieldNamed 15 = .ok (.aload_n 0, 1) := by decide +kernel
theorem dX4_fieldNamed_16 : decode cX4_fieldNamed 16 = .ok (.getfield 32, 3) := by decide +kernel
theorem dX4_fieldNamed_19 : decode cX4_fieldNamed 19 = .ok (.aload_n 0, 1) := by decide +kernel
theorem dX4_fieldNamed_20 : decode cX4_fieldNamed 20 = .ok (.getfield 32, 3) := by decide +kernel
theorem dX4_fieldNamed_23 : decode cX4_fieldNamed 23 = .ok (.getfield 270, 3) := by decide +kernel
theorem dX4_fieldNamed_26 : decode cX4_fieldNamed 26 = .ok (.iload 4, 2) := by decide +kernel
theorem dX4_fieldNamed_28 : decode cX4_fieldNamed 28 = .ok (.iaload, 1) := by decide +kernel
theorem dX4_fieldNamed_29 : decode cX4_fieldNamed 29 = .ok (.iload_n 1, 1) := by decide +kernel
theorem dX4_fieldNamed_30 : decode cX4_fieldNamed 30 = .ok (.invokevirtual 195, 3) := by decide +kernel
theorem dX4_fieldNamed_33 : decode cX4_fieldNamed 33 = .ok (.ifCond .eq 28, 3) := by decide +kernel
theorem dX4_fieldNamed_36 : decode cX4_fieldNamed 36 = .ok (.aload_n 0, 1) := by decide +kernel
theorem dX4_fieldNamed_37 : decode cX4_fieldNamed 37 = .ok (.getfield 18, 3) := by decide +kernel
theorem dX4_fieldNamed_40 : decode cX4_fieldNamed 40 = .ok (.aload_n 0, 1) := by decide +kernel
theorem dX4_fieldNamed_41 : decode cX4_fieldNamed 41 = .ok (.getfield 32, 3) := by decide +kernel
theorem dX4_fieldNamed_44 : decode cX4_fieldNamed 44 = .ok (.getfield 273, 3) := by decide +kernel
theorem dX4_fieldNamed_47 : decode cX4_fieldNamed 47 = .ok (.iload 4, 2) := by decide +kernel
theorem dX4_fieldNamed_49 : decode cX4_fieldNamed 49 = .ok (.iaload, 1) := by decide +kernel
theorem dX4_fieldNamed_50 : decode cX4_fieldNamed 50 = .ok (.iload_n 2, 1) := by decide +kernel
theorem dX4_fieldNamed_51 : decode cX4_fieldNamed 51 = .ok (.iload_n 3, 1) := by decide +kernel
theorem dX4_fieldNamed_52 : decode cX4_fieldNamed 52 = .ok (.invokevirtual 147, 3) := by decide +kernel
theorem dX4_fieldNamed_55 : decode cX4_fieldNamed 55 = .ok (.ifCond .eq 6, 3) := by decide +kernel
theorem dX4_fieldNamed_58 : decode cX4_fieldNamed 58 = .ok (.iload 4, 2) := by decide +kernel
theorem dX4_fieldNamed_60 : decode cX4_fieldNamed 60 = .ok (.ireturn, 1) := by decide +kernel
theorem dX4_fieldNamed_61 : decode cX4_fieldNamed 61 = .ok (.iinc 4 1, 3) := by decide +kernel
theorem dX4_fieldNamed_64 : decode cX4_fieldNamed 64 = .ok (.goto (-61), 3) := by decide +kernel
theorem dX4_fieldNamed_67 : decode cX4_fieldNamed 67 = .ok (.iconst (-1), 1) := by decide +kernel
theorem dX4_fieldNamed_68 : decode cX4_fieldNamed 68 = .ok (.ireturn, 1) := by decide +kernel
theorem dX4_bodyNamed_0 : decode cX4_bodyNamed 0 = .ok (.iconst (-1), 1) := by decide +kernel
theorem dX4_bodyNamed_1 : decode cX4_bodyNamed 1 = .ok (.istore 4, 2) := by decide +kernel
theorem dX4_bodyNamed_3 : decode cX4_bodyNamed 3 = .ok (.iconst 0, 1) := by decide +kernel
theorem dX4_bodyNamed_4 : decode cX4_bodyNamed 4 = .ok (.istore 5, 2) := by decide +kernel
theorem dX4_bodyNamed_6 : decode cX4_bodyNamed 6 = .ok (.iload 5, 2) := by decide +kernel
theorem dX4_bodyNamed_8 : decode cX4_bodyNamed 8 = .ok (.aload_n 0, 1) := by decide +kernel
theorem dX4_bodyNamed_9 : decode cX4_bodyNamed 9 = .ok (.getfield 22, 3) := by decide +kernel
theorem dX4_bodyNamed_12 : decode cX4_bodyNamed 12 = .ok (.getfield 98, 3) := by decide +kernel
theorem dX4_bodyNamed_15 : decode cX4_bodyNamed 15 = .ok (.if_icmp .ge 56, 3) := by decide +kernel
theorem dX4_bodyNamed_18 : decode cX4_bodyNamed 18 = .ok (.aload_n 0, 1) := by decide +kernel
theorem dX4_bodyNamed_19 : decode cX4_bodyNamed 19 = .ok (.getfield 32, 3) := by decide +kernel
theorem dX4_bodyNamed_22 : decode cX4_bodyNamed 22 = .ok (.aload_n 0, 1) := by decide +kernel
theorem dX4_bodyNamed_23 : decode cX4_bodyNamed 23 = .ok (.getfield 22, 3) := by decide +kernel
theorem dX4_bodyNamed_26 : decode cX4_bodyNamed 26 = .ok (.getfield 138, 3) := by decide +kernel
theorem dX4_bodyNamed_29 : decode cX4_bodyNamed 29 = .ok (.iload 5, 2) := by decide +kernel
theorem dX4_bodyNamed_31 : decode cX4_bodyNamed 31 = .ok (.iaload, 1) := by decide +kernel
theorem dX4_bodyNamed_32 : decode cX4_bodyNamed 32 = .ok (.iload_n 1, 1) := by decide +kernel
theorem dX4_bodyNamed_33 : decode cX4_bodyNamed 33 = .ok (.invokevirtual 195, 3) := by decide +kernel
theorem dX4_bodyNamed_36 : decode cX4_bodyNamed 36 = .ok (.ifCond .eq 29, 3) := by decide +kernel
theorem dX4_bodyNamed_39 : decode cX4_bodyNamed 39 = .ok (.aload_n 0, 1) := by decide +kernel
theorem dX4_bodyNamed_40 : decode cX4_bodyNamed 40 = .ok (.getfield 18, 3) := by decide +kernel
theorem dX4_bodyNamed_43 : decode cX4_bodyNamed 43 = .ok (.aload_n 0, 1) := by decide +kernel
theorem dX4_bodyNamed_44 : decode cX4_bodyNamed 44 = .ok (.getfield 22, 3) := by decide +kernel
theorem dX4_bodyNamed_47 : decode cX4_bodyNamed 47 = .ok (.getfield 141, 3) := by decide +kernel
theorem dX4_bodyNamed_50 : decode cX4_bodyNamed 50 = .ok (.iload 5, 2) := by decide +kernel
theorem dX4_bodyNamed_52 : decode cX4_bodyNamed 52 = .ok (.iaload, 1) := by decide +kernel
theorem dX4_bodyNamed_53 : decode cX4_bodyNamed 53 = .ok (.iload_n 2, 1) := by decide +kernel
theorem dX4_bodyNamed_54 : decode cX4_bodyNamed 54 = .ok (.iload_n 3, 1) := by decide +kernel
theorem dX4_bodyNamed_55 : decode cX4_bodyNamed 55 = .ok (.invokevirtual 147, 3) := by decide +kernel
theorem dX4_bodyNamed_58 : decode cX4_bodyNamed 58 = .ok (.ifCond .eq 7, 3) := by decide +kernel
theorem dX4_bodyNamed_61 : decode cX4_bodyNamed 61 = .ok (.iload 5, 2) := by decide +kernel
theorem dX4_bodyNamed_63 : decode cX4_bodyNamed 63 = .ok (.istore 4, 2) := by decide +kernel
theorem dX4_bodyNamed_65 : decode cX4_bodyNamed 65 = .ok (.iinc 5 1, 3) := by decide +kernel
theorem dX4_bodyNamed_68 : decode cX4_bodyNamed 68 = .ok (.goto (-62), 3) := by decide +kernel
theorem dX4_bodyNamed_71 : decode cX4_bodyNamed 71 = .ok (.iload 4, 2) := by decide +kernel
theorem dX4_bodyNamed_73 : decode cX4_bodyNamed 73 = .ok (.ireturn, 1) := by decide +kernel
theorem dX4_labelNamed_0 : decode cX4_labelNamed 0 = .ok (.aload_n 0, 1) := by decide +kernel
theorem dX4_labelNamed_1 : decode cX4_labelNamed 1 = .ok (.getfield 18, 3) := by decide +kernel
theorem dX4_labelNamed_4 : decode cX4_labelNamed 4 = .ok (.iload_n 1, 1) := by decide +kernel
theorem dX4_labelNamed_5 : decode cX4_labelNamed 5 = .ok (.invokevirtual 75, 3) := by decide +kernel
theorem dX4_labelNamed_8 : decode cX4_labelNamed 8 = .ok (.istore_n 2, 1) := by decide +kernel
theorem dX4_labelNamed_9 : decode cX4_labelNamed 9 = .ok (.aload_n 0, 1) := by decide +kernel
theorem dX4_labelNamed_10 : decode cX4_labelNamed 10 = .ok (.getfield 18, 3) := by decide +kernel
theorem dX4_labelNamed_13 : decode cX4_labelNamed 13 = .ok (.iload_n 1, 1) := by decide +kernel
theorem dX4_labelNamed_14 : decode cX4_labelNamed 14 = .ok (.invokevirtual 78, 3) := by decide +kernel
theorem dX4_labelNamed_17 : decode cX4_labelNamed 17 = .ok (.istore_n 3, 1) := by decide +kernel
theorem dX4_labelNamed_18 : decode cX4_labelNamed 18 = .ok (.iconst 0, 1) := by decide +kernel
theorem dX4_labelNamed_19 : decode cX4_labelNamed 19 = .ok (.istore 4, 2) := by decide +kernel
theorem dX4_labelNamed_21 : decode cX4_labelNamed 21 = .ok (.iload 4, 2) := by decide +kernel
theorem dX4_labelNamed_23 : decode cX4_labelNamed 23 = .ok (.aload_n 0, 1) := by decide +kernel
theorem dX4_labelNamed_24 : decode cX4_labelNamed 24 = .ok (.getfield 184, 3) := by decide +kernel
theorem dX4_labelNamed_27 : decode cX4_labelNamed 27 = .ok (.if_icmp .ge 31, 3) := by decide +kernel
theorem dX4_labelNamed_30 : decode cX4_labelNamed 30 = .ok (.aload_n 0, 1) := by decide +kernel
theorem dX4_labelNamed_31 : decode cX4_labelNamed 31 = .ok (.getfield 18, 3) := by decide +kernel
theorem dX4_labelNamed_34 : decode cX4_labelNamed 34 = .ok (.aload_n 0, 1) := by decide +kernel
theorem dX4_labelNamed_35 : decode cX4_labelNamed 35 = .ok (.getfield 9, 3) := by decide +kernel
theorem dX4_labelNamed_38 : decode cX4_labelNamed 38 = .ok (.iload 4, 2) := by decide +kernel
theorem dX4_labelNamed_40 : decode cX4_labelNamed 40 = .ok (.iaload, 1) := by decide +kernel
theorem dX4_labelNamed_41 : decode cX4_labelNamed 41 = .ok (.iload_n 2, 1) := by decide +kernel
theorem dX4_labelNamed_42 : decode cX4_labelNamed 42 = .ok (.iload_n 3, 1) := by decide +kernel
theorem dX4_labelNamed_43 : decode cX4_labelNamed 43 = .ok (.invokevirtual 147, 3) := by decide +kernel
theorem dX4_labelNamed_46 : decode cX4_labelNamed 46 = .ok (.ifCond .eq 6, 3) := by decide +kernel
theorem dX4_labelNamed_49 : decode cX4_labelNamed 49 = .ok (.iload 4, 2) := by decide +kernel
theorem dX4_labelNamed_51 : decode cX4_labelNamed 51 = .ok (.ireturn, 1) := by decide +kernel
theorem dX4_labelNamed_52 : decode cX4_labelNamed 52 = .ok (.iinc 4 1, 3) := by decide +kernel
theorem dX4_labelNamed_55 : decode cX4_labelNamed 55 = .ok (.goto (-34), 3) := by decide +kernel
theorem dX4_labelNamed_58 : decode cX4_labelNamed 58 = .ok (.iconst (-1), 1) := by decide +kernel
theorem dX4_labelNamed_59 : decode cX4_labelNamed 59 = .ok (.ireturn, 1) := by decide +kernel
theorem dX4_placeNamed_0 : decode cX4_placeNamed 0 = .ok (.aload_n 0, 1) := by decide +kernel
theorem dX4_placeNamed_1 : decode cX4_placeNamed 1 = .ok (.iload_n 1, 1) := by decide +kernel
theorem dX4_placeNamed_2 : decode cX4_placeNamed 2 = .ok (.invokevirtual 189, 3) := by decide +kernel
theorem dX4_placeNamed_5 : decode cX4_placeNamed 5 = .ok (.istore_n 2, 1) := by decide +kernel
theorem dX4_placeNamed_6 : decode cX4_placeNamed 6 = .ok (.iload_n 2, 1) := by decide +kernel
theorem dX4_placeNamed_7 : decode cX4_placeNamed 7 = .ok (.iconst (-1), 1) := by decide +kernel
theorem dX4_placeNamed_8 : decode cX4_placeNamed 8 = .ok (.if_icmp .ne 7, 3) := by decide +kernel
theorem dX4_placeNamed_11 : decode cX4_placeNamed 11 = .ok (.iconst (-1), 1) := by decide +kernel
theorem dX4_placeNamed_12 : decode cX4_placeNamed 12 = .ok (.goto 9, 3) := by decide +kernel
theorem dX4_placeNamed_15 : decode cX4_placeNamed 15 = .ok (.aload_n 0, 1) := by decide +kernel
theorem dX4_placeNamed_16 : decode cX4_placeNamed 16 = .ok (.getfield 15, 3) := by decide +kernel
theorem dX4_placeNamed_19 : decode cX4_placeNamed 19 = .ok (.iload_n 2, 1) := by decide +kernel
theorem dX4_placeNamed_20 : decode cX4_placeNamed 20 = .ok (.iaload, 1) := by decide +kernel
theorem dX4_placeNamed_21 : decode cX4_placeNamed 21 = .ok (.ireturn, 1) := by decide +kernel
