theorem dX12_init_0 : decode cX12_init 0 = .ok (.aload_n 0, 1) := by decide +kernel
theorem dX12_init_1 : decode cX12_init 1 = .ok (.invokespecial 1, 3) := by decide +kernel
theorem dX12_init_4 : decode cX12_init 4 = .ok (.aload_n 0, 1) := by decide +kernel
theorem dX12_init_5 : decode cX12_init 5 = .ok (.new 7, 3) := by decide +kernel
theorem dX12_init_8 : decode cX12_init 8 = .ok (.dup, 1) := by decide +kernel
theorem dX12_init_9 : decode cX12_init 9 = .ok (.invokespecial 9, 3) := by decide +kernel
theorem dX12_init_12 : decode cX12_init 12 = .ok (.putfield 10, 3) := by decide +kernel
theorem dX12_init_15 : decode cX12_init 15 = .ok (.aload_n 0, 1) := by decide +kernel
theorem dX12_init_16 : decode cX12_init 16 = .ok (.new 7, 3) := by decide +kernel
theorem dX12_init_19 : decode cX12_init 19 = .ok (.dup, 1) := by decide +kernel
theorem dX12_init_20 : decode cX12_init 20 = .ok (.invokespecial 9, 3) := by decide +kernel
theorem dX12_init_23 : decode cX12_init 23 = .ok (.putfield 16, 3) := by decide +kernel
theorem dX12_init_26 : decode cX12_init 26 = .ok (.aload_n 0, 1) := by decide +kernel
theorem dX12_init_27 : decode cX12_init 27 = .ok (.sipush 16000, 3) := by decide +kernel
theorem dX12_init_30 : decode cX12_init 30 = .ok (.newarray .byte, 2) := by decide +kernel
theorem dX12_init_32 : decode cX12_init 32 = .ok (.putfield 19, 3) := by decide +kernel
theorem dX12_init_35 : decode cX12_init 35 = .ok (.aload_n 0, 1) := by decide +kernel
theorem dX12_init_36 : decode cX12_init 36 = .ok (.sipush 16000, 3) := by decide +kernel
theorem dX12_init_39 : decode cX12_init 39 = .ok (.newarray .byte, 2) := by decide +kernel
theorem dX12_init_41 : decode cX12_init 41 = .ok (.putfield 23, 3) := by decide +kernel
theorem dX12_init_44 : decode cX12_init 44 = .ok (.aload_n 0, 1) := by decide +kernel
theorem dX12_init_45 : decode cX12_init 45 = .ok (.sipush 16002, 3) := by decide +kernel
theorem dX12_init_48 : decode cX12_init 48 = .ok (.newarray .int, 2) := by decide +kernel
theorem dX12_init_50 : decode cX12_init 50 = .ok (.putfield 26, 3) := by decide +kernel
theorem dX12_init_53 : decode cX12_init 53 = .ok (.aload_n 0, 1) := by decide +kernel
theorem dX12_init_54 : decode cX12_init 54 = .ok (.sipush 16002, 3) := by decide +kernel
theorem dX12_init_57 : decode cX12_init 57 = .ok (.newarray .int, 2) := by decide +kernel
theorem dX12_init_59 : decode cX12_init 59 = .ok (.putfield 30, 3) := by decide +kernel
theorem dX12_init_62 : decode cX12_init 62 = .ok (.aload_n 0, 1) := by decide +kernel
theorem dX12_init_63 : decode cX12_init 63 = .ok (.iconst (-1), 1) := by decide +kernel
theorem dX12_init_64 : decode cX12_init 64 = .ok (.putfield 33, 3) := by decide +kernel
theorem dX12_init_67 : decode cX12_init 67 = .ok (.aload_n 0, 1) := by decide +kernel
theorem dX12_init_68 : decode cX12_init 68 = .ok (.bipush 32, 2) := by decide +kernel
theorem dX12_init_70 : decode cX12_init 70 = .ok (.newarray .int, 2) := by decide +kernel
theorem dX12_init_72 : decode cX12_init 72 = .ok (.putfield 37, 3) := by decide +kernel
theorem dX12_init_75 : decode cX12_init 75 = .ok (.aload_n 0, 1) := by decide +kernel
theorem dX12_init_76 : decode cX12_init 76 = .ok (.bipush 48, 2) := by decide +kernel
theorem dX12_init_78 : decode cX12_init 78 = .ok (.newarray .int, 2) := by decide +kernel
theorem dX12_init_80 : decode cX12_init 80 = .ok (.putfield 40, 3) := by decide +kernel
theorem dX12_init_83 : decode cX12_init 83 = .ok (.aload_n 0, 1) := by decide +kernel
theorem dX12_init_84 : decode cX12_init 84 = .ok (.bipush 48, 2) := by decide +kernel
theorem dX12_init_86 : decode cX12_init 86 = .ok (.newarray .int, 2) := by decide +kernel
theorem dX12_init_88 : decode cX12_init 88 = .ok (.putfield 43, 3) := by decide +kernel
theorem dX12_init_91 : decode cX12_init 91 = .ok (.aload_n 0, 1) := by decide +kernel
theorem dX12_init_92 : decode cX12_init 92 = .ok (.bipush 48, 2) := by decide +kernel
theorem dX12_init_94 : decode cX12_init 94 = .ok (.newarray .int, 2) := by decide +kernel
theorem dX12_init_96 : decode cX12_init 96 = .ok (.putfield 46, 3) := by decide +kernel
theorem dX12_init_99 : decode cX12_init 99 = .ok (.aload_n 0, 1) := by decide +kernel
theorem dX12_init_100 : decode cX12_init 100 = .ok (.sipush 16000, 3) := by decide +kernel
theorem dX12_init_103 : decode cX12_init 103 = .ok (.newarray .int, 2) := by decide +kernel
theorem dX12_init_105 : decode cX12_init 105 = .ok (.putfield 49, 3) := by decide +kernel
theorem dX12_init_108 : decode cX12_init 108 = .ok (.aload_n 0, 1) := by decide +kernel
theorem dX12_init_109 : decode cX12_init 109 = .ok (.sipush 16000, 3) := by decide +kernel
theorem dX12_init_112 : decode cX12_init 112 = .ok (.newarray .int, 2) := by decide +kernel
theorem dX12_init_114 : decode cX12_init 114 = .ok (.putfield 52, 3) := by decide +kernel
theorem dX12_init_117 : decode cX12_init 117 = .ok (.aload_n 0, 1) := by decide +kernel
theorem dX12_init_118 : decode cX12_init 118 = .ok (.sipush 1024, 3) := by decide +kernel
theorem dX12_init_121 : decode cX12_init 121 = .ok (.newarray .int, 2) := by decide +kernel
theorem dX12_init_123 : decode cX12_init 123 = .ok (.putfield 55, 3) := by decide +kernel
theorem dX12_init_126 : decode cX12_init 126 = .ok (.aload_n 0, 1) := by decide +kernel
theorem dX12_init_127 : decode cX12_init 127 = .ok (.sipush 1024, 3) := by decide +kernel
theorem dX12_init_130 : decode cX12_init 130 = .ok (.newarray .int, 2) := by decide +kernel
theorem dX12_init_132 : decode cX12_init 132 = .ok (.putfield 58, 3) := by decide +kernel
theorem dX12_init_135 : decode cX12_init 135 = .ok (.aload_n 0, 1) := by decide +kernel
theorem dX12_init_136 : decode cX12_init 136 = .ok (.bipush 24, 2) := by decide +kernel
theorem dX12_init_138 : decode cX12_init 138 = .ok (.newarray .int, 2) := by decide +kernel
theorem dX12_init_140 : decode cX12_init 140 = .ok (.putfield 61, 3) := by decide +kernel
theorem dX12_init_143 : decode cX12_init 143 = .ok (.aload_n 0, 1) := by decide +kernel
theorem dX12_init_144 : decode cX12_init 144 = .ok (.sipush 768, 3) := by decide +kernel
theorem dX12_init_147 : decode cX12_init 147 = .ok (.newarray .long, 2) := by decide +kernel
theorem dX12_init_149 : decode cX12_init 149 = .ok (.putfield 64, 3) := by decide +kernel
theorem dX12_init_152 : decode cX12_init 152 = .ok (.aload_n 0, 1) := by decide +kernel
theorem dX12_init_153 : decode cX12_init 153 = .ok (.sipush 512, 3) := by decide +kernel
theorem dX12_init_156 : decode cX12_init 156 = .ok (.newarray .long, 2) := by decide +kernel
theorem dX12_init_158 : decode cX12_init 158 = .ok (.putfield 68, 3) := by decide +kernel
theorem dX12_init_161 : decode cX12_init 161 = .ok (.aload_n 0, 1) := by decide +kernel
theorem dX12_init_162 : decode cX12_init 162 = .ok (.bipush 64, 2) := by decide +kernel
theorem dX12_init_164 : decode cX12_init 164 = .ok (.newarray .int, 2) := by decide +kernel
theorem dX12_init_166 : decode cX12_init 166 = .ok (.putfield 71, 3) := by decide +kernel
theorem dX12_init_169 : decode cX12_init 169 = .ok (.aload_n 0, 1) := by decide +kernel
theorem dX12_init_170 : decode cX12_init 170 = .ok (.bipush 64, 2) := by decide +kernel
theorem dX12_init_172 : decode cX12_init 172 = .ok (.newarray .int, 2) := by decide +kernel
theorem dX12_init_174 : decode cX12_init 174 = .ok (.putfield 74, 3) := by decide +kernel
theorem dX12_init_177 : decode cX12_init 177 = .ok (.aload_n 0, 1) := by decide +kernel
theorem dX12_init_178 : decode cX12_init 178 = .ok (.sipush 2000, 3) := by decide +kernel
theorem dX12_init_181 : decode cX12_init 181 = .ok (.newarray .int, 2) := by decide +kernel
theorem dX12_init_183 : decode cX12_init 183 = .ok (.putfield 77, 3) := by decide +kernel
theorem dX12_init_186 : decode cX12_init 186 = .ok (.aload_n 0, 1) := by decide +kernel
theorem dX12_init_187 : decode cX12_init 187 = .ok (.sipush 2000, 3) := by decide +kernel
theorem dX12_init_190 : decode cX12_init 190 = .ok (.newarray .int, 2) := by decide +kernel
theorem dX12_init_192 : decode cX12_init 192 = .ok (.putfield 80, 3) := by decide +kernel
theorem dX12_init_195 : decode cX12_init 195 = .ok (.aload_n 0, 1) := by decide +kernel
theorem dX12_init_196 : decode cX12_init 196 = .ok (.sipush 2000, 3) := by decide +kernel
theorem dX12_init_199 : decode cX12_init 199 = .ok (.newarray .int, 2) := by decide +kernel
theorem dX12_init_201 : decode cX12_init 201 = .ok (.putfield 83, 3) := by decide +kernel
theorem dX12_init_204 : decode cX12_init 204 = .ok (.aload_n 0, 1) := by decide +kernel
theorem dX12_init_205 : decode cX12_init 205 = .ok (.sipush 2000, 3) := by decide +kernel
theorem dX12_init_208 : decode cX12_init 208 = .ok (.newarray .int, 2) := by decide +kernel
theorem dX12_init_210 : decode cX12_init 210 = .ok (.putfield 86, 3) := by decide +kernel
theorem dX12_init_213 : decode cX12_init 213 = .ok (.aload_n 0, 1) := by decide +kernel
theorem dX12_init_214 : decode cX12_init 214 = .ok (.sipush 12000, 3) := by decide +kernel
theorem dX12_init_217 : decode cX12_init 217 = .ok (.newarray .long, 2) := by decide +kernel
theorem dX12_init_219 : decode cX12_init 219 = .ok (.putfield 89, 3) := by decide +kernel
theorem dX12_init_222 : decode cX12_init 222 = .ok (.aload_n 0, 1) := by decide +kernel
theorem dX12_init_223 : decode cX12_init 223 = .ok (.sipush 256, 3) := by decide +kernel
theorem dX12_init_226 : decode cX12_init 226 = .ok (.newarray .int, 2) := by decide +kernel
theorem dX12_init_228 : decode cX12_init 228 = .ok (.putfield 92, 3) := by decide +kernel
theorem dX12_init_231 : decode cX12_init 231 = .ok (.aload_n 0, 1) := by decide +kernel
theorem dX12_init_232 : decode cX12_init 232 = .ok (.sipush 256, 3) := by decide +kernel
theorem dX12_init_235 : decode cX12_init 235 = .ok (.newarray .int, 2) := by decide +kernel
theorem dX12_init_237 : decode cX12_init 237 = .ok (.putfield 95, 3) := by decide +kernel
theorem dX12_init_240 : decode cX12_init 240 = .ok (.aload_n 0, 1) := by decide +kernel
theorem dX12_init_241 : decode cX12_init 241 = .ok (.iconst (-1), 1) := by decide +kernel
theorem dX12_init_242 : decode cX12_init 242 = .ok (.putfield 98, 3) := by decide +kernel
theorem dX12_init_245 : decode cX12_init 245 = .ok (.aload_n 0, 1) := by decide +kernel
theorem dX12_init_246 : decode cX12_init 246 = .ok (.iconst (-1), 1) := by decide +kernel
theorem dX12_init_247 : decode cX12_init 247 = .ok (.putfield 101, 3) := by decide +kernel
theorem dX12_init_250 : decode cX12_init 250 = .ok (.return_, 1) := by decide +kernel
theorem dX12_word_0 : decode cX12_word 0 = .ok (.iconst 3, 1) := by decide +kernel
theorem dX12_word_1 : decode cX12_word 1 = .ok (.istore_n 2, 1) := by decide +kernel
theorem dX12_word_2 : decode cX12_word 2 = .ok (.iload_n 2, 1) := by decide +kernel
theorem dX12_word_3 : decode cX12_word 3 = .ok (.ifCond .lt 35, 3) := by decide +kernel
theorem dX12_word_6 : decode cX12_word 6 = .ok (.aload_n 0, 1) := by decide +kernel
theorem dX12_word_7 : decode cX12_word 7 = .ok (.getfield 19, 3) := by decide +kernel
theorem dX12_word_10 : decode cX12_word 10 = .ok (.aload_n 0, 1) := by decide +kernel
theorem dX12_word_11 : decode cX12_word 11 = .ok (.getfield 104, 3) := by decide +kernel
theorem dX12_word_14 : decode cX12_word 14 = .ok (.iload_n 1, 1) := by decide +kernel
theorem dX12_word_15 : decode cX12_word 15 = .ok (.bipush 8, 2) := by decide +kernel
theorem dX12_word_17 : decode cX12_word 17 = .ok (.iload_n 2, 1) := by decide +kernel
theorem dX12_word_18 : decode cX12_word 18 = .ok (.imul, 1) := by decide +kernel
theorem dX12_word_19 : decode cX12_word 19 = .ok (.ishr, 1) := by decide +kernel
theorem dX12_word_20 : decode cX12_word 20 = .ok (.i2b, 1) := by decide +kernel
theorem dX12_word_21 : decode cX12_word 21 = .ok (.bastore, 1) := by decide +kernel
theorem dX12_word_22 : decode cX12_word 22 = .ok (.aload_n 0, 1) := by decide +kernel
theorem dX12_word_23 : decode cX12_word 23 = .ok (.dup, 1) := by decide +kernel
theorem dX12_word_24 : decode cX12_word 24 = .ok (.getfield 104, 3) := by decide +kernel
theorem dX12_word_27 : decode cX12_word 27 = .ok (.iconst 1, 1) := by decide +kernel
theorem dX12_word_28 : decode cX12_word 28 = .ok (.iadd, 1) := by decide +kernel
theorem dX12_word_29 : decode cX12_word 29 = .ok (.putfield 104, 3) := by decide +kernel
theorem dX12_word_32 : decode cX12_word 32 = .ok (.iinc 2 (-1), 3) := by decide +kernel
theorem dX12_word_35 : decode cX12_word 35 = .ok (.goto (-33), 3) := by decide +kernel
theorem dX12_word_38 : decode cX12_word 38 = .ok (.return_, 1) := by decide +kernel
theorem dX12_feed_0 : decode cX12_feed 0 = .ok (.aload_n 0, 1) := by decide +kernel
theorem dX12_feed_1 : decode cX12_feed 1 = .ok (.getfield 104, 3) := by decide +kernel
theorem dX12_feed_4 : decode cX12_feed 4 = .ok (.bipush 20, 2) := by decide +kernel
theorem dX12_feed_6 : decode cX12_feed 6 = .ok (.iadd, 1) := by decide +kernel
theorem dX12_feed_7 : decode cX12_feed 7 = .ok (.sipush 16000, 3) := by decide +kernel
theorem dX12_feed_10 : decode cX12_feed 10 = .ok (.if_icmp .gt 15, 3) := by decide +kernel
theorem dX12_feed_13 : decode cX12_feed 13 = .ok (.aload_n 0, 1) := by decide +kernel
theorem dX12_feed_14 : decode cX12_feed 14 = .ok (.getfield 107, 3) := by decide +kernel
theorem dX12_feed_17 : decode cX12_feed 17 = .ok (.bipush 20, 2) := by decide +kernel
theorem dX12_feed_19 : decode cX12_feed 19 = .ok (.iadd, 1) := by decide +kernel
theorem dX12_feed_20 : decode cX12_feed 20 = .ok (.ldc 110, 2) := by decide +kernel
theorem dX12_feed_22 : decode cX12_feed 22 = .ok (.if_icmp .le 5, 3) := by decide +kernel
theorem dX12_feed_25 : decode cX12_feed 25 = .ok (.iconst (-1), 1) := by decide +kernel
theorem dX12_feed_26 : decode cX12_feed 26 = .ok (.ireturn, 1) := by decide +kernel
theorem dX12_feed_27 : decode cX12_feed 27 = .ok (.aload_n 0, 1) := by decide +kernel
theorem dX12_feed_28 : decode cX12_feed 28 = .ok (.iload_n 1, 1) := by decide +kernel
theorem dX12_feed_29 : decode cX12_feed 29 = .ok (.invokevirtual 111, 3) := by decide +kernel
theorem dX12_feed_32 : decode cX12_feed 32 = .ok (.aload_n 0, 1) := by decide +kernel
theorem dX12_feed_33 : decode cX12_feed 33 = .ok (.iload_n 2, 1) := by decide +kernel
theorem dX12_feed_34 : decode cX12_feed 34 = .ok (.invokevirtual 111, 3) := by decide +kernel
theorem dX12_feed_37 : decode cX12_feed 37 = .ok (.aload_n 0, 1) := by decide +kernel
theorem dX12_feed_38 : decode cX12_feed 38 = .ok (.iload_n 3, 1) := by decide +kernel
theorem dX12_feed_39 : decode cX12_feed 39 = .ok (.invokevirtual 111, 3) := by decide +kernel
theorem dX12_feed_42 : decode cX12_feed 42 = .ok (.aload_n 0, 1) := by decide +kernel
theorem dX12_feed_43 : decode cX12_feed 43 = .ok (.iload 4, 2) := by decide +kernel
theorem dX12_feed_45 : decode cX12_feed 45 = .ok (.invokevirtual 111, 3) := by decide +kernel
theorem dX12_feed_48 : decode cX12_feed 48 = .ok (.aload_n 0, 1) := by decide +kernel
theorem dX12_feed_49 : decode cX12_feed 49 = .ok (.iload 5, 2) := by decide +kernel
theorem dX12_feed_51 : decode cX12_feed 51 = .ok (.invokevirtual 111, 3) := by decide +kernel
theorem dX12_feed_54 : decode cX12_feed 54 = .ok (.aload_n 0, 1) := by decide +kernel
theorem dX12_feed_55 : decode cX12_feed 55 = .ok (.dup, 1) := by decide +kernel
theorem dX12_feed_56 : decode cX12_feed 56 = .ok (.getfield 107, 3) := by decide +kernel
theorem dX12_feed_59 : decode cX12_feed 59 = .ok (.bipush 20, 2) := by decide +kernel
theorem dX12_feed_61 : decode cX12_feed 61 = .ok (.iadd, 1) := by decide +kernel
theorem dX12_feed_62 : decode cX12_feed 62 = .ok (.putfield 107, 3) := by decide +kernel
theorem dX12_feed_65 : decode cX12_feed 65 = .ok (.aload_n 0, 1) := by decide +kernel
theorem dX12_feed_66 : decode cX12_feed 66 = .ok (.getfield 104, 3) := by decide +kernel
theorem dX12_feed_69 : decode cX12_feed 69 = .ok (.ireturn, 1) := by decide +kernel
theorem dX12_end_0 : decode cX12_end 0 = .ok (.iload_n 1, 1) := by decide +kernel
theorem dX12_end_1 : decode cX12_end 1 = .ok (.ifCond .lt 11, 3) := by decide +kernel
theorem dX12_end_4 : decode cX12_end 4 = .ok (.iload_n 1, 1) := by decide +kernel
theorem dX12_end_5 : decode cX12_end 5 = .ok (.aload_n 0, 1) := by decide +kernel
theorem dX12_end_6 : decode cX12_end 6 = .ok (.getfield 104, 3) := by decide +kernel
theorem dX12_end_9 : decode cX12_end 9 = .ok (.if_icmp .le 5, 3) := by decide +kernel
theorem dX12_end_12 : decode cX12_end 12 = .ok (.iconst 0, 1) := by decide +kernel
theorem dX12_end_13 : decode cX12_end 13 = .ok (.ireturn, 1) := by decide +kernel
theorem dX12_end_14 : decode cX12_end 14 = .ok (.iconst 0, 1) := by decide +kernel
theorem dX12_end_15 : decode cX12_end 15 = .ok (.istore_n 2, 1) := by decide +kernel
theorem dX12_end_16 : decode cX12_end 16 = .ok (.iload_n 2, 1) := by decide +kernel
theorem dX12_end_17 : decode cX12_end 17 = .ok (.iload_n 1, 1) := by decide +kernel
theorem dX12_end_18 : decode cX12_end 18 = .ok (.if_icmp .ge 21, 3) := by decide +kernel
theorem dX12_end_21 : decode cX12_end 21 = .ok (.aload_n 0, 1) := by decide +kernel
theorem dX12_end_22 : decode cX12_end 22 = .ok (.getfield 23, 3) := by decide +kernel
theorem dX12_end_25 : decode cX12_end 25 = .ok (.iload_n 2, 1) := by decide +kernel
theorem dX12_end_26 : decode cX12_end 26 = .ok (.aload_n 0, 1) := by decide +kernel
theorem dX12_end_27 : decode cX12_end 27 = .ok (.getfield 19, 3) := by decide +kernel
theorem dX12_end_30 : decode cX12_end 30 = .ok (.iload_n 2, 1) := by decide +kernel
theorem dX12_end_31 : decode cX12_end 31 = .ok (.baload, 1) := by decide +kernel
theorem dX12_end_32 : decode cX12_end 32 = .ok (.bastore, 1) := by decide +kernel
theorem dX12_end_33 : decode cX12_end 33 = .ok (.iinc 2 1, 3) := by decide +kernel
theorem dX12_end_36 : decode cX12_end 36 = .ok (.goto (-20), 3) := by decide +kernel
theorem dX12_end_39 : decode cX12_end 39 = .ok (.aload_n 0, 1) := by decide +kernel
theorem dX12_end_40 : decode cX12_end 40 = .ok (.iload_n 1, 1) := by decide +kernel
theorem dX12_end_41 : decode cX12_end 41 = .ok (.putfield 115, 3) := by decide +kernel
theorem dX12_end_44 : decode cX12_end 44 = .ok (.aload_n 0, 1) := by decide +kernel
theorem dX12_end_45 : decode cX12_end 45 = .ok (.iconst 0, 1) := by decide +kernel
theorem dX12_end_46 : decode cX12_end 46 = .ok (.putfield 104, 3) := by decide +kernel
theorem dX12_end_49 : decode cX12_end 49 = .ok (.iconst 1, 1) := by decide +kernel
theorem dX12_end_50 : decode cX12_end 50 = .ok (.ireturn, 1) := by decide +kernel
theorem dX12_cut_0 : decode cX12_cut 0 = .ok (.aload_n 0, 1) := by decide +kernel
theorem dX12_cut_1 : decode cX12_cut 1 = .ok (.iconst 0, 1) := by decide +kernel
theorem dX12_cut_2 : decode cX12_cut 2 = .ok (.putfield 118, 3) := by decide +kernel
theorem dX12_cut_5 : decode cX12_cut 5 = .ok (.iconst 0, 1) := by decide +kernel
theorem dX12_cut_6 : decode cX12_cut 6 = .ok (.istore_n 1, 1) := by decide +kernel
theorem dX12_cut_7 : decode cX12_cut 7 = .ok (.iconst 0, 1) := by decide +kernel
theorem dX12_cut_8 : decode cX12_cut 8 = .ok (.istore_n 2, 1) := by decide +kernel
theorem dX12_cut_9 : decode cX12_cut 9 = .ok (.iconst 0, 1) := by decide +kernel
theorem dX12_cut_10 : decode cX12_cut 10 = .ok (.istore_n 3, 1) := by decide +kernel
theorem dX12_cut_11 : decode cX12_cut 11 = .ok (.iload_n 3, 1) := by decide +kernel
theorem dX12_cut_12 : decode cX12_cut 12 = .ok (.aload_n 0, 1) := by decide +kernel
theorem dX12_cut_13 : decode cX12_cut 13 = .ok (.getfield 115, 3) := by decide +kernel
theorem dX12_cut_16 : decode cX12_cut 16 = .ok (.if_icmp .ge 230, 3) := by decide +kernel
theorem dX12_cut_19 : decode cX12_cut 19 = .ok (.aload_n 0, 1) := by decide +kernel
theorem dX12_cut_20 : decode cX12_cut 20 = .ok (.getfield 23, 3) := by decide +kernel
theorem dX12_cut_23 : decode cX12_cut 23 = .ok (.iload_n 3, 1) := by decide +kernel
theorem dX12_cut_24 : decode cX12_cut 24 = .ok (.baload, 1) := by decide +kernel
theorem dX12_cut_25 : decode cX12_cut 25 = .ok (.istore 4, 2) := by decide +kernel
theorem dX12_cut_27 : decode cX12_cut 27 = .ok (.iload 4, 2) := by decide +kernel
theorem dX12_cut_29 : decode cX12_cut 29 = .ok (.bipush 9, 2) := by decide +kernel
theorem dX12_cut_31 : decode cX12_cut 31 = .ok (.if_icmp .eq 33, 3) := by decide +kernel
theorem dX12_cut_34 : decode cX12_cut 34 = .ok (.iload 4, 2) := by decide +kernel
theorem dX12_cut_36 : decode cX12_cut 36 = .ok (.bipush 10, 2) := by decide +kernel
theorem dX12_cut_38 : decode cX12_cut 38 = .ok (.if_icmp .eq 26, 3) := by decide +kernel
theorem dX12_cut_41 : decode cX12_cut 41 = .ok (.iload 4, 2) := by decide +kernel
theorem dX12_cut_43 : decode cX12_cut 43 = .ok (.bipush 13, 2) := by decide +kernel
theorem dX12_cut_45 : decode cX12_cut 45 = .ok (.if_icmp .eq 19, 3) := by decide +kernel
theorem dX12_cut_48 : decode cX12_cut 48 = .ok (.iload 4, 2) := by decide +kernel
theorem dX12_cut_50 : decode cX12_cut 50 = .ok (.bipush 32, 2) := by decide +kernel
theorem dX12_cut_52 : decode cX12_cut 52 = .ok (.if_icmp .lt 10, 3) := by decide +kernel
theorem dX12_cut_55 : decode cX12_cut 55 = .ok (.iload 4, 2) := by decide +kernel
theorem dX12_cut_57 : decode cX12_cut 57 = .ok (.bipush 126, 2) := by decide +kernel
theorem dX12_cut_59 : decode cX12_cut 59 = .ok (.if_icmp .le 5, 3) := by decide +kernel
theorem dX12_cut_62 : decode cX12_cut 62 = .ok (.iconst 0, 1) := by decide +kernel
theorem dX12_cut_63 : decode cX12_cut 63 = .ok (.ireturn, 1) := by decide +kernel
theorem dX12_cut_64 : decode cX12_cut 64 = .ok (.iload 4, 2) := by decide +kernel
theorem dX12_cut_66 : decode cX12_cut 66 = .ok (.bipush 10, 2) := by decide +kernel
theorem dX12_cut_68 : decode cX12_cut 68 = .ok (.if_icmp .ne 8, 3) := by decide +kernel
theorem dX12_cut_71 : decode cX12_cut 71 = .ok (.iconst 0, 1) := by decide +kernel
theorem dX12_cut_72 : decode cX12_cut 72 = .ok (.istore_n 2, 1) := by decide +kernel
theorem dX12_cut_73 : decode cX12_cut 73 = .ok (.goto 12, 3) := by decide +kernel
theorem dX12_cut_76 : decode cX12_cut 76 = .ok (.iload 4, 2) := by decide +kernel
theorem dX12_cut_78 : decode cX12_cut 78 = .ok (.bipush 59, 2) := by decide +kernel
theorem dX12_cut_80 : decode cX12_cut 80 = .ok (.if_icmp .ne 5, 3) := by decide +kernel
theorem dX12_cut_83 : decode cX12_cut 83 = .ok (.iconst 1, 1) := by decide +kernel
theorem dX12_cut_84 : decode cX12_cut 84 = .ok (.istore_n 2, 1) := by decide +kernel
theorem dX12_cut_85 : decode cX12_cut 85 = .ok (.iload_n 2, 1) := by decide +kernel
theorem dX12_cut_86 : decode cX12_cut 86 = .ok (.ifCond .ne 31, 3) := by decide +kernel
theorem dX12_cut_89 : decode cX12_cut 89 = .ok (.iload 4, 2) := by decide +kernel
theorem dX12_cut_91 : decode cX12_cut 91 = .ok (.bipush 9, 2) := by decide +kernel
theorem dX12_cut_93 : decode cX12_cut 93 = .ok (.if_icmp .eq 24, 3) := by decide +kernel
theorem dX12_cut_96 : decode cX12_cut 96 = .ok (.iload 4, 2) := by decide +kernel
theorem dX12_cut_98 : decode cX12_cut 98 = .ok (.bipush 10, 2) := by decide +kernel
theorem dX12_cut_100 : decode cX12_cut 100 = .ok (.if_icmp .eq 17, 3) := by decide +kernel
theorem dX12_cut_103 : decode cX12_cut 103 = .ok (.iload 4, 2) := by decide +kernel
theorem dX12_cut_105 : decode cX12_cut 105 = .ok (.bipush 13, 2) := by decide +kernel
theorem dX12_cut_107 : decode cX12_cut 107 = .ok (.if_icmp .eq 10, 3) := by decide +kernel
theorem dX12_cut_110 : decode cX12_cut 110 = .ok (.iload 4, 2) := by decide +kernel
theorem dX12_cut_112 : decode cX12_cut 112 = .ok (.bipush 32, 2) := by decide +kernel
theorem dX12_cut_114 : decode cX12_cut 114 = .ok (.if_icmp .ne 7, 3) := by decide +kernel
theorem dX12_cut_117 : decode cX12_cut 117 = .ok (.iconst 1, 1) := by decide +kernel
theorem dX12_cut_118 : decode cX12_cut 118 = .ok (.goto 4, 3) := by decide +kernel
theorem dX12_cut_121 : decode cX12_cut 121 = .ok (.iconst 0, 1) := by decide +kernel
theorem dX12_cut_122 : decode cX12_cut 122 = .ok (.istore 5, 2) := by decide +kernel
theorem dX12_cut_124 : decode cX12_cut 124 = .ok (.iload 5, 2) := by decide +kernel
theorem dX12_cut_126 : decode cX12_cut 126 = .ok (.ifCond .ne 42, 3) := by decide +kernel
theorem dX12_cut_129 : decode cX12_cut 129 = .ok (.iload 4, 2) := by decide +kernel
theorem dX12_cut_131 : decode cX12_cut 131 = .ok (.bipush 40, 2) := by decide +kernel
theorem dX12_cut_133 : decode cX12_cut 133 = .ok (.if_icmp .eq 31, 3) := by decide +kernel
theorem dX12_cut_136 : decode cX12_cut 136 = .ok (.iload 4, 2) := by decide +kernel
theorem dX12_cut_138 : decode cX12_cut 138 = .ok (.bipush 41, 2) := by decide +kernel
theorem dX12_cut_140 : decode cX12_cut 140 = .ok (.if_icmp .eq 24, 3) := by decide +kernel
theorem dX12_cut_143 : decode cX12_cut 143 = .ok (.iload 4, 2) := by decide +kernel
theorem dX12_cut_145 : decode cX12_cut 145 = .ok (.bipush 123, 2) := by decide +kernel
theorem dX12_cut_147 : decode cX12_cut 147 = .ok (.if_icmp .eq 17, 3) := by decide +kernel
theorem dX12_cut_150 : decode cX12_cut 150 = .ok (.iload 4, 2) := by decide +kernel
theorem dX12_cut_152 : decode cX12_cut 152 = .ok (.bipush 125, 2) := by decide +kernel
theorem dX12_cut_154 : decode cX12_cut 154 = .ok (.if_icmp .eq 10, 3) := by decide +kernel
theorem dX12_cut_157 : decode cX12_cut 157 = .ok (.iload 4, 2) := by decide +kernel
theorem dX12_cut_159 : decode cX12_cut 159 = .ok (.bipush 58, 2) := by decide +kernel
theorem dX12_cut_161 : decode cX12_cut 161 = .ok (.if_icmp .ne 7, 3) := by decide +kernel
theorem dX12_cut_164 : decode cX12_cut 164 = .ok (.iconst 1, 1) := by decide +kernel
theorem dX12_cut_165 : decode cX12_cut 165 = .ok (.goto 4, 3) := by decide +kernel
theorem dX12_cut_168 : decode cX12_cut 168 = .ok (.iconst 0, 1) := by decide +kernel
theorem dX12_cut_169 : decode cX12_cut 169 = .ok (.istore 6, 2) := by decide +kernel
theorem dX12_cut_171 : decode cX12_cut 171 = .ok (.iload 5, 2) := by decide +kernel
theorem dX12_cut_173 : decode cX12_cut 173 = .ok (.ifCond .ne 8, 3) := by decide +kernel
theorem dX12_cut_176 : decode cX12_cut 176 = .ok (.iload 6, 2) := by decide +kernel
theorem dX12_cut_178 : decode cX12_cut 178 = .ok (.ifCond .eq 5, 3) := by decide +kernel
theorem dX12_cut_181 : decode cX12_cut 181 = .ok (.iconst 0, 1) := by decide +kernel
theorem dX12_cut_182 : decode cX12_cut 182 = .ok (.istore_n 1, 1) := by decide +kernel
theorem dX12_cut_183 : decode cX12_cut 183 = .ok (.iload 5, 2) := by decide +kernel
theorem dX12_cut_185 : decode cX12_cut 185 = .ok (.ifCond .eq 6, 3) := by decide +kernel
theorem dX12_cut_188 : decode cX12_cut 188 = .ok (.goto 52, 3) := by decide +kernel
theorem dX12_cut_191 : decode cX12_cut 191 = .ok (.iload_n 1, 1) := by decide +kernel
theorem dX12_cut_192 : decode cX12_cut 192 = .ok (.ifCond .ne 23, 3) := by decide +kernel
theorem dX12_cut_195 : decode cX12_cut 195 = .ok (.aload_n 0, 1) := by decide +kernel
theorem dX12_cut_196 : decode cX12_cut 196 = .ok (.getfield 26, 3) := by decide +kernel
theorem dX12_cut_199 : decode cX12_cut 199 = .ok (.aload_n 0, 1) := by decide +kernel
theorem dX12_cut_200 : decode cX12_cut 200 = .ok (.getfield 118, 3) := by decide +kernel
theorem dX12_cut_203 : decode cX12_cut 203 = .ok (.iload_n 3, 1) := by decide +kernel
theorem dX12_cut_204 : decode cX12_cut 204 = .ok (.iastore, 1) := by decide +kernel
theorem dX12_cut_205 : decode cX12_cut 205 = .ok (.aload_n 0, 1) := by decide +kernel
theorem dX12_cut_206 : decode cX12_cut 206 = .ok (.dup, 1) := by decide +kernel
theorem dX12_cut_207 : decode cX12_cut 207 = .ok (.getfield 118, 3) := by decide +kernel
theorem dX12_cut_210 : decode cX12_cut 210 = .ok (.iconst 1, 1) := by decide +kernel
theorem dX12_cut_211 : decode cX12_cut 211 = .ok (.iadd, 1) := by decide +kernel
theorem dX12_cut_212 : decode cX12_cut 212 = .ok (.putfield 118, 3) := by decide +kernel
theorem dX12_cut_215 : decode cX12_cut 215 = .ok (.aload_n 0, 1) := by decide +kernel
theorem dX12_cut_216 : decode cX12_cut 216 = .ok (.getfield 30, 3) := by decide +kernel
theorem dX12_cut_219 : decode cX12_cut 219 = .ok (.aload_n 0, 1) := by decide +kernel
theorem dX12_cut_220 : decode cX12_cut 220 = .ok (.getfield 118, 3) := by decide +kernel
theorem dX12_cut_223 : decode cX12_cut 223 = .ok (.iconst 1, 1) := by decide +kernel
theorem dX12_cut_224 : decode cX12_cut 224 = .ok (.isub, 1) := by decide +kernel
theorem dX12_cut_225 : decode cX12_cut 225 = .ok (.iload_n 3, 1) := by decide +kernel
theorem dX12_cut_226 : decode cX12_cut 226 = .ok (.iconst 1, 1) := by decide +kernel
theorem dX12_cut_227 : decode cX12_cut 227 = .ok (.iadd, 1) := by decide +kernel
theorem dX12_cut_228 : decode cX12_cut 228 = .ok (.iastore, 1) := by decide +kernel
theorem dX12_cut_229 : decode cX12_cut 229 = .ok (.iload 6, 2) := by decide +kernel
theorem dX12_cut_231 : decode cX12_cut 231 = .ok (.ifCond .ne 7, 3) := by decide +kernel
theorem dX12_cut_234 : decode cX12_cut 234 = .ok (.iconst 1, 1) := by decide +kernel
theorem dX12_cut_235 : decode cX12_cut 235 = .ok (.goto 4, 3) := by decide +kernel
theorem dX12_cut_238 : decode cX12_cut 238 = .ok (.iconst 0, 1) := by decide +kernel
theorem dX12_cut_239 : decode cX12_cut 239 = .ok (.istore_n 1, 1) := by decide +kernel
theorem dX12_cut_240 : decode cX12_cut 240 = .ok (.iinc 3 1, 3) := by decide +kernel
theorem dX12_cut_243 : decode cX12_cut 243 = .ok (.goto (-232), 3) := by decide +kernel
theorem dX12_cut_246 : decode cX12_cut 246 = .ok (.iconst 1, 1) := by decide +kernel
theorem dX12_cut_247 : decode cX12_cut 247 = .ok (.ireturn, 1) := by decide +kernel
theorem dX12_is_0 : decode cX12_is 0 = .ok (.iload_n 1, 1) := by decide +kernel
theorem dX12_is_1 : decode cX12_is 1 = .ok (.aload_n 0, 1) := by decide +kernel
theorem dX12_is_2 : decode cX12_is 2 = .ok (.getfield 118, 3) := by decide +kernel
theorem dX12_is_5 : decode cX12_is 5 = .ok (.if_icmp .ge 23, 3) := by decide +kernel
theorem dX12_is_8 : decode cX12_is 8 = .ok (.aload_n 0, 1) := by decide +kernel
theorem dX12_is_9 : decode cX12_is 9 = .ok (.getfield 30, 3) := by decide +kernel
theorem dX12_is_12 : decode cX12_is 12 = .ok (.iload_n 1, 1) := by decide +kernel
theorem dX12_is_13 : decode cX12_is 13 = .ok (.iaload, 1) := by decide +kernel
theorem dX12_is_14 : decode cX12_is 14 = .ok (.aload_n 0, 1) := by decide +kernel
theorem dX12_is_15 : decode cX12_is 15 = .ok (.getfield 26, 3) := by decide +kernel
theorem dX12_is_18 : decode cX12_is 18 = .ok (.iload_n 1, 1) := by decide +kernel
theorem dX12_is_19 : decode cX12_is 19 = .ok (.iaload, 1) := by decide +kernel
theorem dX12_is_20 : decode cX12_is 20 = .ok (.isub, 1) := by decide +kernel
theorem dX12_is_21 : decode cX12_is 21 = .ok (.aload_n 2, 1) := by decide +kernel
theorem dX12_is_22 : decode cX12_is 22 = .ok (.invokevirtual 121, 3) := by decide +kernel
theorem dX12_is_25 : decode cX12_is 25 = .ok (.if_icmp .eq 5, 3) := by decide +kernel
theorem dX12_is_28 : decode cX12_is 28 = .ok (.iconst 0, 1) := by decide +kernel
theorem dX12_is_29 : decode cX12_is 29 = .ok (.ireturn, 1) := by decide +kernel
theorem dX12_is_30 : decode cX12_is 30 = .ok (.iconst 0, 1) := by decide +kernel
theorem dX12_is_31 : decode cX12_is 31 = .ok (.istore_n 3, 1) := by decide +kernel
theorem dX12_is_32 : decode cX12_is 32 = .ok (.iload_n 3, 1) := by decide +kernel
theorem dX12_is_33 : decode cX12_is 33 = .ok (.aload_n 2, 1) := by decide +kernel
theorem dX12_is_34 : decode cX12_is 34 = .ok (.invokevirtual 121, 3) := by decide +kernel
theorem dX12_is_37 : decode cX12_is 37 = .ok (.if_icmp .ge 32, 3) := by decide +kernel
theorem dX12_is_40 : decode cX12_is 40 = .ok (.aload_n 0, 1) := by decide +kernel
theorem dX12_is_41 : decode cX12_is 41 = .ok (.getfield 23, 3) := by decide +kernel
theorem dX12_is_44 : decode cX12_is 44 = .ok (.aload_n 0, 1) := by decide +kernel
theorem dX12_is_45 : decode cX12_is 45 = .ok (.getfield 26, 3) := by decide +kernel
theorem dX12_is_48 : decode cX12_is 48 = .ok (.iload_n 1, 1) := by decide +kernel
theorem dX12_is_49 : decode cX12_is 49 = .ok (.iaload, 1) := by decide +kernel
theorem dX12_is_50 : decode cX12_is 50 = .ok (.iload_n 3, 1) := by decide +kernel
theorem dX12_is_51 : decode cX12_is 51 = .ok (.iadd, 1) := by decide +kernel
theorem dX12_is_52 : decode cX12_is 52 = .ok (.baload, 1) := by decide +kernel
theorem dX12_is_53 : decode cX12_is 53 = .ok (.aload_n 2, 1) := by decide +kernel
theorem dX12_is_54 : decode cX12_is 54 = .ok (.iload_n 3, 1) := by decide +kernel
theorem dX12_is_55 : decode cX12_is 55 = .ok (.invokevirtual 127, 3) := by decide +kernel
theorem dX12_is_58 : decode cX12_is 58 = .ok (.if_icmp .eq 5, 3) := by decide +kernel
theorem dX12_is_61 : decode cX12_is 61 = .ok (.iconst 0, 1) := by decide +kernel
theorem dX12_is_62 : decode cX12_is 62 = .ok (.ireturn, 1) := by decide +kernel
theorem dX12_is_63 : decode cX12_is 63 = .ok (.iinc 3 1, 3) := by decide +kernel
theorem dX12_is_66 : decode cX12_is 66 = .ok (.goto (-34), 3) := by decide +kernel
theorem dX12_is_69 : decode cX12_is 69 = .ok (.iconst 1, 1) := by decide +kernel
theorem dX12_is_70 : decode cX12_is 70 = .ok (.ireturn, 1) := by decide +kernel
theorem dX12_isSame_0 : decode cX12_isSame 0 = .ok (.iload_n 2, 1) := by decide +kernel
theorem dX12_isSame_1 : decode cX12_isSame 1 = .ok (.iload_n 1, 1) := by decide +kernel
theorem dX12_isSame_2 : decode cX12_isSame 2 = .ok (.isub, 1) := by decide +kernel
theorem dX12_isSame_3 : decode cX12_isSame 3 = .ok (.iload 4, 2) := by decide +kernel
theorem dX12_isSame_5 : decode cX12_isSame 5 = .ok (.iload_n 3, 1) := by decide +kernel
theorem dX12_isSame_6 : decode cX12_isSame 6 = .ok (.isub, 1) := by decide +kernel
theorem dX12_isSame_7 : decode cX12_isSame 7 = .ok (.if_icmp .eq 5, 3) := by decide +kernel
theorem dX12_isSame_10 : decode cX12_isSame 10 = .ok (.iconst 0, 1) := by decide +kernel
theorem dX12_isSame_11 : decode cX12_isSame 11 = .ok (.ireturn, 1) := by decide +kernel
theorem dX12_isSame_12 : decode cX12_isSame 12 = .ok (.iconst 0, 1) := by decide +kernel
theorem dX12_isSame_13 : decode cX12_isSame 13 = .ok (.istore 5, 2) := by decide +kernel
theorem dX12_isSame_15 : decode cX12_isSame 15 = .ok (.iload 5, 2) := by decide +kernel
theorem dX12_isSame_17 : decode cX12_isSame 17 = .ok (.iload_n 2, 1) := by decide +kernel
theorem dX12_isSame_18 : decode cX12_isSame 18 = .ok (.iload_n 1, 1) := by decide +kernel
theorem dX12_isSame_19 : decode cX12_isSame 19 = .ok (.isub, 1) := by decide +kernel
theorem dX12_isSame_20 : decode cX12_isSame 20 = .ok (.if_icmp .ge 32, 3) := by decide +kernel
theorem dX12_isSame_23 : decode cX12_isSame 23 = .ok (.aload_n 0, 1) := by decide +kernel
theorem dX12_isSame_24 : decode cX12_isSame 24 = .ok (.getfield 23, 3) := by decide +kernel
theorem dX12_isSame_27 : decode cX12_isSame 27 = .ok (.iload_n 1, 1) := by decide +kernel
theorem dX12_isSame_28 : decode cX12_isSame 28 = .ok (.iload 5, 2) := by decide +kernel
theorem dX12_isSame_30 : decode cX12_isSame 30 = .ok (.iadd, 1) := by decide +kernel
theorem dX12_isSame_31 : decode cX12_isSame 31 = .ok (.baload, 1) := by decide +kernel
theorem dX12_isSame_32 : decode cX12_isSame 32 = .ok (.aload_n 0, 1) := by decide +kernel
theorem dX12_isSame_33 : decode cX12_isSame 33 = .ok (.getfield 23, 3) := by decide +kernel
theorem dX12_isSame_36 : decode cX12_isSame 36 = .ok (.iload_n 3, 1) := by decide +kernel
theorem dX12_isSame_37 : decode cX12_isSame 37 = .ok (.iload 5, 2) := by decide +kernel
theorem dX12_isSame_39 : decode cX12_isSame 39 = .ok (.iadd, 1) := by decide +kernel
theorem dX12_isSame_40 : decode cX12_isSame 40 = .ok (.baload, 1) := by decide +kernel
theorem dX12_isSame_41 : decode cX12_isSame 41 = .ok (.if_icmp .eq 5, 3) := by decide +kernel
theorem dX12_isSame_44 : decode cX12_isSame 44 = .ok (.iconst 0, 1) := by decide +kernel
theorem dX12_isSame_45 : decode cX12_isSame 45 = .ok (.ireturn, 1) := by decide +kernel
theorem dX12_isSame_46 : decode cX12_isSame 46 = .ok (.iinc 5 1, 3) := by decide +kernel
theorem dX12_isSame_49 : decode cX12_isSame 49 = .ok (.goto (-34), 3) := by decide +kernel
theorem dX12_isSame_52 : decode cX12_isSame 52 = .ok (.iconst 1, 1) := by decide +kernel
theorem dX12_isSame_53 : decode cX12_isSame 53 = .ok (.ireturn, 1) := by decide +kernel
theorem dX12_isSameToken_0 : decode cX12_isSameToken 0 = .ok (.aload_n 0, 1) := by decide +kernel
theorem dX12_isSameToken_1 : decode cX12_isSameToken 1 = .ok (.aload_n 0, 1) := by decide +kernel
theorem dX12_isSameToken_2 : decode cX12_isSameToken 2 = .ok (.getfield 26, 3) := by decide +kernel
theorem dX12_isSameToken_5 : decode cX12_isSameToken 5 = .ok (.iload_n 1, 1) := by decide +kernel
theorem dX12_isSameToken_6 : decode cX12_isSameToken 6 = .ok (.iaload, 1) := by decide +kernel
theorem dX12_isSameToken_7 : decode cX12_isSameToken 7 = .ok (.aload_n 0, 1) := by decide +kernel
theorem dX12_isSameToken_8 : decode cX12_isSameToken 8 = .ok (.getfield 30, 3) := by decide +kernel
theorem dX12_isSameToken_11 : decode cX12_isSameToken 11 = .ok (.iload_n 1, 1) := by decide +kernel
theorem dX12_isSameToken_12 : decode cX12_isSameToken 12 = .ok (.iaload, 1) := by decide +kernel
theorem dX12_isSameToken_13 : decode cX12_isSameToken 13 = .ok (.aload_n 0, 1) := by decide +kernel
theorem dX12_isSameToken_14 : decode cX12_isSameToken 14 = .ok (.getfield 26, 3) := by decide +kernel
theorem dX12_isSameToken_17 : decode cX12_isSameToken 17 = .ok (.iload_n 2, 1) := by decide +kernel
theorem dX12_isSameToken_18 : decode cX12_isSameToken 18 = .ok (.iaload, 1) := by decide +kernel
theorem dX12_isSameToken_19 : decode cX12_isSameToken 19 = .ok (.aload_n 0, 1) := by decide +kernel
theorem dX12_isSameToken_20 : decode cX12_isSameToken 20 = .ok (.getfield 30, 3) := by decide +kernel
theorem dX12_isSameToken_23 : decode cX12_isSameToken 23 = .ok (.iload_n 2, 1) := by decide +kernel
theorem dX12_isSameToken_24 : decode cX12_isSameToken 24 = .ok (.iaload, 1) := by decide +kernel
theorem dX12_isSameToken_25 : decode cX12_isSameToken 25 = .ok (.invokevirtual 131, 3) := by decide +kernel
theorem dX12_isSameToken_28 : decode cX12_isSameToken 28 = .ok (.ireturn, 1) := by decide +kernel
theorem dX12_among_0 : decode cX12_among 0 = .ok (.iconst 0, 1) := by decide +kernel
theorem dX12_among_1 : decode cX12_among 1 = .ok (.istore 4, 2) := by decide +kernel
theorem dX12_among_3 : decode cX12_among 3 = .ok (.iconst 1, 1) := by decide +kernel
theorem dX12_among_4 : decode cX12_among 4 = .ok (.istore 5, 2) := by decide +kernel
theorem dX12_among_6 : decode cX12_among 6 = .ok (.iload 5, 2) := by decide +kernel
theorem dX12_among_8 : decode cX12_among 8 = .ok (.aload_n 3, 1) := by decide +kernel
theorem dX12_among_9 : decode cX12_among 9 = .ok (.invokevirtual 121, 3) := by decide +kernel
theorem dX12_among_12 : decode cX12_among 12 = .ok (.if_icmp .ge 112, 3) := by decide +kernel
theorem dX12_among_15 : decode cX12_among 15 = .ok (.iload 5, 2) := by decide +kernel
theorem dX12_among_17 : decode cX12_among 17 = .ok (.istore 6, 2) := by decide +kernel
theorem dX12_among_19 : decode cX12_among 19 = .ok (.aload_n 3, 1) := by decide +kernel
theorem dX12_among_20 : decode cX12_among 20 = .ok (.iload 6, 2) := by decide +kernel
theorem dX12_among_22 : decode cX12_among 22 = .ok (.invokevirtual 127, 3) := by decide +kernel
theorem dX12_among_25 : decode cX12_among 25 = .ok (.bipush 32, 2) := by decide +kernel
theorem dX12_among_27 : decode cX12_among 27 = .ok (.if_icmp .eq 9, 3) := by decide +kernel
theorem dX12_among_30 : decode cX12_among 30 = .ok (.iinc 6 1, 3) := by decide +kernel
theorem dX12_among_33 : decode cX12_among 33 = .ok (.goto (-14), 3) := by decide +kernel
theorem dX12_among_36 : decode cX12_among 36 = .ok (.iload 6, 2) := by decide +kernel
theorem dX12_among_38 : decode cX12_among 38 = .ok (.iload 5, 2) := by decide +kernel
theorem dX12_among_40 : decode cX12_among 40 = .ok (.isub, 1) := by decide +kernel
theorem dX12_among_41 : decode cX12_among 41 = .ok (.iload_n 2, 1) := by decide +kernel
theorem dX12_among_42 : decode cX12_among 42 = .ok (.iload_n 1, 1) := by decide +kernel
theorem dX12_among_43 : decode cX12_among 43 = .ok (.isub, 1) := by decide +kernel
theorem dX12_among_44 : decode cX12_among 44 = .ok (.if_icmp .ne 7, 3) := by decide +kernel
theorem dX12_among_47 : decode cX12_among 47 = .ok (.iconst 1, 1) := by decide +kernel
theorem dX12_among_48 : decode cX12_among 48 = .ok (.goto 4, 3) := by decide +kernel
theorem dX12_among_51 : decode cX12_among 51 = .ok (.iconst 0, 1) := by decide +kernel
theorem dX12_among_52 : decode cX12_among 52 = .ok (.istore 7, 2) := by decide +kernel
theorem dX12_among_54 : decode cX12_among 54 = .ok (.iconst 0, 1) := by decide +kernel
theorem dX12_among_55 : decode cX12_among 55 = .ok (.istore 8, 2) := by decide +kernel
theorem dX12_among_57 : decode cX12_among 57 = .ok (.iload 7, 2) := by decide +kernel
theorem dX12_among_59 : decode cX12_among 59 = .ok (.ifCond .eq 45, 3) := by decide +kernel
theorem dX12_among_62 : decode cX12_among 62 = .ok (.iload 8, 2) := by decide +kernel
theorem dX12_among_64 : decode cX12_among 64 = .ok (.iload_n 2, 1) := by decide +kernel
theorem dX12_among_65 : decode cX12_among 65 = .ok (.iload_n 1, 1) := by decide +kernel
theorem dX12_among_66 : decode cX12_among 66 = .ok (.isub, 1) := by decide +kernel
theorem dX12_among_67 : decode cX12_among 67 = .ok (.if_icmp .ge 37, 3) := by decide +kernel
theorem dX12_among_70 : decode cX12_among 70 = .ok (.aload_n 0, 1) := by decide +kernel
theorem dX12_among_71 : decode cX12_among 71 = .ok (.getfield 23, 3) := by decide +kernel
theorem dX12_among_74 : decode cX12_among 74 = .ok (.iload_n 1, 1) := by decide +kernel
theorem dX12_among_75 : decode cX12_among 75 = .ok (.iload 8, 2) := by decide +kernel
theorem dX12_among_77 : decode cX12_among 77 = .ok (.iadd, 1) := by decide +kernel
theorem dX12_among_78 : decode cX12_among 78 = .ok (.baload, 1) := by decide +kernel
theorem dX12_among_79 : decode cX12_among 79 = .ok (.aload_n 3, 1) := by decide +kernel
theorem dX12_among_80 : decode cX12_among 80 = .ok (.iload 5, 2) := by decide +kernel
theorem dX12_among_82 : decode cX12_among 82 = .ok (.iload 8, 2) := by decide +kernel
theorem dX12_among_84 : decode cX12_among 84 = .ok (.iadd, 1) := by decide +kernel
theorem dX12_among_85 : decode cX12_among 85 = .ok (.invokevirtual 127, 3) := by decide +kernel
theorem dX12_among_88 : decode cX12_among 88 = .ok (.if_icmp .ne 7, 3) := by decide +kernel
theorem dX12_among_91 : decode cX12_among 91 = .ok (.iconst 1, 1) := by decide +kernel
theorem dX12_among_92 : decode cX12_among 92 = .ok (.goto 4, 3) := by decide +kernel
theorem dX12_among_95 : decode cX12_among 95 = .ok (.iconst 0, 1) := by decide +kernel
theorem dX12_among_96 : decode cX12_among 96 = .ok (.istore 7, 2) := by decide +kernel
theorem dX12_among_98 : decode cX12_among 98 = .ok (.iinc 8 1, 3) := by decide +kernel
theorem dX12_among_101 : decode cX12_among 101 = .ok (.goto (-44), 3) := by decide +kernel
theorem dX12_among_104 : decode cX12_among 104 = .ok (.iload 7, 2) := by decide +kernel
theorem dX12_among_106 : decode cX12_among 106 = .ok (.ifCond .eq 6, 3) := by decide +kernel
theorem dX12_among_109 : decode cX12_among 109 = .ok (.iload 4, 2) := by decide +kernel
theorem dX12_among_111 : decode cX12_among 111 = .ok (.ireturn, 1) := by decide +kernel
theorem dX12_among_112 : decode cX12_among 112 = .ok (.iinc 4 1, 3) := by decide +kernel
theorem dX12_among_115 : decode cX12_among 115 = .ok (.iload 6, 2) := by decide +kernel
theorem dX12_among_117 : decode cX12_among 117 = .ok (.iconst 1, 1) := by decide +kernel
theorem dX12_among_118 : decode cX12_among 118 = .ok (.iadd, 1) := by decide +kernel
theorem dX12_among_119 : decode cX12_among 119 = .ok (.istore 5, 2) := by decide +kernel
theorem dX12_among_121 : decode cX12_among 121 = .ok (.goto (-115), 3) := by decide +kernel
theorem dX12_among_124 : decode cX12_among 124 = .ok (.iconst (-1), 1) := by decide +kernel
theorem dX12_among_125 : decode cX12_among 125 = .ok (.ireturn, 1) := by decide +kernel
theorem dX12_isName_0 : decode cX12_isName 0 = .ok (.iload_n 1, 1) := by decide +kernel
theorem dX12_isName_1 : decode cX12_isName 1 = .ok (.iload_n 2, 1) := by decide +kernel
theorem dX12_isName_2 : decode cX12_isName 2 = .ok (.if_icmp .ge 32, 3) := by decide +kernel
theorem dX12_isName_5 : decode cX12_isName 5 = .ok (.iload_n 2, 1) := by decide +kernel
theorem dX12_isName_6 : decode cX12_isName 6 = .ok (.iload_n 1, 1) := by decide +kernel
theorem dX12_isName_7 : decode cX12_isName 7 = .ok (.isub, 1) := by decide +kernel
theorem dX12_isName_8 : decode cX12_isName 8 = .ok (.bipush 24, 2) := by decide +kernel
theorem dX12_isName_10 : decode cX12_isName 10 = .ok (.if_icmp .gt 24, 3) := by decide +kernel
theorem dX12_isName_13 : decode cX12_isName 13 = .ok (.aload_n 0, 1) := by decide +kernel
theorem dX12_isName_14 : decode cX12_isName 14 = .ok (.getfield 23, 3) := by decide +kernel
theorem dX12_isName_17 : decode cX12_isName 17 = .ok (.iload_n 1, 1) := by decide +kernel
theorem dX12_isName_18 : decode cX12_isName 18 = .ok (.baload, 1) := by decide +kernel
theorem dX12_isName_19 : decode cX12_isName 19 = .ok (.iload_n 3, 1) := by decide +kernel
theorem dX12_isName_20 : decode cX12_isName 20 = .ok (.if_icmp .lt 14, 3) := by decide +kernel
theorem dX12_isName_23 : decode cX12_isName 23 = .ok (.aload_n 0, 1) := by decide +kernel
theorem dX12_isName_24 : decode cX12_isName 24 = .ok (.getfield 23, 3) := by decide +kernel
theorem dX12_isName_27 : decode cX12_isName 27 = .ok (.iload_n 1, 1) := by decide +kernel
theorem dX12_isName_28 : decode cX12_isName 28 = .ok (.baload, 1) := by decide +kernel
theorem dX12_isName_29 : decode cX12_isName 29 = .ok (.iload 4, 2) := by decide +kernel
theorem dX12_isName_31 : decode cX12_isName 31 = .ok (.if_icmp .le 5, 3) := by decide +kernel
theorem dX12_isName_34 : decode cX12_isName 34 = .ok (.iconst 0, 1) := by decide +kernel
theorem dX12_isName_35 : decode cX12_isName 35 = .ok (.ireturn, 1) := by decide +kernel
theorem dX12_isName_36 : decode cX12_isName 36 = .ok (.iload_n 1, 1) := by decide +kernel
theorem dX12_isName_37 : decode cX12_isName 37 = .ok (.istore 5, 2) := by decide +kernel
theorem dX12_isName_39 : decode cX12_isName 39 = .ok (.iload 5, 2) := by decide +kernel
theorem dX12_isName_41 : decode cX12_isName 41 = .ok (.iload_n 2, 1) := by decide +kernel
theorem dX12_isName_42 : decode cX12_isName 42 = .ok (.if_icmp .ge 69, 3) := by decide +kernel
theorem dX12_isName_45 : decode cX12_isName 45 = .ok (.aload_n 0, 1) := by decide +kernel
theorem dX12_isName_46 : decode cX12_isName 46 = .ok (.getfield 23, 3) := by decide +kernel
theorem dX12_isName_49 : decode cX12_isName 49 = .ok (.iload 5, 2) := by decide +kernel
theorem dX12_isName_51 : decode cX12_isName 51 = .ok (.baload, 1) := by decide +kernel
theorem dX12_isName_52 : decode cX12_isName 52 = .ok (.istore 6, 2) := by decide +kernel
theorem dX12_isName_54 : decode cX12_isName 54 = .ok (.iload 6, 2) := by decide +kernel
theorem dX12_isName_56 : decode cX12_isName 56 = .ok (.bipush 97, 2) := by decide +kernel
theorem dX12_isName_58 : decode cX12_isName 58 = .ok (.if_icmp .lt 10, 3) := by decide +kernel
theorem dX12_isName_61 : decode cX12_isName 61 = .ok (.iload 6, 2) := by decide +kernel
theorem dX12_isName_63 : decode cX12_isName 63 = .ok (.bipush 122, 2) := by decide +kernel
theorem dX12_isName_65 : decode cX12_isName 65 = .ok (.if_icmp .le 40, 3) := by decide +kernel
theorem dX12_isName_68 : decode cX12_isName 68 = .ok (.iload 6, 2) := by decide +kernel
theorem dX12_isName_70 : decode cX12_isName 70 = .ok (.bipush 65, 2) := by decide +kernel
theorem dX12_isName_72 : decode cX12_isName 72 = .ok (.if_icmp .lt 10, 3) := by decide +kernel
theorem dX12_isName_75 : decode cX12_isName 75 = .ok (.iload 6, 2) := by decide +kernel
theorem dX12_isName_77 : decode cX12_isName 77 = .ok (.bipush 90, 2) := by decide +kernel
theorem dX12_isName_79 : decode cX12_isName 79 = .ok (.if_icmp .le 26, 3) := by decide +kernel
theorem dX12_isName_82 : decode cX12_isName 82 = .ok (.iload 6, 2) := by decide +kernel
theorem dX12_isName_84 : decode cX12_isName 84 = .ok (.bipush 48, 2) := by decide +kernel
theorem dX12_isName_86 : decode cX12_isName 86 = .ok (.if_icmp .lt 10, 3) := by decide +kernel
theorem dX12_isName_89 : decode cX12_isName 89 = .ok (.iload 6, 2) := by decide +kernel
theorem dX12_isName_91 : decode cX12_isName 91 = .ok (.bipush 57, 2) := by decide +kernel
theorem dX12_isName_93 : decode cX12_isName 93 = .ok (.if_icmp .le 12, 3) := by decide +kernel
theorem dX12_isName_96 : decode cX12_isName 96 = .ok (.iload 6, 2) := by decide +kernel
theorem dX12_isName_98 : decode cX12_isName 98 = .ok (.bipush 95, 2) := by decide +kernel
theorem dX12_isName_100 : decode cX12_isName 100 = .ok (.if_icmp .eq 5, 3) := by decide +kernel
theorem dX12_isName_103 : decode cX12_isName 103 = .ok (.iconst 0, 1) := by decide +kernel
theorem dX12_isName_104 : decode cX12_isName 104 = .ok (.ireturn, 1) := by decide +kernel
theorem dX12_isName_105 : decode cX12_isName 105 = .ok (.iinc 5 1, 3) := by decide +kernel
theorem dX12_isName_108 : decode cX12_isName 108 = .ok (.goto (-69), 3) := by decide +kernel
theorem dX12_isName_111 : decode cX12_isName 111 = .ok (.iconst 1, 1) := by decide +kernel
theorem dX12_isName_112 : decode cX12_isName 112 = .ok (.ireturn, 1) := by decide +kernel
theorem dX12_isSmallName_0 : decode cX12_isSmallName 0 = .ok (.iload_n 1, 1) := by decide +kernel
theorem dX12_isSmallName_1 : decode cX12_isSmallName 1 = .ok (.aload_n 0, 1) := by decide +kernel
theorem dX12_isSmallName_2 : decode cX12_isSmallName 2 = .ok (.getfield 118, 3) := by decide +kernel
theorem dX12_isSmallName_5 : decode cX12_isSmallName 5 = .ok (.if_icmp .ge 30, 3) := by decide +kernel
theorem dX12_isSmallName_8 : decode cX12_isSmallName 8 = .ok (.aload_n 0, 1) := by decide +kernel
theorem dX12_isSmallName_9 : decode cX12_isSmallName 9 = .ok (.aload_n 0, 1) := by decide +kernel
theorem dX12_isSmallName_10 : decode cX12_isSmallName 10 = .ok (.getfield 26, 3) := by decide +kernel
theorem dX12_isSmallName_13 : decode cX12_isSmallName 13 = .ok (.iload_n 1, 1) := by decide +kernel
theorem dX12_isSmallName_14 : decode cX12_isSmallName 14 = .ok (.iaload, 1) := by decide +kernel
theorem dX12_isSmallName_15 : decode cX12_isSmallName 15 = .ok (.aload_n 0, 1) := by decide +kernel
theorem dX12_isSmallName_16 : decode cX12_isSmallName 16 = .ok (.getfield 30, 3) := by decide +kernel
theorem dX12_isSmallName_19 : decode cX12_isSmallName 19 = .ok (.iload_n 1, 1) := by decide +kernel
theorem dX12_isSmallName_20 : decode cX12_isSmallName 20 = .ok (.iaload, 1) := by decide +kernel
theorem dX12_isSmallName_21 : decode cX12_isSmallName 21 = .ok (.bipush 97, 2) := by decide +kernel
theorem dX12_isSmallName_23 : decode cX12_isSmallName 23 = .ok (.bipush 122, 2) := by decide +kernel
theorem dX12_isSmallName_25 : decode cX12_isSmallName 25 = .ok (.invokevirtual 135, 3) := by decide +kernel
theorem dX12_isSmallName_28 : decode cX12_isSmallName 28 = .ok (.ifCond .eq 7, 3) := by decide +kernel
theorem dX12_isSmallName_31 : decode cX12_isSmallName 31 = .ok (.iconst 1, 1) := by decide +kernel
theorem dX12_isSmallName_32 : decode cX12_isSmallName 32 = .ok (.goto 4, 3) := by decide +kernel
theorem dX12_isSmallName_35 : decode cX12_isSmallName 35 = .ok (.iconst 0, 1) := by decide +kernel
theorem dX12_isSmallName_36 : decode cX12_isSmallName 36 = .ok (.ireturn, 1) := by decide +kernel
theorem dX12_isClassName_0 : decode cX12_isClassName 0 = .ok (.iload_n 1, 1) := by decide +kernel
theorem dX12_isClassName_1 : decode cX12_isClassName 1 = .ok (.aload_n 0, 1) := by decide +kernel
theorem dX12_isClassName_2 : decode cX12_isClassName 2 = .ok (.getfield 118, 3) := by decide +kernel
theorem dX12_isClassName_5 : decode cX12_isClassName 5 = .ok (.if_icmp .ge 30, 3) := by decide +kernel
theorem dX12_isClassName_8 : decode cX12_isClassName 8 = .ok (.aload_n 0, 1) := by decide +kernel
theorem dX12_isClassName_9 : decode cX12_isClassName 9 = .ok (.aload_n 0, 1) := by decide +kernel
theorem dX12_isClassName_10 : decode cX12_isClassName 10 = .ok (.getfield 26, 3) := by decide +kernel
theorem dX12_isClassName_13 : decode cX12_isClassName 13 = .ok (.iload_n 1, 1) := by decide +kernel
theorem dX12_isClassName_14 : decode cX12_isClassName 14 = .ok (.iaload, 1) := by decide +kernel
theorem dX12_isClassName_15 : decode cX12_isClassName 15 = .ok (.aload_n 0, 1) := by decide +kernel
theorem dX12_isClassName_16 : decode cX12_isClassName 16 = .ok (.getfield 30, 3) := by decide +kernel
theorem dX12_isClassName_19 : decode cX12_isClassName 19 = .ok (.iload_n 1, 1) := by decide +kernel
theorem dX12_isClassName_20 : decode cX12_isClassName 20 = .ok (.iaload, 1) := by decide +kernel
theorem dX12_isClassName_21 : decode cX12_isClassName 21 = .ok (.bipush 65, 2) := by decide +kernel
theorem dX12_isClassName_23 : decode cX12_isClassName 23 = .ok (.bipush 90, 2) := by decide +kernel
theorem dX12_isClassName_25 : decode cX12_isClassName 25 = .ok (.invokevirtual 135, 3) := by decide +kernel
theorem dX12_isClassName_28 : decode cX12_isClassName 28 = .ok (.ifCond .eq 7, 3) := by decide +kernel
theorem dX12_isClassName_31 : decode cX12_isClassName 31 = .ok (.iconst 1, 1) := by decide +kernel
theorem dX12_isClassName_32 : decode cX12_isClassName 32 = .ok (.goto 4, 3) := by decide +kernel
theorem dX12_isClassName_35 : decode cX12_isClassName 35 = .ok (.iconst 0, 1) := by decide +kernel
theorem dX12_isClassName_36 : decode cX12_isClassName 36 = .ok (.ireturn, 1) := by decide +kernel
theorem dX12_isArray_0 : decode cX12_isArray 0 = .ok (.aload_n 0, 1) := by decide +kernel
theorem dX12_isArray_1 : decode cX12_isArray 1 = .ok (.getfield 30, 3) := by decide +kernel
theorem dX12_isArray_4 : decode cX12_isArray 4 = .ok (.iload_n 1, 1) := by decide +kernel
theorem dX12_isArray_5 : decode cX12_isArray 5 = .ok (.iaload, 1) := by decide +kernel
theorem dX12_isArray_6 : decode cX12_isArray 6 = .ok (.aload_n 0, 1) := by decide +kernel
theorem dX12_isArray_7 : decode cX12_isArray 7 = .ok (.getfield 26, 3) := by decide +kernel
theorem dX12_isArray_10 : decode cX12_isArray 10 = .ok (.iload_n 1, 1) := by decide +kernel
theorem dX12_isArray_11 : decode cX12_isArray 11 = .ok (.iaload, 1) := by decide +kernel
theorem dX12_isArray_12 : decode cX12_isArray 12 = .ok (.isub, 1) := by decide +kernel
theorem dX12_isArray_13 : decode cX12_isArray 13 = .ok (.iconst 2, 1) := by decide +kernel
theorem dX12_isArray_14 : decode cX12_isArray 14 = .ok (.if_icmp .le 43, 3) := by decide +kernel
theorem dX12_isArray_17 : decode cX12_isArray 17 = .ok (.aload_n 0, 1) := by decide +kernel
theorem dX12_isArray_18 : decode cX12_isArray 18 = .ok (.getfield 23, 3) := by decide +kernel
theorem dX12_isArray_21 : decode cX12_isArray 21 = .ok (.aload_n 0, 1) := by decide +kernel
theorem dX12_isArray_22 : decode cX12_isArray 22 = .ok (.getfield 30, 3) := by decide +kernel
theorem dX12_isArray_25 : decode cX12_isArray 25 = .ok (.iload_n 1, 1) := by decide +kernel
theorem dX12_isArray_26 : decode cX12_isArray 26 = .ok (.iaload, 1) := by decide +kernel
theorem dX12_isArray_27 : decode cX12_isArray 27 = .ok (.iconst 2, 1) := by decide +kernel
theorem dX12_isArray_28 : decode cX12_isArray 28 = .ok (.isub, 1) := by decide +kernel
theorem dX12_isArray_29 : decode cX12_isArray 29 = .ok (.baload, 1) := by decide +kernel
theorem dX12_isArray_30 : decode cX12_isArray 30 = .ok (.bipush 91, 2) := by decide +kernel
theorem dX12_isArray_32 : decode cX12_isArray 32 = .ok (.if_icmp .ne 25, 3) := by decide +kernel
theorem dX12_isArray_35 : decode cX12_isArray 35 = .ok (.aload_n 0, 1) := by decide +kernel
theorem dX12_isArray_36 : decode cX12_isArray 36 = .ok (.getfield 23, 3) := by decide +kernel
theorem dX12_isArray_39 : decode cX12_isArray 39 = .ok (.aload_n 0, 1) := by decide +kernel
theorem dX12_isArray_40 : decode cX12_isArray 40 = .ok (.getfield 30, 3) := by decide +kernel
theorem dX12_isArray_43 : decode cX12_isArray 43 = .ok (.iload_n 1, 1) := by decide +kernel
theorem dX12_isArray_44 : decode cX12_isArray 44 = .ok (.iaload, 1) := by decide +kernel
theorem dX12_isArray_45 : decode cX12_isArray 45 = .ok (.iconst 1, 1) := by decide +kernel
theorem dX12_isArray_46 : decode cX12_isArray 46 = .ok (.isub, 1) := by decide +kernel
theorem dX12_isArray_47 : decode cX12_isArray 47 = .ok (.baload, 1) := by decide +kernel
theorem dX12_isArray_48 : decode cX12_isArray 48 = .ok (.bipush 93, 2) := by decide +kernel
theorem dX12_isArray_50 : decode cX12_isArray 50 = .ok (.if_icmp .ne 7, 3) := by decide +kernel
theorem dX12_isArray_53 : decode cX12_isArray 53 = .ok (.iconst 1, 1) := by decide +kernel
theorem dX12_isArray_54 : decode cX12_isArray 54 = .ok (.goto 4, 3) := by decide +kernel
theorem dX12_isArray_57 : decode cX12_isArray 57 = .ok (.iconst 0, 1) := by decide +kernel
theorem dX12_isArray_58 : decode cX12_isArray 58 = .ok (.ireturn, 1) := by decide +kernel
theorem dX12_isType_0 : decode cX12_isType 0 = .ok (.iload_n 1, 1) := by decide +kernel
theorem dX12_isType_1 : decode cX12_isType 1 = .ok (.aload_n 0, 1) := by decide +kernel
theorem dX12_isType_2 : decode cX12_isType 2 = .ok (.getfield 118, 3) := by decide +kernel
theorem dX12_isType_5 : decode cX12_isType 5 = .ok (.if_icmp .lt 5, 3) := by decide +kernel
theorem dX12_isType_8 : decode cX12_isType 8 = .ok (.iconst 0, 1) := by decide +kernel
theorem dX12_isType_9 : decode cX12_isType 9 = .ok (.ireturn, 1) := by decide +kernel
theorem dX12_isType_10 : decode cX12_isType 10 = .ok (.aload_n 0, 1) := by decide +kernel
theorem dX12_isType_11 : decode cX12_isType 11 = .ok (.iload_n 1, 1) := by decide +kernel
theorem dX12_isType_12 : decode cX12_isType 12 = .ok (.invokevirtual 138, 3) := by decide +kernel
theorem dX12_isType_15 : decode cX12_isType 15 = .ok (.ifCond .eq 14, 3) := by decide +kernel
theorem dX12_isType_18 : decode cX12_isType 18 = .ok (.aload_n 0, 1) := by decide +kernel
theorem dX12_isType_19 : decode cX12_isType 19 = .ok (.getfield 30, 3) := by decide +kernel
theorem dX12_isType_22 : decode cX12_isType 22 = .ok (.iload_n 1, 1) := by decide +kernel
theorem dX12_isType_23 : decode cX12_isType 23 = .ok (.iaload, 1) := by decide +kernel
theorem dX12_isType_24 : decode cX12_isType 24 = .ok (.iconst 2, 1) := by decide +kernel
theorem dX12_isType_25 : decode cX12_isType 25 = .ok (.isub, 1) := by decide +kernel
theorem dX12_isType_26 : decode cX12_isType 26 = .ok (.goto 9, 3) := by decide +kernel
theorem dX12_isType_29 : decode cX12_isType 29 = .ok (.aload_n 0, 1) := by decide +kernel
theorem dX12_isType_30 : decode cX12_isType 30 = .ok (.getfield 30, 3) := by decide +kernel
theorem dX12_isType_33 : decode cX12_isType 33 = .ok (.iload_n 1, 1) := by decide +kernel
theorem dX12_isType_34 : decode cX12_isType 34 = .ok (.iaload, 1) := by decide +kernel
theorem dX12_isType_35 : decode cX12_isType 35 = .ok (.istore_n 2, 1) := by decide +kernel
theorem dX12_isType_36 : decode cX12_isType 36 = .ok (.iload_n 2, 1) := by decide +kernel
theorem dX12_isType_37 : decode cX12_isType 37 = .ok (.aload_n 0, 1) := by decide +kernel
theorem dX12_isType_38 : decode cX12_isType 38 = .ok (.getfield 26, 3) := by decide +kernel
theorem dX12_isType_41 : decode cX12_isType 41 = .ok (.iload_n 1, 1) := by decide +kernel
theorem dX12_isType_42 : decode cX12_isType 42 = .ok (.iaload, 1) := by decide +kernel
theorem dX12_isType_43 : decode cX12_isType 43 = .ok (.isub, 1) := by decide +kernel
theorem dX12_isType_44 : decode cX12_isType 44 = .ok (.iconst 3, 1) := by decide +kernel
theorem dX12_isType_45 : decode cX12_isType 45 = .ok (.if_icmp .ne 46, 3) := by decide +kernel
theorem dX12_isType_48 : decode cX12_isType 48 = .ok (.aload_n 0, 1) := by decide +kernel
theorem dX12_isType_49 : decode cX12_isType 49 = .ok (.getfield 23, 3) := by decide +kernel
theorem dX12_isType_52 : decode cX12_isType 52 = .ok (.iload_n 2, 1) := by decide +kernel
theorem dX12_isType_53 : decode cX12_isType 53 = .ok (.iconst 3, 1) := by decide +kernel
theorem dX12_isType_54 : decode cX12_isType 54 = .ok (.isub, 1) := by decide +kernel
theorem dX12_isType_55 : decode cX12_isType 55 = .ok (.baload, 1) := by decide +kernel
theorem dX12_isType_56 : decode cX12_isType 56 = .ok (.bipush 105, 2) := by decide +kernel
theorem dX12_isType_58 : decode cX12_isType 58 = .ok (.if_icmp .ne 33, 3) := by decide +kernel
theorem dX12_isType_61 : decode cX12_isType 61 = .ok (.aload_n 0, 1) := by decide +kernel
theorem dX12_isType_62 : decode cX12_isType 62 = .ok (.getfield 23, 3) := by decide +kernel
theorem dX12_isType_65 : decode cX12_isType 65 = .ok (.iload_n 2, 1) := by decide +kernel
theorem dX12_isType_66 : decode cX12_isType 66 = .ok (.iconst 2, 1) := by decide +kernel
theorem dX12_isType_67 : decode cX12_isType 67 = .ok (.isub, 1) := by decide +kernel
theorem dX12_isType_68 : decode cX12_isType 68 = .ok (.baload, 1) := by decide +kernel
theorem dX12_isType_69 : decode cX12_isType 69 = .ok (.bipush 110, 2) := by decide +kernel
theorem dX12_isType_71 : decode cX12_isType 71 = .ok (.if_icmp .ne 20, 3) := by decide +kernel
theorem dX12_isType_74 : decode cX12_isType 74 = .ok (.aload_n 0, 1) := by decide +kernel
theorem dX12_isType_75 : decode cX12_isType 75 = .ok (.getfield 23, 3) := by decide +kernel
theorem dX12_isType_78 : decode cX12_isType 78 = .ok (.iload_n 2, 1) := by decide +kernel
theorem dX12_isType_79 : decode cX12_isType 79 = .ok (.iconst 1, 1) := by decide +kernel
theorem dX12_isType_80 : decode cX12_isType 80 = .ok (.isub, 1) := by decide +kernel
theorem dX12_isType_81 : decode cX12_isType 81 = .ok (.baload, 1) := by decide +kernel
theorem dX12_isType_82 : decode cX12_isType 82 = .ok (.bipush 116, 2) := by decide +kernel
theorem dX12_isType_84 : decode cX12_isType 84 = .ok (.if_icmp .ne 7, 3) := by decide +kernel
theorem dX12_isType_87 : decode cX12_isType 87 = .ok (.iconst 1, 1) := by decide +kernel
theorem dX12_isType_88 : decode cX12_isType 88 = .ok (.goto 4, 3) := by decide +kernel
theorem dX12_isType_91 : decode cX12_isType 91 = .ok (.iconst 0, 1) := by decide +kernel
theorem dX12_isType_92 : decode cX12_isType 92 = .ok (.istore_n 3, 1) := by decide +kernel
theorem dX12_isType_93 : decode cX12_isType 93 = .ok (.iload_n 3, 1) := by decide +kernel
