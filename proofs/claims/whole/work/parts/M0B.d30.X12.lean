theorem dX12_objectStep_405 : decode cX12_objectStep 405 = .ok (.lload 16, 2) := by decide +kernel
theorem dX12_objectStep_407 : decode cX12_objectStep 407 = .ok (.invokevirtual 582, 3) := by decide +kernel
theorem dX12_objectStep_410 : decode cX12_objectStep 410 = .ok (.aload_n 0, 1) := by decide +kernel
theorem dX12_objectStep_411 : decode cX12_objectStep 411 = .ok (.invokevirtual 600, 3) := by decide +kernel
theorem dX12_objectStep_414 : decode cX12_objectStep 414 = .ok (.return_, 1) := by decide +kernel
theorem dX12_make_0 : decode cX12_make 0 = .ok (.aload_n 0, 1) := by decide +kernel
theorem dX12_make_1 : decode cX12_make 1 = .ok (.getfield 10, 3) := by decide +kernel
theorem dX12_make_4 : decode cX12_make 4 = .ok (.getfield 391, 3) := by decide +kernel
theorem dX12_make_7 : decode cX12_make 7 = .ok (.iload_n 2, 1) := by decide +kernel
theorem dX12_make_8 : decode cX12_make 8 = .ok (.iaload, 1) := by decide +kernel
theorem dX12_make_9 : decode cX12_make 9 = .ok (.istore 4, 2) := by decide +kernel
theorem dX12_make_11 : decode cX12_make 11 = .ok (.iload_n 1, 1) := by decide +kernel
theorem dX12_make_12 : decode cX12_make 12 = .ok (.bipush 31, 2) := by decide +kernel
theorem dX12_make_14 : decode cX12_make 14 = .ok (.if_icmp .ne 11, 3) := by decide +kernel
theorem dX12_make_17 : decode cX12_make 17 = .ok (.aload_n 0, 1) := by decide +kernel
theorem dX12_make_18 : decode cX12_make 18 = .ok (.invokevirtual 586, 3) := by decide +kernel
theorem dX12_make_21 : decode cX12_make 21 = .ok (.l2i, 1) := by decide +kernel
theorem dX12_make_22 : decode cX12_make 22 = .ok (.goto 16, 3) := by decide +kernel
theorem dX12_make_25 : decode cX12_make 25 = .ok (.aload_n 0, 1) := by decide +kernel
theorem dX12_make_26 : decode cX12_make 26 = .ok (.getfield 10, 3) := by decide +kernel
theorem dX12_make_29 : decode cX12_make 29 = .ok (.getfield 394, 3) := by decide +kernel
theorem dX12_make_32 : decode cX12_make 32 = .ok (.iload 4, 2) := by decide +kernel
theorem dX12_make_34 : decode cX12_make 34 = .ok (.bipush 8, 2) := by decide +kernel
theorem dX12_make_36 : decode cX12_make 36 = .ok (.isub, 1) := by decide +kernel
theorem dX12_make_37 : decode cX12_make 37 = .ok (.iaload, 1) := by decide +kernel
theorem dX12_make_38 : decode cX12_make 38 = .ok (.istore 5, 2) := by decide +kernel
theorem dX12_make_40 : decode cX12_make 40 = .ok (.iload 5, 2) := by decide +kernel
theorem dX12_make_42 : decode cX12_make 42 = .ok (.ifCond .ge 10, 3) := by decide +kernel
theorem dX12_make_45 : decode cX12_make 45 = .ok (.aload_n 0, 1) := by decide +kernel
theorem dX12_make_46 : decode cX12_make 46 = .ok (.iconst 2, 1) := by decide +kernel
theorem dX12_make_47 : decode cX12_make 47 = .ok (.iload_n 3, 1) := by decide +kernel
theorem dX12_make_48 : decode cX12_make 48 = .ok (.invokevirtual 603, 3) := by decide +kernel
theorem dX12_make_51 : decode cX12_make 51 = .ok (.return_, 1) := by decide +kernel
theorem dX12_make_52 : decode cX12_make 52 = .ok (.aload_n 0, 1) := by decide +kernel
theorem dX12_make_53 : decode cX12_make 53 = .ok (.iload 4, 2) := by decide +kernel
theorem dX12_make_55 : decode cX12_make 55 = .ok (.iload_n 2, 1) := by decide +kernel
theorem dX12_make_56 : decode cX12_make 56 = .ok (.iload 5, 2) := by decide +kernel
theorem dX12_make_58 : decode cX12_make 58 = .ok (.sipush 12001, 3) := by decide +kernel
theorem dX12_make_61 : decode cX12_make 61 = .ok (.invokestatic 615, 3) := by decide +kernel
theorem dX12_make_64 : decode cX12_make 64 = .ok (.iload_n 3, 1) := by decide +kernel
theorem dX12_make_65 : decode cX12_make 65 = .ok (.invokevirtual 574, 3) := by decide +kernel
theorem dX12_make_68 : decode cX12_make 68 = .ok (.lstore 6, 2) := by decide +kernel
theorem dX12_make_70 : decode cX12_make 70 = .ok (.lload 6, 2) := by decide +kernel
theorem dX12_make_72 : decode cX12_make 72 = .ok (.lconst 0, 1) := by decide +kernel
theorem dX12_make_73 : decode cX12_make 73 = .ok (.lcmp, 1) := by decide +kernel
theorem dX12_make_74 : decode cX12_make 74 = .ok (.ifCond .ne 4, 3) := by decide +kernel
theorem dX12_make_77 : decode cX12_make 77 = .ok (.return_, 1) := by decide +kernel
theorem dX12_make_78 : decode cX12_make 78 = .ok (.aload_n 0, 1) := by decide +kernel
theorem dX12_make_79 : decode cX12_make 79 = .ok (.getfield 83, 3) := by decide +kernel
theorem dX12_make_82 : decode cX12_make 82 = .ok (.lload 6, 2) := by decide +kernel
theorem dX12_make_84 : decode cX12_make 84 = .ok (.invokestatic 566, 3) := by decide +kernel
theorem dX12_make_87 : decode cX12_make 87 = .ok (.iaload, 1) := by decide +kernel
theorem dX12_make_88 : decode cX12_make 88 = .ok (.istore 8, 2) := by decide +kernel
theorem dX12_make_90 : decode cX12_make 90 = .ok (.iconst 0, 1) := by decide +kernel
theorem dX12_make_91 : decode cX12_make 91 = .ok (.istore 9, 2) := by decide +kernel
theorem dX12_make_93 : decode cX12_make 93 = .ok (.iload 9, 2) := by decide +kernel
theorem dX12_make_95 : decode cX12_make 95 = .ok (.iload 5, 2) := by decide +kernel
theorem dX12_make_97 : decode cX12_make 97 = .ok (.if_icmp .ge 39, 3) := by decide +kernel
theorem dX12_make_100 : decode cX12_make 100 = .ok (.aload_n 0, 1) := by decide +kernel
theorem dX12_make_101 : decode cX12_make 101 = .ok (.getfield 89, 3) := by decide +kernel
theorem dX12_make_104 : decode cX12_make 104 = .ok (.iload 8, 2) := by decide +kernel
theorem dX12_make_106 : decode cX12_make 106 = .ok (.iload 9, 2) := by decide +kernel
theorem dX12_make_108 : decode cX12_make 108 = .ok (.iadd, 1) := by decide +kernel
theorem dX12_make_109 : decode cX12_make 109 = .ok (.iload_n 1, 1) := by decide +kernel
theorem dX12_make_110 : decode cX12_make 110 = .ok (.bipush 31, 2) := by decide +kernel
theorem dX12_make_112 : decode cX12_make 112 = .ok (.if_icmp .ne 14, 3) := by decide +kernel
theorem dX12_make_115 : decode cX12_make 115 = .ok (.iload 4, 2) := by decide +kernel
theorem dX12_make_117 : decode cX12_make 117 = .ok (.bipush 40, 2) := by decide +kernel
theorem dX12_make_119 : decode cX12_make 119 = .ok (.if_icmp .ne 7, 3) := by decide +kernel
theorem dX12_make_122 : decode cX12_make 122 = .ok (.lconst 0, 1) := by decide +kernel
theorem dX12_make_123 : decode cX12_make 123 = .ok (.goto 6, 3) := by decide +kernel
theorem dX12_make_126 : decode cX12_make 126 = .ok (.ldc2_w 553, 3) := by decide +kernel
theorem dX12_make_129 : decode cX12_make 129 = .ok (.lastore, 1) := by decide +kernel
theorem dX12_make_130 : decode cX12_make 130 = .ok (.iinc 9 1, 3) := by decide +kernel
theorem dX12_make_133 : decode cX12_make 133 = .ok (.goto (-40), 3) := by decide +kernel
theorem dX12_make_136 : decode cX12_make 136 = .ok (.iload_n 1, 1) := by decide +kernel
theorem dX12_make_137 : decode cX12_make 137 = .ok (.bipush 30, 2) := by decide +kernel
theorem dX12_make_139 : decode cX12_make 139 = .ok (.if_icmp .ne 81, 3) := by decide +kernel
theorem dX12_make_142 : decode cX12_make 142 = .ok (.iconst 0, 1) := by decide +kernel
theorem dX12_make_143 : decode cX12_make 143 = .ok (.istore 9, 2) := by decide +kernel
theorem dX12_make_145 : decode cX12_make 145 = .ok (.iload 9, 2) := by decide +kernel
theorem dX12_make_147 : decode cX12_make 147 = .ok (.aload_n 0, 1) := by decide +kernel
theorem dX12_make_148 : decode cX12_make 148 = .ok (.getfield 10, 3) := by decide +kernel
theorem dX12_make_151 : decode cX12_make 151 = .ok (.getfield 257, 3) := by decide +kernel
theorem dX12_make_154 : decode cX12_make 154 = .ok (.if_icmp .ge 66, 3) := by decide +kernel
theorem dX12_make_157 : decode cX12_make 157 = .ok (.aload_n 0, 1) := by decide +kernel
theorem dX12_make_158 : decode cX12_make 158 = .ok (.getfield 10, 3) := by decide +kernel
theorem dX12_make_161 : decode cX12_make 161 = .ok (.getfield 288, 3) := by decide +kernel
theorem dX12_make_164 : decode cX12_make 164 = .ok (.iload 9, 2) := by decide +kernel
theorem dX12_make_166 : decode cX12_make 166 = .ok (.iaload, 1) := by decide +kernel
theorem dX12_make_167 : decode cX12_make 167 = .ok (.ifCond .ne 47, 3) := by decide +kernel
theorem dX12_make_170 : decode cX12_make 170 = .ok (.aload_n 0, 1) := by decide +kernel
theorem dX12_make_171 : decode cX12_make 171 = .ok (.getfield 10, 3) := by decide +kernel
theorem dX12_make_174 : decode cX12_make 174 = .ok (.iload 4, 2) := by decide +kernel
theorem dX12_make_176 : decode cX12_make 176 = .ok (.bipush 8, 2) := by decide +kernel
theorem dX12_make_178 : decode cX12_make 178 = .ok (.isub, 1) := by decide +kernel
theorem dX12_make_179 : decode cX12_make 179 = .ok (.aload_n 0, 1) := by decide +kernel
theorem dX12_make_180 : decode cX12_make 180 = .ok (.getfield 10, 3) := by decide +kernel
theorem dX12_make_183 : decode cX12_make 183 = .ok (.getfield 260, 3) := by decide +kernel
theorem dX12_make_186 : decode cX12_make 186 = .ok (.iload 9, 2) := by decide +kernel
theorem dX12_make_188 : decode cX12_make 188 = .ok (.iaload, 1) := by decide +kernel
theorem dX12_make_189 : decode cX12_make 189 = .ok (.invokestatic 263, 3) := by decide +kernel
theorem dX12_make_192 : decode cX12_make 192 = .ok (.ifCond .eq 22, 3) := by decide +kernel
theorem dX12_make_195 : decode cX12_make 195 = .ok (.aload_n 0, 1) := by decide +kernel
theorem dX12_make_196 : decode cX12_make 196 = .ok (.getfield 89, 3) := by decide +kernel
theorem dX12_make_199 : decode cX12_make 199 = .ok (.iload 8, 2) := by decide +kernel
theorem dX12_make_201 : decode cX12_make 201 = .ok (.aload_n 0, 1) := by decide +kernel
theorem dX12_make_202 : decode cX12_make 202 = .ok (.getfield 10, 3) := by decide +kernel
theorem dX12_make_205 : decode cX12_make 205 = .ok (.getfield 397, 3) := by decide +kernel
theorem dX12_make_208 : decode cX12_make 208 = .ok (.iload 9, 2) := by decide +kernel
theorem dX12_make_210 : decode cX12_make 210 = .ok (.iaload, 1) := by decide +kernel
theorem dX12_make_211 : decode cX12_make 211 = .ok (.iadd, 1) := by decide +kernel
theorem dX12_make_212 : decode cX12_make 212 = .ok (.lconst 0, 1) := by decide +kernel
theorem dX12_make_213 : decode cX12_make 213 = .ok (.lastore, 1) := by decide +kernel
theorem dX12_make_214 : decode cX12_make 214 = .ok (.iinc 9 1, 3) := by decide +kernel
theorem dX12_make_217 : decode cX12_make 217 = .ok (.goto (-72), 3) := by decide +kernel
theorem dX12_make_220 : decode cX12_make 220 = .ok (.aload_n 0, 1) := by decide +kernel
theorem dX12_make_221 : decode cX12_make 221 = .ok (.lload 6, 2) := by decide +kernel
theorem dX12_make_223 : decode cX12_make 223 = .ok (.invokevirtual 582, 3) := by decide +kernel
theorem dX12_make_226 : decode cX12_make 226 = .ok (.aload_n 0, 1) := by decide +kernel
theorem dX12_make_227 : decode cX12_make 227 = .ok (.invokevirtual 600, 3) := by decide +kernel
theorem dX12_make_230 : decode cX12_make 230 = .ok (.return_, 1) := by decide +kernel
theorem dX12_elementStep_0 : decode cX12_elementStep 0 = .ok (.iload_n 1, 1) := by decide +kernel
theorem dX12_elementStep_1 : decode cX12_elementStep 1 = .ok (.bipush 34, 2) := by decide +kernel
theorem dX12_elementStep_3 : decode cX12_elementStep 3 = .ok (.if_icmp .ne 10, 3) := by decide +kernel
theorem dX12_elementStep_6 : decode cX12_elementStep 6 = .ok (.aload_n 0, 1) := by decide +kernel
theorem dX12_elementStep_7 : decode cX12_elementStep 7 = .ok (.invokevirtual 586, 3) := by decide +kernel
theorem dX12_elementStep_10 : decode cX12_elementStep 10 = .ok (.goto 4, 3) := by decide +kernel
theorem dX12_elementStep_13 : decode cX12_elementStep 13 = .ok (.lconst 0, 1) := by decide +kernel
theorem dX12_elementStep_14 : decode cX12_elementStep 14 = .ok (.lstore_n 3, 1) := by decide +kernel
theorem dX12_elementStep_15 : decode cX12_elementStep 15 = .ok (.aload_n 0, 1) := by decide +kernel
theorem dX12_elementStep_16 : decode cX12_elementStep 16 = .ok (.invokevirtual 586, 3) := by decide +kernel
theorem dX12_elementStep_19 : decode cX12_elementStep 19 = .ok (.lstore 5, 2) := by decide +kernel
theorem dX12_elementStep_21 : decode cX12_elementStep 21 = .ok (.aload_n 0, 1) := by decide +kernel
theorem dX12_elementStep_22 : decode cX12_elementStep 22 = .ok (.invokevirtual 586, 3) := by decide +kernel
theorem dX12_elementStep_25 : decode cX12_elementStep 25 = .ok (.lstore 7, 2) := by decide +kernel
theorem dX12_elementStep_27 : decode cX12_elementStep 27 = .ok (.lload 7, 2) := by decide +kernel
theorem dX12_elementStep_29 : decode cX12_elementStep 29 = .ok (.ldc2_w 553, 3) := by decide +kernel
theorem dX12_elementStep_32 : decode cX12_elementStep 32 = .ok (.lcmp, 1) := by decide +kernel
theorem dX12_elementStep_33 : decode cX12_elementStep 33 = .ok (.ifCond .ne 10, 3) := by decide +kernel
theorem dX12_elementStep_36 : decode cX12_elementStep 36 = .ok (.aload_n 0, 1) := by decide +kernel
theorem dX12_elementStep_37 : decode cX12_elementStep 37 = .ok (.iconst 0, 1) := by decide +kernel
theorem dX12_elementStep_38 : decode cX12_elementStep 38 = .ok (.iload_n 2, 1) := by decide +kernel
theorem dX12_elementStep_39 : decode cX12_elementStep 39 = .ok (.invokevirtual 603, 3) := by decide +kernel
theorem dX12_elementStep_42 : decode cX12_elementStep 42 = .ok (.return_, 1) := by decide +kernel
theorem dX12_elementStep_43 : decode cX12_elementStep 43 = .ok (.lload 7, 2) := by decide +kernel
theorem dX12_elementStep_45 : decode cX12_elementStep 45 = .ok (.invokestatic 566, 3) := by decide +kernel
theorem dX12_elementStep_48 : decode cX12_elementStep 48 = .ok (.istore 9, 2) := by decide +kernel
theorem dX12_elementStep_50 : decode cX12_elementStep 50 = .ok (.lload 5, 2) := by decide +kernel
theorem dX12_elementStep_52 : decode cX12_elementStep 52 = .ok (.lconst 0, 1) := by decide +kernel
theorem dX12_elementStep_53 : decode cX12_elementStep 53 = .ok (.lcmp, 1) := by decide +kernel
theorem dX12_elementStep_54 : decode cX12_elementStep 54 = .ok (.ifCond .lt 17, 3) := by decide +kernel
theorem dX12_elementStep_57 : decode cX12_elementStep 57 = .ok (.lload 5, 2) := by decide +kernel
theorem dX12_elementStep_59 : decode cX12_elementStep 59 = .ok (.aload_n 0, 1) := by decide +kernel
theorem dX12_elementStep_60 : decode cX12_elementStep 60 = .ok (.getfield 86, 3) := by decide +kernel
theorem dX12_elementStep_63 : decode cX12_elementStep 63 = .ok (.iload 9, 2) := by decide +kernel
theorem dX12_elementStep_65 : decode cX12_elementStep 65 = .ok (.iaload, 1) := by decide +kernel
theorem dX12_elementStep_66 : decode cX12_elementStep 66 = .ok (.i2l, 1) := by decide +kernel
theorem dX12_elementStep_67 : decode cX12_elementStep 67 = .ok (.lcmp, 1) := by decide +kernel
theorem dX12_elementStep_68 : decode cX12_elementStep 68 = .ok (.ifCond .lt 10, 3) := by decide +kernel
theorem dX12_elementStep_71 : decode cX12_elementStep 71 = .ok (.aload_n 0, 1) := by decide +kernel
theorem dX12_elementStep_72 : decode cX12_elementStep 72 = .ok (.iconst 1, 1) := by decide +kernel
theorem dX12_elementStep_73 : decode cX12_elementStep 73 = .ok (.iload_n 2, 1) := by decide +kernel
theorem dX12_elementStep_74 : decode cX12_elementStep 74 = .ok (.invokevirtual 603, 3) := by decide +kernel
theorem dX12_elementStep_77 : decode cX12_elementStep 77 = .ok (.return_, 1) := by decide +kernel
theorem dX12_elementStep_78 : decode cX12_elementStep 78 = .ok (.aload_n 0, 1) := by decide +kernel
theorem dX12_elementStep_79 : decode cX12_elementStep 79 = .ok (.getfield 83, 3) := by decide +kernel
theorem dX12_elementStep_82 : decode cX12_elementStep 82 = .ok (.iload 9, 2) := by decide +kernel
theorem dX12_elementStep_84 : decode cX12_elementStep 84 = .ok (.iaload, 1) := by decide +kernel
theorem dX12_elementStep_85 : decode cX12_elementStep 85 = .ok (.lload 5, 2) := by decide +kernel
theorem dX12_elementStep_87 : decode cX12_elementStep 87 = .ok (.l2i, 1) := by decide +kernel
theorem dX12_elementStep_88 : decode cX12_elementStep 88 = .ok (.iadd, 1) := by decide +kernel
theorem dX12_elementStep_89 : decode cX12_elementStep 89 = .ok (.istore 10, 2) := by decide +kernel
theorem dX12_elementStep_91 : decode cX12_elementStep 91 = .ok (.iload_n 1, 1) := by decide +kernel
theorem dX12_elementStep_92 : decode cX12_elementStep 92 = .ok (.bipush 33, 2) := by decide +kernel
theorem dX12_elementStep_94 : decode cX12_elementStep 94 = .ok (.if_icmp .ne 17, 3) := by decide +kernel
theorem dX12_elementStep_97 : decode cX12_elementStep 97 = .ok (.aload_n 0, 1) := by decide +kernel
theorem dX12_elementStep_98 : decode cX12_elementStep 98 = .ok (.aload_n 0, 1) := by decide +kernel
theorem dX12_elementStep_99 : decode cX12_elementStep 99 = .ok (.getfield 89, 3) := by decide +kernel
theorem dX12_elementStep_102 : decode cX12_elementStep 102 = .ok (.iload 10, 2) := by decide +kernel
theorem dX12_elementStep_104 : decode cX12_elementStep 104 = .ok (.laload, 1) := by decide +kernel
theorem dX12_elementStep_105 : decode cX12_elementStep 105 = .ok (.invokevirtual 582, 3) := by decide +kernel
theorem dX12_elementStep_108 : decode cX12_elementStep 108 = .ok (.goto 54, 3) := by decide +kernel
theorem dX12_elementStep_111 : decode cX12_elementStep 111 = .ok (.lload_n 3, 1) := by decide +kernel
theorem dX12_elementStep_112 : decode cX12_elementStep 112 = .ok (.invokestatic 621, 3) := by decide +kernel
theorem dX12_elementStep_115 : decode cX12_elementStep 115 = .ok (.ifCond .eq 39, 3) := by decide +kernel
theorem dX12_elementStep_118 : decode cX12_elementStep 118 = .ok (.aload_n 0, 1) := by decide +kernel
theorem dX12_elementStep_119 : decode cX12_elementStep 119 = .ok (.getfield 10, 3) := by decide +kernel
theorem dX12_elementStep_122 : decode cX12_elementStep 122 = .ok (.aload_n 0, 1) := by decide +kernel
theorem dX12_elementStep_123 : decode cX12_elementStep 123 = .ok (.getfield 77, 3) := by decide +kernel
theorem dX12_elementStep_126 : decode cX12_elementStep 126 = .ok (.lload_n 3, 1) := by decide +kernel
theorem dX12_elementStep_127 : decode cX12_elementStep 127 = .ok (.invokestatic 566, 3) := by decide +kernel
theorem dX12_elementStep_130 : decode cX12_elementStep 130 = .ok (.iaload, 1) := by decide +kernel
theorem dX12_elementStep_131 : decode cX12_elementStep 131 = .ok (.aload_n 0, 1) := by decide +kernel
theorem dX12_elementStep_132 : decode cX12_elementStep 132 = .ok (.getfield 77, 3) := by decide +kernel
theorem dX12_elementStep_135 : decode cX12_elementStep 135 = .ok (.iload 9, 2) := by decide +kernel
theorem dX12_elementStep_137 : decode cX12_elementStep 137 = .ok (.iaload, 1) := by decide +kernel
theorem dX12_elementStep_138 : decode cX12_elementStep 138 = .ok (.invokestatic 470, 3) := by decide +kernel
theorem dX12_elementStep_141 : decode cX12_elementStep 141 = .ok (.invokestatic 436, 3) := by decide +kernel
theorem dX12_elementStep_144 : decode cX12_elementStep 144 = .ok (.ifCond .ne 10, 3) := by decide +kernel
theorem dX12_elementStep_147 : decode cX12_elementStep 147 = .ok (.aload_n 0, 1) := by decide +kernel
theorem dX12_elementStep_148 : decode cX12_elementStep 148 = .ok (.iconst 5, 1) := by decide +kernel
theorem dX12_elementStep_149 : decode cX12_elementStep 149 = .ok (.iload_n 2, 1) := by decide +kernel
theorem dX12_elementStep_150 : decode cX12_elementStep 150 = .ok (.invokevirtual 603, 3) := by decide +kernel
theorem dX12_elementStep_153 : decode cX12_elementStep 153 = .ok (.return_, 1) := by decide +kernel
theorem dX12_elementStep_154 : decode cX12_elementStep 154 = .ok (.aload_n 0, 1) := by decide +kernel
theorem dX12_elementStep_155 : decode cX12_elementStep 155 = .ok (.getfield 89, 3) := by decide +kernel
theorem dX12_elementStep_158 : decode cX12_elementStep 158 = .ok (.iload 10, 2) := by decide +kernel
theorem dX12_elementStep_160 : decode cX12_elementStep 160 = .ok (.lload_n 3, 1) := by decide +kernel
theorem dX12_elementStep_161 : decode cX12_elementStep 161 = .ok (.lastore, 1) := by decide +kernel
theorem dX12_elementStep_162 : decode cX12_elementStep 162 = .ok (.aload_n 0, 1) := by decide +kernel
theorem dX12_elementStep_163 : decode cX12_elementStep 163 = .ok (.invokevirtual 600, 3) := by decide +kernel
theorem dX12_elementStep_166 : decode cX12_elementStep 166 = .ok (.return_, 1) := by decide +kernel
theorem dX12_callStep_0 : decode cX12_callStep 0 = .ok (.aload_n 0, 1) := by decide +kernel
theorem dX12_callStep_1 : decode cX12_callStep 1 = .ok (.getfield 10, 3) := by decide +kernel
theorem dX12_callStep_4 : decode cX12_callStep 4 = .ok (.getfield 313, 3) := by decide +kernel
theorem dX12_callStep_7 : decode cX12_callStep 7 = .ok (.iload_n 2, 1) := by decide +kernel
theorem dX12_callStep_8 : decode cX12_callStep 8 = .ok (.iaload, 1) := by decide +kernel
theorem dX12_callStep_9 : decode cX12_callStep 9 = .ok (.istore 4, 2) := by decide +kernel
theorem dX12_callStep_11 : decode cX12_callStep 11 = .ok (.aload_n 0, 1) := by decide +kernel
theorem dX12_callStep_12 : decode cX12_callStep 12 = .ok (.getfield 533, 3) := by decide +kernel
theorem dX12_callStep_15 : decode cX12_callStep 15 = .ok (.iconst 1, 1) := by decide +kernel
theorem dX12_callStep_16 : decode cX12_callStep 16 = .ok (.isub, 1) := by decide +kernel
theorem dX12_callStep_17 : decode cX12_callStep 17 = .ok (.bipush 8, 2) := by decide +kernel
theorem dX12_callStep_19 : decode cX12_callStep 19 = .ok (.imul, 1) := by decide +kernel
theorem dX12_callStep_20 : decode cX12_callStep 20 = .ok (.aload_n 0, 1) := by decide +kernel
theorem dX12_callStep_21 : decode cX12_callStep 21 = .ok (.getfield 71, 3) := by decide +kernel
theorem dX12_callStep_24 : decode cX12_callStep 24 = .ok (.aload_n 0, 1) := by decide +kernel
theorem dX12_callStep_25 : decode cX12_callStep 25 = .ok (.getfield 533, 3) := by decide +kernel
theorem dX12_callStep_28 : decode cX12_callStep 28 = .ok (.iconst 1, 1) := by decide +kernel
theorem dX12_callStep_29 : decode cX12_callStep 29 = .ok (.isub, 1) := by decide +kernel
theorem dX12_callStep_30 : decode cX12_callStep 30 = .ok (.iaload, 1) := by decide +kernel
theorem dX12_callStep_31 : decode cX12_callStep 31 = .ok (.iadd, 1) := by decide +kernel
theorem dX12_callStep_32 : decode cX12_callStep 32 = .ok (.iload 4, 2) := by decide +kernel
theorem dX12_callStep_34 : decode cX12_callStep 34 = .ok (.isub, 1) := by decide +kernel
theorem dX12_callStep_35 : decode cX12_callStep 35 = .ok (.istore 5, 2) := by decide +kernel
theorem dX12_callStep_37 : decode cX12_callStep 37 = .ok (.iload_n 2, 1) := by decide +kernel
theorem dX12_callStep_38 : decode cX12_callStep 38 = .ok (.istore 6, 2) := by decide +kernel
theorem dX12_callStep_40 : decode cX12_callStep 40 = .ok (.iload_n 1, 1) := by decide +kernel
theorem dX12_callStep_41 : decode cX12_callStep 41 = .ok (.bipush 40, 2) := by decide +kernel
theorem dX12_callStep_43 : decode cX12_callStep 43 = .ok (.if_icmp .ne 57, 3) := by decide +kernel
theorem dX12_callStep_46 : decode cX12_callStep 46 = .ok (.aload_n 0, 1) := by decide +kernel
theorem dX12_callStep_47 : decode cX12_callStep 47 = .ok (.getfield 68, 3) := by decide +kernel
theorem dX12_callStep_50 : decode cX12_callStep 50 = .ok (.iload 5, 2) := by decide +kernel
theorem dX12_callStep_52 : decode cX12_callStep 52 = .ok (.laload, 1) := by decide +kernel
theorem dX12_callStep_53 : decode cX12_callStep 53 = .ok (.ldc2_w 553, 3) := by decide +kernel
theorem dX12_callStep_56 : decode cX12_callStep 56 = .ok (.lcmp, 1) := by decide +kernel
theorem dX12_callStep_57 : decode cX12_callStep 57 = .ok (.ifCond .ne 10, 3) := by decide +kernel
theorem dX12_callStep_60 : decode cX12_callStep 60 = .ok (.aload_n 0, 1) := by decide +kernel
theorem dX12_callStep_61 : decode cX12_callStep 61 = .ok (.iconst 0, 1) := by decide +kernel
theorem dX12_callStep_62 : decode cX12_callStep 62 = .ok (.iload_n 3, 1) := by decide +kernel
theorem dX12_callStep_63 : decode cX12_callStep 63 = .ok (.invokevirtual 603, 3) := by decide +kernel
theorem dX12_callStep_66 : decode cX12_callStep 66 = .ok (.return_, 1) := by decide +kernel
theorem dX12_callStep_67 : decode cX12_callStep 67 = .ok (.aload_n 0, 1) := by decide +kernel
theorem dX12_callStep_68 : decode cX12_callStep 68 = .ok (.getfield 10, 3) := by decide +kernel
theorem dX12_callStep_71 : decode cX12_callStep 71 = .ok (.getfield 400, 3) := by decide +kernel
theorem dX12_callStep_74 : decode cX12_callStep 74 = .ok (.aload_n 0, 1) := by decide +kernel
theorem dX12_callStep_75 : decode cX12_callStep 75 = .ok (.getfield 77, 3) := by decide +kernel
theorem dX12_callStep_78 : decode cX12_callStep 78 = .ok (.aload_n 0, 1) := by decide +kernel
theorem dX12_callStep_79 : decode cX12_callStep 79 = .ok (.getfield 68, 3) := by decide +kernel
theorem dX12_callStep_82 : decode cX12_callStep 82 = .ok (.iload 5, 2) := by decide +kernel
theorem dX12_callStep_84 : decode cX12_callStep 84 = .ok (.laload, 1) := by decide +kernel
theorem dX12_callStep_85 : decode cX12_callStep 85 = .ok (.invokestatic 566, 3) := by decide +kernel
theorem dX12_callStep_88 : decode cX12_callStep 88 = .ok (.iaload, 1) := by decide +kernel
theorem dX12_callStep_89 : decode cX12_callStep 89 = .ok (.bipush 8, 2) := by decide +kernel
theorem dX12_callStep_91 : decode cX12_callStep 91 = .ok (.isub, 1) := by decide +kernel
theorem dX12_callStep_92 : decode cX12_callStep 92 = .ok (.bipush 48, 2) := by decide +kernel
theorem dX12_callStep_94 : decode cX12_callStep 94 = .ok (.imul, 1) := by decide +kernel
theorem dX12_callStep_95 : decode cX12_callStep 95 = .ok (.iload_n 2, 1) := by decide +kernel
theorem dX12_callStep_96 : decode cX12_callStep 96 = .ok (.iadd, 1) := by decide +kernel
theorem dX12_callStep_97 : decode cX12_callStep 97 = .ok (.iaload, 1) := by decide +kernel
theorem dX12_callStep_98 : decode cX12_callStep 98 = .ok (.istore 6, 2) := by decide +kernel
theorem dX12_callStep_100 : decode cX12_callStep 100 = .ok (.aload_n 0, 1) := by decide +kernel
theorem dX12_callStep_101 : decode cX12_callStep 101 = .ok (.getfield 533, 3) := by decide +kernel
theorem dX12_callStep_104 : decode cX12_callStep 104 = .ok (.bipush 64, 2) := by decide +kernel
theorem dX12_callStep_106 : decode cX12_callStep 106 = .ok (.if_icmp .ne 10, 3) := by decide +kernel
theorem dX12_callStep_109 : decode cX12_callStep 109 = .ok (.aload_n 0, 1) := by decide +kernel
theorem dX12_callStep_110 : decode cX12_callStep 110 = .ok (.iconst 4, 1) := by decide +kernel
theorem dX12_callStep_111 : decode cX12_callStep 111 = .ok (.iload_n 3, 1) := by decide +kernel
theorem dX12_callStep_112 : decode cX12_callStep 112 = .ok (.invokevirtual 570, 3) := by decide +kernel
theorem dX12_callStep_115 : decode cX12_callStep 115 = .ok (.return_, 1) := by decide +kernel
theorem dX12_callStep_116 : decode cX12_callStep 116 = .ok (.aload_n 0, 1) := by decide +kernel
theorem dX12_callStep_117 : decode cX12_callStep 117 = .ok (.getfield 71, 3) := by decide +kernel
theorem dX12_callStep_120 : decode cX12_callStep 120 = .ok (.aload_n 0, 1) := by decide +kernel
theorem dX12_callStep_121 : decode cX12_callStep 121 = .ok (.getfield 533, 3) := by decide +kernel
theorem dX12_callStep_124 : decode cX12_callStep 124 = .ok (.iconst 1, 1) := by decide +kernel
theorem dX12_callStep_125 : decode cX12_callStep 125 = .ok (.isub, 1) := by decide +kernel
theorem dX12_callStep_126 : decode cX12_callStep 126 = .ok (.dup2, 1) := by decide +kernel
theorem dX12_callStep_127 : decode cX12_callStep 127 = .ok (.iaload, 1) := by decide +kernel
theorem dX12_callStep_128 : decode cX12_callStep 128 = .ok (.iload 4, 2) := by decide +kernel
theorem dX12_callStep_130 : decode cX12_callStep 130 = .ok (.isub, 1) := by decide +kernel
theorem dX12_callStep_131 : decode cX12_callStep 131 = .ok (.iastore, 1) := by decide +kernel
theorem dX12_callStep_132 : decode cX12_callStep 132 = .ok (.aload_n 0, 1) := by decide +kernel
theorem dX12_callStep_133 : decode cX12_callStep 133 = .ok (.iload 6, 2) := by decide +kernel
theorem dX12_callStep_135 : decode cX12_callStep 135 = .ok (.invokevirtual 539, 3) := by decide +kernel
theorem dX12_callStep_138 : decode cX12_callStep 138 = .ok (.iconst 0, 1) := by decide +kernel
theorem dX12_callStep_139 : decode cX12_callStep 139 = .ok (.istore 7, 2) := by decide +kernel
theorem dX12_callStep_141 : decode cX12_callStep 141 = .ok (.iload 7, 2) := by decide +kernel
theorem dX12_callStep_143 : decode cX12_callStep 143 = .ok (.iload 4, 2) := by decide +kernel
theorem dX12_callStep_145 : decode cX12_callStep 145 = .ok (.if_icmp .ge 36, 3) := by decide +kernel
theorem dX12_callStep_148 : decode cX12_callStep 148 = .ok (.aload_n 0, 1) := by decide +kernel
theorem dX12_callStep_149 : decode cX12_callStep 149 = .ok (.getfield 64, 3) := by decide +kernel
theorem dX12_callStep_152 : decode cX12_callStep 152 = .ok (.aload_n 0, 1) := by decide +kernel
theorem dX12_callStep_153 : decode cX12_callStep 153 = .ok (.getfield 533, 3) := by decide +kernel
theorem dX12_callStep_156 : decode cX12_callStep 156 = .ok (.iconst 1, 1) := by decide +kernel
theorem dX12_callStep_157 : decode cX12_callStep 157 = .ok (.isub, 1) := by decide +kernel
theorem dX12_callStep_158 : decode cX12_callStep 158 = .ok (.bipush 12, 2) := by decide +kernel
theorem dX12_callStep_160 : decode cX12_callStep 160 = .ok (.imul, 1) := by decide +kernel
theorem dX12_callStep_161 : decode cX12_callStep 161 = .ok (.iload 7, 2) := by decide +kernel
theorem dX12_callStep_163 : decode cX12_callStep 163 = .ok (.iadd, 1) := by decide +kernel
theorem dX12_callStep_164 : decode cX12_callStep 164 = .ok (.aload_n 0, 1) := by decide +kernel
theorem dX12_callStep_165 : decode cX12_callStep 165 = .ok (.getfield 68, 3) := by decide +kernel
theorem dX12_callStep_168 : decode cX12_callStep 168 = .ok (.iload 5, 2) := by decide +kernel
theorem dX12_callStep_170 : decode cX12_callStep 170 = .ok (.iload 7, 2) := by decide +kernel
theorem dX12_callStep_172 : decode cX12_callStep 172 = .ok (.iadd, 1) := by decide +kernel
theorem dX12_callStep_173 : decode cX12_callStep 173 = .ok (.laload, 1) := by decide +kernel
theorem dX12_callStep_174 : decode cX12_callStep 174 = .ok (.lastore, 1) := by decide +kernel
theorem dX12_callStep_175 : decode cX12_callStep 175 = .ok (.iinc 7 1, 3) := by decide +kernel
theorem dX12_callStep_178 : decode cX12_callStep 178 = .ok (.goto (-37), 3) := by decide +kernel
theorem dX12_callStep_181 : decode cX12_callStep 181 = .ok (.return_, 1) := by decide +kernel
theorem dX12_steps_0 : decode cX12_steps 0 = .ok (.aload_n 0, 1) := by decide +kernel
theorem dX12_steps_1 : decode cX12_steps 1 = .ok (.getfield 530, 3) := by decide +kernel
theorem dX12_steps_4 : decode cX12_steps 4 = .ok (.ireturn, 1) := by decide +kernel
theorem dX12_place_0 : decode cX12_place 0 = .ok (.aload_n 0, 1) := by decide +kernel
theorem dX12_place_1 : decode cX12_place 1 = .ok (.getfield 98, 3) := by decide +kernel
theorem dX12_place_4 : decode cX12_place 4 = .ok (.ireturn, 1) := by decide +kernel
theorem dX12_thrown_0 : decode cX12_thrown 0 = .ok (.aload_n 0, 1) := by decide +kernel
theorem dX12_thrown_1 : decode cX12_thrown 1 = .ok (.getfield 101, 3) := by decide +kernel
theorem dX12_thrown_4 : decode cX12_thrown 4 = .ok (.ireturn, 1) := by decide +kernel
theorem dX12_made_0 : decode cX12_made 0 = .ok (.iload_n 1, 1) := by decide +kernel
theorem dX12_made_1 : decode cX12_made 1 = .ok (.ifCond .ne 10, 3) := by decide +kernel
theorem dX12_made_4 : decode cX12_made 4 = .ok (.aload_n 0, 1) := by decide +kernel
theorem dX12_made_5 : decode cX12_made 5 = .ok (.getfield 518, 3) := by decide +kernel
theorem dX12_made_8 : decode cX12_made 8 = .ok (.goto 16, 3) := by decide +kernel
theorem dX12_made_11 : decode cX12_made 11 = .ok (.iload_n 1, 1) := by decide +kernel
theorem dX12_made_12 : decode cX12_made 12 = .ok (.iconst 1, 1) := by decide +kernel
theorem dX12_made_13 : decode cX12_made 13 = .ok (.if_icmp .ne 10, 3) := by decide +kernel
theorem dX12_made_16 : decode cX12_made 16 = .ok (.aload_n 0, 1) := by decide +kernel
theorem dX12_made_17 : decode cX12_made 17 = .ok (.getfield 521, 3) := by decide +kernel
theorem dX12_made_20 : decode cX12_made 20 = .ok (.goto 4, 3) := by decide +kernel
theorem dX12_made_23 : decode cX12_made 23 = .ok (.iconst (-1), 1) := by decide +kernel
theorem dX12_made_24 : decode cX12_made 24 = .ok (.ireturn, 1) := by decide +kernel
theorem dX12_written_0 : decode cX12_written 0 = .ok (.aload_n 0, 1) := by decide +kernel
theorem dX12_written_1 : decode cX12_written 1 = .ok (.getfield 527, 3) := by decide +kernel
theorem dX12_written_4 : decode cX12_written 4 = .ok (.ireturn, 1) := by decide +kernel
theorem dX12_out_0 : decode cX12_out 0 = .ok (.iload_n 1, 1) := by decide +kernel
theorem dX12_out_1 : decode cX12_out 1 = .ok (.ifCond .lt 27, 3) := by decide +kernel
theorem dX12_out_4 : decode cX12_out 4 = .ok (.iload_n 1, 1) := by decide +kernel
theorem dX12_out_5 : decode cX12_out 5 = .ok (.aload_n 0, 1) := by decide +kernel
theorem dX12_out_6 : decode cX12_out 6 = .ok (.getfield 527, 3) := by decide +kernel
theorem dX12_out_9 : decode cX12_out 9 = .ok (.if_icmp .ge 19, 3) := by decide +kernel
theorem dX12_out_12 : decode cX12_out 12 = .ok (.iload_n 1, 1) := by decide +kernel
theorem dX12_out_13 : decode cX12_out 13 = .ok (.sipush 256, 3) := by decide +kernel
theorem dX12_out_16 : decode cX12_out 16 = .ok (.if_icmp .ge 12, 3) := by decide +kernel
theorem dX12_out_19 : decode cX12_out 19 = .ok (.aload_n 0, 1) := by decide +kernel
theorem dX12_out_20 : decode cX12_out 20 = .ok (.getfield 95, 3) := by decide +kernel
theorem dX12_out_23 : decode cX12_out 23 = .ok (.iload_n 1, 1) := by decide +kernel
theorem dX12_out_24 : decode cX12_out 24 = .ok (.iaload, 1) := by decide +kernel
theorem dX12_out_25 : decode cX12_out 25 = .ok (.goto 4, 3) := by decide +kernel
theorem dX12_out_28 : decode cX12_out 28 = .ok (.iconst 0, 1) := by decide +kernel
theorem dX12_out_29 : decode cX12_out 29 = .ok (.ireturn, 1) := by decide +kernel
theorem dX12_strays_0 : decode cX12_strays 0 = .ok (.aload_n 0, 1) := by decide +kernel
theorem dX12_strays_1 : decode cX12_strays 1 = .ok (.getfield 545, 3) := by decide +kernel
theorem dX12_strays_4 : decode cX12_strays 4 = .ok (.ireturn, 1) := by decide +kernel
