theorem dX8_init_0 : decode cX8_init 0 = .ok (.aload_n 0, 1) := by decide +kernel
theorem dX8_init_1 : decode cX8_init 1 = .ok (.invokespecial 3, 3) := by decide +kernel
theorem dX8_init_4 : decode cX8_init 4 = .ok (.aload_n 0, 1) := by decide +kernel
theorem dX8_init_5 : decode cX8_init 5 = .ok (.sipush 16000, 3) := by decide +kernel
theorem dX8_init_8 : decode cX8_init 8 = .ok (.newarray .byte, 2) := by decide +kernel
theorem dX8_init_10 : decode cX8_init 10 = .ok (.putfield 9, 3) := by decide +kernel
theorem dX8_init_13 : decode cX8_init 13 = .ok (.aload_n 0, 1) := by decide +kernel
theorem dX8_init_14 : decode cX8_init 14 = .ok (.sipush 16000, 3) := by decide +kernel
theorem dX8_init_17 : decode cX8_init 17 = .ok (.newarray .int, 2) := by decide +kernel
theorem dX8_init_19 : decode cX8_init 19 = .ok (.putfield 15, 3) := by decide +kernel
theorem dX8_init_22 : decode cX8_init 22 = .ok (.aload_n 0, 1) := by decide +kernel
theorem dX8_init_23 : decode cX8_init 23 = .ok (.sipush 16000, 3) := by decide +kernel
theorem dX8_init_26 : decode cX8_init 26 = .ok (.newarray .int, 2) := by decide +kernel
theorem dX8_init_28 : decode cX8_init 28 = .ok (.putfield 19, 3) := by decide +kernel
theorem dX8_init_31 : decode cX8_init 31 = .ok (.aload_n 0, 1) := by decide +kernel
theorem dX8_init_32 : decode cX8_init 32 = .ok (.sipush 16000, 3) := by decide +kernel
theorem dX8_init_35 : decode cX8_init 35 = .ok (.newarray .byte, 2) := by decide +kernel
theorem dX8_init_37 : decode cX8_init 37 = .ok (.putfield 22, 3) := by decide +kernel
theorem dX8_init_40 : decode cX8_init 40 = .ok (.return_, 1) := by decide +kernel
theorem dX8_take_0 : decode cX8_take 0 = .ok (.aload_n 0, 1) := by decide +kernel
theorem dX8_take_1 : decode cX8_take 1 = .ok (.iload_n 2, 1) := by decide +kernel
theorem dX8_take_2 : decode cX8_take 2 = .ok (.ifCond .lt 18, 3) := by decide +kernel
theorem dX8_take_5 : decode cX8_take 5 = .ok (.iload_n 2, 1) := by decide +kernel
theorem dX8_take_6 : decode cX8_take 6 = .ok (.sipush 16000, 3) := by decide +kernel
theorem dX8_take_9 : decode cX8_take 9 = .ok (.if_icmp .gt 11, 3) := by decide +kernel
theorem dX8_take_12 : decode cX8_take 12 = .ok (.iload_n 2, 1) := by decide +kernel
theorem dX8_take_13 : decode cX8_take 13 = .ok (.iconst 4, 1) := by decide +kernel
theorem dX8_take_14 : decode cX8_take 14 = .ok (.aload_n 1, 1) := by decide +kernel
theorem dX8_take_15 : decode cX8_take 15 = .ok (.arraylength, 1) := by decide +kernel
theorem dX8_take_16 : decode cX8_take 16 = .ok (.imul, 1) := by decide +kernel
theorem dX8_take_17 : decode cX8_take 17 = .ok (.if_icmp .le 7, 3) := by decide +kernel
theorem dX8_take_20 : decode cX8_take 20 = .ok (.iconst 0, 1) := by decide +kernel
theorem dX8_take_21 : decode cX8_take 21 = .ok (.goto 4, 3) := by decide +kernel
theorem dX8_take_24 : decode cX8_take 24 = .ok (.iload_n 2, 1) := by decide +kernel
theorem dX8_take_25 : decode cX8_take 25 = .ok (.putfield 25, 3) := by decide +kernel
theorem dX8_take_28 : decode cX8_take 28 = .ok (.iconst 0, 1) := by decide +kernel
theorem dX8_take_29 : decode cX8_take 29 = .ok (.istore_n 3, 1) := by decide +kernel
theorem dX8_take_30 : decode cX8_take 30 = .ok (.iload_n 3, 1) := by decide +kernel
theorem dX8_take_31 : decode cX8_take 31 = .ok (.aload_n 0, 1) := by decide +kernel
theorem dX8_take_32 : decode cX8_take 32 = .ok (.getfield 25, 3) := by decide +kernel
theorem dX8_take_35 : decode cX8_take 35 = .ok (.if_icmp .ge 31, 3) := by decide +kernel
theorem dX8_take_38 : decode cX8_take 38 = .ok (.aload_n 0, 1) := by decide +kernel
theorem dX8_take_39 : decode cX8_take 39 = .ok (.getfield 9, 3) := by decide +kernel
theorem dX8_take_42 : decode cX8_take 42 = .ok (.iload_n 3, 1) := by decide +kernel
theorem dX8_take_43 : decode cX8_take 43 = .ok (.aload_n 1, 1) := by decide +kernel
theorem dX8_take_44 : decode cX8_take 44 = .ok (.iload_n 3, 1) := by decide +kernel
theorem dX8_take_45 : decode cX8_take 45 = .ok (.iconst 2, 1) := by decide +kernel
theorem dX8_take_46 : decode cX8_take 46 = .ok (.ishr, 1) := by decide +kernel
theorem dX8_take_47 : decode cX8_take 47 = .ok (.iaload, 1) := by decide +kernel
theorem dX8_take_48 : decode cX8_take 48 = .ok (.bipush 24, 2) := by decide +kernel
theorem dX8_take_50 : decode cX8_take 50 = .ok (.bipush 8, 2) := by decide +kernel
theorem dX8_take_52 : decode cX8_take 52 = .ok (.iload_n 3, 1) := by decide +kernel
theorem dX8_take_53 : decode cX8_take 53 = .ok (.iconst 3, 1) := by decide +kernel
theorem dX8_take_54 : decode cX8_take 54 = .ok (.iand, 1) := by decide +kernel
theorem dX8_take_55 : decode cX8_take 55 = .ok (.imul, 1) := by decide +kernel
theorem dX8_take_56 : decode cX8_take 56 = .ok (.isub, 1) := by decide +kernel
theorem dX8_take_57 : decode cX8_take 57 = .ok (.ishr, 1) := by decide +kernel
theorem dX8_take_58 : decode cX8_take 58 = .ok (.i2b, 1) := by decide +kernel
theorem dX8_take_59 : decode cX8_take 59 = .ok (.bastore, 1) := by decide +kernel
theorem dX8_take_60 : decode cX8_take 60 = .ok (.iinc 3 1, 3) := by decide +kernel
theorem dX8_take_63 : decode cX8_take 63 = .ok (.goto (-33), 3) := by decide +kernel
theorem dX8_take_66 : decode cX8_take 66 = .ok (.return_, 1) := by decide +kernel
theorem dX8_useUp_0 : decode cX8_useUp 0 = .ok (.aload_n 0, 1) := by decide +kernel
theorem dX8_useUp_1 : decode cX8_useUp 1 = .ok (.iconst 0, 1) := by decide +kernel
theorem dX8_useUp_2 : decode cX8_useUp 2 = .ok (.putfield 25, 3) := by decide +kernel
theorem dX8_useUp_5 : decode cX8_useUp 5 = .ok (.return_, 1) := by decide +kernel
theorem dX8_split_0 : decode cX8_split 0 = .ok (.aload_n 0, 1) := by decide +kernel
theorem dX8_split_1 : decode cX8_split 1 = .ok (.iconst 0, 1) := by decide +kernel
theorem dX8_split_2 : decode cX8_split 2 = .ok (.putfield 29, 3) := by decide +kernel
theorem dX8_split_5 : decode cX8_split 5 = .ok (.iconst 0, 1) := by decide +kernel
theorem dX8_split_6 : decode cX8_split 6 = .ok (.istore_n 1, 1) := by decide +kernel
theorem dX8_split_7 : decode cX8_split 7 = .ok (.iconst 0, 1) := by decide +kernel
theorem dX8_split_8 : decode cX8_split 8 = .ok (.istore_n 2, 1) := by decide +kernel
theorem dX8_split_9 : decode cX8_split 9 = .ok (.iconst 0, 1) := by decide +kernel
theorem dX8_split_10 : decode cX8_split 10 = .ok (.istore_n 3, 1) := by decide +kernel
theorem dX8_split_11 : decode cX8_split 11 = .ok (.iload_n 3, 1) := by decide +kernel
theorem dX8_split_12 : decode cX8_split 12 = .ok (.aload_n 0, 1) := by decide +kernel
theorem dX8_split_13 : decode cX8_split 13 = .ok (.getfield 25, 3) := by decide +kernel
theorem dX8_split_16 : decode cX8_split 16 = .ok (.if_icmp .ge 207, 3) := by decide +kernel
theorem dX8_split_19 : decode cX8_split 19 = .ok (.aload_n 0, 1) := by decide +kernel
theorem dX8_split_20 : decode cX8_split 20 = .ok (.getfield 9, 3) := by decide +kernel
theorem dX8_split_23 : decode cX8_split 23 = .ok (.iload_n 3, 1) := by decide +kernel
theorem dX8_split_24 : decode cX8_split 24 = .ok (.baload, 1) := by decide +kernel
theorem dX8_split_25 : decode cX8_split 25 = .ok (.istore 4, 2) := by decide +kernel
theorem dX8_split_27 : decode cX8_split 27 = .ok (.iload 4, 2) := by decide +kernel
theorem dX8_split_29 : decode cX8_split 29 = .ok (.bipush 32, 2) := by decide +kernel
theorem dX8_split_31 : decode cX8_split 31 = .ok (.if_icmp .ge 24, 3) := by decide +kernel
theorem dX8_split_34 : decode cX8_split 34 = .ok (.iload 4, 2) := by decide +kernel
theorem dX8_split_36 : decode cX8_split 36 = .ok (.bipush 9, 2) := by decide +kernel
theorem dX8_split_38 : decode cX8_split 38 = .ok (.if_icmp .eq 17, 3) := by decide +kernel
theorem dX8_split_41 : decode cX8_split 41 = .ok (.iload 4, 2) := by decide +kernel
theorem dX8_split_43 : decode cX8_split 43 = .ok (.bipush 10, 2) := by decide +kernel
theorem dX8_split_45 : decode cX8_split 45 = .ok (.if_icmp .eq 10, 3) := by decide +kernel
theorem dX8_split_48 : decode cX8_split 48 = .ok (.iload 4, 2) := by decide +kernel
theorem dX8_split_50 : decode cX8_split 50 = .ok (.bipush 13, 2) := by decide +kernel
theorem dX8_split_52 : decode cX8_split 52 = .ok (.if_icmp .ne 10, 3) := by decide +kernel
theorem dX8_split_55 : decode cX8_split 55 = .ok (.iload 4, 2) := by decide +kernel
theorem dX8_split_57 : decode cX8_split 57 = .ok (.bipush 127, 2) := by decide +kernel
theorem dX8_split_59 : decode cX8_split 59 = .ok (.if_icmp .ne 5, 3) := by decide +kernel
theorem dX8_split_62 : decode cX8_split 62 = .ok (.iconst 0, 1) := by decide +kernel
theorem dX8_split_63 : decode cX8_split 63 = .ok (.ireturn, 1) := by decide +kernel
theorem dX8_split_64 : decode cX8_split 64 = .ok (.iload 4, 2) := by decide +kernel
theorem dX8_split_66 : decode cX8_split 66 = .ok (.bipush 59, 2) := by decide +kernel
theorem dX8_split_68 : decode cX8_split 68 = .ok (.if_icmp .eq 14, 3) := by decide +kernel
theorem dX8_split_71 : decode cX8_split 71 = .ok (.iload_n 1, 1) := by decide +kernel
theorem dX8_split_72 : decode cX8_split 72 = .ok (.ifCond .eq 14, 3) := by decide +kernel
theorem dX8_split_75 : decode cX8_split 75 = .ok (.iload 4, 2) := by decide +kernel
theorem dX8_split_77 : decode cX8_split 77 = .ok (.bipush 10, 2) := by decide +kernel
theorem dX8_split_79 : decode cX8_split 79 = .ok (.if_icmp .eq 7, 3) := by decide +kernel
theorem dX8_split_82 : decode cX8_split 82 = .ok (.iconst 1, 1) := by decide +kernel
theorem dX8_split_83 : decode cX8_split 83 = .ok (.goto 4, 3) := by decide +kernel
theorem dX8_split_86 : decode cX8_split 86 = .ok (.iconst 0, 1) := by decide +kernel
theorem dX8_split_87 : decode cX8_split 87 = .ok (.istore_n 1, 1) := by decide +kernel
theorem dX8_split_88 : decode cX8_split 88 = .ok (.iload_n 1, 1) := by decide +kernel
theorem dX8_split_89 : decode cX8_split 89 = .ok (.ifCond .ne 10, 3) := by decide +kernel
theorem dX8_split_92 : decode cX8_split 92 = .ok (.iload 4, 2) := by decide +kernel
theorem dX8_split_94 : decode cX8_split 94 = .ok (.bipush 32, 2) := by decide +kernel
theorem dX8_split_96 : decode cX8_split 96 = .ok (.if_icmp .gt 7, 3) := by decide +kernel
theorem dX8_split_99 : decode cX8_split 99 = .ok (.iconst 1, 1) := by decide +kernel
theorem dX8_split_100 : decode cX8_split 100 = .ok (.goto 4, 3) := by decide +kernel
theorem dX8_split_103 : decode cX8_split 103 = .ok (.iconst 0, 1) := by decide +kernel
theorem dX8_split_104 : decode cX8_split 104 = .ok (.istore 5, 2) := by decide +kernel
theorem dX8_split_106 : decode cX8_split 106 = .ok (.iload 4, 2) := by decide +kernel
theorem dX8_split_108 : decode cX8_split 108 = .ok (.bipush 40, 2) := by decide +kernel
theorem dX8_split_110 : decode cX8_split 110 = .ok (.if_icmp .eq 31, 3) := by decide +kernel
theorem dX8_split_113 : decode cX8_split 113 = .ok (.iload 4, 2) := by decide +kernel
theorem dX8_split_115 : decode cX8_split 115 = .ok (.bipush 41, 2) := by decide +kernel
theorem dX8_split_117 : decode cX8_split 117 = .ok (.if_icmp .eq 24, 3) := by decide +kernel
theorem dX8_split_120 : decode cX8_split 120 = .ok (.iload 4, 2) := by decide +kernel
theorem dX8_split_122 : decode cX8_split 122 = .ok (.bipush 123, 2) := by decide +kernel
theorem dX8_split_124 : decode cX8_split 124 = .ok (.if_icmp .eq 17, 3) := by decide +kernel
theorem dX8_split_127 : decode cX8_split 127 = .ok (.iload 4, 2) := by decide +kernel
theorem dX8_split_129 : decode cX8_split 129 = .ok (.bipush 125, 2) := by decide +kernel
theorem dX8_split_131 : decode cX8_split 131 = .ok (.if_icmp .eq 10, 3) := by decide +kernel
theorem dX8_split_134 : decode cX8_split 134 = .ok (.iload 4, 2) := by decide +kernel
theorem dX8_split_136 : decode cX8_split 136 = .ok (.bipush 58, 2) := by decide +kernel
theorem dX8_split_138 : decode cX8_split 138 = .ok (.if_icmp .ne 7, 3) := by decide +kernel
theorem dX8_split_141 : decode cX8_split 141 = .ok (.iconst 1, 1) := by decide +kernel
theorem dX8_split_142 : decode cX8_split 142 = .ok (.goto 4, 3) := by decide +kernel
theorem dX8_split_145 : decode cX8_split 145 = .ok (.iconst 0, 1) := by decide +kernel
theorem dX8_split_146 : decode cX8_split 146 = .ok (.istore 6, 2) := by decide +kernel
theorem dX8_split_148 : decode cX8_split 148 = .ok (.iload 5, 2) := by decide +kernel
theorem dX8_split_150 : decode cX8_split 150 = .ok (.ifCond .ne 32, 3) := by decide +kernel
theorem dX8_split_153 : decode cX8_split 153 = .ok (.iload 6, 2) := by decide +kernel
theorem dX8_split_155 : decode cX8_split 155 = .ok (.ifCond .ne 7, 3) := by decide +kernel
theorem dX8_split_158 : decode cX8_split 158 = .ok (.iload_n 2, 1) := by decide +kernel
theorem dX8_split_159 : decode cX8_split 159 = .ok (.ifCond .ne 23, 3) := by decide +kernel
theorem dX8_split_162 : decode cX8_split 162 = .ok (.aload_n 0, 1) := by decide +kernel
theorem dX8_split_163 : decode cX8_split 163 = .ok (.getfield 15, 3) := by decide +kernel
theorem dX8_split_166 : decode cX8_split 166 = .ok (.aload_n 0, 1) := by decide +kernel
theorem dX8_split_167 : decode cX8_split 167 = .ok (.getfield 29, 3) := by decide +kernel
theorem dX8_split_170 : decode cX8_split 170 = .ok (.iload_n 3, 1) := by decide +kernel
theorem dX8_split_171 : decode cX8_split 171 = .ok (.iastore, 1) := by decide +kernel
theorem dX8_split_172 : decode cX8_split 172 = .ok (.aload_n 0, 1) := by decide +kernel
theorem dX8_split_173 : decode cX8_split 173 = .ok (.dup, 1) := by decide +kernel
theorem dX8_split_174 : decode cX8_split 174 = .ok (.getfield 29, 3) := by decide +kernel
theorem dX8_split_177 : decode cX8_split 177 = .ok (.iconst 1, 1) := by decide +kernel
theorem dX8_split_178 : decode cX8_split 178 = .ok (.iadd, 1) := by decide +kernel
theorem dX8_split_179 : decode cX8_split 179 = .ok (.putfield 29, 3) := by decide +kernel
theorem dX8_split_182 : decode cX8_split 182 = .ok (.iload 5, 2) := by decide +kernel
theorem dX8_split_184 : decode cX8_split 184 = .ok (.ifCond .ne 17, 3) := by decide +kernel
theorem dX8_split_187 : decode cX8_split 187 = .ok (.aload_n 0, 1) := by decide +kernel
theorem dX8_split_188 : decode cX8_split 188 = .ok (.getfield 19, 3) := by decide +kernel
theorem dX8_split_191 : decode cX8_split 191 = .ok (.aload_n 0, 1) := by decide +kernel
theorem dX8_split_192 : decode cX8_split 192 = .ok (.getfield 29, 3) := by decide +kernel
theorem dX8_split_195 : decode cX8_split 195 = .ok (.iconst 1, 1) := by decide +kernel
theorem dX8_split_196 : decode cX8_split 196 = .ok (.isub, 1) := by decide +kernel
theorem dX8_split_197 : decode cX8_split 197 = .ok (.iload_n 3, 1) := by decide +kernel
theorem dX8_split_198 : decode cX8_split 198 = .ok (.iconst 1, 1) := by decide +kernel
theorem dX8_split_199 : decode cX8_split 199 = .ok (.iadd, 1) := by decide +kernel
theorem dX8_split_200 : decode cX8_split 200 = .ok (.iastore, 1) := by decide +kernel
theorem dX8_split_201 : decode cX8_split 201 = .ok (.iload 5, 2) := by decide +kernel
theorem dX8_split_203 : decode cX8_split 203 = .ok (.ifCond .ne 12, 3) := by decide +kernel
theorem dX8_split_206 : decode cX8_split 206 = .ok (.iload 6, 2) := by decide +kernel
theorem dX8_split_208 : decode cX8_split 208 = .ok (.ifCond .ne 7, 3) := by decide +kernel
theorem dX8_split_211 : decode cX8_split 211 = .ok (.iconst 1, 1) := by decide +kernel
theorem dX8_split_212 : decode cX8_split 212 = .ok (.goto 4, 3) := by decide +kernel
theorem dX8_split_215 : decode cX8_split 215 = .ok (.iconst 0, 1) := by decide +kernel
theorem dX8_split_216 : decode cX8_split 216 = .ok (.istore_n 2, 1) := by decide +kernel
theorem dX8_split_217 : decode cX8_split 217 = .ok (.iinc 3 1, 3) := by decide +kernel
theorem dX8_split_220 : decode cX8_split 220 = .ok (.goto (-209), 3) := by decide +kernel
theorem dX8_split_223 : decode cX8_split 223 = .ok (.iconst 1, 1) := by decide +kernel
theorem dX8_split_224 : decode cX8_split 224 = .ok (.ireturn, 1) := by decide +kernel
theorem dX8_start_0 : decode cX8_start 0 = .ok (.iload_n 1, 1) := by decide +kernel
theorem dX8_start_1 : decode cX8_start 1 = .ok (.ifCond .lt 20, 3) := by decide +kernel
theorem dX8_start_4 : decode cX8_start 4 = .ok (.iload_n 1, 1) := by decide +kernel
theorem dX8_start_5 : decode cX8_start 5 = .ok (.aload_n 0, 1) := by decide +kernel
theorem dX8_start_6 : decode cX8_start 6 = .ok (.getfield 29, 3) := by decide +kernel
theorem dX8_start_9 : decode cX8_start 9 = .ok (.if_icmp .ge 12, 3) := by decide +kernel
theorem dX8_start_12 : decode cX8_start 12 = .ok (.aload_n 0, 1) := by decide +kernel
theorem dX8_start_13 : decode cX8_start 13 = .ok (.getfield 15, 3) := by decide +kernel
theorem dX8_start_16 : decode cX8_start 16 = .ok (.iload_n 1, 1) := by decide +kernel
theorem dX8_start_17 : decode cX8_start 17 = .ok (.iaload, 1) := by decide +kernel
theorem dX8_start_18 : decode cX8_start 18 = .ok (.goto 4, 3) := by decide +kernel
theorem dX8_start_21 : decode cX8_start 21 = .ok (.iconst 0, 1) := by decide +kernel
theorem dX8_start_22 : decode cX8_start 22 = .ok (.ireturn, 1) := by decide +kernel
theorem dX8_stop_0 : decode cX8_stop 0 = .ok (.iload_n 1, 1) := by decide +kernel
theorem dX8_stop_1 : decode cX8_stop 1 = .ok (.ifCond .lt 20, 3) := by decide +kernel
theorem dX8_stop_4 : decode cX8_stop 4 = .ok (.iload_n 1, 1) := by decide +kernel
theorem dX8_stop_5 : decode cX8_stop 5 = .ok (.aload_n 0, 1) := by decide +kernel
theorem dX8_stop_6 : decode cX8_stop 6 = .ok (.getfield 29, 3) := by decide +kernel
theorem dX8_stop_9 : decode cX8_stop 9 = .ok (.if_icmp .ge 12, 3) := by decide +kernel
theorem dX8_stop_12 : decode cX8_stop 12 = .ok (.aload_n 0, 1) := by decide +kernel
theorem dX8_stop_13 : decode cX8_stop 13 = .ok (.getfield 19, 3) := by decide +kernel
theorem dX8_stop_16 : decode cX8_stop 16 = .ok (.iload_n 1, 1) := by decide +kernel
theorem dX8_stop_17 : decode cX8_stop 17 = .ok (.iaload, 1) := by decide +kernel
theorem dX8_stop_18 : decode cX8_stop 18 = .ok (.goto 4, 3) := by decide +kernel
theorem dX8_stop_21 : decode cX8_stop 21 = .ok (.iconst 0, 1) := by decide +kernel
theorem dX8_stop_22 : decode cX8_stop 22 = .ok (.ireturn, 1) := by decide +kernel
theorem dX8_isMark_0 : decode cX8_isMark 0 = .ok (.iload_n 1, 1) := by decide +kernel
theorem dX8_isMark_1 : decode cX8_isMark 1 = .ok (.ifCond .lt 30, 3) := by decide +kernel
theorem dX8_isMark_4 : decode cX8_isMark 4 = .ok (.iload_n 1, 1) := by decide +kernel
theorem dX8_isMark_5 : decode cX8_isMark 5 = .ok (.aload_n 0, 1) := by decide +kernel
theorem dX8_isMark_6 : decode cX8_isMark 6 = .ok (.getfield 29, 3) := by decide +kernel
theorem dX8_isMark_9 : decode cX8_isMark 9 = .ok (.if_icmp .ge 22, 3) := by decide +kernel
theorem dX8_isMark_12 : decode cX8_isMark 12 = .ok (.aload_n 0, 1) := by decide +kernel
theorem dX8_isMark_13 : decode cX8_isMark 13 = .ok (.getfield 9, 3) := by decide +kernel
theorem dX8_isMark_16 : decode cX8_isMark 16 = .ok (.aload_n 0, 1) := by decide +kernel
theorem dX8_isMark_17 : decode cX8_isMark 17 = .ok (.getfield 15, 3) := by decide +kernel
theorem dX8_isMark_20 : decode cX8_isMark 20 = .ok (.iload_n 1, 1) := by decide +kernel
theorem dX8_isMark_21 : decode cX8_isMark 21 = .ok (.iaload, 1) := by decide +kernel
theorem dX8_isMark_22 : decode cX8_isMark 22 = .ok (.baload, 1) := by decide +kernel
theorem dX8_isMark_23 : decode cX8_isMark 23 = .ok (.iload_n 2, 1) := by decide +kernel
theorem dX8_isMark_24 : decode cX8_isMark 24 = .ok (.if_icmp .ne 7, 3) := by decide +kernel
theorem dX8_isMark_27 : decode cX8_isMark 27 = .ok (.iconst 1, 1) := by decide +kernel
theorem dX8_isMark_28 : decode cX8_isMark 28 = .ok (.goto 4, 3) := by decide +kernel
theorem dX8_isMark_31 : decode cX8_isMark 31 = .ok (.iconst 0, 1) := by decide +kernel
theorem dX8_isMark_32 : decode cX8_isMark 32 = .ok (.ireturn, 1) := by decide +kernel
theorem dX8_isWord_0 : decode cX8_isWord 0 = .ok (.iload_n 1, 1) := by decide +kernel
theorem dX8_isWord_1 : decode cX8_isWord 1 = .ok (.ifCond .lt 35, 3) := by decide +kernel
theorem dX8_isWord_4 : decode cX8_isWord 4 = .ok (.iload_n 1, 1) := by decide +kernel
theorem dX8_isWord_5 : decode cX8_isWord 5 = .ok (.aload_n 0, 1) := by decide +kernel
theorem dX8_isWord_6 : decode cX8_isWord 6 = .ok (.getfield 29, 3) := by decide +kernel
theorem dX8_isWord_9 : decode cX8_isWord 9 = .ok (.if_icmp .ge 27, 3) := by decide +kernel
theorem dX8_isWord_12 : decode cX8_isWord 12 = .ok (.aload_n 0, 1) := by decide +kernel
theorem dX8_isWord_13 : decode cX8_isWord 13 = .ok (.aload_n 0, 1) := by decide +kernel
theorem dX8_isWord_14 : decode cX8_isWord 14 = .ok (.getfield 15, 3) := by decide +kernel
theorem dX8_isWord_17 : decode cX8_isWord 17 = .ok (.iload_n 1, 1) := by decide +kernel
theorem dX8_isWord_18 : decode cX8_isWord 18 = .ok (.iaload, 1) := by decide +kernel
theorem dX8_isWord_19 : decode cX8_isWord 19 = .ok (.aload_n 0, 1) := by decide +kernel
theorem dX8_isWord_20 : decode cX8_isWord 20 = .ok (.getfield 19, 3) := by decide +kernel
theorem dX8_isWord_23 : decode cX8_isWord 23 = .ok (.iload_n 1, 1) := by decide +kernel
theorem dX8_isWord_24 : decode cX8_isWord 24 = .ok (.iaload, 1) := by decide +kernel
theorem dX8_isWord_25 : decode cX8_isWord 25 = .ok (.aload_n 2, 1) := by decide +kernel
theorem dX8_isWord_26 : decode cX8_isWord 26 = .ok (.invokevirtual 32, 3) := by decide +kernel
theorem dX8_isWord_29 : decode cX8_isWord 29 = .ok (.ifCond .eq 7, 3) := by decide +kernel
theorem dX8_isWord_32 : decode cX8_isWord 32 = .ok (.iconst 1, 1) := by decide +kernel
theorem dX8_isWord_33 : decode cX8_isWord 33 = .ok (.goto 4, 3) := by decide +kernel
theorem dX8_isWord_36 : decode cX8_isWord 36 = .ok (.iconst 0, 1) := by decide +kernel
theorem dX8_isWord_37 : decode cX8_isWord 37 = .ok (.ireturn, 1) := by decide +kernel
theorem dX8_isText_0 : decode cX8_isText 0 = .ok (.iload_n 1, 1) := by decide +kernel
theorem dX8_isText_1 : decode cX8_isText 1 = .ok (.ifCond .lt 21, 3) := by decide +kernel
theorem dX8_isText_4 : decode cX8_isText 4 = .ok (.iload_n 2, 1) := by decide +kernel
theorem dX8_isText_5 : decode cX8_isText 5 = .ok (.aload_n 0, 1) := by decide +kernel
theorem dX8_isText_6 : decode cX8_isText 6 = .ok (.getfield 25, 3) := by decide +kernel
theorem dX8_isText_9 : decode cX8_isText 9 = .ok (.if_icmp .gt 13, 3) := by decide +kernel
theorem dX8_isText_12 : decode cX8_isText 12 = .ok (.iload_n 2, 1) := by decide +kernel
theorem dX8_isText_13 : decode cX8_isText 13 = .ok (.iload_n 1, 1) := by decide +kernel
theorem dX8_isText_14 : decode cX8_isText 14 = .ok (.isub, 1) := by decide +kernel
theorem dX8_isText_15 : decode cX8_isText 15 = .ok (.aload_n 3, 1) := by decide +kernel
theorem dX8_isText_16 : decode cX8_isText 16 = .ok (.invokevirtual 36, 3) := by decide +kernel
theorem dX8_isText_19 : decode cX8_isText 19 = .ok (.if_icmp .eq 5, 3) := by decide +kernel
theorem dX8_isText_22 : decode cX8_isText 22 = .ok (.iconst 0, 1) := by decide +kernel
theorem dX8_isText_23 : decode cX8_isText 23 = .ok (.ireturn, 1) := by decide +kernel
theorem dX8_isText_24 : decode cX8_isText 24 = .ok (.iconst 0, 1) := by decide +kernel
theorem dX8_isText_25 : decode cX8_isText 25 = .ok (.istore 4, 2) := by decide +kernel
theorem dX8_isText_27 : decode cX8_isText 27 = .ok (.iload 4, 2) := by decide +kernel
theorem dX8_isText_29 : decode cX8_isText 29 = .ok (.aload_n 3, 1) := by decide +kernel
theorem dX8_isText_30 : decode cX8_isText 30 = .ok (.invokevirtual 36, 3) := by decide +kernel
theorem dX8_isText_33 : decode cX8_isText 33 = .ok (.if_icmp .ge 29, 3) := by decide +kernel
theorem dX8_isText_36 : decode cX8_isText 36 = .ok (.aload_n 0, 1) := by decide +kernel
theorem dX8_isText_37 : decode cX8_isText 37 = .ok (.getfield 9, 3) := by decide +kernel
theorem dX8_isText_40 : decode cX8_isText 40 = .ok (.iload_n 1, 1) := by decide +kernel
theorem dX8_isText_41 : decode cX8_isText 41 = .ok (.iload 4, 2) := by decide +kernel
theorem dX8_isText_43 : decode cX8_isText 43 = .ok (.iadd, 1) := by decide +kernel
theorem dX8_isText_44 : decode cX8_isText 44 = .ok (.baload, 1) := by decide +kernel
theorem dX8_isText_45 : decode cX8_isText 45 = .ok (.aload_n 3, 1) := by decide +kernel
theorem dX8_isText_46 : decode cX8_isText 46 = .ok (.iload 4, 2) := by decide +kernel
theorem dX8_isText_48 : decode cX8_isText 48 = .ok (.invokevirtual 41, 3) := by decide +kernel
theorem dX8_isText_51 : decode cX8_isText 51 = .ok (.if_icmp .eq 5, 3) := by decide +kernel
theorem dX8_isText_54 : decode cX8_isText 54 = .ok (.iconst 0, 1) := by decide +kernel
theorem dX8_isText_55 : decode cX8_isText 55 = .ok (.ireturn, 1) := by decide +kernel
theorem dX8_isText_56 : decode cX8_isText 56 = .ok (.iinc 4 1, 3) := by decide +kernel
theorem dX8_isText_59 : decode cX8_isText 59 = .ok (.goto (-32), 3) := by decide +kernel
theorem dX8_isText_62 : decode cX8_isText 62 = .ok (.iconst 1, 1) := by decide +kernel
theorem dX8_isText_63 : decode cX8_isText 63 = .ok (.ireturn, 1) := by decide +kernel
theorem dX8_same_0 : decode cX8_same 0 = .ok (.iload_n 1, 1) := by decide +kernel
theorem dX8_same_1 : decode cX8_same 1 = .ok (.ifCond .lt 42, 3) := by decide +kernel
theorem dX8_same_4 : decode cX8_same 4 = .ok (.iload_n 1, 1) := by decide +kernel
theorem dX8_same_5 : decode cX8_same 5 = .ok (.aload_n 0, 1) := by decide +kernel
theorem dX8_same_6 : decode cX8_same 6 = .ok (.getfield 29, 3) := by decide +kernel
theorem dX8_same_9 : decode cX8_same 9 = .ok (.if_icmp .ge 34, 3) := by decide +kernel
theorem dX8_same_12 : decode cX8_same 12 = .ok (.iload_n 2, 1) := by decide +kernel
theorem dX8_same_13 : decode cX8_same 13 = .ok (.ifCond .lt 30, 3) := by decide +kernel
theorem dX8_same_16 : decode cX8_same 16 = .ok (.iload_n 3, 1) := by decide +kernel
theorem dX8_same_17 : decode cX8_same 17 = .ok (.aload_n 0, 1) := by decide +kernel
theorem dX8_same_18 : decode cX8_same 18 = .ok (.getfield 25, 3) := by decide +kernel
theorem dX8_same_21 : decode cX8_same 21 = .ok (.if_icmp .gt 22, 3) := by decide +kernel
theorem dX8_same_24 : decode cX8_same 24 = .ok (.iload_n 3, 1) := by decide +kernel
theorem dX8_same_25 : decode cX8_same 25 = .ok (.iload_n 2, 1) := by decide +kernel
theorem dX8_same_26 : decode cX8_same 26 = .ok (.isub, 1) := by decide +kernel
theorem dX8_same_27 : decode cX8_same 27 = .ok (.aload_n 0, 1) := by decide +kernel
theorem dX8_same_28 : decode cX8_same 28 = .ok (.getfield 19, 3) := by decide +kernel
theorem dX8_same_31 : decode cX8_same 31 = .ok (.iload_n 1, 1) := by decide +kernel
theorem dX8_same_32 : decode cX8_same 32 = .ok (.iaload, 1) := by decide +kernel
theorem dX8_same_33 : decode cX8_same 33 = .ok (.aload_n 0, 1) := by decide +kernel
theorem dX8_same_34 : decode cX8_same 34 = .ok (.getfield 15, 3) := by decide +kernel
theorem dX8_same_37 : decode cX8_same 37 = .ok (.iload_n 1, 1) := by decide +kernel
theorem dX8_same_38 : decode cX8_same 38 = .ok (.iaload, 1) := by decide +kernel
theorem dX8_same_39 : decode cX8_same 39 = .ok (.isub, 1) := by decide +kernel
theorem dX8_same_40 : decode cX8_same 40 = .ok (.if_icmp .eq 5, 3) := by decide +kernel
theorem dX8_same_43 : decode cX8_same 43 = .ok (.iconst 0, 1) := by decide +kernel
theorem dX8_same_44 : decode cX8_same 44 = .ok (.ireturn, 1) := by decide +kernel
theorem dX8_same_45 : decode cX8_same 45 = .ok (.iload_n 2, 1) := by decide +kernel
theorem dX8_same_46 : decode cX8_same 46 = .ok (.aload_n 0, 1) := by decide +kernel
theorem dX8_same_47 : decode cX8_same 47 = .ok (.getfield 15, 3) := by decide +kernel
theorem dX8_same_50 : decode cX8_same 50 = .ok (.iload_n 1, 1) := by decide +kernel
theorem dX8_same_51 : decode cX8_same 51 = .ok (.iaload, 1) := by decide +kernel
theorem dX8_same_52 : decode cX8_same 52 = .ok (.isub, 1) := by decide +kernel
theorem dX8_same_53 : decode cX8_same 53 = .ok (.istore 4, 2) := by decide +kernel
theorem dX8_same_55 : decode cX8_same 55 = .ok (.aload_n 0, 1) := by decide +kernel
theorem dX8_same_56 : decode cX8_same 56 = .ok (.getfield 15, 3) := by decide +kernel
theorem dX8_same_59 : decode cX8_same 59 = .ok (.iload_n 1, 1) := by decide +kernel
theorem dX8_same_60 : decode cX8_same 60 = .ok (.iaload, 1) := by decide +kernel
theorem dX8_same_61 : decode cX8_same 61 = .ok (.istore 5, 2) := by decide +kernel
theorem dX8_same_63 : decode cX8_same 63 = .ok (.iload 5, 2) := by decide +kernel
theorem dX8_same_65 : decode cX8_same 65 = .ok (.aload_n 0, 1) := by decide +kernel
theorem dX8_same_66 : decode cX8_same 66 = .ok (.getfield 19, 3) := by decide +kernel
theorem dX8_same_69 : decode cX8_same 69 = .ok (.iload_n 1, 1) := by decide +kernel
theorem dX8_same_70 : decode cX8_same 70 = .ok (.iaload, 1) := by decide +kernel
theorem dX8_same_71 : decode cX8_same 71 = .ok (.if_icmp .ge 31, 3) := by decide +kernel
theorem dX8_same_74 : decode cX8_same 74 = .ok (.aload_n 0, 1) := by decide +kernel
theorem dX8_same_75 : decode cX8_same 75 = .ok (.getfield 9, 3) := by decide +kernel
theorem dX8_same_78 : decode cX8_same 78 = .ok (.iload 5, 2) := by decide +kernel
theorem dX8_same_80 : decode cX8_same 80 = .ok (.baload, 1) := by decide +kernel
theorem dX8_same_81 : decode cX8_same 81 = .ok (.aload_n 0, 1) := by decide +kernel
theorem dX8_same_82 : decode cX8_same 82 = .ok (.getfield 9, 3) := by decide +kernel
theorem dX8_same_85 : decode cX8_same 85 = .ok (.iload 5, 2) := by decide +kernel
theorem dX8_same_87 : decode cX8_same 87 = .ok (.iload 4, 2) := by decide +kernel
theorem dX8_same_89 : decode cX8_same 89 = .ok (.iadd, 1) := by decide +kernel
theorem dX8_same_90 : decode cX8_same 90 = .ok (.baload, 1) := by decide +kernel
theorem dX8_same_91 : decode cX8_same 91 = .ok (.if_icmp .eq 5, 3) := by decide +kernel
theorem dX8_same_94 : decode cX8_same 94 = .ok (.iconst 0, 1) := by decide +kernel
theorem dX8_same_95 : decode cX8_same 95 = .ok (.ireturn, 1) := by decide +kernel
theorem dX8_same_96 : decode cX8_same 96 = .ok (.iinc 5 1, 3) := by decide +kernel
theorem dX8_same_99 : decode cX8_same 99 = .ok (.goto (-36), 3) := by decide +kernel
theorem dX8_same_102 : decode cX8_same 102 = .ok (.iconst 1, 1) := by decide +kernel
theorem dX8_same_103 : decode cX8_same 103 = .ok (.ireturn, 1) := by decide +kernel
theorem dX8_numberIn_0 : decode cX8_numberIn 0 = .ok (.iconst 0, 1) := by decide +kernel
theorem dX8_numberIn_1 : decode cX8_numberIn 1 = .ok (.istore 4, 2) := by decide +kernel
theorem dX8_numberIn_3 : decode cX8_numberIn 3 = .ok (.iload_n 2, 1) := by decide +kernel
theorem dX8_numberIn_4 : decode cX8_numberIn 4 = .ok (.istore 5, 2) := by decide +kernel
theorem dX8_numberIn_6 : decode cX8_numberIn 6 = .ok (.iload_n 2, 1) := by decide +kernel
theorem dX8_numberIn_7 : decode cX8_numberIn 7 = .ok (.ifCond .lt 15, 3) := by decide +kernel
theorem dX8_numberIn_10 : decode cX8_numberIn 10 = .ok (.iload_n 3, 1) := by decide +kernel
theorem dX8_numberIn_11 : decode cX8_numberIn 11 = .ok (.aload_n 0, 1) := by decide +kernel
theorem dX8_numberIn_12 : decode cX8_numberIn 12 = .ok (.getfield 25, 3) := by decide +kernel
theorem dX8_numberIn_15 : decode cX8_numberIn 15 = .ok (.if_icmp .gt 7, 3) := by decide +kernel
theorem dX8_numberIn_18 : decode cX8_numberIn 18 = .ok (.iconst 1, 1) := by decide +kernel
theorem dX8_numberIn_19 : decode cX8_numberIn 19 = .ok (.goto 4, 3) := by decide +kernel
theorem dX8_numberIn_22 : decode cX8_numberIn 22 = .ok (.iconst 0, 1) := by decide +kernel
theorem dX8_numberIn_23 : decode cX8_numberIn 23 = .ok (.istore 6, 2) := by decide +kernel
theorem dX8_numberIn_25 : decode cX8_numberIn 25 = .ok (.iconst 0, 1) := by decide +kernel
theorem dX8_numberIn_26 : decode cX8_numberIn 26 = .ok (.istore 7, 2) := by decide +kernel
theorem dX8_numberIn_28 : decode cX8_numberIn 28 = .ok (.iload 7, 2) := by decide +kernel
theorem dX8_numberIn_30 : decode cX8_numberIn 30 = .ok (.aload_n 1, 1) := by decide +kernel
theorem dX8_numberIn_31 : decode cX8_numberIn 31 = .ok (.invokevirtual 36, 3) := by decide +kernel
theorem dX8_numberIn_34 : decode cX8_numberIn 34 = .ok (.if_icmp .ge 99, 3) := by decide +kernel
theorem dX8_numberIn_37 : decode cX8_numberIn 37 = .ok (.aload_n 1, 1) := by decide +kernel
theorem dX8_numberIn_38 : decode cX8_numberIn 38 = .ok (.iload 7, 2) := by decide +kernel
theorem dX8_numberIn_40 : decode cX8_numberIn 40 = .ok (.invokevirtual 41, 3) := by decide +kernel
theorem dX8_numberIn_43 : decode cX8_numberIn 43 = .ok (.istore 8, 2) := by decide +kernel
theorem dX8_numberIn_45 : decode cX8_numberIn 45 = .ok (.iload 8, 2) := by decide +kernel
theorem dX8_numberIn_47 : decode cX8_numberIn 47 = .ok (.bipush 32, 2) := by decide +kernel
theorem dX8_numberIn_49 : decode cX8_numberIn 49 = .ok (.if_icmp .eq 39, 3) := by decide +kernel
theorem dX8_numberIn_52 : decode cX8_numberIn 52 = .ok (.iload 6, 2) := by decide +kernel
theorem dX8_numberIn_54 : decode cX8_numberIn 54 = .ok (.ifCond .eq 25, 3) := by decide +kernel
theorem dX8_numberIn_57 : decode cX8_numberIn 57 = .ok (.iload 5, 2) := by decide +kernel
theorem dX8_numberIn_59 : decode cX8_numberIn 59 = .ok (.iload_n 3, 1) := by decide +kernel
theorem dX8_numberIn_60 : decode cX8_numberIn 60 = .ok (.if_icmp .ge 19, 3) := by decide +kernel
theorem dX8_numberIn_63 : decode cX8_numberIn 63 = .ok (.aload_n 0, 1) := by decide +kernel
theorem dX8_numberIn_64 : decode cX8_numberIn 64 = .ok (.getfield 9, 3) := by decide +kernel
theorem dX8_numberIn_67 : decode cX8_numberIn 67 = .ok (.iload 5, 2) := by decide +kernel
theorem dX8_numberIn_69 : decode cX8_numberIn 69 = .ok (.baload, 1) := by decide +kernel
theorem dX8_numberIn_70 : decode cX8_numberIn 70 = .ok (.iload 8, 2) := by decide +kernel
theorem dX8_numberIn_72 : decode cX8_numberIn 72 = .ok (.if_icmp .ne 7, 3) := by decide +kernel
theorem dX8_numberIn_75 : decode cX8_numberIn 75 = .ok (.iconst 1, 1) := by decide +kernel
theorem dX8_numberIn_76 : decode cX8_numberIn 76 = .ok (.goto 4, 3) := by decide +kernel
theorem dX8_numberIn_79 : decode cX8_numberIn 79 = .ok (.iconst 0, 1) := by decide +kernel
theorem dX8_numberIn_80 : decode cX8_numberIn 80 = .ok (.istore 6, 2) := by decide +kernel
theorem dX8_numberIn_82 : decode cX8_numberIn 82 = .ok (.iinc 5 1, 3) := by decide +kernel
theorem dX8_numberIn_85 : decode cX8_numberIn 85 = .ok (.goto 42, 3) := by decide +kernel
theorem dX8_numberIn_88 : decode cX8_numberIn 88 = .ok (.iload 6, 2) := by decide +kernel
theorem dX8_numberIn_90 : decode cX8_numberIn 90 = .ok (.ifCond .eq 12, 3) := by decide +kernel
theorem dX8_numberIn_93 : decode cX8_numberIn 93 = .ok (.iload 5, 2) := by decide +kernel
theorem dX8_numberIn_95 : decode cX8_numberIn 95 = .ok (.iload_n 3, 1) := by decide +kernel
theorem dX8_numberIn_96 : decode cX8_numberIn 96 = .ok (.if_icmp .ne 6, 3) := by decide +kernel
theorem dX8_numberIn_99 : decode cX8_numberIn 99 = .ok (.iload 4, 2) := by decide +kernel
theorem dX8_numberIn_101 : decode cX8_numberIn 101 = .ok (.ireturn, 1) := by decide +kernel
theorem dX8_numberIn_102 : decode cX8_numberIn 102 = .ok (.iinc 4 1, 3) := by decide +kernel
theorem dX8_numberIn_105 : decode cX8_numberIn 105 = .ok (.iload_n 2, 1) := by decide +kernel
theorem dX8_numberIn_106 : decode cX8_numberIn 106 = .ok (.istore 5, 2) := by decide +kernel
theorem dX8_numberIn_108 : decode cX8_numberIn 108 = .ok (.iload_n 2, 1) := by decide +kernel
theorem dX8_numberIn_109 : decode cX8_numberIn 109 = .ok (.ifCond .lt 15, 3) := by decide +kernel
theorem dX8_numberIn_112 : decode cX8_numberIn 112 = .ok (.iload_n 3, 1) := by decide +kernel
theorem dX8_numberIn_113 : decode cX8_numberIn 113 = .ok (.aload_n 0, 1) := by decide +kernel
theorem dX8_numberIn_114 : decode cX8_numberIn 114 = .ok (.getfield 25, 3) := by decide +kernel
theorem dX8_numberIn_117 : decode cX8_numberIn 117 = .ok (.if_icmp .gt 7, 3) := by decide +kernel
theorem dX8_numberIn_120 : decode cX8_numberIn 120 = .ok (.iconst 1, 1) := by decide +kernel
theorem dX8_numberIn_121 : decode cX8_numberIn 121 = .ok (.goto 4, 3) := by decide +kernel
theorem dX8_numberIn_124 : decode cX8_numberIn 124 = .ok (.iconst 0, 1) := by decide +kernel
theorem dX8_numberIn_125 : decode cX8_numberIn 125 = .ok (.istore 6, 2) := by decide +kernel
theorem dX8_numberIn_127 : decode cX8_numberIn 127 = .ok (.iinc 7 1, 3) := by decide +kernel
theorem dX8_numberIn_130 : decode cX8_numberIn 130 = .ok (.goto (-102), 3) := by decide +kernel
theorem dX8_numberIn_133 : decode cX8_numberIn 133 = .ok (.iload 6, 2) := by decide +kernel
theorem dX8_numberIn_135 : decode cX8_numberIn 135 = .ok (.ifCond .eq 14, 3) := by decide +kernel
theorem dX8_numberIn_138 : decode cX8_numberIn 138 = .ok (.iload 5, 2) := by decide +kernel
theorem dX8_numberIn_140 : decode cX8_numberIn 140 = .ok (.iload_n 3, 1) := by decide +kernel
theorem dX8_numberIn_141 : decode cX8_numberIn 141 = .ok (.if_icmp .ne 8, 3) := by decide +kernel
theorem dX8_numberIn_144 : decode cX8_numberIn 144 = .ok (.iload 4, 2) := by decide +kernel
theorem dX8_numberIn_146 : decode cX8_numberIn 146 = .ok (.goto 4, 3) := by decide +kernel
theorem dX8_numberIn_149 : decode cX8_numberIn 149 = .ok (.iconst (-1), 1) := by decide +kernel
theorem dX8_numberIn_150 : decode cX8_numberIn 150 = .ok (.ireturn, 1) := by decide +kernel
theorem dX8_isName_0 : decode cX8_isName 0 = .ok (.iload_n 1, 1) := by decide +kernel
theorem dX8_isName_1 : decode cX8_isName 1 = .ok (.ifCond .lt 36, 3) := by decide +kernel
theorem dX8_isName_4 : decode cX8_isName 4 = .ok (.iload_n 1, 1) := by decide +kernel
theorem dX8_isName_5 : decode cX8_isName 5 = .ok (.aload_n 0, 1) := by decide +kernel
theorem dX8_isName_6 : decode cX8_isName 6 = .ok (.getfield 29, 3) := by decide +kernel
theorem dX8_isName_9 : decode cX8_isName 9 = .ok (.if_icmp .ge 28, 3) := by decide +kernel
theorem dX8_isName_12 : decode cX8_isName 12 = .ok (.aload_n 0, 1) := by decide +kernel
theorem dX8_isName_13 : decode cX8_isName 13 = .ok (.aload_n 0, 1) := by decide +kernel
theorem dX8_isName_14 : decode cX8_isName 14 = .ok (.getfield 15, 3) := by decide +kernel
theorem dX8_isName_17 : decode cX8_isName 17 = .ok (.iload_n 1, 1) := by decide +kernel
theorem dX8_isName_18 : decode cX8_isName 18 = .ok (.iaload, 1) := by decide +kernel
theorem dX8_isName_19 : decode cX8_isName 19 = .ok (.aload_n 0, 1) := by decide +kernel
theorem dX8_isName_20 : decode cX8_isName 20 = .ok (.getfield 19, 3) := by decide +kernel
theorem dX8_isName_23 : decode cX8_isName 23 = .ok (.iload_n 1, 1) := by decide +kernel
theorem dX8_isName_24 : decode cX8_isName 24 = .ok (.iaload, 1) := by decide +kernel
theorem dX8_isName_25 : decode cX8_isName 25 = .ok (.bipush 97, 2) := by decide +kernel
theorem dX8_isName_27 : decode cX8_isName 27 = .ok (.invokevirtual 45, 3) := by decide +kernel
theorem dX8_isName_30 : decode cX8_isName 30 = .ok (.ifCond .eq 7, 3) := by decide +kernel
theorem dX8_isName_33 : decode cX8_isName 33 = .ok (.iconst 1, 1) := by decide +kernel
theorem dX8_isName_34 : decode cX8_isName 34 = .ok (.goto 4, 3) := by decide +kernel
theorem dX8_isName_37 : decode cX8_isName 37 = .ok (.iconst 0, 1) := by decide +kernel
theorem dX8_isName_38 : decode cX8_isName 38 = .ok (.ireturn, 1) := by decide +kernel
theorem dX8_isClassName_0 : decode cX8_isClassName 0 = .ok (.iload_n 1, 1) := by decide +kernel
theorem dX8_isClassName_1 : decode cX8_isClassName 1 = .ok (.ifCond .lt 36, 3) := by decide +kernel
theorem dX8_isClassName_4 : decode cX8_isClassName 4 = .ok (.iload_n 1, 1) := by decide +kernel
theorem dX8_isClassName_5 : decode cX8_isClassName 5 = .ok (.aload_n 0, 1) := by decide +kernel
theorem dX8_isClassName_6 : decode cX8_isClassName 6 = .ok (.getfield 29, 3) := by decide +kernel
theorem dX8_isClassName_9 : decode cX8_isClassName 9 = .ok (.if_icmp .ge 28, 3) := by decide +kernel
theorem dX8_isClassName_12 : decode cX8_isClassName 12 = .ok (.aload_n 0, 1) := by decide +kernel
theorem dX8_isClassName_13 : decode cX8_isClassName 13 = .ok (.aload_n 0, 1) := by decide +kernel
theorem dX8_isClassName_14 : decode cX8_isClassName 14 = .ok (.getfield 15, 3) := by decide +kernel
theorem dX8_isClassName_17 : decode cX8_isClassName 17 = .ok (.iload_n 1, 1) := by decide +kernel
theorem dX8_isClassName_18 : decode cX8_isClassName 18 = .ok (.iaload, 1) := by decide +kernel
theorem dX8_isClassName_19 : decode cX8_isClassName 19 = .ok (.aload_n 0, 1) := by decide +kernel
theorem dX8_isClassName_20 : decode cX8_isClassName 20 = .ok (.getfield 19, 3) := by decide +kernel
theorem dX8_isClassName_23 : decode cX8_isClassName 23 = .ok (.iload_n 1, 1) := by decide +kernel
theorem dX8_isClassName_24 : decode cX8_isClassName 24 = .ok (.iaload, 1) := by decide +kernel
theorem dX8_isClassName_25 : decode cX8_isClassName 25 = .ok (.bipush 65, 2) := by decide +kernel
theorem dX8_isClassName_27 : decode cX8_isClassName 27 = .ok (.invokevirtual 45, 3) := by decide +kernel
theorem dX8_isClassName_30 : decode cX8_isClassName 30 = .ok (.ifCond .eq 7, 3) := by decide +kernel
theorem dX8_isClassName_33 : decode cX8_isClassName 33 = .ok (.iconst 1, 1) := by decide +kernel
theorem dX8_isClassName_34 : decode cX8_isClassName 34 = .ok (.goto 4, 3) := by decide +kernel
theorem dX8_isClassName_37 : decode cX8_isClassName 37 = .ok (.iconst 0, 1) := by decide +kernel
theorem dX8_isClassName_38 : decode cX8_isClassName 38 = .ok (.ireturn, 1) := by decide +kernel
theorem dX8_isNamed_0 : decode cX8_isNamed 0 = .ok (.iload_n 1, 1) := by decide +kernel
theorem dX8_isNamed_1 : decode cX8_isNamed 1 = .ok (.ifCond .lt 24, 3) := by decide +kernel
theorem dX8_isNamed_4 : decode cX8_isNamed 4 = .ok (.iload_n 2, 1) := by decide +kernel
theorem dX8_isNamed_5 : decode cX8_isNamed 5 = .ok (.aload_n 0, 1) := by decide +kernel
theorem dX8_isNamed_6 : decode cX8_isNamed 6 = .ok (.getfield 25, 3) := by decide +kernel
theorem dX8_isNamed_9 : decode cX8_isNamed 9 = .ok (.if_icmp .gt 16, 3) := by decide +kernel
theorem dX8_isNamed_12 : decode cX8_isNamed 12 = .ok (.iload_n 1, 1) := by decide +kernel
theorem dX8_isNamed_13 : decode cX8_isNamed 13 = .ok (.iload_n 2, 1) := by decide +kernel
theorem dX8_isNamed_14 : decode cX8_isNamed 14 = .ok (.if_icmp .ge 11, 3) := by decide +kernel
theorem dX8_isNamed_17 : decode cX8_isNamed 17 = .ok (.iload_n 2, 1) := by decide +kernel
theorem dX8_isNamed_18 : decode cX8_isNamed 18 = .ok (.iload_n 1, 1) := by decide +kernel
theorem dX8_isNamed_19 : decode cX8_isNamed 19 = .ok (.isub, 1) := by decide +kernel
theorem dX8_isNamed_20 : decode cX8_isNamed 20 = .ok (.bipush 24, 2) := by decide +kernel
theorem dX8_isNamed_22 : decode cX8_isNamed 22 = .ok (.if_icmp .le 5, 3) := by decide +kernel
theorem dX8_isNamed_25 : decode cX8_isNamed 25 = .ok (.iconst 0, 1) := by decide +kernel
theorem dX8_isNamed_26 : decode cX8_isNamed 26 = .ok (.ireturn, 1) := by decide +kernel
theorem dX8_isNamed_27 : decode cX8_isNamed 27 = .ok (.aload_n 0, 1) := by decide +kernel
theorem dX8_isNamed_28 : decode cX8_isNamed 28 = .ok (.getfield 9, 3) := by decide +kernel
theorem dX8_isNamed_31 : decode cX8_isNamed 31 = .ok (.iload_n 1, 1) := by decide +kernel
theorem dX8_isNamed_32 : decode cX8_isNamed 32 = .ok (.baload, 1) := by decide +kernel
theorem dX8_isNamed_33 : decode cX8_isNamed 33 = .ok (.iload_n 3, 1) := by decide +kernel
theorem dX8_isNamed_34 : decode cX8_isNamed 34 = .ok (.if_icmp .lt 16, 3) := by decide +kernel
theorem dX8_isNamed_37 : decode cX8_isNamed 37 = .ok (.aload_n 0, 1) := by decide +kernel
theorem dX8_isNamed_38 : decode cX8_isNamed 38 = .ok (.getfield 9, 3) := by decide +kernel
theorem dX8_isNamed_41 : decode cX8_isNamed 41 = .ok (.iload_n 1, 1) := by decide +kernel
theorem dX8_isNamed_42 : decode cX8_isNamed 42 = .ok (.baload, 1) := by decide +kernel
theorem dX8_isNamed_43 : decode cX8_isNamed 43 = .ok (.iload_n 3, 1) := by decide +kernel
theorem dX8_isNamed_44 : decode cX8_isNamed 44 = .ok (.bipush 25, 2) := by decide +kernel
theorem dX8_isNamed_46 : decode cX8_isNamed 46 = .ok (.iadd, 1) := by decide +kernel
theorem dX8_isNamed_47 : decode cX8_isNamed 47 = .ok (.if_icmp .le 5, 3) := by decide +kernel
theorem dX8_isNamed_50 : decode cX8_isNamed 50 = .ok (.iconst 0, 1) := by decide +kernel
theorem dX8_isNamed_51 : decode cX8_isNamed 51 = .ok (.ireturn, 1) := by decide +kernel
theorem dX8_isNamed_52 : decode cX8_isNamed 52 = .ok (.iload_n 1, 1) := by decide +kernel
theorem dX8_isNamed_53 : decode cX8_isNamed 53 = .ok (.istore 4, 2) := by decide +kernel
theorem dX8_isNamed_55 : decode cX8_isNamed 55 = .ok (.iload 4, 2) := by decide +kernel
theorem dX8_isNamed_57 : decode cX8_isNamed 57 = .ok (.iload_n 2, 1) := by decide +kernel
theorem dX8_isNamed_58 : decode cX8_isNamed 58 = .ok (.if_icmp .ge 81, 3) := by decide +kernel
theorem dX8_isNamed_61 : decode cX8_isNamed 61 = .ok (.aload_n 0, 1) := by decide +kernel
theorem dX8_isNamed_62 : decode cX8_isNamed 62 = .ok (.getfield 9, 3) := by decide +kernel
theorem dX8_isNamed_65 : decode cX8_isNamed 65 = .ok (.iload 4, 2) := by decide +kernel
theorem dX8_isNamed_67 : decode cX8_isNamed 67 = .ok (.baload, 1) := by decide +kernel
theorem dX8_isNamed_68 : decode cX8_isNamed 68 = .ok (.istore 5, 2) := by decide +kernel
theorem dX8_isNamed_70 : decode cX8_isNamed 70 = .ok (.iload 5, 2) := by decide +kernel
theorem dX8_isNamed_72 : decode cX8_isNamed 72 = .ok (.bipush 97, 2) := by decide +kernel
theorem dX8_isNamed_74 : decode cX8_isNamed 74 = .ok (.if_icmp .lt 10, 3) := by decide +kernel
theorem dX8_isNamed_77 : decode cX8_isNamed 77 = .ok (.iload 5, 2) := by decide +kernel
theorem dX8_isNamed_79 : decode cX8_isNamed 79 = .ok (.bipush 122, 2) := by decide +kernel
theorem dX8_isNamed_81 : decode cX8_isNamed 81 = .ok (.if_icmp .le 17, 3) := by decide +kernel
theorem dX8_isNamed_84 : decode cX8_isNamed 84 = .ok (.iload 5, 2) := by decide +kernel
theorem dX8_isNamed_86 : decode cX8_isNamed 86 = .ok (.bipush 65, 2) := by decide +kernel
theorem dX8_isNamed_88 : decode cX8_isNamed 88 = .ok (.if_icmp .lt 14, 3) := by decide +kernel
theorem dX8_isNamed_91 : decode cX8_isNamed 91 = .ok (.iload 5, 2) := by decide +kernel
theorem dX8_isNamed_93 : decode cX8_isNamed 93 = .ok (.bipush 90, 2) := by decide +kernel
theorem dX8_isNamed_95 : decode cX8_isNamed 95 = .ok (.if_icmp .gt 7, 3) := by decide +kernel
theorem dX8_isNamed_98 : decode cX8_isNamed 98 = .ok (.iconst 1, 1) := by decide +kernel
theorem dX8_isNamed_99 : decode cX8_isNamed 99 = .ok (.goto 4, 3) := by decide +kernel
theorem dX8_isNamed_102 : decode cX8_isNamed 102 = .ok (.iconst 0, 1) := by decide +kernel
theorem dX8_isNamed_103 : decode cX8_isNamed 103 = .ok (.istore 6, 2) := by decide +kernel
theorem dX8_isNamed_105 : decode cX8_isNamed 105 = .ok (.iload 6, 2) := by decide +kernel
theorem dX8_isNamed_107 : decode cX8_isNamed 107 = .ok (.ifCond .ne 26, 3) := by decide +kernel
theorem dX8_isNamed_110 : decode cX8_isNamed 110 = .ok (.iload 5, 2) := by decide +kernel
theorem dX8_isNamed_112 : decode cX8_isNamed 112 = .ok (.bipush 95, 2) := by decide +kernel
theorem dX8_isNamed_114 : decode cX8_isNamed 114 = .ok (.if_icmp .eq 19, 3) := by decide +kernel
theorem dX8_isNamed_117 : decode cX8_isNamed 117 = .ok (.iload 5, 2) := by decide +kernel
theorem dX8_isNamed_119 : decode cX8_isNamed 119 = .ok (.bipush 48, 2) := by decide +kernel
theorem dX8_isNamed_121 : decode cX8_isNamed 121 = .ok (.if_icmp .lt 10, 3) := by decide +kernel
theorem dX8_isNamed_124 : decode cX8_isNamed 124 = .ok (.iload 5, 2) := by decide +kernel
theorem dX8_isNamed_126 : decode cX8_isNamed 126 = .ok (.bipush 57, 2) := by decide +kernel
theorem dX8_isNamed_128 : decode cX8_isNamed 128 = .ok (.if_icmp .le 5, 3) := by decide +kernel
theorem dX8_isNamed_131 : decode cX8_isNamed 131 = .ok (.iconst 0, 1) := by decide +kernel
theorem dX8_isNamed_132 : decode cX8_isNamed 132 = .ok (.ireturn, 1) := by decide +kernel
theorem dX8_isNamed_133 : decode cX8_isNamed 133 = .ok (.iinc 4 1, 3) := by decide +kernel
theorem dX8_isNamed_136 : decode cX8_isNamed 136 = .ok (.goto (-81), 3) := by decide +kernel
theorem dX8_isNamed_139 : decode cX8_isNamed 139 = .ok (.iconst 1, 1) := by decide +kernel
theorem dX8_isNamed_140 : decode cX8_isNamed 140 = .ok (.ireturn, 1) := by decide +kernel
theorem dX8_isReference_0 : decode cX8_isReference 0 = .ok (.aload_n 0, 1) := by decide +kernel
theorem dX8_isReference_1 : decode cX8_isReference 1 = .ok (.iload_n 1, 1) := by decide +kernel
theorem dX8_isReference_2 : decode cX8_isReference 2 = .ok (.invokevirtual 49, 3) := by decide +kernel
theorem dX8_isReference_5 : decode cX8_isReference 5 = .ok (.istore_n 2, 1) := by decide +kernel
theorem dX8_isReference_6 : decode cX8_isReference 6 = .ok (.iload_n 2, 1) := by decide +kernel
theorem dX8_isReference_7 : decode cX8_isReference 7 = .ok (.ifCond .lt 41, 3) := by decide +kernel
theorem dX8_isReference_10 : decode cX8_isReference 10 = .ok (.aload_n 0, 1) := by decide +kernel
theorem dX8_isReference_11 : decode cX8_isReference 11 = .ok (.aload_n 0, 1) := by decide +kernel
theorem dX8_isReference_12 : decode cX8_isReference 12 = .ok (.getfield 15, 3) := by decide +kernel
theorem dX8_isReference_15 : decode cX8_isReference 15 = .ok (.iload_n 1, 1) := by decide +kernel
theorem dX8_isReference_16 : decode cX8_isReference 16 = .ok (.iaload, 1) := by decide +kernel
theorem dX8_isReference_17 : decode cX8_isReference 17 = .ok (.iload_n 2, 1) := by decide +kernel
theorem dX8_isReference_18 : decode cX8_isReference 18 = .ok (.bipush 65, 2) := by decide +kernel
theorem dX8_isReference_20 : decode cX8_isReference 20 = .ok (.invokevirtual 45, 3) := by decide +kernel
theorem dX8_isReference_23 : decode cX8_isReference 23 = .ok (.ifCond .eq 25, 3) := by decide +kernel
theorem dX8_isReference_26 : decode cX8_isReference 26 = .ok (.aload_n 0, 1) := by decide +kernel
theorem dX8_isReference_27 : decode cX8_isReference 27 = .ok (.iload_n 2, 1) := by decide +kernel
theorem dX8_isReference_28 : decode cX8_isReference 28 = .ok (.iconst 1, 1) := by decide +kernel
theorem dX8_isReference_29 : decode cX8_isReference 29 = .ok (.iadd, 1) := by decide +kernel
theorem dX8_isReference_30 : decode cX8_isReference 30 = .ok (.aload_n 0, 1) := by decide +kernel
theorem dX8_isReference_31 : decode cX8_isReference 31 = .ok (.getfield 19, 3) := by decide +kernel
theorem dX8_isReference_34 : decode cX8_isReference 34 = .ok (.iload_n 1, 1) := by decide +kernel
theorem dX8_isReference_35 : decode cX8_isReference 35 = .ok (.iaload, 1) := by decide +kernel
theorem dX8_isReference_36 : decode cX8_isReference 36 = .ok (.bipush 97, 2) := by decide +kernel
theorem dX8_isReference_38 : decode cX8_isReference 38 = .ok (.invokevirtual 45, 3) := by decide +kernel
theorem dX8_isReference_41 : decode cX8_isReference 41 = .ok (.ifCond .eq 7, 3) := by decide +kernel
theorem dX8_isReference_44 : decode cX8_isReference 44 = .ok (.iconst 1, 1) := by decide +kernel
theorem dX8_isReference_45 : decode cX8_isReference 45 = .ok (.goto 4, 3) := by decide +kernel
theorem dX8_isReference_48 : decode cX8_isReference 48 = .ok (.iconst 0, 1) := by decide +kernel
theorem dX8_isReference_49 : decode cX8_isReference 49 = .ok (.ireturn, 1) := by decide +kernel
theorem dX8_dotOf_0 : decode cX8_dotOf 0 = .ok (.iload_n 1, 1) := by decide +kernel
theorem dX8_dotOf_1 : decode cX8_dotOf 1 = .ok (.ifCond .lt 47, 3) := by decide +kernel
theorem dX8_dotOf_4 : decode cX8_dotOf 4 = .ok (.iload_n 1, 1) := by decide +kernel
theorem dX8_dotOf_5 : decode cX8_dotOf 5 = .ok (.aload_n 0, 1) := by decide +kernel
theorem dX8_dotOf_6 : decode cX8_dotOf 6 = .ok (.getfield 29, 3) := by decide +kernel
theorem dX8_dotOf_9 : decode cX8_dotOf 9 = .ok (.if_icmp .ge 39, 3) := by decide +kernel
theorem dX8_dotOf_12 : decode cX8_dotOf 12 = .ok (.aload_n 0, 1) := by decide +kernel
theorem dX8_dotOf_13 : decode cX8_dotOf 13 = .ok (.getfield 15, 3) := by decide +kernel
theorem dX8_dotOf_16 : decode cX8_dotOf 16 = .ok (.iload_n 1, 1) := by decide +kernel
theorem dX8_dotOf_17 : decode cX8_dotOf 17 = .ok (.iaload, 1) := by decide +kernel
theorem dX8_dotOf_18 : decode cX8_dotOf 18 = .ok (.istore_n 2, 1) := by decide +kernel
theorem dX8_dotOf_19 : decode cX8_dotOf 19 = .ok (.iload_n 2, 1) := by decide +kernel
theorem dX8_dotOf_20 : decode cX8_dotOf 20 = .ok (.aload_n 0, 1) := by decide +kernel
theorem dX8_dotOf_21 : decode cX8_dotOf 21 = .ok (.getfield 19, 3) := by decide +kernel
theorem dX8_dotOf_24 : decode cX8_dotOf 24 = .ok (.iload_n 1, 1) := by decide +kernel
theorem dX8_dotOf_25 : decode cX8_dotOf 25 = .ok (.iaload, 1) := by decide +kernel
theorem dX8_dotOf_26 : decode cX8_dotOf 26 = .ok (.if_icmp .ge 22, 3) := by decide +kernel
theorem dX8_dotOf_29 : decode cX8_dotOf 29 = .ok (.aload_n 0, 1) := by decide +kernel
theorem dX8_dotOf_30 : decode cX8_dotOf 30 = .ok (.getfield 9, 3) := by decide +kernel
theorem dX8_dotOf_33 : decode cX8_dotOf 33 = .ok (.iload_n 2, 1) := by decide +kernel
theorem dX8_dotOf_34 : decode cX8_dotOf 34 = .ok (.baload, 1) := by decide +kernel
theorem dX8_dotOf_35 : decode cX8_dotOf 35 = .ok (.bipush 46, 2) := by decide +kernel
theorem dX8_dotOf_37 : decode cX8_dotOf 37 = .ok (.if_icmp .ne 5, 3) := by decide +kernel
theorem dX8_dotOf_40 : decode cX8_dotOf 40 = .ok (.iload_n 2, 1) := by decide +kernel
theorem dX8_dotOf_41 : decode cX8_dotOf 41 = .ok (.ireturn, 1) := by decide +kernel
theorem dX8_dotOf_42 : decode cX8_dotOf 42 = .ok (.iinc 2 1, 3) := by decide +kernel
theorem dX8_dotOf_45 : decode cX8_dotOf 45 = .ok (.goto (-26), 3) := by decide +kernel
theorem dX8_dotOf_48 : decode cX8_dotOf 48 = .ok (.iconst (-1), 1) := by decide +kernel
theorem dX8_dotOf_49 : decode cX8_dotOf 49 = .ok (.ireturn, 1) := by decide +kernel
theorem dX8_isType_0 : decode cX8_isType 0 = .ok (.aload_n 0, 1) := by decide +kernel
theorem dX8_isType_1 : decode cX8_isType 1 = .ok (.iload_n 1, 1) := by decide +kernel
theorem dX8_isType_2 : decode cX8_isType 2 = .ok (.invokevirtual 53, 3) := by decide +kernel
theorem dX8_isType_5 : decode cX8_isType 5 = .ok (.istore_n 2, 1) := by decide +kernel
theorem dX8_isType_6 : decode cX8_isType 6 = .ok (.aload_n 0, 1) := by decide +kernel
theorem dX8_isType_7 : decode cX8_isType 7 = .ok (.iload_n 1, 1) := by decide +kernel
theorem dX8_isType_8 : decode cX8_isType 8 = .ok (.invokevirtual 56, 3) := by decide +kernel
theorem dX8_isType_11 : decode cX8_isType 11 = .ok (.istore_n 3, 1) := by decide +kernel
theorem dX8_isType_12 : decode cX8_isType 12 = .ok (.aload_n 0, 1) := by decide +kernel
theorem dX8_isType_13 : decode cX8_isType 13 = .ok (.iload_n 2, 1) := by decide +kernel
theorem dX8_isType_14 : decode cX8_isType 14 = .ok (.iload_n 3, 1) := by decide +kernel
theorem dX8_isType_15 : decode cX8_isType 15 = .ok (.ldc 59, 2) := by decide +kernel
theorem dX8_isType_17 : decode cX8_isType 17 = .ok (.invokevirtual 32, 3) := by decide +kernel
theorem dX8_isType_20 : decode cX8_isType 20 = .ok (.ifCond .ne 14, 3) := by decide +kernel
theorem dX8_isType_23 : decode cX8_isType 23 = .ok (.aload_n 0, 1) := by decide +kernel
theorem dX8_isType_24 : decode cX8_isType 24 = .ok (.iload_n 2, 1) := by decide +kernel
theorem dX8_isType_25 : decode cX8_isType 25 = .ok (.iload_n 3, 1) := by decide +kernel
theorem dX8_isType_26 : decode cX8_isType 26 = .ok (.bipush 65, 2) := by decide +kernel
theorem dX8_isType_28 : decode cX8_isType 28 = .ok (.invokevirtual 45, 3) := by decide +kernel
theorem dX8_isType_31 : decode cX8_isType 31 = .ok (.ifCond .eq 7, 3) := by decide +kernel
theorem dX8_isType_34 : decode cX8_isType 34 = .ok (.iconst 1, 1) := by decide +kernel
theorem dX8_isType_35 : decode cX8_isType 35 = .ok (.goto 4, 3) := by decide +kernel
theorem dX8_isType_38 : decode cX8_isType 38 = .ok (.iconst 0, 1) := by decide +kernel
theorem dX8_isType_39 : decode cX8_isType 39 = .ok (.ireturn, 1) := by decide +kernel
theorem dX8_elementStop_0 : decode cX8_elementStop 0 = .ok (.aload_n 0, 1) := by decide +kernel
theorem dX8_elementStop_1 : decode cX8_elementStop 1 = .ok (.iload_n 1, 1) := by decide +kernel
theorem dX8_elementStop_2 : decode cX8_elementStop 2 = .ok (.invokevirtual 61, 3) := by decide +kernel
theorem dX8_elementStop_5 : decode cX8_elementStop 5 = .ok (.istore_n 2, 1) := by decide +kernel
theorem dX8_elementStop_6 : decode cX8_elementStop 6 = .ok (.iload_n 2, 1) := by decide +kernel
theorem dX8_elementStop_7 : decode cX8_elementStop 7 = .ok (.iconst 2, 1) := by decide +kernel
theorem dX8_elementStop_8 : decode cX8_elementStop 8 = .ok (.isub, 1) := by decide +kernel
theorem dX8_elementStop_9 : decode cX8_elementStop 9 = .ok (.aload_n 0, 1) := by decide +kernel
theorem dX8_elementStop_10 : decode cX8_elementStop 10 = .ok (.iload_n 1, 1) := by decide +kernel
theorem dX8_elementStop_11 : decode cX8_elementStop 11 = .ok (.invokevirtual 53, 3) := by decide +kernel
theorem dX8_elementStop_14 : decode cX8_elementStop 14 = .ok (.if_icmp .lt 22, 3) := by decide +kernel
theorem dX8_elementStop_17 : decode cX8_elementStop 17 = .ok (.aload_n 0, 1) := by decide +kernel
theorem dX8_elementStop_18 : decode cX8_elementStop 18 = .ok (.iload_n 2, 1) := by decide +kernel
theorem dX8_elementStop_19 : decode cX8_elementStop 19 = .ok (.iconst 2, 1) := by decide +kernel
theorem dX8_elementStop_20 : decode cX8_elementStop 20 = .ok (.isub, 1) := by decide +kernel
theorem dX8_elementStop_21 : decode cX8_elementStop 21 = .ok (.iload_n 2, 1) := by decide +kernel
theorem dX8_elementStop_22 : decode cX8_elementStop 22 = .ok (.ldc 64, 2) := by decide +kernel
theorem dX8_elementStop_24 : decode cX8_elementStop 24 = .ok (.invokevirtual 32, 3) := by decide +kernel
theorem dX8_elementStop_27 : decode cX8_elementStop 27 = .ok (.ifCond .eq 9, 3) := by decide +kernel
theorem dX8_elementStop_30 : decode cX8_elementStop 30 = .ok (.iload_n 2, 1) := by decide +kernel
theorem dX8_elementStop_31 : decode cX8_elementStop 31 = .ok (.iconst 2, 1) := by decide +kernel
theorem dX8_elementStop_32 : decode cX8_elementStop 32 = .ok (.isub, 1) := by decide +kernel
theorem dX8_elementStop_33 : decode cX8_elementStop 33 = .ok (.goto 4, 3) := by decide +kernel
theorem dX8_elementStop_36 : decode cX8_elementStop 36 = .ok (.iload_n 2, 1) := by decide +kernel
theorem dX8_elementStop_37 : decode cX8_elementStop 37 = .ok (.ireturn, 1) := by decide +kernel
theorem dX8_isNumber_0 : decode cX8_isNumber 0 = .ok (.iload_n 1, 1) := by decide +kernel
theorem dX8_isNumber_1 : decode cX8_isNumber 1 = .ok (.ifCond .lt 11, 3) := by decide +kernel
theorem dX8_isNumber_4 : decode cX8_isNumber 4 = .ok (.iload_n 1, 1) := by decide +kernel
theorem dX8_isNumber_5 : decode cX8_isNumber 5 = .ok (.aload_n 0, 1) := by decide +kernel
theorem dX8_isNumber_6 : decode cX8_isNumber 6 = .ok (.getfield 29, 3) := by decide +kernel
theorem dX8_isNumber_9 : decode cX8_isNumber 9 = .ok (.if_icmp .lt 5, 3) := by decide +kernel
theorem dX8_isNumber_12 : decode cX8_isNumber 12 = .ok (.iconst 0, 1) := by decide +kernel
theorem dX8_isNumber_13 : decode cX8_isNumber 13 = .ok (.ireturn, 1) := by decide +kernel
theorem dX8_isNumber_14 : decode cX8_isNumber 14 = .ok (.aload_n 0, 1) := by decide +kernel
theorem dX8_isNumber_15 : decode cX8_isNumber 15 = .ok (.getfield 9, 3) := by decide +kernel
theorem dX8_isNumber_18 : decode cX8_isNumber 18 = .ok (.aload_n 0, 1) := by decide +kernel
theorem dX8_isNumber_19 : decode cX8_isNumber 19 = .ok (.getfield 15, 3) := by decide +kernel
theorem dX8_isNumber_22 : decode cX8_isNumber 22 = .ok (.iload_n 1, 1) := by decide +kernel
theorem dX8_isNumber_23 : decode cX8_isNumber 23 = .ok (.iaload, 1) := by decide +kernel
theorem dX8_isNumber_24 : decode cX8_isNumber 24 = .ok (.baload, 1) := by decide +kernel
theorem dX8_isNumber_25 : decode cX8_isNumber 25 = .ok (.bipush 45, 2) := by decide +kernel
theorem dX8_isNumber_27 : decode cX8_isNumber 27 = .ok (.if_icmp .ne 14, 3) := by decide +kernel
theorem dX8_isNumber_30 : decode cX8_isNumber 30 = .ok (.aload_n 0, 1) := by decide +kernel
theorem dX8_isNumber_31 : decode cX8_isNumber 31 = .ok (.getfield 15, 3) := by decide +kernel
theorem dX8_isNumber_34 : decode cX8_isNumber 34 = .ok (.iload_n 1, 1) := by decide +kernel
theorem dX8_isNumber_35 : decode cX8_isNumber 35 = .ok (.iaload, 1) := by decide +kernel
theorem dX8_isNumber_36 : decode cX8_isNumber 36 = .ok (.iconst 1, 1) := by decide +kernel
theorem dX8_isNumber_37 : decode cX8_isNumber 37 = .ok (.iadd, 1) := by decide +kernel
theorem dX8_isNumber_38 : decode cX8_isNumber 38 = .ok (.goto 9, 3) := by decide +kernel
theorem dX8_isNumber_41 : decode cX8_isNumber 41 = .ok (.aload_n 0, 1) := by decide +kernel
theorem dX8_isNumber_42 : decode cX8_isNumber 42 = .ok (.getfield 15, 3) := by decide +kernel
theorem dX8_isNumber_45 : decode cX8_isNumber 45 = .ok (.iload_n 1, 1) := by decide +kernel
theorem dX8_isNumber_46 : decode cX8_isNumber 46 = .ok (.iaload, 1) := by decide +kernel
theorem dX8_isNumber_47 : decode cX8_isNumber 47 = .ok (.istore_n 2, 1) := by decide +kernel
theorem dX8_isNumber_48 : decode cX8_isNumber 48 = .ok (.aload_n 0, 1) := by decide +kernel
theorem dX8_isNumber_49 : decode cX8_isNumber 49 = .ok (.getfield 19, 3) := by decide +kernel
theorem dX8_isNumber_52 : decode cX8_isNumber 52 = .ok (.iload_n 1, 1) := by decide +kernel
theorem dX8_isNumber_53 : decode cX8_isNumber 53 = .ok (.iaload, 1) := by decide +kernel
theorem dX8_isNumber_54 : decode cX8_isNumber 54 = .ok (.iload_n 2, 1) := by decide +kernel
theorem dX8_isNumber_55 : decode cX8_isNumber 55 = .ok (.isub, 1) := by decide +kernel
theorem dX8_isNumber_56 : decode cX8_isNumber 56 = .ok (.istore_n 3, 1) := by decide +kernel
theorem dX8_isNumber_57 : decode cX8_isNumber 57 = .ok (.iload_n 3, 1) := by decide +kernel
theorem dX8_isNumber_58 : decode cX8_isNumber 58 = .ok (.iconst 1, 1) := by decide +kernel
theorem dX8_isNumber_59 : decode cX8_isNumber 59 = .ok (.if_icmp .lt 9, 3) := by decide +kernel
theorem dX8_isNumber_62 : decode cX8_isNumber 62 = .ok (.iload_n 3, 1) := by decide +kernel
theorem dX8_isNumber_63 : decode cX8_isNumber 63 = .ok (.bipush 10, 2) := by decide +kernel
theorem dX8_isNumber_65 : decode cX8_isNumber 65 = .ok (.if_icmp .le 5, 3) := by decide +kernel
theorem dX8_isNumber_68 : decode cX8_isNumber 68 = .ok (.iconst 0, 1) := by decide +kernel
theorem dX8_isNumber_69 : decode cX8_isNumber 69 = .ok (.ireturn, 1) := by decide +kernel
theorem dX8_isNumber_70 : decode cX8_isNumber 70 = .ok (.iload_n 2, 1) := by decide +kernel
theorem dX8_isNumber_71 : decode cX8_isNumber 71 = .ok (.istore 4, 2) := by decide +kernel
theorem dX8_isNumber_73 : decode cX8_isNumber 73 = .ok (.iload 4, 2) := by decide +kernel
theorem dX8_isNumber_75 : decode cX8_isNumber 75 = .ok (.aload_n 0, 1) := by decide +kernel
theorem dX8_isNumber_76 : decode cX8_isNumber 76 = .ok (.getfield 19, 3) := by decide +kernel
theorem dX8_isNumber_79 : decode cX8_isNumber 79 = .ok (.iload_n 1, 1) := by decide +kernel
