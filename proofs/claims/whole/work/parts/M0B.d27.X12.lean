theorem dX12_joined_121 : decode cX12_joined 121 = .ok (.iaload, 1) := by decide +kernel
theorem dX12_joined_122 : decode cX12_joined 122 = .ok (.istore 6, 2) := by decide +kernel
theorem dX12_joined_124 : decode cX12_joined 124 = .ok (.goto (-22), 3) := by decide +kernel
theorem dX12_joined_127 : decode cX12_joined 127 = .ok (.iload 5, 2) := by decide +kernel
theorem dX12_joined_129 : decode cX12_joined 129 = .ok (.iload 6, 2) := by decide +kernel
theorem dX12_joined_131 : decode cX12_joined 131 = .ok (.iadd, 1) := by decide +kernel
theorem dX12_joined_132 : decode cX12_joined 132 = .ok (.ireturn, 1) := by decide +kernel
theorem dX12_types_0 : decode cX12_types 0 = .ok (.aload_n 1, 1) := by decide +kernel
theorem dX12_types_1 : decode cX12_types 1 = .ok (.getfield 331, 3) := by decide +kernel
theorem dX12_types_4 : decode cX12_types 4 = .ok (.iload_n 2, 1) := by decide +kernel
theorem dX12_types_5 : decode cX12_types 5 = .ok (.iaload, 1) := by decide +kernel
theorem dX12_types_6 : decode cX12_types 6 = .ok (.istore_n 3, 1) := by decide +kernel
theorem dX12_types_7 : decode cX12_types 7 = .ok (.iload_n 3, 1) := by decide +kernel
theorem dX12_types_8 : decode cX12_types 8 = .ok (.aload_n 1, 1) := by decide +kernel
theorem dX12_types_9 : decode cX12_types 9 = .ok (.getfield 340, 3) := by decide +kernel
theorem dX12_types_12 : decode cX12_types 12 = .ok (.iload_n 2, 1) := by decide +kernel
theorem dX12_types_13 : decode cX12_types 13 = .ok (.iaload, 1) := by decide +kernel
theorem dX12_types_14 : decode cX12_types 14 = .ok (.if_icmp .ge 16, 3) := by decide +kernel
theorem dX12_types_17 : decode cX12_types 17 = .ok (.aload_n 1, 1) := by decide +kernel
theorem dX12_types_18 : decode cX12_types 18 = .ok (.getfield 439, 3) := by decide +kernel
theorem dX12_types_21 : decode cX12_types 21 = .ok (.iload_n 3, 1) := by decide +kernel
theorem dX12_types_22 : decode cX12_types 22 = .ok (.iconst 0, 1) := by decide +kernel
theorem dX12_types_23 : decode cX12_types 23 = .ok (.bastore, 1) := by decide +kernel
theorem dX12_types_24 : decode cX12_types 24 = .ok (.iinc 3 1, 3) := by decide +kernel
theorem dX12_types_27 : decode cX12_types 27 = .ok (.goto (-20), 3) := by decide +kernel
theorem dX12_types_30 : decode cX12_types 30 = .ok (.aload_n 1, 1) := by decide +kernel
theorem dX12_types_31 : decode cX12_types 31 = .ok (.getfield 331, 3) := by decide +kernel
theorem dX12_types_34 : decode cX12_types 34 = .ok (.iload_n 2, 1) := by decide +kernel
theorem dX12_types_35 : decode cX12_types 35 = .ok (.iaload, 1) := by decide +kernel
theorem dX12_types_36 : decode cX12_types 36 = .ok (.istore_n 3, 1) := by decide +kernel
theorem dX12_types_37 : decode cX12_types 37 = .ok (.aload_n 1, 1) := by decide +kernel
theorem dX12_types_38 : decode cX12_types 38 = .ok (.getfield 439, 3) := by decide +kernel
theorem dX12_types_41 : decode cX12_types 41 = .ok (.iload_n 3, 1) := by decide +kernel
theorem dX12_types_42 : decode cX12_types 42 = .ok (.iconst 1, 1) := by decide +kernel
theorem dX12_types_43 : decode cX12_types 43 = .ok (.bastore, 1) := by decide +kernel
theorem dX12_types_44 : decode cX12_types 44 = .ok (.iconst 0, 1) := by decide +kernel
theorem dX12_types_45 : decode cX12_types 45 = .ok (.istore 4, 2) := by decide +kernel
theorem dX12_types_47 : decode cX12_types 47 = .ok (.iload 4, 2) := by decide +kernel
theorem dX12_types_49 : decode cX12_types 49 = .ok (.bipush 12, 2) := by decide +kernel
theorem dX12_types_51 : decode cX12_types 51 = .ok (.if_icmp .ge 48, 3) := by decide +kernel
theorem dX12_types_54 : decode cX12_types 54 = .ok (.aload_n 1, 1) := by decide +kernel
theorem dX12_types_55 : decode cX12_types 55 = .ok (.getfield 442, 3) := by decide +kernel
theorem dX12_types_58 : decode cX12_types 58 = .ok (.iload_n 3, 1) := by decide +kernel
theorem dX12_types_59 : decode cX12_types 59 = .ok (.bipush 20, 2) := by decide +kernel
theorem dX12_types_61 : decode cX12_types 61 = .ok (.imul, 1) := by decide +kernel
theorem dX12_types_62 : decode cX12_types 62 = .ok (.iload 4, 2) := by decide +kernel
theorem dX12_types_64 : decode cX12_types 64 = .ok (.iadd, 1) := by decide +kernel
theorem dX12_types_65 : decode cX12_types 65 = .ok (.iload 4, 2) := by decide +kernel
theorem dX12_types_67 : decode cX12_types 67 = .ok (.aload_n 1, 1) := by decide +kernel
theorem dX12_types_68 : decode cX12_types 68 = .ok (.getfield 313, 3) := by decide +kernel
theorem dX12_types_71 : decode cX12_types 71 = .ok (.iload_n 2, 1) := by decide +kernel
theorem dX12_types_72 : decode cX12_types 72 = .ok (.iaload, 1) := by decide +kernel
theorem dX12_types_73 : decode cX12_types 73 = .ok (.if_icmp .ge 18, 3) := by decide +kernel
theorem dX12_types_76 : decode cX12_types 76 = .ok (.aload_n 1, 1) := by decide +kernel
theorem dX12_types_77 : decode cX12_types 77 = .ok (.getfield 305, 3) := by decide +kernel
theorem dX12_types_80 : decode cX12_types 80 = .ok (.iload_n 2, 1) := by decide +kernel
theorem dX12_types_81 : decode cX12_types 81 = .ok (.bipush 12, 2) := by decide +kernel
theorem dX12_types_83 : decode cX12_types 83 = .ok (.imul, 1) := by decide +kernel
theorem dX12_types_84 : decode cX12_types 84 = .ok (.iload 4, 2) := by decide +kernel
theorem dX12_types_86 : decode cX12_types 86 = .ok (.iadd, 1) := by decide +kernel
theorem dX12_types_87 : decode cX12_types 87 = .ok (.iaload, 1) := by decide +kernel
theorem dX12_types_88 : decode cX12_types 88 = .ok (.goto 4, 3) := by decide +kernel
theorem dX12_types_91 : decode cX12_types 91 = .ok (.iconst 2, 1) := by decide +kernel
theorem dX12_types_92 : decode cX12_types 92 = .ok (.iastore, 1) := by decide +kernel
theorem dX12_types_93 : decode cX12_types 93 = .ok (.iinc 4 1, 3) := by decide +kernel
theorem dX12_types_96 : decode cX12_types 96 = .ok (.goto (-49), 3) := by decide +kernel
theorem dX12_types_99 : decode cX12_types 99 = .ok (.iconst 1, 1) := by decide +kernel
theorem dX12_types_100 : decode cX12_types 100 = .ok (.istore 4, 2) := by decide +kernel
theorem dX12_types_102 : decode cX12_types 102 = .ok (.iload 4, 2) := by decide +kernel
theorem dX12_types_104 : decode cX12_types 104 = .ok (.ifCond .eq 61, 3) := by decide +kernel
theorem dX12_types_107 : decode cX12_types 107 = .ok (.iconst 0, 1) := by decide +kernel
theorem dX12_types_108 : decode cX12_types 108 = .ok (.istore 4, 2) := by decide +kernel
theorem dX12_types_110 : decode cX12_types 110 = .ok (.iload_n 3, 1) := by decide +kernel
theorem dX12_types_111 : decode cX12_types 111 = .ok (.istore 5, 2) := by decide +kernel
theorem dX12_types_113 : decode cX12_types 113 = .ok (.iload 5, 2) := by decide +kernel
theorem dX12_types_115 : decode cX12_types 115 = .ok (.aload_n 1, 1) := by decide +kernel
theorem dX12_types_116 : decode cX12_types 116 = .ok (.getfield 340, 3) := by decide +kernel
theorem dX12_types_119 : decode cX12_types 119 = .ok (.iload_n 2, 1) := by decide +kernel
theorem dX12_types_120 : decode cX12_types 120 = .ok (.iaload, 1) := by decide +kernel
theorem dX12_types_121 : decode cX12_types 121 = .ok (.if_icmp .ge 41, 3) := by decide +kernel
theorem dX12_types_124 : decode cX12_types 124 = .ok (.aload_n 1, 1) := by decide +kernel
theorem dX12_types_125 : decode cX12_types 125 = .ok (.getfield 439, 3) := by decide +kernel
theorem dX12_types_128 : decode cX12_types 128 = .ok (.iload 5, 2) := by decide +kernel
theorem dX12_types_130 : decode cX12_types 130 = .ok (.baload, 1) := by decide +kernel
theorem dX12_types_131 : decode cX12_types 131 = .ok (.ifCond .eq 25, 3) := by decide +kernel
theorem dX12_types_134 : decode cX12_types 134 = .ok (.aload_n 0, 1) := by decide +kernel
theorem dX12_types_135 : decode cX12_types 135 = .ok (.aload_n 1, 1) := by decide +kernel
theorem dX12_types_136 : decode cX12_types 136 = .ok (.iload 5, 2) := by decide +kernel
theorem dX12_types_138 : decode cX12_types 138 = .ok (.invokevirtual 445, 3) := by decide +kernel
theorem dX12_types_141 : decode cX12_types 141 = .ok (.ifCond .ne 8, 3) := by decide +kernel
theorem dX12_types_144 : decode cX12_types 144 = .ok (.iload 4, 2) := by decide +kernel
theorem dX12_types_146 : decode cX12_types 146 = .ok (.ifCond .eq 7, 3) := by decide +kernel
theorem dX12_types_149 : decode cX12_types 149 = .ok (.iconst 1, 1) := by decide +kernel
theorem dX12_types_150 : decode cX12_types 150 = .ok (.goto 4, 3) := by decide +kernel
theorem dX12_types_153 : decode cX12_types 153 = .ok (.iconst 0, 1) := by decide +kernel
theorem dX12_types_154 : decode cX12_types 154 = .ok (.istore 4, 2) := by decide +kernel
theorem dX12_types_156 : decode cX12_types 156 = .ok (.iinc 5 1, 3) := by decide +kernel
theorem dX12_types_159 : decode cX12_types 159 = .ok (.goto (-46), 3) := by decide +kernel
theorem dX12_types_162 : decode cX12_types 162 = .ok (.goto (-60), 3) := by decide +kernel
theorem dX12_types_165 : decode cX12_types 165 = .ok (.iload_n 3, 1) := by decide +kernel
theorem dX12_types_166 : decode cX12_types 166 = .ok (.istore 5, 2) := by decide +kernel
theorem dX12_types_168 : decode cX12_types 168 = .ok (.iload 5, 2) := by decide +kernel
theorem dX12_types_170 : decode cX12_types 170 = .ok (.aload_n 1, 1) := by decide +kernel
theorem dX12_types_171 : decode cX12_types 171 = .ok (.getfield 340, 3) := by decide +kernel
theorem dX12_types_174 : decode cX12_types 174 = .ok (.iload_n 2, 1) := by decide +kernel
theorem dX12_types_175 : decode cX12_types 175 = .ok (.iaload, 1) := by decide +kernel
theorem dX12_types_176 : decode cX12_types 176 = .ok (.if_icmp .ge 41, 3) := by decide +kernel
theorem dX12_types_179 : decode cX12_types 179 = .ok (.aload_n 1, 1) := by decide +kernel
theorem dX12_types_180 : decode cX12_types 180 = .ok (.getfield 439, 3) := by decide +kernel
theorem dX12_types_183 : decode cX12_types 183 = .ok (.iload 5, 2) := by decide +kernel
theorem dX12_types_185 : decode cX12_types 185 = .ok (.baload, 1) := by decide +kernel
theorem dX12_types_186 : decode cX12_types 186 = .ok (.ifCond .eq 25, 3) := by decide +kernel
theorem dX12_types_189 : decode cX12_types 189 = .ok (.aload_n 0, 1) := by decide +kernel
theorem dX12_types_190 : decode cX12_types 190 = .ok (.aload_n 1, 1) := by decide +kernel
theorem dX12_types_191 : decode cX12_types 191 = .ok (.iload 5, 2) := by decide +kernel
theorem dX12_types_193 : decode cX12_types 193 = .ok (.invokevirtual 448, 3) := by decide +kernel
theorem dX12_types_196 : decode cX12_types 196 = .ok (.ifCond .ne 15, 3) := by decide +kernel
theorem dX12_types_199 : decode cX12_types 199 = .ok (.aload_n 0, 1) := by decide +kernel
theorem dX12_types_200 : decode cX12_types 200 = .ok (.aload_n 0, 1) := by decide +kernel
theorem dX12_types_201 : decode cX12_types 201 = .ok (.getfield 55, 3) := by decide +kernel
theorem dX12_types_204 : decode cX12_types 204 = .ok (.iload 5, 2) := by decide +kernel
theorem dX12_types_206 : decode cX12_types 206 = .ok (.iaload, 1) := by decide +kernel
theorem dX12_types_207 : decode cX12_types 207 = .ok (.invokevirtual 254, 3) := by decide +kernel
theorem dX12_types_210 : decode cX12_types 210 = .ok (.ireturn, 1) := by decide +kernel
theorem dX12_types_211 : decode cX12_types 211 = .ok (.iinc 5 1, 3) := by decide +kernel
theorem dX12_types_214 : decode cX12_types 214 = .ok (.goto (-46), 3) := by decide +kernel
theorem dX12_types_217 : decode cX12_types 217 = .ok (.iconst 1, 1) := by decide +kernel
theorem dX12_types_218 : decode cX12_types 218 = .ok (.ireturn, 1) := by decide +kernel
theorem dX12_typesAt_0 : decode cX12_typesAt 0 = .ok (.iconst 0, 1) := by decide +kernel
theorem dX12_typesAt_1 : decode cX12_typesAt 1 = .ok (.istore_n 3, 1) := by decide +kernel
theorem dX12_typesAt_2 : decode cX12_typesAt 2 = .ok (.iload_n 3, 1) := by decide +kernel
theorem dX12_typesAt_3 : decode cX12_typesAt 3 = .ok (.bipush 20, 2) := by decide +kernel
theorem dX12_typesAt_5 : decode cX12_typesAt 5 = .ok (.if_icmp .ge 26, 3) := by decide +kernel
theorem dX12_typesAt_8 : decode cX12_typesAt 8 = .ok (.aload_n 0, 1) := by decide +kernel
theorem dX12_typesAt_9 : decode cX12_typesAt 9 = .ok (.getfield 61, 3) := by decide +kernel
theorem dX12_typesAt_12 : decode cX12_typesAt 12 = .ok (.iload_n 3, 1) := by decide +kernel
theorem dX12_typesAt_13 : decode cX12_typesAt 13 = .ok (.aload_n 1, 1) := by decide +kernel
theorem dX12_typesAt_14 : decode cX12_typesAt 14 = .ok (.getfield 442, 3) := by decide +kernel
theorem dX12_typesAt_17 : decode cX12_typesAt 17 = .ok (.iload_n 2, 1) := by decide +kernel
theorem dX12_typesAt_18 : decode cX12_typesAt 18 = .ok (.bipush 20, 2) := by decide +kernel
theorem dX12_typesAt_20 : decode cX12_typesAt 20 = .ok (.imul, 1) := by decide +kernel
theorem dX12_typesAt_21 : decode cX12_typesAt 21 = .ok (.iload_n 3, 1) := by decide +kernel
theorem dX12_typesAt_22 : decode cX12_typesAt 22 = .ok (.iadd, 1) := by decide +kernel
theorem dX12_typesAt_23 : decode cX12_typesAt 23 = .ok (.iaload, 1) := by decide +kernel
theorem dX12_typesAt_24 : decode cX12_typesAt 24 = .ok (.iastore, 1) := by decide +kernel
theorem dX12_typesAt_25 : decode cX12_typesAt 25 = .ok (.iinc 3 1, 3) := by decide +kernel
theorem dX12_typesAt_28 : decode cX12_typesAt 28 = .ok (.goto (-26), 3) := by decide +kernel
theorem dX12_typesAt_31 : decode cX12_typesAt 31 = .ok (.aload_n 0, 1) := by decide +kernel
theorem dX12_typesAt_32 : decode cX12_typesAt 32 = .ok (.bipush 12, 2) := by decide +kernel
theorem dX12_typesAt_34 : decode cX12_typesAt 34 = .ok (.aload_n 1, 1) := by decide +kernel
theorem dX12_typesAt_35 : decode cX12_typesAt 35 = .ok (.getfield 424, 3) := by decide +kernel
theorem dX12_typesAt_38 : decode cX12_typesAt 38 = .ok (.iload_n 2, 1) := by decide +kernel
theorem dX12_typesAt_39 : decode cX12_typesAt 39 = .ok (.iaload, 1) := by decide +kernel
theorem dX12_typesAt_40 : decode cX12_typesAt 40 = .ok (.iadd, 1) := by decide +kernel
theorem dX12_typesAt_41 : decode cX12_typesAt 41 = .ok (.putfield 451, 3) := by decide +kernel
theorem dX12_typesAt_44 : decode cX12_typesAt 44 = .ok (.return_, 1) := by decide +kernel
theorem dX12_typesOn_0 : decode cX12_typesOn 0 = .ok (.iconst 0, 1) := by decide +kernel
theorem dX12_typesOn_1 : decode cX12_typesOn 1 = .ok (.istore_n 3, 1) := by decide +kernel
theorem dX12_typesOn_2 : decode cX12_typesOn 2 = .ok (.iconst 0, 1) := by decide +kernel
theorem dX12_typesOn_3 : decode cX12_typesOn 3 = .ok (.istore 4, 2) := by decide +kernel
theorem dX12_typesOn_5 : decode cX12_typesOn 5 = .ok (.iload 4, 2) := by decide +kernel
theorem dX12_typesOn_7 : decode cX12_typesOn 7 = .ok (.aload_n 1, 1) := by decide +kernel
theorem dX12_typesOn_8 : decode cX12_typesOn 8 = .ok (.getfield 324, 3) := by decide +kernel
theorem dX12_typesOn_11 : decode cX12_typesOn 11 = .ok (.if_icmp .ge 70, 3) := by decide +kernel
theorem dX12_typesOn_14 : decode cX12_typesOn 14 = .ok (.aload_n 1, 1) := by decide +kernel
theorem dX12_typesOn_15 : decode cX12_typesOn 15 = .ok (.iload 4, 2) := by decide +kernel
theorem dX12_typesOn_17 : decode cX12_typesOn 17 = .ok (.iload_n 2, 1) := by decide +kernel
theorem dX12_typesOn_18 : decode cX12_typesOn 18 = .ok (.invokestatic 421, 3) := by decide +kernel
theorem dX12_typesOn_21 : decode cX12_typesOn 21 = .ok (.ifCond .ne 6, 3) := by decide +kernel
theorem dX12_typesOn_24 : decode cX12_typesOn 24 = .ok (.goto 51, 3) := by decide +kernel
theorem dX12_typesOn_27 : decode cX12_typesOn 27 = .ok (.aload_n 0, 1) := by decide +kernel
theorem dX12_typesOn_28 : decode cX12_typesOn 28 = .ok (.aload_n 1, 1) := by decide +kernel
theorem dX12_typesOn_29 : decode cX12_typesOn 29 = .ok (.iload_n 2, 1) := by decide +kernel
theorem dX12_typesOn_30 : decode cX12_typesOn 30 = .ok (.invokevirtual 454, 3) := by decide +kernel
theorem dX12_typesOn_33 : decode cX12_typesOn 33 = .ok (.aload_n 0, 1) := by decide +kernel
theorem dX12_typesOn_34 : decode cX12_typesOn 34 = .ok (.getfield 61, 3) := by decide +kernel
theorem dX12_typesOn_37 : decode cX12_typesOn 37 = .ok (.bipush 12, 2) := by decide +kernel
theorem dX12_typesOn_39 : decode cX12_typesOn 39 = .ok (.bipush 8, 2) := by decide +kernel
theorem dX12_typesOn_41 : decode cX12_typesOn 41 = .ok (.aload_n 1, 1) := by decide +kernel
theorem dX12_typesOn_42 : decode cX12_typesOn 42 = .ok (.getfield 371, 3) := by decide +kernel
theorem dX12_typesOn_45 : decode cX12_typesOn 45 = .ok (.iload 4, 2) := by decide +kernel
theorem dX12_typesOn_47 : decode cX12_typesOn 47 = .ok (.iaload, 1) := by decide +kernel
theorem dX12_typesOn_48 : decode cX12_typesOn 48 = .ok (.iadd, 1) := by decide +kernel
theorem dX12_typesOn_49 : decode cX12_typesOn 49 = .ok (.iastore, 1) := by decide +kernel
theorem dX12_typesOn_50 : decode cX12_typesOn 50 = .ok (.aload_n 0, 1) := by decide +kernel
theorem dX12_typesOn_51 : decode cX12_typesOn 51 = .ok (.aload_n 1, 1) := by decide +kernel
theorem dX12_typesOn_52 : decode cX12_typesOn 52 = .ok (.aload_n 1, 1) := by decide +kernel
theorem dX12_typesOn_53 : decode cX12_typesOn 53 = .ok (.getfield 368, 3) := by decide +kernel
theorem dX12_typesOn_56 : decode cX12_typesOn 56 = .ok (.iload 4, 2) := by decide +kernel
theorem dX12_typesOn_58 : decode cX12_typesOn 58 = .ok (.iaload, 1) := by decide +kernel
theorem dX12_typesOn_59 : decode cX12_typesOn 59 = .ok (.invokevirtual 458, 3) := by decide +kernel
theorem dX12_typesOn_62 : decode cX12_typesOn 62 = .ok (.ifCond .ne 7, 3) := by decide +kernel
theorem dX12_typesOn_65 : decode cX12_typesOn 65 = .ok (.iload_n 3, 1) := by decide +kernel
theorem dX12_typesOn_66 : decode cX12_typesOn 66 = .ok (.ifCond .eq 7, 3) := by decide +kernel
theorem dX12_typesOn_69 : decode cX12_typesOn 69 = .ok (.iconst 1, 1) := by decide +kernel
theorem dX12_typesOn_70 : decode cX12_typesOn 70 = .ok (.goto 4, 3) := by decide +kernel
theorem dX12_typesOn_73 : decode cX12_typesOn 73 = .ok (.iconst 0, 1) := by decide +kernel
theorem dX12_typesOn_74 : decode cX12_typesOn 74 = .ok (.istore_n 3, 1) := by decide +kernel
theorem dX12_typesOn_75 : decode cX12_typesOn 75 = .ok (.iinc 4 1, 3) := by decide +kernel
theorem dX12_typesOn_78 : decode cX12_typesOn 78 = .ok (.goto (-73), 3) := by decide +kernel
theorem dX12_typesOn_81 : decode cX12_typesOn 81 = .ok (.aload_n 0, 1) := by decide +kernel
theorem dX12_typesOn_82 : decode cX12_typesOn 82 = .ok (.aload_n 1, 1) := by decide +kernel
theorem dX12_typesOn_83 : decode cX12_typesOn 83 = .ok (.iload_n 2, 1) := by decide +kernel
theorem dX12_typesOn_84 : decode cX12_typesOn 84 = .ok (.invokevirtual 454, 3) := by decide +kernel
theorem dX12_typesOn_87 : decode cX12_typesOn 87 = .ok (.aload_n 1, 1) := by decide +kernel
theorem dX12_typesOn_88 : decode cX12_typesOn 88 = .ok (.getfield 353, 3) := by decide +kernel
theorem dX12_typesOn_91 : decode cX12_typesOn 91 = .ok (.iload_n 2, 1) := by decide +kernel
theorem dX12_typesOn_92 : decode cX12_typesOn 92 = .ok (.iaload, 1) := by decide +kernel
theorem dX12_typesOn_93 : decode cX12_typesOn 93 = .ok (.istore 4, 2) := by decide +kernel
theorem dX12_typesOn_95 : decode cX12_typesOn 95 = .ok (.iload 4, 2) := by decide +kernel
theorem dX12_typesOn_97 : decode cX12_typesOn 97 = .ok (.bipush 33, 2) := by decide +kernel
theorem dX12_typesOn_99 : decode cX12_typesOn 99 = .ok (.if_icmp .ne 20, 3) := by decide +kernel
theorem dX12_typesOn_102 : decode cX12_typesOn 102 = .ok (.aload_n 0, 1) := by decide +kernel
theorem dX12_typesOn_103 : decode cX12_typesOn 103 = .ok (.getfield 61, 3) := by decide +kernel
theorem dX12_typesOn_106 : decode cX12_typesOn 106 = .ok (.aload_n 0, 1) := by decide +kernel
theorem dX12_typesOn_107 : decode cX12_typesOn 107 = .ok (.getfield 451, 3) := by decide +kernel
theorem dX12_typesOn_110 : decode cX12_typesOn 110 = .ok (.iconst 2, 1) := by decide +kernel
theorem dX12_typesOn_111 : decode cX12_typesOn 111 = .ok (.isub, 1) := by decide +kernel
theorem dX12_typesOn_112 : decode cX12_typesOn 112 = .ok (.iaload, 1) := by decide +kernel
theorem dX12_typesOn_113 : decode cX12_typesOn 113 = .ok (.iconst 1, 1) := by decide +kernel
theorem dX12_typesOn_114 : decode cX12_typesOn 114 = .ok (.if_icmp .ne 5, 3) := by decide +kernel
theorem dX12_typesOn_117 : decode cX12_typesOn 117 = .ok (.iload_n 3, 1) := by decide +kernel
theorem dX12_typesOn_118 : decode cX12_typesOn 118 = .ok (.ireturn, 1) := by decide +kernel
theorem dX12_typesOn_119 : decode cX12_typesOn 119 = .ok (.aload_n 0, 1) := by decide +kernel
theorem dX12_typesOn_120 : decode cX12_typesOn 120 = .ok (.aload_n 1, 1) := by decide +kernel
theorem dX12_typesOn_121 : decode cX12_typesOn 121 = .ok (.iload_n 2, 1) := by decide +kernel
theorem dX12_typesOn_122 : decode cX12_typesOn 122 = .ok (.invokevirtual 461, 3) := by decide +kernel
theorem dX12_typesOn_125 : decode cX12_typesOn 125 = .ok (.iload 4, 2) := by decide +kernel
theorem dX12_typesOn_127 : decode cX12_typesOn 127 = .ok (.invokestatic 412, 3) := by decide +kernel
theorem dX12_typesOn_130 : decode cX12_typesOn 130 = .ok (.ifCond .eq 24, 3) := by decide +kernel
theorem dX12_typesOn_133 : decode cX12_typesOn 133 = .ok (.aload_n 0, 1) := by decide +kernel
theorem dX12_typesOn_134 : decode cX12_typesOn 134 = .ok (.aload_n 1, 1) := by decide +kernel
theorem dX12_typesOn_135 : decode cX12_typesOn 135 = .ok (.iload_n 2, 1) := by decide +kernel
theorem dX12_typesOn_136 : decode cX12_typesOn 136 = .ok (.iconst 1, 1) := by decide +kernel
theorem dX12_typesOn_137 : decode cX12_typesOn 137 = .ok (.iadd, 1) := by decide +kernel
theorem dX12_typesOn_138 : decode cX12_typesOn 138 = .ok (.invokevirtual 458, 3) := by decide +kernel
theorem dX12_typesOn_141 : decode cX12_typesOn 141 = .ok (.ifCond .ne 7, 3) := by decide +kernel
theorem dX12_typesOn_144 : decode cX12_typesOn 144 = .ok (.iload_n 3, 1) := by decide +kernel
theorem dX12_typesOn_145 : decode cX12_typesOn 145 = .ok (.ifCond .eq 7, 3) := by decide +kernel
theorem dX12_typesOn_148 : decode cX12_typesOn 148 = .ok (.iconst 1, 1) := by decide +kernel
theorem dX12_typesOn_149 : decode cX12_typesOn 149 = .ok (.goto 4, 3) := by decide +kernel
theorem dX12_typesOn_152 : decode cX12_typesOn 152 = .ok (.iconst 0, 1) := by decide +kernel
theorem dX12_typesOn_153 : decode cX12_typesOn 153 = .ok (.istore_n 3, 1) := by decide +kernel
theorem dX12_typesOn_154 : decode cX12_typesOn 154 = .ok (.iload 4, 2) := by decide +kernel
theorem dX12_typesOn_156 : decode cX12_typesOn 156 = .ok (.invokestatic 418, 3) := by decide +kernel
theorem dX12_typesOn_159 : decode cX12_typesOn 159 = .ok (.ifCond .eq 27, 3) := by decide +kernel
theorem dX12_typesOn_162 : decode cX12_typesOn 162 = .ok (.aload_n 0, 1) := by decide +kernel
theorem dX12_typesOn_163 : decode cX12_typesOn 163 = .ok (.aload_n 1, 1) := by decide +kernel
theorem dX12_typesOn_164 : decode cX12_typesOn 164 = .ok (.aload_n 1, 1) := by decide +kernel
theorem dX12_typesOn_165 : decode cX12_typesOn 165 = .ok (.getfield 376, 3) := by decide +kernel
theorem dX12_typesOn_168 : decode cX12_typesOn 168 = .ok (.iload_n 2, 1) := by decide +kernel
theorem dX12_typesOn_169 : decode cX12_typesOn 169 = .ok (.iaload, 1) := by decide +kernel
theorem dX12_typesOn_170 : decode cX12_typesOn 170 = .ok (.invokevirtual 458, 3) := by decide +kernel
theorem dX12_typesOn_173 : decode cX12_typesOn 173 = .ok (.ifCond .ne 7, 3) := by decide +kernel
theorem dX12_typesOn_176 : decode cX12_typesOn 176 = .ok (.iload_n 3, 1) := by decide +kernel
theorem dX12_typesOn_177 : decode cX12_typesOn 177 = .ok (.ifCond .eq 7, 3) := by decide +kernel
theorem dX12_typesOn_180 : decode cX12_typesOn 180 = .ok (.iconst 1, 1) := by decide +kernel
theorem dX12_typesOn_181 : decode cX12_typesOn 181 = .ok (.goto 4, 3) := by decide +kernel
theorem dX12_typesOn_184 : decode cX12_typesOn 184 = .ok (.iconst 0, 1) := by decide +kernel
theorem dX12_typesOn_185 : decode cX12_typesOn 185 = .ok (.istore_n 3, 1) := by decide +kernel
theorem dX12_typesOn_186 : decode cX12_typesOn 186 = .ok (.iload_n 3, 1) := by decide +kernel
theorem dX12_typesOn_187 : decode cX12_typesOn 187 = .ok (.ireturn, 1) := by decide +kernel
theorem dX12_typesTo_0 : decode cX12_typesTo 0 = .ok (.aload_n 1, 1) := by decide +kernel
theorem dX12_typesTo_1 : decode cX12_typesTo 1 = .ok (.getfield 439, 3) := by decide +kernel
theorem dX12_typesTo_4 : decode cX12_typesTo 4 = .ok (.iload_n 2, 1) := by decide +kernel
theorem dX12_typesTo_5 : decode cX12_typesTo 5 = .ok (.baload, 1) := by decide +kernel
theorem dX12_typesTo_6 : decode cX12_typesTo 6 = .ok (.ifCond .ne 7, 3) := by decide +kernel
theorem dX12_typesTo_9 : decode cX12_typesTo 9 = .ok (.iconst 1, 1) := by decide +kernel
theorem dX12_typesTo_10 : decode cX12_typesTo 10 = .ok (.goto 4, 3) := by decide +kernel
theorem dX12_typesTo_13 : decode cX12_typesTo 13 = .ok (.iconst 0, 1) := by decide +kernel
theorem dX12_typesTo_14 : decode cX12_typesTo 14 = .ok (.istore_n 3, 1) := by decide +kernel
theorem dX12_typesTo_15 : decode cX12_typesTo 15 = .ok (.iconst 0, 1) := by decide +kernel
theorem dX12_typesTo_16 : decode cX12_typesTo 16 = .ok (.istore 4, 2) := by decide +kernel
theorem dX12_typesTo_18 : decode cX12_typesTo 18 = .ok (.iload 4, 2) := by decide +kernel
theorem dX12_typesTo_20 : decode cX12_typesTo 20 = .ok (.bipush 12, 2) := by decide +kernel
theorem dX12_typesTo_22 : decode cX12_typesTo 22 = .ok (.aload_n 1, 1) := by decide +kernel
theorem dX12_typesTo_23 : decode cX12_typesTo 23 = .ok (.getfield 424, 3) := by decide +kernel
theorem dX12_typesTo_26 : decode cX12_typesTo 26 = .ok (.iload_n 2, 1) := by decide +kernel
theorem dX12_typesTo_27 : decode cX12_typesTo 27 = .ok (.iaload, 1) := by decide +kernel
theorem dX12_typesTo_28 : decode cX12_typesTo 28 = .ok (.iadd, 1) := by decide +kernel
theorem dX12_typesTo_29 : decode cX12_typesTo 29 = .ok (.if_icmp .ge 88, 3) := by decide +kernel
theorem dX12_typesTo_32 : decode cX12_typesTo 32 = .ok (.iload_n 2, 1) := by decide +kernel
theorem dX12_typesTo_33 : decode cX12_typesTo 33 = .ok (.bipush 20, 2) := by decide +kernel
theorem dX12_typesTo_35 : decode cX12_typesTo 35 = .ok (.imul, 1) := by decide +kernel
theorem dX12_typesTo_36 : decode cX12_typesTo 36 = .ok (.iload 4, 2) := by decide +kernel
theorem dX12_typesTo_38 : decode cX12_typesTo 38 = .ok (.iadd, 1) := by decide +kernel
theorem dX12_typesTo_39 : decode cX12_typesTo 39 = .ok (.istore 5, 2) := by decide +kernel
theorem dX12_typesTo_41 : decode cX12_typesTo 41 = .ok (.aload_n 1, 1) := by decide +kernel
theorem dX12_typesTo_42 : decode cX12_typesTo 42 = .ok (.getfield 439, 3) := by decide +kernel
theorem dX12_typesTo_45 : decode cX12_typesTo 45 = .ok (.iload_n 2, 1) := by decide +kernel
theorem dX12_typesTo_46 : decode cX12_typesTo 46 = .ok (.baload, 1) := by decide +kernel
theorem dX12_typesTo_47 : decode cX12_typesTo 47 = .ok (.ifCond .eq 24, 3) := by decide +kernel
theorem dX12_typesTo_50 : decode cX12_typesTo 50 = .ok (.aload_n 1, 1) := by decide +kernel
theorem dX12_typesTo_51 : decode cX12_typesTo 51 = .ok (.aload_n 1, 1) := by decide +kernel
theorem dX12_typesTo_52 : decode cX12_typesTo 52 = .ok (.getfield 442, 3) := by decide +kernel
theorem dX12_typesTo_55 : decode cX12_typesTo 55 = .ok (.iload 5, 2) := by decide +kernel
theorem dX12_typesTo_57 : decode cX12_typesTo 57 = .ok (.iaload, 1) := by decide +kernel
theorem dX12_typesTo_58 : decode cX12_typesTo 58 = .ok (.aload_n 0, 1) := by decide +kernel
theorem dX12_typesTo_59 : decode cX12_typesTo 59 = .ok (.getfield 61, 3) := by decide +kernel
theorem dX12_typesTo_62 : decode cX12_typesTo 62 = .ok (.iload 4, 2) := by decide +kernel
theorem dX12_typesTo_64 : decode cX12_typesTo 64 = .ok (.iaload, 1) := by decide +kernel
theorem dX12_typesTo_65 : decode cX12_typesTo 65 = .ok (.invokestatic 464, 3) := by decide +kernel
theorem dX12_typesTo_68 : decode cX12_typesTo 68 = .ok (.goto 10, 3) := by decide +kernel
theorem dX12_typesTo_71 : decode cX12_typesTo 71 = .ok (.aload_n 0, 1) := by decide +kernel
theorem dX12_typesTo_72 : decode cX12_typesTo 72 = .ok (.getfield 61, 3) := by decide +kernel
theorem dX12_typesTo_75 : decode cX12_typesTo 75 = .ok (.iload 4, 2) := by decide +kernel
theorem dX12_typesTo_77 : decode cX12_typesTo 77 = .ok (.iaload, 1) := by decide +kernel
theorem dX12_typesTo_78 : decode cX12_typesTo 78 = .ok (.istore 6, 2) := by decide +kernel
theorem dX12_typesTo_80 : decode cX12_typesTo 80 = .ok (.iload_n 3, 1) := by decide +kernel
theorem dX12_typesTo_81 : decode cX12_typesTo 81 = .ok (.ifCond .ne 15, 3) := by decide +kernel
theorem dX12_typesTo_84 : decode cX12_typesTo 84 = .ok (.iload 6, 2) := by decide +kernel
theorem dX12_typesTo_86 : decode cX12_typesTo 86 = .ok (.aload_n 1, 1) := by decide +kernel
theorem dX12_typesTo_87 : decode cX12_typesTo 87 = .ok (.getfield 442, 3) := by decide +kernel
theorem dX12_typesTo_90 : decode cX12_typesTo 90 = .ok (.iload 5, 2) := by decide +kernel
theorem dX12_typesTo_92 : decode cX12_typesTo 92 = .ok (.iaload, 1) := by decide +kernel
theorem dX12_typesTo_93 : decode cX12_typesTo 93 = .ok (.if_icmp .eq 7, 3) := by decide +kernel
theorem dX12_typesTo_96 : decode cX12_typesTo 96 = .ok (.iconst 1, 1) := by decide +kernel
theorem dX12_typesTo_97 : decode cX12_typesTo 97 = .ok (.goto 4, 3) := by decide +kernel
theorem dX12_typesTo_100 : decode cX12_typesTo 100 = .ok (.iconst 0, 1) := by decide +kernel
theorem dX12_typesTo_101 : decode cX12_typesTo 101 = .ok (.istore_n 3, 1) := by decide +kernel
theorem dX12_typesTo_102 : decode cX12_typesTo 102 = .ok (.aload_n 1, 1) := by decide +kernel
theorem dX12_typesTo_103 : decode cX12_typesTo 103 = .ok (.getfield 442, 3) := by decide +kernel
theorem dX12_typesTo_106 : decode cX12_typesTo 106 = .ok (.iload 5, 2) := by decide +kernel
theorem dX12_typesTo_108 : decode cX12_typesTo 108 = .ok (.iload 6, 2) := by decide +kernel
theorem dX12_typesTo_110 : decode cX12_typesTo 110 = .ok (.iastore, 1) := by decide +kernel
theorem dX12_typesTo_111 : decode cX12_typesTo 111 = .ok (.iinc 4 1, 3) := by decide +kernel
theorem dX12_typesTo_114 : decode cX12_typesTo 114 = .ok (.goto (-96), 3) := by decide +kernel
theorem dX12_typesTo_117 : decode cX12_typesTo 117 = .ok (.aload_n 1, 1) := by decide +kernel
theorem dX12_typesTo_118 : decode cX12_typesTo 118 = .ok (.getfield 439, 3) := by decide +kernel
theorem dX12_typesTo_121 : decode cX12_typesTo 121 = .ok (.iload_n 2, 1) := by decide +kernel
theorem dX12_typesTo_122 : decode cX12_typesTo 122 = .ok (.iconst 1, 1) := by decide +kernel
theorem dX12_typesTo_123 : decode cX12_typesTo 123 = .ok (.bastore, 1) := by decide +kernel
theorem dX12_typesTo_124 : decode cX12_typesTo 124 = .ok (.iload_n 3, 1) := by decide +kernel
theorem dX12_typesTo_125 : decode cX12_typesTo 125 = .ok (.ireturn, 1) := by decide +kernel
theorem dX12_leave_0 : decode cX12_leave 0 = .ok (.aload_n 0, 1) := by decide +kernel
theorem dX12_leave_1 : decode cX12_leave 1 = .ok (.getfield 61, 3) := by decide +kernel
theorem dX12_leave_4 : decode cX12_leave 4 = .ok (.aload_n 0, 1) := by decide +kernel
theorem dX12_leave_5 : decode cX12_leave 5 = .ok (.getfield 451, 3) := by decide +kernel
theorem dX12_leave_8 : decode cX12_leave 8 = .ok (.iload_n 1, 1) := by decide +kernel
theorem dX12_leave_9 : decode cX12_leave 9 = .ok (.iastore, 1) := by decide +kernel
theorem dX12_leave_10 : decode cX12_leave 10 = .ok (.aload_n 0, 1) := by decide +kernel
theorem dX12_leave_11 : decode cX12_leave 11 = .ok (.dup, 1) := by decide +kernel
theorem dX12_leave_12 : decode cX12_leave 12 = .ok (.getfield 451, 3) := by decide +kernel
theorem dX12_leave_15 : decode cX12_leave 15 = .ok (.iconst 1, 1) := by decide +kernel
theorem dX12_leave_16 : decode cX12_leave 16 = .ok (.iadd, 1) := by decide +kernel
theorem dX12_leave_17 : decode cX12_leave 17 = .ok (.putfield 451, 3) := by decide +kernel
theorem dX12_leave_20 : decode cX12_leave 20 = .ok (.return_, 1) := by decide +kernel
theorem dX12_typesBehind_0 : decode cX12_typesBehind 0 = .ok (.aload_n 1, 1) := by decide +kernel
theorem dX12_typesBehind_1 : decode cX12_typesBehind 1 = .ok (.getfield 353, 3) := by decide +kernel
theorem dX12_typesBehind_4 : decode cX12_typesBehind 4 = .ok (.iload_n 2, 1) := by decide +kernel
theorem dX12_typesBehind_5 : decode cX12_typesBehind 5 = .ok (.iaload, 1) := by decide +kernel
theorem dX12_typesBehind_6 : decode cX12_typesBehind 6 = .ok (.istore_n 3, 1) := by decide +kernel
theorem dX12_typesBehind_7 : decode cX12_typesBehind 7 = .ok (.aload_n 1, 1) := by decide +kernel
theorem dX12_typesBehind_8 : decode cX12_typesBehind 8 = .ok (.getfield 376, 3) := by decide +kernel
theorem dX12_typesBehind_11 : decode cX12_typesBehind 11 = .ok (.iload_n 2, 1) := by decide +kernel
theorem dX12_typesBehind_12 : decode cX12_typesBehind 12 = .ok (.iaload, 1) := by decide +kernel
theorem dX12_typesBehind_13 : decode cX12_typesBehind 13 = .ok (.istore 4, 2) := by decide +kernel
theorem dX12_typesBehind_15 : decode cX12_typesBehind 15 = .ok (.aload_n 0, 1) := by decide +kernel
theorem dX12_typesBehind_16 : decode cX12_typesBehind 16 = .ok (.getfield 451, 3) := by decide +kernel
theorem dX12_typesBehind_19 : decode cX12_typesBehind 19 = .ok (.bipush 12, 2) := by decide +kernel
theorem dX12_typesBehind_21 : decode cX12_typesBehind 21 = .ok (.if_icmp .le 17, 3) := by decide +kernel
theorem dX12_typesBehind_24 : decode cX12_typesBehind 24 = .ok (.aload_n 0, 1) := by decide +kernel
theorem dX12_typesBehind_25 : decode cX12_typesBehind 25 = .ok (.getfield 61, 3) := by decide +kernel
theorem dX12_typesBehind_28 : decode cX12_typesBehind 28 = .ok (.aload_n 0, 1) := by decide +kernel
theorem dX12_typesBehind_29 : decode cX12_typesBehind 29 = .ok (.getfield 451, 3) := by decide +kernel
theorem dX12_typesBehind_32 : decode cX12_typesBehind 32 = .ok (.iconst 1, 1) := by decide +kernel
theorem dX12_typesBehind_33 : decode cX12_typesBehind 33 = .ok (.isub, 1) := by decide +kernel
theorem dX12_typesBehind_34 : decode cX12_typesBehind 34 = .ok (.iaload, 1) := by decide +kernel
theorem dX12_typesBehind_35 : decode cX12_typesBehind 35 = .ok (.goto 4, 3) := by decide +kernel
theorem dX12_typesBehind_38 : decode cX12_typesBehind 38 = .ok (.iconst 2, 1) := by decide +kernel
theorem dX12_typesBehind_39 : decode cX12_typesBehind 39 = .ok (.istore 5, 2) := by decide +kernel
theorem dX12_typesBehind_41 : decode cX12_typesBehind 41 = .ok (.aload_n 0, 1) := by decide +kernel
theorem dX12_typesBehind_42 : decode cX12_typesBehind 42 = .ok (.getfield 451, 3) := by decide +kernel
theorem dX12_typesBehind_45 : decode cX12_typesBehind 45 = .ok (.bipush 13, 2) := by decide +kernel
theorem dX12_typesBehind_47 : decode cX12_typesBehind 47 = .ok (.if_icmp .le 17, 3) := by decide +kernel
theorem dX12_typesBehind_50 : decode cX12_typesBehind 50 = .ok (.aload_n 0, 1) := by decide +kernel
theorem dX12_typesBehind_51 : decode cX12_typesBehind 51 = .ok (.getfield 61, 3) := by decide +kernel
theorem dX12_typesBehind_54 : decode cX12_typesBehind 54 = .ok (.aload_n 0, 1) := by decide +kernel
theorem dX12_typesBehind_55 : decode cX12_typesBehind 55 = .ok (.getfield 451, 3) := by decide +kernel
theorem dX12_typesBehind_58 : decode cX12_typesBehind 58 = .ok (.iconst 2, 1) := by decide +kernel
theorem dX12_typesBehind_59 : decode cX12_typesBehind 59 = .ok (.isub, 1) := by decide +kernel
theorem dX12_typesBehind_60 : decode cX12_typesBehind 60 = .ok (.iaload, 1) := by decide +kernel
theorem dX12_typesBehind_61 : decode cX12_typesBehind 61 = .ok (.goto 4, 3) := by decide +kernel
theorem dX12_typesBehind_64 : decode cX12_typesBehind 64 = .ok (.iconst 2, 1) := by decide +kernel
theorem dX12_typesBehind_65 : decode cX12_typesBehind 65 = .ok (.istore 6, 2) := by decide +kernel
theorem dX12_typesBehind_67 : decode cX12_typesBehind 67 = .ok (.aload_n 0, 1) := by decide +kernel
theorem dX12_typesBehind_68 : decode cX12_typesBehind 68 = .ok (.dup, 1) := by decide +kernel
theorem dX12_typesBehind_69 : decode cX12_typesBehind 69 = .ok (.getfield 451, 3) := by decide +kernel
theorem dX12_typesBehind_72 : decode cX12_typesBehind 72 = .ok (.aload_n 1, 1) := by decide +kernel
theorem dX12_typesBehind_73 : decode cX12_typesBehind 73 = .ok (.iload_n 2, 1) := by decide +kernel
theorem dX12_typesBehind_74 : decode cX12_typesBehind 74 = .ok (.invokestatic 427, 3) := by decide +kernel
theorem dX12_typesBehind_77 : decode cX12_typesBehind 77 = .ok (.isub, 1) := by decide +kernel
theorem dX12_typesBehind_78 : decode cX12_typesBehind 78 = .ok (.putfield 451, 3) := by decide +kernel
theorem dX12_typesBehind_81 : decode cX12_typesBehind 81 = .ok (.iload_n 3, 1) := by decide +kernel
theorem dX12_typesBehind_82 : decode cX12_typesBehind 82 = .ok (.tableswitch 312 1 40 #[174, 182, 196, 312, 208, 312, 223, 312, 312, 312, 312, 312, 312, 312, 312, 312, 312, 312, 312, 312, 312, 312, 312, 312, 312, 312, 312, 312, 312, 238, 238, 312, 252, 312, 264, 312, 278, 312, 287, 287], 174) := by decide +kernel
theorem dX12_typesBehind_256 : decode cX12_typesBehind 256 = .ok (.aload_n 0, 1) := by decide +kernel
theorem dX12_typesBehind_257 : decode cX12_typesBehind 257 = .ok (.iconst 1, 1) := by decide +kernel
theorem dX12_typesBehind_258 : decode cX12_typesBehind 258 = .ok (.invokevirtual 467, 3) := by decide +kernel
theorem dX12_typesBehind_261 : decode cX12_typesBehind 261 = .ok (.goto 147, 3) := by decide +kernel
theorem dX12_typesBehind_264 : decode cX12_typesBehind 264 = .ok (.aload_n 0, 1) := by decide +kernel
theorem dX12_typesBehind_265 : decode cX12_typesBehind 265 = .ok (.aload_n 0, 1) := by decide +kernel
theorem dX12_typesBehind_266 : decode cX12_typesBehind 266 = .ok (.getfield 61, 3) := by decide +kernel
theorem dX12_typesBehind_269 : decode cX12_typesBehind 269 = .ok (.iload 4, 2) := by decide +kernel
theorem dX12_typesBehind_271 : decode cX12_typesBehind 271 = .ok (.iaload, 1) := by decide +kernel
theorem dX12_typesBehind_272 : decode cX12_typesBehind 272 = .ok (.invokevirtual 467, 3) := by decide +kernel
theorem dX12_typesBehind_275 : decode cX12_typesBehind 275 = .ok (.goto 133, 3) := by decide +kernel
theorem dX12_typesBehind_278 : decode cX12_typesBehind 278 = .ok (.aload_n 0, 1) := by decide +kernel
theorem dX12_typesBehind_279 : decode cX12_typesBehind 279 = .ok (.getfield 61, 3) := by decide +kernel
theorem dX12_typesBehind_282 : decode cX12_typesBehind 282 = .ok (.iload 4, 2) := by decide +kernel
theorem dX12_typesBehind_284 : decode cX12_typesBehind 284 = .ok (.iload 5, 2) := by decide +kernel
theorem dX12_typesBehind_286 : decode cX12_typesBehind 286 = .ok (.iastore, 1) := by decide +kernel
theorem dX12_typesBehind_287 : decode cX12_typesBehind 287 = .ok (.goto 121, 3) := by decide +kernel
theorem dX12_typesBehind_290 : decode cX12_typesBehind 290 = .ok (.aload_n 0, 1) := by decide +kernel
theorem dX12_typesBehind_291 : decode cX12_typesBehind 291 = .ok (.iload 5, 2) := by decide +kernel
theorem dX12_typesBehind_293 : decode cX12_typesBehind 293 = .ok (.invokevirtual 467, 3) := by decide +kernel
theorem dX12_typesBehind_296 : decode cX12_typesBehind 296 = .ok (.aload_n 0, 1) := by decide +kernel
theorem dX12_typesBehind_297 : decode cX12_typesBehind 297 = .ok (.iload 5, 2) := by decide +kernel
theorem dX12_typesBehind_299 : decode cX12_typesBehind 299 = .ok (.invokevirtual 467, 3) := by decide +kernel
theorem dX12_typesBehind_302 : decode cX12_typesBehind 302 = .ok (.goto 106, 3) := by decide +kernel
theorem dX12_typesBehind_305 : decode cX12_typesBehind 305 = .ok (.aload_n 0, 1) := by decide +kernel
theorem dX12_typesBehind_306 : decode cX12_typesBehind 306 = .ok (.iload 5, 2) := by decide +kernel
theorem dX12_typesBehind_308 : decode cX12_typesBehind 308 = .ok (.invokevirtual 467, 3) := by decide +kernel
theorem dX12_typesBehind_311 : decode cX12_typesBehind 311 = .ok (.aload_n 0, 1) := by decide +kernel
theorem dX12_typesBehind_312 : decode cX12_typesBehind 312 = .ok (.iload 6, 2) := by decide +kernel
theorem dX12_typesBehind_314 : decode cX12_typesBehind 314 = .ok (.invokevirtual 467, 3) := by decide +kernel
theorem dX12_typesBehind_317 : decode cX12_typesBehind 317 = .ok (.goto 91, 3) := by decide +kernel
theorem dX12_typesBehind_320 : decode cX12_typesBehind 320 = .ok (.aload_n 0, 1) := by decide +kernel
theorem dX12_typesBehind_321 : decode cX12_typesBehind 321 = .ok (.aload_n 1, 1) := by decide +kernel
theorem dX12_typesBehind_322 : decode cX12_typesBehind 322 = .ok (.getfield 391, 3) := by decide +kernel
theorem dX12_typesBehind_325 : decode cX12_typesBehind 325 = .ok (.iload 4, 2) := by decide +kernel
theorem dX12_typesBehind_327 : decode cX12_typesBehind 327 = .ok (.iaload, 1) := by decide +kernel
theorem dX12_typesBehind_328 : decode cX12_typesBehind 328 = .ok (.invokevirtual 467, 3) := by decide +kernel
theorem dX12_typesBehind_331 : decode cX12_typesBehind 331 = .ok (.goto 77, 3) := by decide +kernel
theorem dX12_typesBehind_334 : decode cX12_typesBehind 334 = .ok (.aload_n 0, 1) := by decide +kernel
theorem dX12_typesBehind_335 : decode cX12_typesBehind 335 = .ok (.iload 6, 2) := by decide +kernel
theorem dX12_typesBehind_337 : decode cX12_typesBehind 337 = .ok (.invokestatic 470, 3) := by decide +kernel
theorem dX12_typesBehind_340 : decode cX12_typesBehind 340 = .ok (.invokevirtual 467, 3) := by decide +kernel
theorem dX12_typesBehind_343 : decode cX12_typesBehind 343 = .ok (.goto 65, 3) := by decide +kernel
theorem dX12_typesBehind_346 : decode cX12_typesBehind 346 = .ok (.aload_n 0, 1) := by decide +kernel
theorem dX12_typesBehind_347 : decode cX12_typesBehind 347 = .ok (.aload_n 1, 1) := by decide +kernel
theorem dX12_typesBehind_348 : decode cX12_typesBehind 348 = .ok (.getfield 288, 3) := by decide +kernel
theorem dX12_typesBehind_351 : decode cX12_typesBehind 351 = .ok (.iload 4, 2) := by decide +kernel
theorem dX12_typesBehind_353 : decode cX12_typesBehind 353 = .ok (.iaload, 1) := by decide +kernel
theorem dX12_typesBehind_354 : decode cX12_typesBehind 354 = .ok (.invokevirtual 467, 3) := by decide +kernel
theorem dX12_typesBehind_357 : decode cX12_typesBehind 357 = .ok (.goto 51, 3) := by decide +kernel
theorem dX12_typesBehind_360 : decode cX12_typesBehind 360 = .ok (.aload_n 0, 1) := by decide +kernel
theorem dX12_typesBehind_361 : decode cX12_typesBehind 361 = .ok (.iload 4, 2) := by decide +kernel
theorem dX12_typesBehind_363 : decode cX12_typesBehind 363 = .ok (.invokevirtual 467, 3) := by decide +kernel
theorem dX12_typesBehind_366 : decode cX12_typesBehind 366 = .ok (.goto 42, 3) := by decide +kernel
theorem dX12_typesBehind_369 : decode cX12_typesBehind 369 = .ok (.aload_n 1, 1) := by decide +kernel
theorem dX12_typesBehind_370 : decode cX12_typesBehind 370 = .ok (.getfield 308, 3) := by decide +kernel
theorem dX12_typesBehind_373 : decode cX12_typesBehind 373 = .ok (.iload 4, 2) := by decide +kernel
theorem dX12_typesBehind_375 : decode cX12_typesBehind 375 = .ok (.iaload, 1) := by decide +kernel
theorem dX12_typesBehind_376 : decode cX12_typesBehind 376 = .ok (.iconst (-1), 1) := by decide +kernel
theorem dX12_typesBehind_377 : decode cX12_typesBehind 377 = .ok (.if_icmp .eq 31, 3) := by decide +kernel
theorem dX12_typesBehind_380 : decode cX12_typesBehind 380 = .ok (.aload_n 0, 1) := by decide +kernel
theorem dX12_typesBehind_381 : decode cX12_typesBehind 381 = .ok (.aload_n 1, 1) := by decide +kernel
theorem dX12_typesBehind_382 : decode cX12_typesBehind 382 = .ok (.getfield 308, 3) := by decide +kernel
theorem dX12_typesBehind_385 : decode cX12_typesBehind 385 = .ok (.iload 4, 2) := by decide +kernel
theorem dX12_typesBehind_387 : decode cX12_typesBehind 387 = .ok (.iaload, 1) := by decide +kernel
theorem dX12_typesBehind_388 : decode cX12_typesBehind 388 = .ok (.invokevirtual 467, 3) := by decide +kernel
theorem dX12_typesBehind_391 : decode cX12_typesBehind 391 = .ok (.goto 17, 3) := by decide +kernel
theorem dX12_typesBehind_394 : decode cX12_typesBehind 394 = .ok (.aload_n 1, 1) := by decide +kernel
theorem dX12_typesBehind_395 : decode cX12_typesBehind 395 = .ok (.iload_n 2, 1) := by decide +kernel
theorem dX12_typesBehind_396 : decode cX12_typesBehind 396 = .ok (.invokestatic 430, 3) := by decide +kernel
theorem dX12_typesBehind_399 : decode cX12_typesBehind 399 = .ok (.iconst 1, 1) := by decide +kernel
theorem dX12_typesBehind_400 : decode cX12_typesBehind 400 = .ok (.if_icmp .ne 8, 3) := by decide +kernel
theorem dX12_typesBehind_403 : decode cX12_typesBehind 403 = .ok (.aload_n 0, 1) := by decide +kernel
theorem dX12_typesBehind_404 : decode cX12_typesBehind 404 = .ok (.iconst 0, 1) := by decide +kernel
theorem dX12_typesBehind_405 : decode cX12_typesBehind 405 = .ok (.invokevirtual 467, 3) := by decide +kernel
theorem dX12_typesBehind_408 : decode cX12_typesBehind 408 = .ok (.return_, 1) := by decide +kernel
theorem dX12_elementOf_0 : decode cX12_elementOf 0 = .ok (.iload_n 0, 1) := by decide +kernel
theorem dX12_elementOf_1 : decode cX12_elementOf 1 = .ok (.bipush 40, 2) := by decide +kernel
theorem dX12_elementOf_3 : decode cX12_elementOf 3 = .ok (.if_icmp .ne 7, 3) := by decide +kernel
theorem dX12_elementOf_6 : decode cX12_elementOf 6 = .ok (.iconst 0, 1) := by decide +kernel
theorem dX12_elementOf_7 : decode cX12_elementOf 7 = .ok (.goto 20, 3) := by decide +kernel
theorem dX12_elementOf_10 : decode cX12_elementOf 10 = .ok (.iload_n 0, 1) := by decide +kernel
theorem dX12_elementOf_11 : decode cX12_elementOf 11 = .ok (.bipush 48, 2) := by decide +kernel
theorem dX12_elementOf_13 : decode cX12_elementOf 13 = .ok (.if_icmp .lt 13, 3) := by decide +kernel
theorem dX12_elementOf_16 : decode cX12_elementOf 16 = .ok (.iload_n 0, 1) := by decide +kernel
theorem dX12_elementOf_17 : decode cX12_elementOf 17 = .ok (.bipush 48, 2) := by decide +kernel
theorem dX12_elementOf_19 : decode cX12_elementOf 19 = .ok (.isub, 1) := by decide +kernel
theorem dX12_elementOf_20 : decode cX12_elementOf 20 = .ok (.bipush 8, 2) := by decide +kernel
theorem dX12_elementOf_22 : decode cX12_elementOf 22 = .ok (.iadd, 1) := by decide +kernel
theorem dX12_elementOf_23 : decode cX12_elementOf 23 = .ok (.goto 4, 3) := by decide +kernel
theorem dX12_elementOf_26 : decode cX12_elementOf 26 = .ok (.iconst 2, 1) := by decide +kernel
theorem dX12_elementOf_27 : decode cX12_elementOf 27 = .ok (.ireturn, 1) := by decide +kernel
theorem dX12_fits_0 : decode cX12_fits 0 = .ok (.aload_n 0, 1) := by decide +kernel
theorem dX12_fits_1 : decode cX12_fits 1 = .ok (.aload_n 1, 1) := by decide +kernel
theorem dX12_fits_2 : decode cX12_fits 2 = .ok (.iload_n 2, 1) := by decide +kernel
theorem dX12_fits_3 : decode cX12_fits 3 = .ok (.invokevirtual 454, 3) := by decide +kernel
theorem dX12_fits_6 : decode cX12_fits 6 = .ok (.aload_n 1, 1) := by decide +kernel
theorem dX12_fits_7 : decode cX12_fits 7 = .ok (.getfield 353, 3) := by decide +kernel
theorem dX12_fits_10 : decode cX12_fits 10 = .ok (.iload_n 2, 1) := by decide +kernel
theorem dX12_fits_11 : decode cX12_fits 11 = .ok (.iaload, 1) := by decide +kernel
theorem dX12_fits_12 : decode cX12_fits 12 = .ok (.istore_n 3, 1) := by decide +kernel
theorem dX12_fits_13 : decode cX12_fits 13 = .ok (.aload_n 1, 1) := by decide +kernel
theorem dX12_fits_14 : decode cX12_fits 14 = .ok (.getfield 376, 3) := by decide +kernel
theorem dX12_fits_17 : decode cX12_fits 17 = .ok (.iload_n 2, 1) := by decide +kernel
theorem dX12_fits_18 : decode cX12_fits 18 = .ok (.iaload, 1) := by decide +kernel
theorem dX12_fits_19 : decode cX12_fits 19 = .ok (.istore 4, 2) := by decide +kernel
theorem dX12_fits_21 : decode cX12_fits 21 = .ok (.aload_n 1, 1) := by decide +kernel
theorem dX12_fits_22 : decode cX12_fits 22 = .ok (.iload_n 2, 1) := by decide +kernel
theorem dX12_fits_23 : decode cX12_fits 23 = .ok (.invokestatic 427, 3) := by decide +kernel
theorem dX12_fits_26 : decode cX12_fits 26 = .ok (.istore 5, 2) := by decide +kernel
theorem dX12_fits_28 : decode cX12_fits 28 = .ok (.iload 5, 2) := by decide +kernel
theorem dX12_fits_30 : decode cX12_fits 30 = .ok (.ifCond .le 17, 3) := by decide +kernel
theorem dX12_fits_33 : decode cX12_fits 33 = .ok (.aload_n 0, 1) := by decide +kernel
theorem dX12_fits_34 : decode cX12_fits 34 = .ok (.getfield 61, 3) := by decide +kernel
theorem dX12_fits_37 : decode cX12_fits 37 = .ok (.aload_n 0, 1) := by decide +kernel
theorem dX12_fits_38 : decode cX12_fits 38 = .ok (.getfield 451, 3) := by decide +kernel
theorem dX12_fits_41 : decode cX12_fits 41 = .ok (.iconst 1, 1) := by decide +kernel
theorem dX12_fits_42 : decode cX12_fits 42 = .ok (.isub, 1) := by decide +kernel
theorem dX12_fits_43 : decode cX12_fits 43 = .ok (.iaload, 1) := by decide +kernel
theorem dX12_fits_44 : decode cX12_fits 44 = .ok (.goto 4, 3) := by decide +kernel
theorem dX12_fits_47 : decode cX12_fits 47 = .ok (.iconst 2, 1) := by decide +kernel
theorem dX12_fits_48 : decode cX12_fits 48 = .ok (.istore 6, 2) := by decide +kernel
theorem dX12_fits_50 : decode cX12_fits 50 = .ok (.iload 5, 2) := by decide +kernel
theorem dX12_fits_52 : decode cX12_fits 52 = .ok (.iconst 1, 1) := by decide +kernel
theorem dX12_fits_53 : decode cX12_fits 53 = .ok (.if_icmp .le 17, 3) := by decide +kernel
theorem dX12_fits_56 : decode cX12_fits 56 = .ok (.aload_n 0, 1) := by decide +kernel
theorem dX12_fits_57 : decode cX12_fits 57 = .ok (.getfield 61, 3) := by decide +kernel
theorem dX12_fits_60 : decode cX12_fits 60 = .ok (.aload_n 0, 1) := by decide +kernel
theorem dX12_fits_61 : decode cX12_fits 61 = .ok (.getfield 451, 3) := by decide +kernel
theorem dX12_fits_64 : decode cX12_fits 64 = .ok (.iconst 2, 1) := by decide +kernel
theorem dX12_fits_65 : decode cX12_fits 65 = .ok (.isub, 1) := by decide +kernel
theorem dX12_fits_66 : decode cX12_fits 66 = .ok (.iaload, 1) := by decide +kernel
theorem dX12_fits_67 : decode cX12_fits 67 = .ok (.goto 4, 3) := by decide +kernel
theorem dX12_fits_70 : decode cX12_fits 70 = .ok (.iconst 2, 1) := by decide +kernel
theorem dX12_fits_71 : decode cX12_fits 71 = .ok (.istore 7, 2) := by decide +kernel
theorem dX12_fits_73 : decode cX12_fits 73 = .ok (.iload_n 3, 1) := by decide +kernel
theorem dX12_fits_74 : decode cX12_fits 74 = .ok (.tableswitch 474 2 45 #[190, 474, 207, 474, 474, 474, 474, 474, 474, 474, 474, 474, 474, 474, 474, 474, 251, 474, 474, 474, 474, 474, 474, 474, 223, 223, 229, 229, 474, 251, 262, 282, 307, 338, 354, 223, 223, 394, 394, 403, 412, 453, 474, 251], 190) := by decide +kernel
theorem dX12_fits_264 : decode cX12_fits 264 = .ok (.aload_n 0, 1) := by decide +kernel
theorem dX12_fits_265 : decode cX12_fits 265 = .ok (.getfield 61, 3) := by decide +kernel
theorem dX12_fits_268 : decode cX12_fits 268 = .ok (.iload 4, 2) := by decide +kernel
theorem dX12_fits_270 : decode cX12_fits 270 = .ok (.iaload, 1) := by decide +kernel
theorem dX12_fits_271 : decode cX12_fits 271 = .ok (.iconst 2, 1) := by decide +kernel
theorem dX12_fits_272 : decode cX12_fits 272 = .ok (.if_icmp .eq 7, 3) := by decide +kernel
theorem dX12_fits_275 : decode cX12_fits 275 = .ok (.iconst 1, 1) := by decide +kernel
theorem dX12_fits_276 : decode cX12_fits 276 = .ok (.goto 4, 3) := by decide +kernel
theorem dX12_fits_279 : decode cX12_fits 279 = .ok (.iconst 0, 1) := by decide +kernel
theorem dX12_fits_280 : decode cX12_fits 280 = .ok (.ireturn, 1) := by decide +kernel
theorem dX12_fits_281 : decode cX12_fits 281 = .ok (.aload_n 0, 1) := by decide +kernel
theorem dX12_fits_282 : decode cX12_fits 282 = .ok (.getfield 61, 3) := by decide +kernel
theorem dX12_fits_285 : decode cX12_fits 285 = .ok (.iload 4, 2) := by decide +kernel
theorem dX12_fits_287 : decode cX12_fits 287 = .ok (.iaload, 1) := by decide +kernel
theorem dX12_fits_288 : decode cX12_fits 288 = .ok (.ifCond .ne 7, 3) := by decide +kernel
theorem dX12_fits_291 : decode cX12_fits 291 = .ok (.iconst 1, 1) := by decide +kernel
theorem dX12_fits_292 : decode cX12_fits 292 = .ok (.goto 4, 3) := by decide +kernel
theorem dX12_fits_295 : decode cX12_fits 295 = .ok (.iconst 0, 1) := by decide +kernel
theorem dX12_fits_296 : decode cX12_fits 296 = .ok (.ireturn, 1) := by decide +kernel
theorem dX12_fits_297 : decode cX12_fits 297 = .ok (.iload 6, 2) := by decide +kernel
theorem dX12_fits_299 : decode cX12_fits 299 = .ok (.invokestatic 473, 3) := by decide +kernel
theorem dX12_fits_302 : decode cX12_fits 302 = .ok (.ireturn, 1) := by decide +kernel
theorem dX12_fits_303 : decode cX12_fits 303 = .ok (.iload 6, 2) := by decide +kernel
theorem dX12_fits_305 : decode cX12_fits 305 = .ok (.invokestatic 473, 3) := by decide +kernel
theorem dX12_fits_308 : decode cX12_fits 308 = .ok (.ifCond .eq 15, 3) := by decide +kernel
theorem dX12_fits_311 : decode cX12_fits 311 = .ok (.iload 7, 2) := by decide +kernel
theorem dX12_fits_313 : decode cX12_fits 313 = .ok (.invokestatic 473, 3) := by decide +kernel
theorem dX12_fits_316 : decode cX12_fits 316 = .ok (.ifCond .eq 7, 3) := by decide +kernel
theorem dX12_fits_319 : decode cX12_fits 319 = .ok (.iconst 1, 1) := by decide +kernel
theorem dX12_fits_320 : decode cX12_fits 320 = .ok (.goto 4, 3) := by decide +kernel
theorem dX12_fits_323 : decode cX12_fits 323 = .ok (.iconst 0, 1) := by decide +kernel
theorem dX12_fits_324 : decode cX12_fits 324 = .ok (.ireturn, 1) := by decide +kernel
theorem dX12_fits_325 : decode cX12_fits 325 = .ok (.iload 6, 2) := by decide +kernel
theorem dX12_fits_327 : decode cX12_fits 327 = .ok (.ifCond .ne 7, 3) := by decide +kernel
theorem dX12_fits_330 : decode cX12_fits 330 = .ok (.iconst 1, 1) := by decide +kernel
theorem dX12_fits_331 : decode cX12_fits 331 = .ok (.goto 4, 3) := by decide +kernel
theorem dX12_fits_334 : decode cX12_fits 334 = .ok (.iconst 0, 1) := by decide +kernel
theorem dX12_fits_335 : decode cX12_fits 335 = .ok (.ireturn, 1) := by decide +kernel
theorem dX12_fits_336 : decode cX12_fits 336 = .ok (.iload 6, 2) := by decide +kernel
theorem dX12_fits_338 : decode cX12_fits 338 = .ok (.iconst 1, 1) := by decide +kernel
theorem dX12_fits_339 : decode cX12_fits 339 = .ok (.if_icmp .eq 11, 3) := by decide +kernel
theorem dX12_fits_342 : decode cX12_fits 342 = .ok (.iload 6, 2) := by decide +kernel
theorem dX12_fits_344 : decode cX12_fits 344 = .ok (.invokestatic 476, 3) := by decide +kernel
theorem dX12_fits_347 : decode cX12_fits 347 = .ok (.ifCond .eq 7, 3) := by decide +kernel
theorem dX12_fits_350 : decode cX12_fits 350 = .ok (.iconst 1, 1) := by decide +kernel
theorem dX12_fits_351 : decode cX12_fits 351 = .ok (.goto 4, 3) := by decide +kernel
theorem dX12_fits_354 : decode cX12_fits 354 = .ok (.iconst 0, 1) := by decide +kernel
theorem dX12_fits_355 : decode cX12_fits 355 = .ok (.ireturn, 1) := by decide +kernel
theorem dX12_fits_356 : decode cX12_fits 356 = .ok (.iload 6, 2) := by decide +kernel
theorem dX12_fits_358 : decode cX12_fits 358 = .ok (.ifCond .ne 21, 3) := by decide +kernel
theorem dX12_fits_361 : decode cX12_fits 361 = .ok (.iload 7, 2) := by decide +kernel
theorem dX12_fits_363 : decode cX12_fits 363 = .ok (.iconst 1, 1) := by decide +kernel
theorem dX12_fits_364 : decode cX12_fits 364 = .ok (.if_icmp .eq 11, 3) := by decide +kernel
theorem dX12_fits_367 : decode cX12_fits 367 = .ok (.iload 7, 2) := by decide +kernel
theorem dX12_fits_369 : decode cX12_fits 369 = .ok (.invokestatic 476, 3) := by decide +kernel
theorem dX12_fits_372 : decode cX12_fits 372 = .ok (.ifCond .eq 7, 3) := by decide +kernel
theorem dX12_fits_375 : decode cX12_fits 375 = .ok (.iconst 1, 1) := by decide +kernel
theorem dX12_fits_376 : decode cX12_fits 376 = .ok (.goto 4, 3) := by decide +kernel
theorem dX12_fits_379 : decode cX12_fits 379 = .ok (.iconst 0, 1) := by decide +kernel
theorem dX12_fits_380 : decode cX12_fits 380 = .ok (.ireturn, 1) := by decide +kernel
theorem dX12_fits_381 : decode cX12_fits 381 = .ok (.iload 7, 2) := by decide +kernel
theorem dX12_fits_383 : decode cX12_fits 383 = .ok (.ifCond .ne 27, 3) := by decide +kernel
theorem dX12_fits_386 : decode cX12_fits 386 = .ok (.aload_n 1, 1) := by decide +kernel
theorem dX12_fits_387 : decode cX12_fits 387 = .ok (.aload_n 0, 1) := by decide +kernel
theorem dX12_fits_388 : decode cX12_fits 388 = .ok (.getfield 61, 3) := by decide +kernel
theorem dX12_fits_391 : decode cX12_fits 391 = .ok (.aload_n 0, 1) := by decide +kernel
theorem dX12_fits_392 : decode cX12_fits 392 = .ok (.getfield 451, 3) := by decide +kernel
theorem dX12_fits_395 : decode cX12_fits 395 = .ok (.iconst 3, 1) := by decide +kernel
theorem dX12_fits_396 : decode cX12_fits 396 = .ok (.isub, 1) := by decide +kernel
theorem dX12_fits_397 : decode cX12_fits 397 = .ok (.iaload, 1) := by decide +kernel
theorem dX12_fits_398 : decode cX12_fits 398 = .ok (.iload 6, 2) := by decide +kernel
theorem dX12_fits_400 : decode cX12_fits 400 = .ok (.invokestatic 479, 3) := by decide +kernel
theorem dX12_fits_403 : decode cX12_fits 403 = .ok (.ifCond .eq 7, 3) := by decide +kernel
theorem dX12_fits_406 : decode cX12_fits 406 = .ok (.iconst 1, 1) := by decide +kernel
theorem dX12_fits_407 : decode cX12_fits 407 = .ok (.goto 4, 3) := by decide +kernel
theorem dX12_fits_410 : decode cX12_fits 410 = .ok (.iconst 0, 1) := by decide +kernel
theorem dX12_fits_411 : decode cX12_fits 411 = .ok (.ireturn, 1) := by decide +kernel
theorem dX12_fits_412 : decode cX12_fits 412 = .ok (.aload_n 1, 1) := by decide +kernel
theorem dX12_fits_413 : decode cX12_fits 413 = .ok (.iload 6, 2) := by decide +kernel
theorem dX12_fits_415 : decode cX12_fits 415 = .ok (.bipush 8, 2) := by decide +kernel
theorem dX12_fits_417 : decode cX12_fits 417 = .ok (.aload_n 1, 1) := by decide +kernel
theorem dX12_fits_418 : decode cX12_fits 418 = .ok (.getfield 379, 3) := by decide +kernel
theorem dX12_fits_421 : decode cX12_fits 421 = .ok (.iload_n 2, 1) := by decide +kernel
theorem dX12_fits_422 : decode cX12_fits 422 = .ok (.iaload, 1) := by decide +kernel
theorem dX12_fits_423 : decode cX12_fits 423 = .ok (.iadd, 1) := by decide +kernel
theorem dX12_fits_424 : decode cX12_fits 424 = .ok (.invokestatic 436, 3) := by decide +kernel
theorem dX12_fits_427 : decode cX12_fits 427 = .ok (.ireturn, 1) := by decide +kernel
theorem dX12_fits_428 : decode cX12_fits 428 = .ok (.aload_n 1, 1) := by decide +kernel
theorem dX12_fits_429 : decode cX12_fits 429 = .ok (.iload 7, 2) := by decide +kernel
theorem dX12_fits_431 : decode cX12_fits 431 = .ok (.bipush 8, 2) := by decide +kernel
theorem dX12_fits_433 : decode cX12_fits 433 = .ok (.aload_n 1, 1) := by decide +kernel
theorem dX12_fits_434 : decode cX12_fits 434 = .ok (.getfield 379, 3) := by decide +kernel
theorem dX12_fits_437 : decode cX12_fits 437 = .ok (.iload_n 2, 1) := by decide +kernel
theorem dX12_fits_438 : decode cX12_fits 438 = .ok (.iaload, 1) := by decide +kernel
theorem dX12_fits_439 : decode cX12_fits 439 = .ok (.iadd, 1) := by decide +kernel
theorem dX12_fits_440 : decode cX12_fits 440 = .ok (.invokestatic 436, 3) := by decide +kernel
theorem dX12_fits_443 : decode cX12_fits 443 = .ok (.ifCond .eq 23, 3) := by decide +kernel
theorem dX12_fits_446 : decode cX12_fits 446 = .ok (.aload_n 1, 1) := by decide +kernel
theorem dX12_fits_447 : decode cX12_fits 447 = .ok (.iload 6, 2) := by decide +kernel
theorem dX12_fits_449 : decode cX12_fits 449 = .ok (.aload_n 1, 1) := by decide +kernel
theorem dX12_fits_450 : decode cX12_fits 450 = .ok (.getfield 288, 3) := by decide +kernel
theorem dX12_fits_453 : decode cX12_fits 453 = .ok (.iload 4, 2) := by decide +kernel
theorem dX12_fits_455 : decode cX12_fits 455 = .ok (.iaload, 1) := by decide +kernel
theorem dX12_fits_456 : decode cX12_fits 456 = .ok (.invokestatic 436, 3) := by decide +kernel
theorem dX12_fits_459 : decode cX12_fits 459 = .ok (.ifCond .eq 7, 3) := by decide +kernel
theorem dX12_fits_462 : decode cX12_fits 462 = .ok (.iconst 1, 1) := by decide +kernel
theorem dX12_fits_463 : decode cX12_fits 463 = .ok (.goto 4, 3) := by decide +kernel
theorem dX12_fits_466 : decode cX12_fits 466 = .ok (.iconst 0, 1) := by decide +kernel
theorem dX12_fits_467 : decode cX12_fits 467 = .ok (.ireturn, 1) := by decide +kernel
theorem dX12_fits_468 : decode cX12_fits 468 = .ok (.aload_n 0, 1) := by decide +kernel
theorem dX12_fits_469 : decode cX12_fits 469 = .ok (.aload_n 1, 1) := by decide +kernel
theorem dX12_fits_470 : decode cX12_fits 470 = .ok (.iload_n 2, 1) := by decide +kernel
theorem dX12_fits_471 : decode cX12_fits 471 = .ok (.iload 4, 2) := by decide +kernel
theorem dX12_fits_473 : decode cX12_fits 473 = .ok (.invokevirtual 482, 3) := by decide +kernel
theorem dX12_fits_476 : decode cX12_fits 476 = .ok (.ireturn, 1) := by decide +kernel
theorem dX12_fits_477 : decode cX12_fits 477 = .ok (.aload_n 1, 1) := by decide +kernel
theorem dX12_fits_478 : decode cX12_fits 478 = .ok (.iload 6, 2) := by decide +kernel
theorem dX12_fits_480 : decode cX12_fits 480 = .ok (.bipush 9, 2) := by decide +kernel
theorem dX12_fits_482 : decode cX12_fits 482 = .ok (.invokestatic 436, 3) := by decide +kernel
theorem dX12_fits_485 : decode cX12_fits 485 = .ok (.ireturn, 1) := by decide +kernel
theorem dX12_fits_486 : decode cX12_fits 486 = .ok (.aload_n 1, 1) := by decide +kernel
theorem dX12_fits_487 : decode cX12_fits 487 = .ok (.getfield 308, 3) := by decide +kernel
theorem dX12_fits_490 : decode cX12_fits 490 = .ok (.aload_n 1, 1) := by decide +kernel
theorem dX12_fits_491 : decode cX12_fits 491 = .ok (.getfield 374, 3) := by decide +kernel
theorem dX12_fits_494 : decode cX12_fits 494 = .ok (.iload_n 2, 1) := by decide +kernel
theorem dX12_fits_495 : decode cX12_fits 495 = .ok (.iaload, 1) := by decide +kernel
theorem dX12_fits_496 : decode cX12_fits 496 = .ok (.iaload, 1) := by decide +kernel
theorem dX12_fits_497 : decode cX12_fits 497 = .ok (.iconst (-1), 1) := by decide +kernel
theorem dX12_fits_498 : decode cX12_fits 498 = .ok (.if_icmp .eq 27, 3) := by decide +kernel
theorem dX12_fits_501 : decode cX12_fits 501 = .ok (.aload_n 1, 1) := by decide +kernel
theorem dX12_fits_502 : decode cX12_fits 502 = .ok (.iload 6, 2) := by decide +kernel
theorem dX12_fits_504 : decode cX12_fits 504 = .ok (.aload_n 1, 1) := by decide +kernel
theorem dX12_fits_505 : decode cX12_fits 505 = .ok (.getfield 308, 3) := by decide +kernel
theorem dX12_fits_508 : decode cX12_fits 508 = .ok (.aload_n 1, 1) := by decide +kernel
theorem dX12_fits_509 : decode cX12_fits 509 = .ok (.getfield 374, 3) := by decide +kernel
theorem dX12_fits_512 : decode cX12_fits 512 = .ok (.iload_n 2, 1) := by decide +kernel
theorem dX12_fits_513 : decode cX12_fits 513 = .ok (.iaload, 1) := by decide +kernel
theorem dX12_fits_514 : decode cX12_fits 514 = .ok (.iaload, 1) := by decide +kernel
theorem dX12_fits_515 : decode cX12_fits 515 = .ok (.invokestatic 436, 3) := by decide +kernel
theorem dX12_fits_518 : decode cX12_fits 518 = .ok (.ifCond .eq 7, 3) := by decide +kernel
theorem dX12_fits_521 : decode cX12_fits 521 = .ok (.iconst 1, 1) := by decide +kernel
theorem dX12_fits_522 : decode cX12_fits 522 = .ok (.goto 4, 3) := by decide +kernel
theorem dX12_fits_525 : decode cX12_fits 525 = .ok (.iconst 0, 1) := by decide +kernel
theorem dX12_fits_526 : decode cX12_fits 526 = .ok (.ireturn, 1) := by decide +kernel
theorem dX12_fits_527 : decode cX12_fits 527 = .ok (.aload_n 1, 1) := by decide +kernel
theorem dX12_fits_528 : decode cX12_fits 528 = .ok (.getfield 308, 3) := by decide +kernel
theorem dX12_fits_531 : decode cX12_fits 531 = .ok (.aload_n 1, 1) := by decide +kernel
theorem dX12_fits_532 : decode cX12_fits 532 = .ok (.getfield 374, 3) := by decide +kernel
theorem dX12_fits_535 : decode cX12_fits 535 = .ok (.iload_n 2, 1) := by decide +kernel
theorem dX12_fits_536 : decode cX12_fits 536 = .ok (.iaload, 1) := by decide +kernel
theorem dX12_fits_537 : decode cX12_fits 537 = .ok (.iaload, 1) := by decide +kernel
theorem dX12_fits_538 : decode cX12_fits 538 = .ok (.iconst (-1), 1) := by decide +kernel
theorem dX12_fits_539 : decode cX12_fits 539 = .ok (.if_icmp .ne 7, 3) := by decide +kernel
theorem dX12_fits_542 : decode cX12_fits 542 = .ok (.iconst 1, 1) := by decide +kernel
theorem dX12_fits_543 : decode cX12_fits 543 = .ok (.goto 4, 3) := by decide +kernel
theorem dX12_fits_546 : decode cX12_fits 546 = .ok (.iconst 0, 1) := by decide +kernel
theorem dX12_fits_547 : decode cX12_fits 547 = .ok (.ireturn, 1) := by decide +kernel
theorem dX12_fits_548 : decode cX12_fits 548 = .ok (.iload_n 3, 1) := by decide +kernel
theorem dX12_fits_549 : decode cX12_fits 549 = .ok (.bipush 8, 2) := by decide +kernel
theorem dX12_fits_551 : decode cX12_fits 551 = .ok (.if_icmp .lt 9, 3) := by decide +kernel
theorem dX12_fits_554 : decode cX12_fits 554 = .ok (.iload_n 3, 1) := by decide +kernel
theorem dX12_fits_555 : decode cX12_fits 555 = .ok (.bipush 17, 2) := by decide +kernel
theorem dX12_fits_557 : decode cX12_fits 557 = .ok (.if_icmp .le 15, 3) := by decide +kernel
theorem dX12_fits_560 : decode cX12_fits 560 = .ok (.iload_n 3, 1) := by decide +kernel
theorem dX12_fits_561 : decode cX12_fits 561 = .ok (.bipush 20, 2) := by decide +kernel
theorem dX12_fits_563 : decode cX12_fits 563 = .ok (.if_icmp .lt 19, 3) := by decide +kernel
theorem dX12_fits_566 : decode cX12_fits 566 = .ok (.iload_n 3, 1) := by decide +kernel
theorem dX12_fits_567 : decode cX12_fits 567 = .ok (.bipush 25, 2) := by decide +kernel
