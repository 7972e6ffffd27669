theorem dX8_isNumber_80 : decode cX8_isNumber 80 = .ok (.iaload, 1) := by decide +kernel
theorem dX8_isNumber_81 : decode cX8_isNumber 81 = .ok (.if_icmp .ge 35, 3) := by decide +kernel
theorem dX8_isNumber_84 : decode cX8_isNumber 84 = .ok (.aload_n 0, 1) := by decide +kernel
theorem dX8_isNumber_85 : decode cX8_isNumber 85 = .ok (.getfield 9, 3) := by decide +kernel
theorem dX8_isNumber_88 : decode cX8_isNumber 88 = .ok (.iload 4, 2) := by decide +kernel
theorem dX8_isNumber_90 : decode cX8_isNumber 90 = .ok (.baload, 1) := by decide +kernel
theorem dX8_isNumber_91 : decode cX8_isNumber 91 = .ok (.bipush 48, 2) := by decide +kernel
theorem dX8_isNumber_93 : decode cX8_isNumber 93 = .ok (.if_icmp .lt 15, 3) := by decide +kernel
theorem dX8_isNumber_96 : decode cX8_isNumber 96 = .ok (.aload_n 0, 1) := by decide +kernel
theorem dX8_isNumber_97 : decode cX8_isNumber 97 = .ok (.getfield 9, 3) := by decide +kernel
theorem dX8_isNumber_100 : decode cX8_isNumber 100 = .ok (.iload 4, 2) := by decide +kernel
theorem dX8_isNumber_102 : decode cX8_isNumber 102 = .ok (.baload, 1) := by decide +kernel
theorem dX8_isNumber_103 : decode cX8_isNumber 103 = .ok (.bipush 57, 2) := by decide +kernel
theorem dX8_isNumber_105 : decode cX8_isNumber 105 = .ok (.if_icmp .le 5, 3) := by decide +kernel
theorem dX8_isNumber_108 : decode cX8_isNumber 108 = .ok (.iconst 0, 1) := by decide +kernel
theorem dX8_isNumber_109 : decode cX8_isNumber 109 = .ok (.ireturn, 1) := by decide +kernel
theorem dX8_isNumber_110 : decode cX8_isNumber 110 = .ok (.iinc 4 1, 3) := by decide +kernel
theorem dX8_isNumber_113 : decode cX8_isNumber 113 = .ok (.goto (-40), 3) := by decide +kernel
theorem dX8_isNumber_116 : decode cX8_isNumber 116 = .ok (.aload_n 0, 1) := by decide +kernel
theorem dX8_isNumber_117 : decode cX8_isNumber 117 = .ok (.iload_n 1, 1) := by decide +kernel
theorem dX8_isNumber_118 : decode cX8_isNumber 118 = .ok (.invokevirtual 66, 3) := by decide +kernel
theorem dX8_isNumber_121 : decode cX8_isNumber 121 = .ok (.lstore 4, 2) := by decide +kernel
theorem dX8_isNumber_123 : decode cX8_isNumber 123 = .ok (.lload 4, 2) := by decide +kernel
theorem dX8_isNumber_125 : decode cX8_isNumber 125 = .ok (.lload 4, 2) := by decide +kernel
theorem dX8_isNumber_127 : decode cX8_isNumber 127 = .ok (.l2i, 1) := by decide +kernel
theorem dX8_isNumber_128 : decode cX8_isNumber 128 = .ok (.i2l, 1) := by decide +kernel
theorem dX8_isNumber_129 : decode cX8_isNumber 129 = .ok (.lcmp, 1) := by decide +kernel
theorem dX8_isNumber_130 : decode cX8_isNumber 130 = .ok (.ifCond .ne 7, 3) := by decide +kernel
theorem dX8_isNumber_133 : decode cX8_isNumber 133 = .ok (.iconst 1, 1) := by decide +kernel
theorem dX8_isNumber_134 : decode cX8_isNumber 134 = .ok (.goto 4, 3) := by decide +kernel
theorem dX8_isNumber_137 : decode cX8_isNumber 137 = .ok (.iconst 0, 1) := by decide +kernel
theorem dX8_isNumber_138 : decode cX8_isNumber 138 = .ok (.ireturn, 1) := by decide +kernel
theorem dX8_number_0 : decode cX8_number 0 = .ok (.aload_n 0, 1) := by decide +kernel
theorem dX8_number_1 : decode cX8_number 1 = .ok (.iload_n 1, 1) := by decide +kernel
theorem dX8_number_2 : decode cX8_number 2 = .ok (.invokevirtual 70, 3) := by decide +kernel
theorem dX8_number_5 : decode cX8_number 5 = .ok (.ifCond .eq 12, 3) := by decide +kernel
theorem dX8_number_8 : decode cX8_number 8 = .ok (.aload_n 0, 1) := by decide +kernel
theorem dX8_number_9 : decode cX8_number 9 = .ok (.iload_n 1, 1) := by decide +kernel
theorem dX8_number_10 : decode cX8_number 10 = .ok (.invokevirtual 66, 3) := by decide +kernel
theorem dX8_number_13 : decode cX8_number 13 = .ok (.l2i, 1) := by decide +kernel
theorem dX8_number_14 : decode cX8_number 14 = .ok (.goto 4, 3) := by decide +kernel
theorem dX8_number_17 : decode cX8_number 17 = .ok (.iconst 0, 1) := by decide +kernel
theorem dX8_number_18 : decode cX8_number 18 = .ok (.ireturn, 1) := by decide +kernel
theorem dX8_longOf_0 : decode cX8_longOf 0 = .ok (.aload_n 0, 1) := by decide +kernel
theorem dX8_longOf_1 : decode cX8_longOf 1 = .ok (.getfield 9, 3) := by decide +kernel
theorem dX8_longOf_4 : decode cX8_longOf 4 = .ok (.aload_n 0, 1) := by decide +kernel
theorem dX8_longOf_5 : decode cX8_longOf 5 = .ok (.getfield 15, 3) := by decide +kernel
theorem dX8_longOf_8 : decode cX8_longOf 8 = .ok (.iload_n 1, 1) := by decide +kernel
theorem dX8_longOf_9 : decode cX8_longOf 9 = .ok (.iaload, 1) := by decide +kernel
theorem dX8_longOf_10 : decode cX8_longOf 10 = .ok (.baload, 1) := by decide +kernel
theorem dX8_longOf_11 : decode cX8_longOf 11 = .ok (.bipush 45, 2) := by decide +kernel
theorem dX8_longOf_13 : decode cX8_longOf 13 = .ok (.if_icmp .ne 7, 3) := by decide +kernel
theorem dX8_longOf_16 : decode cX8_longOf 16 = .ok (.iconst 1, 1) := by decide +kernel
theorem dX8_longOf_17 : decode cX8_longOf 17 = .ok (.goto 4, 3) := by decide +kernel
theorem dX8_longOf_20 : decode cX8_longOf 20 = .ok (.iconst 0, 1) := by decide +kernel
theorem dX8_longOf_21 : decode cX8_longOf 21 = .ok (.istore_n 2, 1) := by decide +kernel
theorem dX8_longOf_22 : decode cX8_longOf 22 = .ok (.lconst 0, 1) := by decide +kernel
theorem dX8_longOf_23 : decode cX8_longOf 23 = .ok (.lstore_n 3, 1) := by decide +kernel
theorem dX8_longOf_24 : decode cX8_longOf 24 = .ok (.iload_n 2, 1) := by decide +kernel
theorem dX8_longOf_25 : decode cX8_longOf 25 = .ok (.ifCond .eq 14, 3) := by decide +kernel
theorem dX8_longOf_28 : decode cX8_longOf 28 = .ok (.aload_n 0, 1) := by decide +kernel
theorem dX8_longOf_29 : decode cX8_longOf 29 = .ok (.getfield 15, 3) := by decide +kernel
theorem dX8_longOf_32 : decode cX8_longOf 32 = .ok (.iload_n 1, 1) := by decide +kernel
theorem dX8_longOf_33 : decode cX8_longOf 33 = .ok (.iaload, 1) := by decide +kernel
theorem dX8_longOf_34 : decode cX8_longOf 34 = .ok (.iconst 1, 1) := by decide +kernel
theorem dX8_longOf_35 : decode cX8_longOf 35 = .ok (.iadd, 1) := by decide +kernel
theorem dX8_longOf_36 : decode cX8_longOf 36 = .ok (.goto 9, 3) := by decide +kernel
theorem dX8_longOf_39 : decode cX8_longOf 39 = .ok (.aload_n 0, 1) := by decide +kernel
theorem dX8_longOf_40 : decode cX8_longOf 40 = .ok (.getfield 15, 3) := by decide +kernel
theorem dX8_longOf_43 : decode cX8_longOf 43 = .ok (.iload_n 1, 1) := by decide +kernel
theorem dX8_longOf_44 : decode cX8_longOf 44 = .ok (.iaload, 1) := by decide +kernel
theorem dX8_longOf_45 : decode cX8_longOf 45 = .ok (.istore 5, 2) := by decide +kernel
theorem dX8_longOf_47 : decode cX8_longOf 47 = .ok (.iload 5, 2) := by decide +kernel
theorem dX8_longOf_49 : decode cX8_longOf 49 = .ok (.aload_n 0, 1) := by decide +kernel
theorem dX8_longOf_50 : decode cX8_longOf 50 = .ok (.getfield 19, 3) := by decide +kernel
theorem dX8_longOf_53 : decode cX8_longOf 53 = .ok (.iload_n 1, 1) := by decide +kernel
theorem dX8_longOf_54 : decode cX8_longOf 54 = .ok (.iaload, 1) := by decide +kernel
theorem dX8_longOf_55 : decode cX8_longOf 55 = .ok (.if_icmp .ge 27, 3) := by decide +kernel
theorem dX8_longOf_58 : decode cX8_longOf 58 = .ok (.lload_n 3, 1) := by decide +kernel
theorem dX8_longOf_59 : decode cX8_longOf 59 = .ok (.ldc2_w 74, 3) := by decide +kernel
theorem dX8_longOf_62 : decode cX8_longOf 62 = .ok (.lmul, 1) := by decide +kernel
theorem dX8_longOf_63 : decode cX8_longOf 63 = .ok (.aload_n 0, 1) := by decide +kernel
theorem dX8_longOf_64 : decode cX8_longOf 64 = .ok (.getfield 9, 3) := by decide +kernel
theorem dX8_longOf_67 : decode cX8_longOf 67 = .ok (.iload 5, 2) := by decide +kernel
theorem dX8_longOf_69 : decode cX8_longOf 69 = .ok (.baload, 1) := by decide +kernel
theorem dX8_longOf_70 : decode cX8_longOf 70 = .ok (.bipush 48, 2) := by decide +kernel
theorem dX8_longOf_72 : decode cX8_longOf 72 = .ok (.isub, 1) := by decide +kernel
theorem dX8_longOf_73 : decode cX8_longOf 73 = .ok (.i2l, 1) := by decide +kernel
theorem dX8_longOf_74 : decode cX8_longOf 74 = .ok (.ladd, 1) := by decide +kernel
theorem dX8_longOf_75 : decode cX8_longOf 75 = .ok (.lstore_n 3, 1) := by decide +kernel
theorem dX8_longOf_76 : decode cX8_longOf 76 = .ok (.iinc 5 1, 3) := by decide +kernel
theorem dX8_longOf_79 : decode cX8_longOf 79 = .ok (.goto (-32), 3) := by decide +kernel
theorem dX8_longOf_82 : decode cX8_longOf 82 = .ok (.iload_n 2, 1) := by decide +kernel
theorem dX8_longOf_83 : decode cX8_longOf 83 = .ok (.ifCond .eq 8, 3) := by decide +kernel
theorem dX8_longOf_86 : decode cX8_longOf 86 = .ok (.lload_n 3, 1) := by decide +kernel
theorem dX8_longOf_87 : decode cX8_longOf 87 = .ok (.lneg, 1) := by decide +kernel
theorem dX8_longOf_88 : decode cX8_longOf 88 = .ok (.goto 4, 3) := by decide +kernel
theorem dX8_longOf_91 : decode cX8_longOf 91 = .ok (.lload_n 3, 1) := by decide +kernel
theorem dX8_longOf_92 : decode cX8_longOf 92 = .ok (.lreturn, 1) := by decide +kernel
