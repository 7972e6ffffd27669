theorem dX12_isType_94 : decode cX12_isType 94 = .ok (.ifCond .ne 21, 3) := by decide +kernel
theorem dX12_isType_97 : decode cX12_isType 97 = .ok (.aload_n 0, 1) := by decide +kernel
theorem dX12_isType_98 : decode cX12_isType 98 = .ok (.aload_n 0, 1) := by decide +kernel
theorem dX12_isType_99 : decode cX12_isType 99 = .ok (.getfield 26, 3) := by decide +kernel
theorem dX12_isType_102 : decode cX12_isType 102 = .ok (.iload_n 1, 1) := by decide +kernel
theorem dX12_isType_103 : decode cX12_isType 103 = .ok (.iaload, 1) := by decide +kernel
theorem dX12_isType_104 : decode cX12_isType 104 = .ok (.iload_n 2, 1) := by decide +kernel
theorem dX12_isType_105 : decode cX12_isType 105 = .ok (.bipush 65, 2) := by decide +kernel
theorem dX12_isType_107 : decode cX12_isType 107 = .ok (.bipush 90, 2) := by decide +kernel
theorem dX12_isType_109 : decode cX12_isType 109 = .ok (.invokevirtual 135, 3) := by decide +kernel
theorem dX12_isType_112 : decode cX12_isType 112 = .ok (.ifCond .eq 7, 3) := by decide +kernel
theorem dX12_isType_115 : decode cX12_isType 115 = .ok (.iconst 1, 1) := by decide +kernel
theorem dX12_isType_116 : decode cX12_isType 116 = .ok (.goto 4, 3) := by decide +kernel
theorem dX12_isType_119 : decode cX12_isType 119 = .ok (.iconst 0, 1) := by decide +kernel
theorem dX12_isType_120 : decode cX12_isType 120 = .ok (.ireturn, 1) := by decide +kernel
theorem dX12_point_0 : decode cX12_point 0 = .ok (.aload_n 0, 1) := by decide +kernel
theorem dX12_point_1 : decode cX12_point 1 = .ok (.getfield 26, 3) := by decide +kernel
theorem dX12_point_4 : decode cX12_point 4 = .ok (.iload_n 1, 1) := by decide +kernel
theorem dX12_point_5 : decode cX12_point 5 = .ok (.iaload, 1) := by decide +kernel
theorem dX12_point_6 : decode cX12_point 6 = .ok (.istore_n 2, 1) := by decide +kernel
theorem dX12_point_7 : decode cX12_point 7 = .ok (.iload_n 2, 1) := by decide +kernel
theorem dX12_point_8 : decode cX12_point 8 = .ok (.aload_n 0, 1) := by decide +kernel
theorem dX12_point_9 : decode cX12_point 9 = .ok (.getfield 30, 3) := by decide +kernel
theorem dX12_point_12 : decode cX12_point 12 = .ok (.iload_n 1, 1) := by decide +kernel
theorem dX12_point_13 : decode cX12_point 13 = .ok (.iaload, 1) := by decide +kernel
theorem dX12_point_14 : decode cX12_point 14 = .ok (.if_icmp .ge 20, 3) := by decide +kernel
theorem dX12_point_17 : decode cX12_point 17 = .ok (.aload_n 0, 1) := by decide +kernel
theorem dX12_point_18 : decode cX12_point 18 = .ok (.getfield 23, 3) := by decide +kernel
theorem dX12_point_21 : decode cX12_point 21 = .ok (.iload_n 2, 1) := by decide +kernel
theorem dX12_point_22 : decode cX12_point 22 = .ok (.baload, 1) := by decide +kernel
theorem dX12_point_23 : decode cX12_point 23 = .ok (.bipush 46, 2) := by decide +kernel
theorem dX12_point_25 : decode cX12_point 25 = .ok (.if_icmp .eq 9, 3) := by decide +kernel
theorem dX12_point_28 : decode cX12_point 28 = .ok (.iinc 2 1, 3) := by decide +kernel
theorem dX12_point_31 : decode cX12_point 31 = .ok (.goto (-24), 3) := by decide +kernel
theorem dX12_point_34 : decode cX12_point 34 = .ok (.iload_n 2, 1) := by decide +kernel
theorem dX12_point_35 : decode cX12_point 35 = .ok (.ireturn, 1) := by decide +kernel
theorem dX12_isReference_0 : decode cX12_isReference 0 = .ok (.iload_n 1, 1) := by decide +kernel
theorem dX12_isReference_1 : decode cX12_isReference 1 = .ok (.aload_n 0, 1) := by decide +kernel
theorem dX12_isReference_2 : decode cX12_isReference 2 = .ok (.getfield 118, 3) := by decide +kernel
theorem dX12_isReference_5 : decode cX12_isReference 5 = .ok (.if_icmp .lt 5, 3) := by decide +kernel
theorem dX12_isReference_8 : decode cX12_isReference 8 = .ok (.iconst 0, 1) := by decide +kernel
theorem dX12_isReference_9 : decode cX12_isReference 9 = .ok (.ireturn, 1) := by decide +kernel
theorem dX12_isReference_10 : decode cX12_isReference 10 = .ok (.aload_n 0, 1) := by decide +kernel
theorem dX12_isReference_11 : decode cX12_isReference 11 = .ok (.iload_n 1, 1) := by decide +kernel
theorem dX12_isReference_12 : decode cX12_isReference 12 = .ok (.invokevirtual 142, 3) := by decide +kernel
theorem dX12_isReference_15 : decode cX12_isReference 15 = .ok (.istore_n 2, 1) := by decide +kernel
theorem dX12_isReference_16 : decode cX12_isReference 16 = .ok (.aload_n 0, 1) := by decide +kernel
theorem dX12_isReference_17 : decode cX12_isReference 17 = .ok (.aload_n 0, 1) := by decide +kernel
theorem dX12_isReference_18 : decode cX12_isReference 18 = .ok (.getfield 26, 3) := by decide +kernel
theorem dX12_isReference_21 : decode cX12_isReference 21 = .ok (.iload_n 1, 1) := by decide +kernel
theorem dX12_isReference_22 : decode cX12_isReference 22 = .ok (.iaload, 1) := by decide +kernel
theorem dX12_isReference_23 : decode cX12_isReference 23 = .ok (.iload_n 2, 1) := by decide +kernel
theorem dX12_isReference_24 : decode cX12_isReference 24 = .ok (.bipush 65, 2) := by decide +kernel
theorem dX12_isReference_26 : decode cX12_isReference 26 = .ok (.bipush 90, 2) := by decide +kernel
theorem dX12_isReference_28 : decode cX12_isReference 28 = .ok (.invokevirtual 135, 3) := by decide +kernel
theorem dX12_isReference_31 : decode cX12_isReference 31 = .ok (.ifCond .eq 27, 3) := by decide +kernel
theorem dX12_isReference_34 : decode cX12_isReference 34 = .ok (.aload_n 0, 1) := by decide +kernel
theorem dX12_isReference_35 : decode cX12_isReference 35 = .ok (.iload_n 2, 1) := by decide +kernel
theorem dX12_isReference_36 : decode cX12_isReference 36 = .ok (.iconst 1, 1) := by decide +kernel
theorem dX12_isReference_37 : decode cX12_isReference 37 = .ok (.iadd, 1) := by decide +kernel
theorem dX12_isReference_38 : decode cX12_isReference 38 = .ok (.aload_n 0, 1) := by decide +kernel
theorem dX12_isReference_39 : decode cX12_isReference 39 = .ok (.getfield 30, 3) := by decide +kernel
theorem dX12_isReference_42 : decode cX12_isReference 42 = .ok (.iload_n 1, 1) := by decide +kernel
theorem dX12_isReference_43 : decode cX12_isReference 43 = .ok (.iaload, 1) := by decide +kernel
theorem dX12_isReference_44 : decode cX12_isReference 44 = .ok (.bipush 97, 2) := by decide +kernel
theorem dX12_isReference_46 : decode cX12_isReference 46 = .ok (.bipush 122, 2) := by decide +kernel
theorem dX12_isReference_48 : decode cX12_isReference 48 = .ok (.invokevirtual 135, 3) := by decide +kernel
theorem dX12_isReference_51 : decode cX12_isReference 51 = .ok (.ifCond .eq 7, 3) := by decide +kernel
theorem dX12_isReference_54 : decode cX12_isReference 54 = .ok (.iconst 1, 1) := by decide +kernel
theorem dX12_isReference_55 : decode cX12_isReference 55 = .ok (.goto 4, 3) := by decide +kernel
theorem dX12_isReference_58 : decode cX12_isReference 58 = .ok (.iconst 0, 1) := by decide +kernel
theorem dX12_isReference_59 : decode cX12_isReference 59 = .ok (.ireturn, 1) := by decide +kernel
theorem dX12_isNumber_0 : decode cX12_isNumber 0 = .ok (.iload_n 1, 1) := by decide +kernel
theorem dX12_isNumber_1 : decode cX12_isNumber 1 = .ok (.aload_n 0, 1) := by decide +kernel
theorem dX12_isNumber_2 : decode cX12_isNumber 2 = .ok (.getfield 118, 3) := by decide +kernel
theorem dX12_isNumber_5 : decode cX12_isNumber 5 = .ok (.if_icmp .lt 5, 3) := by decide +kernel
theorem dX12_isNumber_8 : decode cX12_isNumber 8 = .ok (.iconst 0, 1) := by decide +kernel
theorem dX12_isNumber_9 : decode cX12_isNumber 9 = .ok (.ireturn, 1) := by decide +kernel
theorem dX12_isNumber_10 : decode cX12_isNumber 10 = .ok (.aload_n 0, 1) := by decide +kernel
theorem dX12_isNumber_11 : decode cX12_isNumber 11 = .ok (.getfield 23, 3) := by decide +kernel
theorem dX12_isNumber_14 : decode cX12_isNumber 14 = .ok (.aload_n 0, 1) := by decide +kernel
theorem dX12_isNumber_15 : decode cX12_isNumber 15 = .ok (.getfield 26, 3) := by decide +kernel
theorem dX12_isNumber_18 : decode cX12_isNumber 18 = .ok (.iload_n 1, 1) := by decide +kernel
theorem dX12_isNumber_19 : decode cX12_isNumber 19 = .ok (.iaload, 1) := by decide +kernel
theorem dX12_isNumber_20 : decode cX12_isNumber 20 = .ok (.baload, 1) := by decide +kernel
theorem dX12_isNumber_21 : decode cX12_isNumber 21 = .ok (.bipush 45, 2) := by decide +kernel
theorem dX12_isNumber_23 : decode cX12_isNumber 23 = .ok (.if_icmp .ne 14, 3) := by decide +kernel
theorem dX12_isNumber_26 : decode cX12_isNumber 26 = .ok (.aload_n 0, 1) := by decide +kernel
theorem dX12_isNumber_27 : decode cX12_isNumber 27 = .ok (.getfield 26, 3) := by decide +kernel
theorem dX12_isNumber_30 : decode cX12_isNumber 30 = .ok (.iload_n 1, 1) := by decide +kernel
theorem dX12_isNumber_31 : decode cX12_isNumber 31 = .ok (.iaload, 1) := by decide +kernel
theorem dX12_isNumber_32 : decode cX12_isNumber 32 = .ok (.iconst 1, 1) := by decide +kernel
theorem dX12_isNumber_33 : decode cX12_isNumber 33 = .ok (.iadd, 1) := by decide +kernel
theorem dX12_isNumber_34 : decode cX12_isNumber 34 = .ok (.goto 9, 3) := by decide +kernel
theorem dX12_isNumber_37 : decode cX12_isNumber 37 = .ok (.aload_n 0, 1) := by decide +kernel
theorem dX12_isNumber_38 : decode cX12_isNumber 38 = .ok (.getfield 26, 3) := by decide +kernel
theorem dX12_isNumber_41 : decode cX12_isNumber 41 = .ok (.iload_n 1, 1) := by decide +kernel
theorem dX12_isNumber_42 : decode cX12_isNumber 42 = .ok (.iaload, 1) := by decide +kernel
theorem dX12_isNumber_43 : decode cX12_isNumber 43 = .ok (.istore_n 2, 1) := by decide +kernel
theorem dX12_isNumber_44 : decode cX12_isNumber 44 = .ok (.aload_n 0, 1) := by decide +kernel
theorem dX12_isNumber_45 : decode cX12_isNumber 45 = .ok (.getfield 30, 3) := by decide +kernel
theorem dX12_isNumber_48 : decode cX12_isNumber 48 = .ok (.iload_n 1, 1) := by decide +kernel
theorem dX12_isNumber_49 : decode cX12_isNumber 49 = .ok (.iaload, 1) := by decide +kernel
theorem dX12_isNumber_50 : decode cX12_isNumber 50 = .ok (.iload_n 2, 1) := by decide +kernel
theorem dX12_isNumber_51 : decode cX12_isNumber 51 = .ok (.isub, 1) := by decide +kernel
theorem dX12_isNumber_52 : decode cX12_isNumber 52 = .ok (.iconst 1, 1) := by decide +kernel
theorem dX12_isNumber_53 : decode cX12_isNumber 53 = .ok (.if_icmp .lt 16, 3) := by decide +kernel
theorem dX12_isNumber_56 : decode cX12_isNumber 56 = .ok (.aload_n 0, 1) := by decide +kernel
theorem dX12_isNumber_57 : decode cX12_isNumber 57 = .ok (.getfield 30, 3) := by decide +kernel
theorem dX12_isNumber_60 : decode cX12_isNumber 60 = .ok (.iload_n 1, 1) := by decide +kernel
theorem dX12_isNumber_61 : decode cX12_isNumber 61 = .ok (.iaload, 1) := by decide +kernel
theorem dX12_isNumber_62 : decode cX12_isNumber 62 = .ok (.iload_n 2, 1) := by decide +kernel
theorem dX12_isNumber_63 : decode cX12_isNumber 63 = .ok (.isub, 1) := by decide +kernel
theorem dX12_isNumber_64 : decode cX12_isNumber 64 = .ok (.bipush 10, 2) := by decide +kernel
theorem dX12_isNumber_66 : decode cX12_isNumber 66 = .ok (.if_icmp .le 5, 3) := by decide +kernel
theorem dX12_isNumber_69 : decode cX12_isNumber 69 = .ok (.iconst 0, 1) := by decide +kernel
theorem dX12_isNumber_70 : decode cX12_isNumber 70 = .ok (.ireturn, 1) := by decide +kernel
theorem dX12_isNumber_71 : decode cX12_isNumber 71 = .ok (.iload_n 2, 1) := by decide +kernel
theorem dX12_isNumber_72 : decode cX12_isNumber 72 = .ok (.istore_n 3, 1) := by decide +kernel
theorem dX12_isNumber_73 : decode cX12_isNumber 73 = .ok (.iload_n 3, 1) := by decide +kernel
theorem dX12_isNumber_74 : decode cX12_isNumber 74 = .ok (.aload_n 0, 1) := by decide +kernel
theorem dX12_isNumber_75 : decode cX12_isNumber 75 = .ok (.getfield 30, 3) := by decide +kernel
theorem dX12_isNumber_78 : decode cX12_isNumber 78 = .ok (.iload_n 1, 1) := by decide +kernel
theorem dX12_isNumber_79 : decode cX12_isNumber 79 = .ok (.iaload, 1) := by decide +kernel
theorem dX12_isNumber_80 : decode cX12_isNumber 80 = .ok (.if_icmp .ge 33, 3) := by decide +kernel
theorem dX12_isNumber_83 : decode cX12_isNumber 83 = .ok (.aload_n 0, 1) := by decide +kernel
theorem dX12_isNumber_84 : decode cX12_isNumber 84 = .ok (.getfield 23, 3) := by decide +kernel
theorem dX12_isNumber_87 : decode cX12_isNumber 87 = .ok (.iload_n 3, 1) := by decide +kernel
theorem dX12_isNumber_88 : decode cX12_isNumber 88 = .ok (.baload, 1) := by decide +kernel
theorem dX12_isNumber_89 : decode cX12_isNumber 89 = .ok (.bipush 48, 2) := by decide +kernel
theorem dX12_isNumber_91 : decode cX12_isNumber 91 = .ok (.if_icmp .lt 14, 3) := by decide +kernel
theorem dX12_isNumber_94 : decode cX12_isNumber 94 = .ok (.aload_n 0, 1) := by decide +kernel
theorem dX12_isNumber_95 : decode cX12_isNumber 95 = .ok (.getfield 23, 3) := by decide +kernel
theorem dX12_isNumber_98 : decode cX12_isNumber 98 = .ok (.iload_n 3, 1) := by decide +kernel
theorem dX12_isNumber_99 : decode cX12_isNumber 99 = .ok (.baload, 1) := by decide +kernel
theorem dX12_isNumber_100 : decode cX12_isNumber 100 = .ok (.bipush 57, 2) := by decide +kernel
theorem dX12_isNumber_102 : decode cX12_isNumber 102 = .ok (.if_icmp .le 5, 3) := by decide +kernel
theorem dX12_isNumber_105 : decode cX12_isNumber 105 = .ok (.iconst 0, 1) := by decide +kernel
theorem dX12_isNumber_106 : decode cX12_isNumber 106 = .ok (.ireturn, 1) := by decide +kernel
theorem dX12_isNumber_107 : decode cX12_isNumber 107 = .ok (.iinc 3 1, 3) := by decide +kernel
theorem dX12_isNumber_110 : decode cX12_isNumber 110 = .ok (.goto (-37), 3) := by decide +kernel
theorem dX12_isNumber_113 : decode cX12_isNumber 113 = .ok (.aload_n 0, 1) := by decide +kernel
theorem dX12_isNumber_114 : decode cX12_isNumber 114 = .ok (.iload_n 1, 1) := by decide +kernel
theorem dX12_isNumber_115 : decode cX12_isNumber 115 = .ok (.invokevirtual 146, 3) := by decide +kernel
theorem dX12_isNumber_118 : decode cX12_isNumber 118 = .ok (.lstore_n 3, 1) := by decide +kernel
theorem dX12_isNumber_119 : decode cX12_isNumber 119 = .ok (.lload_n 3, 1) := by decide +kernel
theorem dX12_isNumber_120 : decode cX12_isNumber 120 = .ok (.ldc2_w 150, 3) := by decide +kernel
theorem dX12_isNumber_123 : decode cX12_isNumber 123 = .ok (.lcmp, 1) := by decide +kernel
theorem dX12_isNumber_124 : decode cX12_isNumber 124 = .ok (.ifCond .lt 15, 3) := by decide +kernel
theorem dX12_isNumber_127 : decode cX12_isNumber 127 = .ok (.lload_n 3, 1) := by decide +kernel
theorem dX12_isNumber_128 : decode cX12_isNumber 128 = .ok (.ldc2_w 152, 3) := by decide +kernel
theorem dX12_isNumber_131 : decode cX12_isNumber 131 = .ok (.lcmp, 1) := by decide +kernel
theorem dX12_isNumber_132 : decode cX12_isNumber 132 = .ok (.ifCond .gt 7, 3) := by decide +kernel
theorem dX12_isNumber_135 : decode cX12_isNumber 135 = .ok (.iconst 1, 1) := by decide +kernel
theorem dX12_isNumber_136 : decode cX12_isNumber 136 = .ok (.goto 4, 3) := by decide +kernel
theorem dX12_isNumber_139 : decode cX12_isNumber 139 = .ok (.iconst 0, 1) := by decide +kernel
theorem dX12_isNumber_140 : decode cX12_isNumber 140 = .ok (.ireturn, 1) := by decide +kernel
theorem dX12_number_0 : decode cX12_number 0 = .ok (.aload_n 0, 1) := by decide +kernel
theorem dX12_number_1 : decode cX12_number 1 = .ok (.getfield 23, 3) := by decide +kernel
theorem dX12_number_4 : decode cX12_number 4 = .ok (.aload_n 0, 1) := by decide +kernel
theorem dX12_number_5 : decode cX12_number 5 = .ok (.getfield 26, 3) := by decide +kernel
theorem dX12_number_8 : decode cX12_number 8 = .ok (.iload_n 1, 1) := by decide +kernel
theorem dX12_number_9 : decode cX12_number 9 = .ok (.iaload, 1) := by decide +kernel
theorem dX12_number_10 : decode cX12_number 10 = .ok (.baload, 1) := by decide +kernel
theorem dX12_number_11 : decode cX12_number 11 = .ok (.bipush 45, 2) := by decide +kernel
theorem dX12_number_13 : decode cX12_number 13 = .ok (.if_icmp .ne 7, 3) := by decide +kernel
theorem dX12_number_16 : decode cX12_number 16 = .ok (.iconst 1, 1) := by decide +kernel
theorem dX12_number_17 : decode cX12_number 17 = .ok (.goto 4, 3) := by decide +kernel
theorem dX12_number_20 : decode cX12_number 20 = .ok (.iconst 0, 1) := by decide +kernel
theorem dX12_number_21 : decode cX12_number 21 = .ok (.istore_n 2, 1) := by decide +kernel
theorem dX12_number_22 : decode cX12_number 22 = .ok (.lconst 0, 1) := by decide +kernel
theorem dX12_number_23 : decode cX12_number 23 = .ok (.lstore_n 3, 1) := by decide +kernel
theorem dX12_number_24 : decode cX12_number 24 = .ok (.iload_n 2, 1) := by decide +kernel
theorem dX12_number_25 : decode cX12_number 25 = .ok (.ifCond .eq 14, 3) := by decide +kernel
theorem dX12_number_28 : decode cX12_number 28 = .ok (.aload_n 0, 1) := by decide +kernel
theorem dX12_number_29 : decode cX12_number 29 = .ok (.getfield 26, 3) := by decide +kernel
theorem dX12_number_32 : decode cX12_number 32 = .ok (.iload_n 1, 1) := by decide +kernel
theorem dX12_number_33 : decode cX12_number 33 = .ok (.iaload, 1) := by decide +kernel
theorem dX12_number_34 : decode cX12_number 34 = .ok (.iconst 1, 1) := by decide +kernel
theorem dX12_number_35 : decode cX12_number 35 = .ok (.iadd, 1) := by decide +kernel
theorem dX12_number_36 : decode cX12_number 36 = .ok (.goto 9, 3) := by decide +kernel
theorem dX12_number_39 : decode cX12_number 39 = .ok (.aload_n 0, 1) := by decide +kernel
theorem dX12_number_40 : decode cX12_number 40 = .ok (.getfield 26, 3) := by decide +kernel
theorem dX12_number_43 : decode cX12_number 43 = .ok (.iload_n 1, 1) := by decide +kernel
theorem dX12_number_44 : decode cX12_number 44 = .ok (.iaload, 1) := by decide +kernel
theorem dX12_number_45 : decode cX12_number 45 = .ok (.istore 5, 2) := by decide +kernel
theorem dX12_number_47 : decode cX12_number 47 = .ok (.iload 5, 2) := by decide +kernel
theorem dX12_number_49 : decode cX12_number 49 = .ok (.aload_n 0, 1) := by decide +kernel
theorem dX12_number_50 : decode cX12_number 50 = .ok (.getfield 30, 3) := by decide +kernel
theorem dX12_number_53 : decode cX12_number 53 = .ok (.iload_n 1, 1) := by decide +kernel
theorem dX12_number_54 : decode cX12_number 54 = .ok (.iaload, 1) := by decide +kernel
theorem dX12_number_55 : decode cX12_number 55 = .ok (.if_icmp .ge 28, 3) := by decide +kernel
theorem dX12_number_58 : decode cX12_number 58 = .ok (.ldc2_w 154, 3) := by decide +kernel
theorem dX12_number_61 : decode cX12_number 61 = .ok (.lload_n 3, 1) := by decide +kernel
theorem dX12_number_62 : decode cX12_number 62 = .ok (.lmul, 1) := by decide +kernel
theorem dX12_number_63 : decode cX12_number 63 = .ok (.aload_n 0, 1) := by decide +kernel
theorem dX12_number_64 : decode cX12_number 64 = .ok (.getfield 23, 3) := by decide +kernel
theorem dX12_number_67 : decode cX12_number 67 = .ok (.iload 5, 2) := by decide +kernel
theorem dX12_number_69 : decode cX12_number 69 = .ok (.baload, 1) := by decide +kernel
theorem dX12_number_70 : decode cX12_number 70 = .ok (.i2l, 1) := by decide +kernel
theorem dX12_number_71 : decode cX12_number 71 = .ok (.ladd, 1) := by decide +kernel
theorem dX12_number_72 : decode cX12_number 72 = .ok (.ldc2_w 156, 3) := by decide +kernel
theorem dX12_number_75 : decode cX12_number 75 = .ok (.lsub, 1) := by decide +kernel
theorem dX12_number_76 : decode cX12_number 76 = .ok (.lstore_n 3, 1) := by decide +kernel
theorem dX12_number_77 : decode cX12_number 77 = .ok (.iinc 5 1, 3) := by decide +kernel
theorem dX12_number_80 : decode cX12_number 80 = .ok (.goto (-33), 3) := by decide +kernel
theorem dX12_number_83 : decode cX12_number 83 = .ok (.iload_n 2, 1) := by decide +kernel
theorem dX12_number_84 : decode cX12_number 84 = .ok (.ifCond .eq 8, 3) := by decide +kernel
theorem dX12_number_87 : decode cX12_number 87 = .ok (.lload_n 3, 1) := by decide +kernel
theorem dX12_number_88 : decode cX12_number 88 = .ok (.lneg, 1) := by decide +kernel
theorem dX12_number_89 : decode cX12_number 89 = .ok (.goto 4, 3) := by decide +kernel
theorem dX12_number_92 : decode cX12_number 92 = .ok (.lload_n 3, 1) := by decide +kernel
theorem dX12_number_93 : decode cX12_number 93 = .ok (.lreturn, 1) := by decide +kernel
theorem dX12_takes_0 : decode cX12_takes 0 = .ok (.iload_n 1, 1) := by decide +kernel
theorem dX12_takes_1 : decode cX12_takes 1 = .ok (.ifCond .eq 13, 3) := by decide +kernel
theorem dX12_takes_4 : decode cX12_takes 4 = .ok (.aload_n 0, 1) := by decide +kernel
theorem dX12_takes_5 : decode cX12_takes 5 = .ok (.dup, 1) := by decide +kernel
theorem dX12_takes_6 : decode cX12_takes 6 = .ok (.getfield 158, 3) := by decide +kernel
theorem dX12_takes_9 : decode cX12_takes 9 = .ok (.iconst 1, 1) := by decide +kernel
theorem dX12_takes_10 : decode cX12_takes 10 = .ok (.iadd, 1) := by decide +kernel
theorem dX12_takes_11 : decode cX12_takes 11 = .ok (.putfield 158, 3) := by decide +kernel
theorem dX12_takes_14 : decode cX12_takes 14 = .ok (.iload_n 1, 1) := by decide +kernel
theorem dX12_takes_15 : decode cX12_takes 15 = .ok (.ireturn, 1) := by decide +kernel
theorem dX12_isProgram_0 : decode cX12_isProgram 0 = .ok (.aload_n 0, 1) := by decide +kernel
theorem dX12_isProgram_1 : decode cX12_isProgram 1 = .ok (.iconst 0, 1) := by decide +kernel
theorem dX12_isProgram_2 : decode cX12_isProgram 2 = .ok (.putfield 158, 3) := by decide +kernel
theorem dX12_isProgram_5 : decode cX12_isProgram 5 = .ok (.aload_n 0, 1) := by decide +kernel
theorem dX12_isProgram_6 : decode cX12_isProgram 6 = .ok (.getfield 158, 3) := by decide +kernel
theorem dX12_isProgram_9 : decode cX12_isProgram 9 = .ok (.aload_n 0, 1) := by decide +kernel
theorem dX12_isProgram_10 : decode cX12_isProgram 10 = .ok (.getfield 118, 3) := by decide +kernel
theorem dX12_isProgram_13 : decode cX12_isProgram 13 = .ok (.if_icmp .ge 121, 3) := by decide +kernel
theorem dX12_isProgram_16 : decode cX12_isProgram 16 = .ok (.aload_n 0, 1) := by decide +kernel
theorem dX12_isProgram_17 : decode cX12_isProgram 17 = .ok (.aload_n 0, 1) := by decide +kernel
theorem dX12_isProgram_18 : decode cX12_isProgram 18 = .ok (.aload_n 0, 1) := by decide +kernel
theorem dX12_isProgram_19 : decode cX12_isProgram 19 = .ok (.getfield 158, 3) := by decide +kernel
theorem dX12_isProgram_22 : decode cX12_isProgram 22 = .ok (.ldc 161, 2) := by decide +kernel
theorem dX12_isProgram_24 : decode cX12_isProgram 24 = .ok (.invokevirtual 163, 3) := by decide +kernel
theorem dX12_isProgram_27 : decode cX12_isProgram 27 = .ok (.invokevirtual 167, 3) := by decide +kernel
theorem dX12_isProgram_30 : decode cX12_isProgram 30 = .ok (.ifCond .eq 67, 3) := by decide +kernel
theorem dX12_isProgram_33 : decode cX12_isProgram 33 = .ok (.aload_n 0, 1) := by decide +kernel
theorem dX12_isProgram_34 : decode cX12_isProgram 34 = .ok (.aload_n 0, 1) := by decide +kernel
theorem dX12_isProgram_35 : decode cX12_isProgram 35 = .ok (.aload_n 0, 1) := by decide +kernel
theorem dX12_isProgram_36 : decode cX12_isProgram 36 = .ok (.getfield 158, 3) := by decide +kernel
theorem dX12_isProgram_39 : decode cX12_isProgram 39 = .ok (.invokevirtual 171, 3) := by decide +kernel
theorem dX12_isProgram_42 : decode cX12_isProgram 42 = .ok (.invokevirtual 167, 3) := by decide +kernel
theorem dX12_isProgram_45 : decode cX12_isProgram 45 = .ok (.ifCond .eq 52, 3) := by decide +kernel
theorem dX12_isProgram_48 : decode cX12_isProgram 48 = .ok (.aload_n 0, 1) := by decide +kernel
theorem dX12_isProgram_49 : decode cX12_isProgram 49 = .ok (.aload_n 0, 1) := by decide +kernel
theorem dX12_isProgram_50 : decode cX12_isProgram 50 = .ok (.aload_n 0, 1) := by decide +kernel
theorem dX12_isProgram_51 : decode cX12_isProgram 51 = .ok (.getfield 158, 3) := by decide +kernel
theorem dX12_isProgram_54 : decode cX12_isProgram 54 = .ok (.ldc 174, 2) := by decide +kernel
theorem dX12_isProgram_56 : decode cX12_isProgram 56 = .ok (.invokevirtual 163, 3) := by decide +kernel
theorem dX12_isProgram_59 : decode cX12_isProgram 59 = .ok (.invokevirtual 167, 3) := by decide +kernel
theorem dX12_isProgram_62 : decode cX12_isProgram 62 = .ok (.ifCond .eq 35, 3) := by decide +kernel
theorem dX12_isProgram_65 : decode cX12_isProgram 65 = .ok (.aload_n 0, 1) := by decide +kernel
theorem dX12_isProgram_66 : decode cX12_isProgram 66 = .ok (.aload_n 0, 1) := by decide +kernel
theorem dX12_isProgram_67 : decode cX12_isProgram 67 = .ok (.aload_n 0, 1) := by decide +kernel
theorem dX12_isProgram_68 : decode cX12_isProgram 68 = .ok (.getfield 158, 3) := by decide +kernel
theorem dX12_isProgram_71 : decode cX12_isProgram 71 = .ok (.invokevirtual 171, 3) := by decide +kernel
theorem dX12_isProgram_74 : decode cX12_isProgram 74 = .ok (.invokevirtual 167, 3) := by decide +kernel
theorem dX12_isProgram_77 : decode cX12_isProgram 77 = .ok (.ifCond .eq 20, 3) := by decide +kernel
theorem dX12_isProgram_80 : decode cX12_isProgram 80 = .ok (.aload_n 0, 1) := by decide +kernel
theorem dX12_isProgram_81 : decode cX12_isProgram 81 = .ok (.aload_n 0, 1) := by decide +kernel
theorem dX12_isProgram_82 : decode cX12_isProgram 82 = .ok (.aload_n 0, 1) := by decide +kernel
theorem dX12_isProgram_83 : decode cX12_isProgram 83 = .ok (.getfield 158, 3) := by decide +kernel
theorem dX12_isProgram_86 : decode cX12_isProgram 86 = .ok (.ldc 176, 2) := by decide +kernel
theorem dX12_isProgram_88 : decode cX12_isProgram 88 = .ok (.invokevirtual 163, 3) := by decide +kernel
theorem dX12_isProgram_91 : decode cX12_isProgram 91 = .ok (.invokevirtual 167, 3) := by decide +kernel
theorem dX12_isProgram_94 : decode cX12_isProgram 94 = .ok (.ifCond .ne 5, 3) := by decide +kernel
theorem dX12_isProgram_97 : decode cX12_isProgram 97 = .ok (.iconst 0, 1) := by decide +kernel
theorem dX12_isProgram_98 : decode cX12_isProgram 98 = .ok (.ireturn, 1) := by decide +kernel
theorem dX12_isProgram_99 : decode cX12_isProgram 99 = .ok (.aload_n 0, 1) := by decide +kernel
theorem dX12_isProgram_100 : decode cX12_isProgram 100 = .ok (.aload_n 0, 1) := by decide +kernel
theorem dX12_isProgram_101 : decode cX12_isProgram 101 = .ok (.getfield 158, 3) := by decide +kernel
theorem dX12_isProgram_104 : decode cX12_isProgram 104 = .ok (.ldc 178, 2) := by decide +kernel
theorem dX12_isProgram_106 : decode cX12_isProgram 106 = .ok (.invokevirtual 163, 3) := by decide +kernel
theorem dX12_isProgram_109 : decode cX12_isProgram 109 = .ok (.ifCond .ne 12, 3) := by decide +kernel
theorem dX12_isProgram_112 : decode cX12_isProgram 112 = .ok (.aload_n 0, 1) := by decide +kernel
theorem dX12_isProgram_113 : decode cX12_isProgram 113 = .ok (.invokevirtual 180, 3) := by decide +kernel
theorem dX12_isProgram_116 : decode cX12_isProgram 116 = .ok (.ifCond .ne (-17), 3) := by decide +kernel
theorem dX12_isProgram_119 : decode cX12_isProgram 119 = .ok (.iconst 0, 1) := by decide +kernel
theorem dX12_isProgram_120 : decode cX12_isProgram 120 = .ok (.ireturn, 1) := by decide +kernel
theorem dX12_isProgram_121 : decode cX12_isProgram 121 = .ok (.aload_n 0, 1) := by decide +kernel
theorem dX12_isProgram_122 : decode cX12_isProgram 122 = .ok (.dup, 1) := by decide +kernel
theorem dX12_isProgram_123 : decode cX12_isProgram 123 = .ok (.getfield 158, 3) := by decide +kernel
theorem dX12_isProgram_126 : decode cX12_isProgram 126 = .ok (.iconst 1, 1) := by decide +kernel
theorem dX12_isProgram_127 : decode cX12_isProgram 127 = .ok (.iadd, 1) := by decide +kernel
theorem dX12_isProgram_128 : decode cX12_isProgram 128 = .ok (.putfield 158, 3) := by decide +kernel
theorem dX12_isProgram_131 : decode cX12_isProgram 131 = .ok (.goto (-126), 3) := by decide +kernel
theorem dX12_isProgram_134 : decode cX12_isProgram 134 = .ok (.iconst 1, 1) := by decide +kernel
theorem dX12_isProgram_135 : decode cX12_isProgram 135 = .ok (.ireturn, 1) := by decide +kernel
theorem dX12_isMember_0 : decode cX12_isMember 0 = .ok (.aload_n 0, 1) := by decide +kernel
theorem dX12_isMember_1 : decode cX12_isMember 1 = .ok (.aload_n 0, 1) := by decide +kernel
theorem dX12_isMember_2 : decode cX12_isMember 2 = .ok (.getfield 158, 3) := by decide +kernel
theorem dX12_isMember_5 : decode cX12_isMember 5 = .ok (.ldc 184, 2) := by decide +kernel
theorem dX12_isMember_7 : decode cX12_isMember 7 = .ok (.invokevirtual 163, 3) := by decide +kernel
theorem dX12_isMember_10 : decode cX12_isMember 10 = .ok (.ifCond .eq 49, 3) := by decide +kernel
theorem dX12_isMember_13 : decode cX12_isMember 13 = .ok (.aload_n 0, 1) := by decide +kernel
theorem dX12_isMember_14 : decode cX12_isMember 14 = .ok (.dup, 1) := by decide +kernel
theorem dX12_isMember_15 : decode cX12_isMember 15 = .ok (.getfield 158, 3) := by decide +kernel
theorem dX12_isMember_18 : decode cX12_isMember 18 = .ok (.iconst 1, 1) := by decide +kernel
theorem dX12_isMember_19 : decode cX12_isMember 19 = .ok (.iadd, 1) := by decide +kernel
theorem dX12_isMember_20 : decode cX12_isMember 20 = .ok (.putfield 158, 3) := by decide +kernel
theorem dX12_isMember_23 : decode cX12_isMember 23 = .ok (.aload_n 0, 1) := by decide +kernel
theorem dX12_isMember_24 : decode cX12_isMember 24 = .ok (.aload_n 0, 1) := by decide +kernel
theorem dX12_isMember_25 : decode cX12_isMember 25 = .ok (.aload_n 0, 1) := by decide +kernel
theorem dX12_isMember_26 : decode cX12_isMember 26 = .ok (.getfield 158, 3) := by decide +kernel
theorem dX12_isMember_29 : decode cX12_isMember 29 = .ok (.invokevirtual 186, 3) := by decide +kernel
theorem dX12_isMember_32 : decode cX12_isMember 32 = .ok (.invokevirtual 167, 3) := by decide +kernel
theorem dX12_isMember_35 : decode cX12_isMember 35 = .ok (.ifCond .eq 22, 3) := by decide +kernel
theorem dX12_isMember_38 : decode cX12_isMember 38 = .ok (.aload_n 0, 1) := by decide +kernel
theorem dX12_isMember_39 : decode cX12_isMember 39 = .ok (.aload_n 0, 1) := by decide +kernel
theorem dX12_isMember_40 : decode cX12_isMember 40 = .ok (.aload_n 0, 1) := by decide +kernel
theorem dX12_isMember_41 : decode cX12_isMember 41 = .ok (.getfield 158, 3) := by decide +kernel
theorem dX12_isMember_44 : decode cX12_isMember 44 = .ok (.invokevirtual 189, 3) := by decide +kernel
theorem dX12_isMember_47 : decode cX12_isMember 47 = .ok (.invokevirtual 167, 3) := by decide +kernel
theorem dX12_isMember_50 : decode cX12_isMember 50 = .ok (.ifCond .eq 7, 3) := by decide +kernel
theorem dX12_isMember_53 : decode cX12_isMember 53 = .ok (.iconst 1, 1) := by decide +kernel
theorem dX12_isMember_54 : decode cX12_isMember 54 = .ok (.goto 4, 3) := by decide +kernel
theorem dX12_isMember_57 : decode cX12_isMember 57 = .ok (.iconst 0, 1) := by decide +kernel
theorem dX12_isMember_58 : decode cX12_isMember 58 = .ok (.ireturn, 1) := by decide +kernel
theorem dX12_isMember_59 : decode cX12_isMember 59 = .ok (.aload_n 0, 1) := by decide +kernel
theorem dX12_isMember_60 : decode cX12_isMember 60 = .ok (.aload_n 0, 1) := by decide +kernel
theorem dX12_isMember_61 : decode cX12_isMember 61 = .ok (.aload_n 0, 1) := by decide +kernel
theorem dX12_isMember_62 : decode cX12_isMember 62 = .ok (.getfield 158, 3) := by decide +kernel
theorem dX12_isMember_65 : decode cX12_isMember 65 = .ok (.ldc 192, 2) := by decide +kernel
theorem dX12_isMember_67 : decode cX12_isMember 67 = .ok (.invokevirtual 163, 3) := by decide +kernel
theorem dX12_isMember_70 : decode cX12_isMember 70 = .ok (.ifCond .ne 16, 3) := by decide +kernel
theorem dX12_isMember_73 : decode cX12_isMember 73 = .ok (.aload_n 0, 1) := by decide +kernel
theorem dX12_isMember_74 : decode cX12_isMember 74 = .ok (.aload_n 0, 1) := by decide +kernel
theorem dX12_isMember_75 : decode cX12_isMember 75 = .ok (.getfield 158, 3) := by decide +kernel
theorem dX12_isMember_78 : decode cX12_isMember 78 = .ok (.ldc 194, 2) := by decide +kernel
theorem dX12_isMember_80 : decode cX12_isMember 80 = .ok (.invokevirtual 163, 3) := by decide +kernel
theorem dX12_isMember_83 : decode cX12_isMember 83 = .ok (.ifCond .eq 7, 3) := by decide +kernel
theorem dX12_isMember_86 : decode cX12_isMember 86 = .ok (.iconst 1, 1) := by decide +kernel
theorem dX12_isMember_87 : decode cX12_isMember 87 = .ok (.goto 4, 3) := by decide +kernel
theorem dX12_isMember_90 : decode cX12_isMember 90 = .ok (.iconst 0, 1) := by decide +kernel
theorem dX12_isMember_91 : decode cX12_isMember 91 = .ok (.invokevirtual 167, 3) := by decide +kernel
theorem dX12_isMember_94 : decode cX12_isMember 94 = .ok (.ifCond .eq 35, 3) := by decide +kernel
theorem dX12_isMember_97 : decode cX12_isMember 97 = .ok (.aload_n 0, 1) := by decide +kernel
theorem dX12_isMember_98 : decode cX12_isMember 98 = .ok (.aload_n 0, 1) := by decide +kernel
theorem dX12_isMember_99 : decode cX12_isMember 99 = .ok (.aload_n 0, 1) := by decide +kernel
theorem dX12_isMember_100 : decode cX12_isMember 100 = .ok (.getfield 158, 3) := by decide +kernel
theorem dX12_isMember_103 : decode cX12_isMember 103 = .ok (.invokevirtual 186, 3) := by decide +kernel
theorem dX12_isMember_106 : decode cX12_isMember 106 = .ok (.invokevirtual 167, 3) := by decide +kernel
theorem dX12_isMember_109 : decode cX12_isMember 109 = .ok (.ifCond .eq 20, 3) := by decide +kernel
theorem dX12_isMember_112 : decode cX12_isMember 112 = .ok (.aload_n 0, 1) := by decide +kernel
theorem dX12_isMember_113 : decode cX12_isMember 113 = .ok (.aload_n 0, 1) := by decide +kernel
theorem dX12_isMember_114 : decode cX12_isMember 114 = .ok (.aload_n 0, 1) := by decide +kernel
theorem dX12_isMember_115 : decode cX12_isMember 115 = .ok (.getfield 158, 3) := by decide +kernel
theorem dX12_isMember_118 : decode cX12_isMember 118 = .ok (.ldc 196, 2) := by decide +kernel
theorem dX12_isMember_120 : decode cX12_isMember 120 = .ok (.invokevirtual 163, 3) := by decide +kernel
theorem dX12_isMember_123 : decode cX12_isMember 123 = .ok (.invokevirtual 167, 3) := by decide +kernel
theorem dX12_isMember_126 : decode cX12_isMember 126 = .ok (.ifCond .ne 5, 3) := by decide +kernel
theorem dX12_isMember_129 : decode cX12_isMember 129 = .ok (.iconst 0, 1) := by decide +kernel
theorem dX12_isMember_130 : decode cX12_isMember 130 = .ok (.ireturn, 1) := by decide +kernel
theorem dX12_isMember_131 : decode cX12_isMember 131 = .ok (.aload_n 0, 1) := by decide +kernel
theorem dX12_isMember_132 : decode cX12_isMember 132 = .ok (.aload_n 0, 1) := by decide +kernel
theorem dX12_isMember_133 : decode cX12_isMember 133 = .ok (.getfield 158, 3) := by decide +kernel
theorem dX12_isMember_136 : decode cX12_isMember 136 = .ok (.ldc 198, 2) := by decide +kernel
theorem dX12_isMember_138 : decode cX12_isMember 138 = .ok (.invokevirtual 163, 3) := by decide +kernel
theorem dX12_isMember_141 : decode cX12_isMember 141 = .ok (.ifCond .ne 20, 3) := by decide +kernel
theorem dX12_isMember_144 : decode cX12_isMember 144 = .ok (.aload_n 0, 1) := by decide +kernel
theorem dX12_isMember_145 : decode cX12_isMember 145 = .ok (.aload_n 0, 1) := by decide +kernel
theorem dX12_isMember_146 : decode cX12_isMember 146 = .ok (.aload_n 0, 1) := by decide +kernel
theorem dX12_isMember_147 : decode cX12_isMember 147 = .ok (.getfield 158, 3) := by decide +kernel
theorem dX12_isMember_150 : decode cX12_isMember 150 = .ok (.invokevirtual 189, 3) := by decide +kernel
theorem dX12_isMember_153 : decode cX12_isMember 153 = .ok (.invokevirtual 167, 3) := by decide +kernel
theorem dX12_isMember_156 : decode cX12_isMember 156 = .ok (.ifCond .ne (-25), 3) := by decide +kernel
theorem dX12_isMember_159 : decode cX12_isMember 159 = .ok (.iconst 0, 1) := by decide +kernel
theorem dX12_isMember_160 : decode cX12_isMember 160 = .ok (.ireturn, 1) := by decide +kernel
theorem dX12_isMember_161 : decode cX12_isMember 161 = .ok (.aload_n 0, 1) := by decide +kernel
theorem dX12_isMember_162 : decode cX12_isMember 162 = .ok (.dup, 1) := by decide +kernel
theorem dX12_isMember_163 : decode cX12_isMember 163 = .ok (.getfield 158, 3) := by decide +kernel
theorem dX12_isMember_166 : decode cX12_isMember 166 = .ok (.iconst 1, 1) := by decide +kernel
theorem dX12_isMember_167 : decode cX12_isMember 167 = .ok (.iadd, 1) := by decide +kernel
theorem dX12_isMember_168 : decode cX12_isMember 168 = .ok (.putfield 158, 3) := by decide +kernel
theorem dX12_isMember_171 : decode cX12_isMember 171 = .ok (.aload_n 0, 1) := by decide +kernel
theorem dX12_isMember_172 : decode cX12_isMember 172 = .ok (.aload_n 0, 1) := by decide +kernel
theorem dX12_isMember_173 : decode cX12_isMember 173 = .ok (.aload_n 0, 1) := by decide +kernel
theorem dX12_isMember_174 : decode cX12_isMember 174 = .ok (.getfield 158, 3) := by decide +kernel
theorem dX12_isMember_177 : decode cX12_isMember 177 = .ok (.ldc 200, 2) := by decide +kernel
theorem dX12_isMember_179 : decode cX12_isMember 179 = .ok (.invokevirtual 163, 3) := by decide +kernel
theorem dX12_isMember_182 : decode cX12_isMember 182 = .ok (.ifCond .ne 14, 3) := by decide +kernel
theorem dX12_isMember_185 : decode cX12_isMember 185 = .ok (.aload_n 0, 1) := by decide +kernel
theorem dX12_isMember_186 : decode cX12_isMember 186 = .ok (.aload_n 0, 1) := by decide +kernel
theorem dX12_isMember_187 : decode cX12_isMember 187 = .ok (.getfield 158, 3) := by decide +kernel
theorem dX12_isMember_190 : decode cX12_isMember 190 = .ok (.invokevirtual 189, 3) := by decide +kernel
theorem dX12_isMember_193 : decode cX12_isMember 193 = .ok (.ifCond .eq 7, 3) := by decide +kernel
theorem dX12_isMember_196 : decode cX12_isMember 196 = .ok (.iconst 1, 1) := by decide +kernel
theorem dX12_isMember_197 : decode cX12_isMember 197 = .ok (.goto 4, 3) := by decide +kernel
theorem dX12_isMember_200 : decode cX12_isMember 200 = .ok (.iconst 0, 1) := by decide +kernel
theorem dX12_isMember_201 : decode cX12_isMember 201 = .ok (.invokevirtual 167, 3) := by decide +kernel
theorem dX12_isMember_204 : decode cX12_isMember 204 = .ok (.ifCond .eq 35, 3) := by decide +kernel
theorem dX12_isMember_207 : decode cX12_isMember 207 = .ok (.aload_n 0, 1) := by decide +kernel
theorem dX12_isMember_208 : decode cX12_isMember 208 = .ok (.aload_n 0, 1) := by decide +kernel
theorem dX12_isMember_209 : decode cX12_isMember 209 = .ok (.aload_n 0, 1) := by decide +kernel
theorem dX12_isMember_210 : decode cX12_isMember 210 = .ok (.getfield 158, 3) := by decide +kernel
theorem dX12_isMember_213 : decode cX12_isMember 213 = .ok (.invokevirtual 202, 3) := by decide +kernel
theorem dX12_isMember_216 : decode cX12_isMember 216 = .ok (.invokevirtual 167, 3) := by decide +kernel
theorem dX12_isMember_219 : decode cX12_isMember 219 = .ok (.ifCond .eq 20, 3) := by decide +kernel
theorem dX12_isMember_222 : decode cX12_isMember 222 = .ok (.aload_n 0, 1) := by decide +kernel
theorem dX12_isMember_223 : decode cX12_isMember 223 = .ok (.aload_n 0, 1) := by decide +kernel
theorem dX12_isMember_224 : decode cX12_isMember 224 = .ok (.aload_n 0, 1) := by decide +kernel
theorem dX12_isMember_225 : decode cX12_isMember 225 = .ok (.getfield 158, 3) := by decide +kernel
theorem dX12_isMember_228 : decode cX12_isMember 228 = .ok (.ldc 176, 2) := by decide +kernel
theorem dX12_isMember_230 : decode cX12_isMember 230 = .ok (.invokevirtual 163, 3) := by decide +kernel
theorem dX12_isMember_233 : decode cX12_isMember 233 = .ok (.invokevirtual 167, 3) := by decide +kernel
theorem dX12_isMember_236 : decode cX12_isMember 236 = .ok (.ifCond .ne 5, 3) := by decide +kernel
theorem dX12_isMember_239 : decode cX12_isMember 239 = .ok (.iconst 0, 1) := by decide +kernel
theorem dX12_isMember_240 : decode cX12_isMember 240 = .ok (.ireturn, 1) := by decide +kernel
theorem dX12_isMember_241 : decode cX12_isMember 241 = .ok (.aload_n 0, 1) := by decide +kernel
theorem dX12_isMember_242 : decode cX12_isMember 242 = .ok (.aload_n 0, 1) := by decide +kernel
theorem dX12_isMember_243 : decode cX12_isMember 243 = .ok (.getfield 158, 3) := by decide +kernel
theorem dX12_isMember_246 : decode cX12_isMember 246 = .ok (.ldc 178, 2) := by decide +kernel
theorem dX12_isMember_248 : decode cX12_isMember 248 = .ok (.invokevirtual 163, 3) := by decide +kernel
theorem dX12_isMember_251 : decode cX12_isMember 251 = .ok (.ifCond .ne 12, 3) := by decide +kernel
theorem dX12_isMember_254 : decode cX12_isMember 254 = .ok (.aload_n 0, 1) := by decide +kernel
theorem dX12_isMember_255 : decode cX12_isMember 255 = .ok (.invokevirtual 205, 3) := by decide +kernel
theorem dX12_isMember_258 : decode cX12_isMember 258 = .ok (.ifCond .ne (-17), 3) := by decide +kernel
theorem dX12_isMember_261 : decode cX12_isMember 261 = .ok (.iconst 0, 1) := by decide +kernel
theorem dX12_isMember_262 : decode cX12_isMember 262 = .ok (.ireturn, 1) := by decide +kernel
theorem dX12_isMember_263 : decode cX12_isMember 263 = .ok (.aload_n 0, 1) := by decide +kernel
theorem dX12_isMember_264 : decode cX12_isMember 264 = .ok (.dup, 1) := by decide +kernel
theorem dX12_isMember_265 : decode cX12_isMember 265 = .ok (.getfield 158, 3) := by decide +kernel
theorem dX12_isMember_268 : decode cX12_isMember 268 = .ok (.iconst 1, 1) := by decide +kernel
theorem dX12_isMember_269 : decode cX12_isMember 269 = .ok (.iadd, 1) := by decide +kernel
theorem dX12_isMember_270 : decode cX12_isMember 270 = .ok (.putfield 158, 3) := by decide +kernel
theorem dX12_isMember_273 : decode cX12_isMember 273 = .ok (.iconst 1, 1) := by decide +kernel
theorem dX12_isMember_274 : decode cX12_isMember 274 = .ok (.ireturn, 1) := by decide +kernel
theorem dX12_isLabel_0 : decode cX12_isLabel 0 = .ok (.aload_n 0, 1) := by decide +kernel
theorem dX12_isLabel_1 : decode cX12_isLabel 1 = .ok (.iload_n 1, 1) := by decide +kernel
theorem dX12_isLabel_2 : decode cX12_isLabel 2 = .ok (.iconst 1, 1) := by decide +kernel
theorem dX12_isLabel_3 : decode cX12_isLabel 3 = .ok (.iadd, 1) := by decide +kernel
theorem dX12_isLabel_4 : decode cX12_isLabel 4 = .ok (.ldc 208, 2) := by decide +kernel
theorem dX12_isLabel_6 : decode cX12_isLabel 6 = .ok (.invokevirtual 163, 3) := by decide +kernel
theorem dX12_isLabel_9 : decode cX12_isLabel 9 = .ok (.ireturn, 1) := by decide +kernel
theorem dX12_opOf_0 : decode cX12_opOf 0 = .ok (.aload_n 0, 1) := by decide +kernel
theorem dX12_opOf_1 : decode cX12_opOf 1 = .ok (.aload_n 0, 1) := by decide +kernel
theorem dX12_opOf_2 : decode cX12_opOf 2 = .ok (.getfield 26, 3) := by decide +kernel
theorem dX12_opOf_5 : decode cX12_opOf 5 = .ok (.iload_n 1, 1) := by decide +kernel
theorem dX12_opOf_6 : decode cX12_opOf 6 = .ok (.iaload, 1) := by decide +kernel
theorem dX12_opOf_7 : decode cX12_opOf 7 = .ok (.aload_n 0, 1) := by decide +kernel
theorem dX12_opOf_8 : decode cX12_opOf 8 = .ok (.getfield 30, 3) := by decide +kernel
theorem dX12_opOf_11 : decode cX12_opOf 11 = .ok (.iload_n 1, 1) := by decide +kernel
theorem dX12_opOf_12 : decode cX12_opOf 12 = .ok (.iaload, 1) := by decide +kernel
theorem dX12_opOf_13 : decode cX12_opOf 13 = .ok (.ldc 210, 2) := by decide +kernel
theorem dX12_opOf_15 : decode cX12_opOf 15 = .ok (.invokevirtual 212, 3) := by decide +kernel
theorem dX12_opOf_18 : decode cX12_opOf 18 = .ok (.ireturn, 1) := by decide +kernel
theorem dX12_isLine_0 : decode cX12_isLine 0 = .ok (.aload_n 0, 1) := by decide +kernel
theorem dX12_isLine_1 : decode cX12_isLine 1 = .ok (.getfield 158, 3) := by decide +kernel
theorem dX12_isLine_4 : decode cX12_isLine 4 = .ok (.aload_n 0, 1) := by decide +kernel
theorem dX12_isLine_5 : decode cX12_isLine 5 = .ok (.getfield 118, 3) := by decide +kernel
theorem dX12_isLine_8 : decode cX12_isLine 8 = .ok (.if_icmp .lt 5, 3) := by decide +kernel
theorem dX12_isLine_11 : decode cX12_isLine 11 = .ok (.iconst 0, 1) := by decide +kernel
theorem dX12_isLine_12 : decode cX12_isLine 12 = .ok (.ireturn, 1) := by decide +kernel
theorem dX12_isLine_13 : decode cX12_isLine 13 = .ok (.aload_n 0, 1) := by decide +kernel
theorem dX12_isLine_14 : decode cX12_isLine 14 = .ok (.aload_n 0, 1) := by decide +kernel
theorem dX12_isLine_15 : decode cX12_isLine 15 = .ok (.getfield 158, 3) := by decide +kernel
theorem dX12_isLine_18 : decode cX12_isLine 18 = .ok (.invokevirtual 216, 3) := by decide +kernel
theorem dX12_isLine_21 : decode cX12_isLine 21 = .ok (.ifCond .eq 32, 3) := by decide +kernel
theorem dX12_isLine_24 : decode cX12_isLine 24 = .ok (.aload_n 0, 1) := by decide +kernel
theorem dX12_isLine_25 : decode cX12_isLine 25 = .ok (.aload_n 0, 1) := by decide +kernel
theorem dX12_isLine_26 : decode cX12_isLine 26 = .ok (.aload_n 0, 1) := by decide +kernel
theorem dX12_isLine_27 : decode cX12_isLine 27 = .ok (.getfield 158, 3) := by decide +kernel
theorem dX12_isLine_30 : decode cX12_isLine 30 = .ok (.invokevirtual 186, 3) := by decide +kernel
theorem dX12_isLine_33 : decode cX12_isLine 33 = .ok (.invokevirtual 167, 3) := by decide +kernel
theorem dX12_isLine_36 : decode cX12_isLine 36 = .ok (.ifCond .eq 15, 3) := by decide +kernel
theorem dX12_isLine_39 : decode cX12_isLine 39 = .ok (.aload_n 0, 1) := by decide +kernel
theorem dX12_isLine_40 : decode cX12_isLine 40 = .ok (.iconst 1, 1) := by decide +kernel
theorem dX12_isLine_41 : decode cX12_isLine 41 = .ok (.invokevirtual 167, 3) := by decide +kernel
theorem dX12_isLine_44 : decode cX12_isLine 44 = .ok (.ifCond .eq 7, 3) := by decide +kernel
theorem dX12_isLine_47 : decode cX12_isLine 47 = .ok (.iconst 1, 1) := by decide +kernel
theorem dX12_isLine_48 : decode cX12_isLine 48 = .ok (.goto 4, 3) := by decide +kernel
theorem dX12_isLine_51 : decode cX12_isLine 51 = .ok (.iconst 0, 1) := by decide +kernel
theorem dX12_isLine_52 : decode cX12_isLine 52 = .ok (.ireturn, 1) := by decide +kernel
theorem dX12_isLine_53 : decode cX12_isLine 53 = .ok (.aload_n 0, 1) := by decide +kernel
theorem dX12_isLine_54 : decode cX12_isLine 54 = .ok (.aload_n 0, 1) := by decide +kernel
theorem dX12_isLine_55 : decode cX12_isLine 55 = .ok (.getfield 158, 3) := by decide +kernel
theorem dX12_isLine_58 : decode cX12_isLine 58 = .ok (.ldc 219, 2) := by decide +kernel
theorem dX12_isLine_60 : decode cX12_isLine 60 = .ok (.invokevirtual 163, 3) := by decide +kernel
theorem dX12_isLine_63 : decode cX12_isLine 63 = .ok (.ifCond .eq 79, 3) := by decide +kernel
theorem dX12_isLine_66 : decode cX12_isLine 66 = .ok (.aload_n 0, 1) := by decide +kernel
theorem dX12_isLine_67 : decode cX12_isLine 67 = .ok (.dup, 1) := by decide +kernel
theorem dX12_isLine_68 : decode cX12_isLine 68 = .ok (.getfield 158, 3) := by decide +kernel
theorem dX12_isLine_71 : decode cX12_isLine 71 = .ok (.iconst 1, 1) := by decide +kernel
theorem dX12_isLine_72 : decode cX12_isLine 72 = .ok (.iadd, 1) := by decide +kernel
theorem dX12_isLine_73 : decode cX12_isLine 73 = .ok (.putfield 158, 3) := by decide +kernel
theorem dX12_isLine_76 : decode cX12_isLine 76 = .ok (.aload_n 0, 1) := by decide +kernel
theorem dX12_isLine_77 : decode cX12_isLine 77 = .ok (.aload_n 0, 1) := by decide +kernel
theorem dX12_isLine_78 : decode cX12_isLine 78 = .ok (.aload_n 0, 1) := by decide +kernel
theorem dX12_isLine_79 : decode cX12_isLine 79 = .ok (.getfield 158, 3) := by decide +kernel
theorem dX12_isLine_82 : decode cX12_isLine 82 = .ok (.invokevirtual 186, 3) := by decide +kernel
theorem dX12_isLine_85 : decode cX12_isLine 85 = .ok (.invokevirtual 167, 3) := by decide +kernel
theorem dX12_isLine_88 : decode cX12_isLine 88 = .ok (.ifCond .eq 52, 3) := by decide +kernel
theorem dX12_isLine_91 : decode cX12_isLine 91 = .ok (.aload_n 0, 1) := by decide +kernel
theorem dX12_isLine_92 : decode cX12_isLine 92 = .ok (.aload_n 0, 1) := by decide +kernel
theorem dX12_isLine_93 : decode cX12_isLine 93 = .ok (.aload_n 0, 1) := by decide +kernel
theorem dX12_isLine_94 : decode cX12_isLine 94 = .ok (.getfield 158, 3) := by decide +kernel
theorem dX12_isLine_97 : decode cX12_isLine 97 = .ok (.invokevirtual 186, 3) := by decide +kernel
theorem dX12_isLine_100 : decode cX12_isLine 100 = .ok (.invokevirtual 167, 3) := by decide +kernel
theorem dX12_isLine_103 : decode cX12_isLine 103 = .ok (.ifCond .eq 37, 3) := by decide +kernel
theorem dX12_isLine_106 : decode cX12_isLine 106 = .ok (.aload_n 0, 1) := by decide +kernel
theorem dX12_isLine_107 : decode cX12_isLine 107 = .ok (.aload_n 0, 1) := by decide +kernel
theorem dX12_isLine_108 : decode cX12_isLine 108 = .ok (.aload_n 0, 1) := by decide +kernel
theorem dX12_isLine_109 : decode cX12_isLine 109 = .ok (.getfield 158, 3) := by decide +kernel
theorem dX12_isLine_112 : decode cX12_isLine 112 = .ok (.invokevirtual 186, 3) := by decide +kernel
theorem dX12_isLine_115 : decode cX12_isLine 115 = .ok (.invokevirtual 167, 3) := by decide +kernel
theorem dX12_isLine_118 : decode cX12_isLine 118 = .ok (.ifCond .eq 22, 3) := by decide +kernel
theorem dX12_isLine_121 : decode cX12_isLine 121 = .ok (.aload_n 0, 1) := by decide +kernel
theorem dX12_isLine_122 : decode cX12_isLine 122 = .ok (.aload_n 0, 1) := by decide +kernel
theorem dX12_isLine_123 : decode cX12_isLine 123 = .ok (.aload_n 0, 1) := by decide +kernel
theorem dX12_isLine_124 : decode cX12_isLine 124 = .ok (.getfield 158, 3) := by decide +kernel
theorem dX12_isLine_127 : decode cX12_isLine 127 = .ok (.invokevirtual 171, 3) := by decide +kernel
theorem dX12_isLine_130 : decode cX12_isLine 130 = .ok (.invokevirtual 167, 3) := by decide +kernel
theorem dX12_isLine_133 : decode cX12_isLine 133 = .ok (.ifCond .eq 7, 3) := by decide +kernel
theorem dX12_isLine_136 : decode cX12_isLine 136 = .ok (.iconst 1, 1) := by decide +kernel
theorem dX12_isLine_137 : decode cX12_isLine 137 = .ok (.goto 4, 3) := by decide +kernel
theorem dX12_isLine_140 : decode cX12_isLine 140 = .ok (.iconst 0, 1) := by decide +kernel
theorem dX12_isLine_141 : decode cX12_isLine 141 = .ok (.ireturn, 1) := by decide +kernel
theorem dX12_isLine_142 : decode cX12_isLine 142 = .ok (.aload_n 0, 1) := by decide +kernel
theorem dX12_isLine_143 : decode cX12_isLine 143 = .ok (.aload_n 0, 1) := by decide +kernel
theorem dX12_isLine_144 : decode cX12_isLine 144 = .ok (.getfield 158, 3) := by decide +kernel
theorem dX12_isLine_147 : decode cX12_isLine 147 = .ok (.invokevirtual 221, 3) := by decide +kernel
theorem dX12_isLine_150 : decode cX12_isLine 150 = .ok (.istore_n 1, 1) := by decide +kernel
theorem dX12_isLine_151 : decode cX12_isLine 151 = .ok (.iload_n 1, 1) := by decide +kernel
theorem dX12_isLine_152 : decode cX12_isLine 152 = .ok (.ifCond .ge 20, 3) := by decide +kernel
theorem dX12_isLine_155 : decode cX12_isLine 155 = .ok (.aload_n 0, 1) := by decide +kernel
theorem dX12_isLine_156 : decode cX12_isLine 156 = .ok (.aload_n 0, 1) := by decide +kernel
theorem dX12_isLine_157 : decode cX12_isLine 157 = .ok (.aload_n 0, 1) := by decide +kernel
theorem dX12_isLine_158 : decode cX12_isLine 158 = .ok (.getfield 158, 3) := by decide +kernel
theorem dX12_isLine_161 : decode cX12_isLine 161 = .ok (.invokevirtual 186, 3) := by decide +kernel
theorem dX12_isLine_164 : decode cX12_isLine 164 = .ok (.invokevirtual 167, 3) := by decide +kernel
theorem dX12_isLine_167 : decode cX12_isLine 167 = .ok (.ifCond .eq 3, 3) := by decide +kernel
theorem dX12_isLine_170 : decode cX12_isLine 170 = .ok (.iconst 0, 1) := by decide +kernel
theorem dX12_isLine_171 : decode cX12_isLine 171 = .ok (.ireturn, 1) := by decide +kernel
theorem dX12_isLine_172 : decode cX12_isLine 172 = .ok (.aload_n 0, 1) := by decide +kernel
theorem dX12_isLine_173 : decode cX12_isLine 173 = .ok (.dup, 1) := by decide +kernel
theorem dX12_isLine_174 : decode cX12_isLine 174 = .ok (.getfield 158, 3) := by decide +kernel
theorem dX12_isLine_177 : decode cX12_isLine 177 = .ok (.iconst 1, 1) := by decide +kernel
theorem dX12_isLine_178 : decode cX12_isLine 178 = .ok (.iadd, 1) := by decide +kernel
theorem dX12_isLine_179 : decode cX12_isLine 179 = .ok (.putfield 158, 3) := by decide +kernel
theorem dX12_isLine_182 : decode cX12_isLine 182 = .ok (.ldc 224, 2) := by decide +kernel
theorem dX12_isLine_184 : decode cX12_isLine 184 = .ok (.iload_n 1, 1) := by decide +kernel
theorem dX12_isLine_185 : decode cX12_isLine 185 = .ok (.invokevirtual 127, 3) := by decide +kernel
theorem dX12_isLine_188 : decode cX12_isLine 188 = .ok (.tableswitch 244 67 84 #[150, 244, 163, 197, 244, 244, 101, 244, 88, 137, 244, 88, 244, 244, 244, 244, 244, 210], 88) := by decide +kernel
theorem dX12_isLine_276 : decode cX12_isLine 276 = .ok (.aload_n 0, 1) := by decide +kernel
theorem dX12_isLine_277 : decode cX12_isLine 277 = .ok (.aload_n 0, 1) := by decide +kernel
theorem dX12_isLine_278 : decode cX12_isLine 278 = .ok (.aload_n 0, 1) := by decide +kernel
theorem dX12_isLine_279 : decode cX12_isLine 279 = .ok (.getfield 158, 3) := by decide +kernel
theorem dX12_isLine_282 : decode cX12_isLine 282 = .ok (.invokevirtual 202, 3) := by decide +kernel
theorem dX12_isLine_285 : decode cX12_isLine 285 = .ok (.invokevirtual 167, 3) := by decide +kernel
theorem dX12_isLine_288 : decode cX12_isLine 288 = .ok (.ireturn, 1) := by decide +kernel
theorem dX12_isLine_289 : decode cX12_isLine 289 = .ok (.aload_n 0, 1) := by decide +kernel
theorem dX12_isLine_290 : decode cX12_isLine 290 = .ok (.aload_n 0, 1) := by decide +kernel
theorem dX12_isLine_291 : decode cX12_isLine 291 = .ok (.aload_n 0, 1) := by decide +kernel
theorem dX12_isLine_292 : decode cX12_isLine 292 = .ok (.getfield 158, 3) := by decide +kernel
theorem dX12_isLine_295 : decode cX12_isLine 295 = .ok (.invokevirtual 202, 3) := by decide +kernel
theorem dX12_isLine_298 : decode cX12_isLine 298 = .ok (.invokevirtual 167, 3) := by decide +kernel
theorem dX12_isLine_301 : decode cX12_isLine 301 = .ok (.ifCond .eq 22, 3) := by decide +kernel
theorem dX12_isLine_304 : decode cX12_isLine 304 = .ok (.aload_n 0, 1) := by decide +kernel
theorem dX12_isLine_305 : decode cX12_isLine 305 = .ok (.aload_n 0, 1) := by decide +kernel
theorem dX12_isLine_306 : decode cX12_isLine 306 = .ok (.aload_n 0, 1) := by decide +kernel
theorem dX12_isLine_307 : decode cX12_isLine 307 = .ok (.getfield 158, 3) := by decide +kernel
theorem dX12_isLine_310 : decode cX12_isLine 310 = .ok (.invokevirtual 202, 3) := by decide +kernel
theorem dX12_isLine_313 : decode cX12_isLine 313 = .ok (.invokevirtual 167, 3) := by decide +kernel
theorem dX12_isLine_316 : decode cX12_isLine 316 = .ok (.ifCond .eq 7, 3) := by decide +kernel
theorem dX12_isLine_319 : decode cX12_isLine 319 = .ok (.iconst 1, 1) := by decide +kernel
theorem dX12_isLine_320 : decode cX12_isLine 320 = .ok (.goto 4, 3) := by decide +kernel
theorem dX12_isLine_323 : decode cX12_isLine 323 = .ok (.iconst 0, 1) := by decide +kernel
theorem dX12_isLine_324 : decode cX12_isLine 324 = .ok (.ireturn, 1) := by decide +kernel
theorem dX12_isLine_325 : decode cX12_isLine 325 = .ok (.aload_n 0, 1) := by decide +kernel
theorem dX12_isLine_326 : decode cX12_isLine 326 = .ok (.aload_n 0, 1) := by decide +kernel
theorem dX12_isLine_327 : decode cX12_isLine 327 = .ok (.aload_n 0, 1) := by decide +kernel
theorem dX12_isLine_328 : decode cX12_isLine 328 = .ok (.getfield 158, 3) := by decide +kernel
theorem dX12_isLine_331 : decode cX12_isLine 331 = .ok (.invokevirtual 186, 3) := by decide +kernel
theorem dX12_isLine_334 : decode cX12_isLine 334 = .ok (.invokevirtual 167, 3) := by decide +kernel
theorem dX12_isLine_337 : decode cX12_isLine 337 = .ok (.ireturn, 1) := by decide +kernel
theorem dX12_isLine_338 : decode cX12_isLine 338 = .ok (.aload_n 0, 1) := by decide +kernel
theorem dX12_isLine_339 : decode cX12_isLine 339 = .ok (.aload_n 0, 1) := by decide +kernel
theorem dX12_isLine_340 : decode cX12_isLine 340 = .ok (.aload_n 0, 1) := by decide +kernel
theorem dX12_isLine_341 : decode cX12_isLine 341 = .ok (.getfield 158, 3) := by decide +kernel
theorem dX12_isLine_344 : decode cX12_isLine 344 = .ok (.invokevirtual 171, 3) := by decide +kernel
theorem dX12_isLine_347 : decode cX12_isLine 347 = .ok (.invokevirtual 167, 3) := by decide +kernel
theorem dX12_isLine_350 : decode cX12_isLine 350 = .ok (.ireturn, 1) := by decide +kernel
theorem dX12_isLine_351 : decode cX12_isLine 351 = .ok (.aload_n 0, 1) := by decide +kernel
theorem dX12_isLine_352 : decode cX12_isLine 352 = .ok (.aload_n 0, 1) := by decide +kernel
theorem dX12_isLine_353 : decode cX12_isLine 353 = .ok (.aload_n 0, 1) := by decide +kernel
theorem dX12_isLine_354 : decode cX12_isLine 354 = .ok (.getfield 158, 3) := by decide +kernel
theorem dX12_isLine_357 : decode cX12_isLine 357 = .ok (.ldc 226, 2) := by decide +kernel
theorem dX12_isLine_359 : decode cX12_isLine 359 = .ok (.invokevirtual 163, 3) := by decide +kernel
theorem dX12_isLine_362 : decode cX12_isLine 362 = .ok (.ifCond .ne 14, 3) := by decide +kernel
theorem dX12_isLine_365 : decode cX12_isLine 365 = .ok (.aload_n 0, 1) := by decide +kernel
theorem dX12_isLine_366 : decode cX12_isLine 366 = .ok (.aload_n 0, 1) := by decide +kernel
theorem dX12_isLine_367 : decode cX12_isLine 367 = .ok (.getfield 158, 3) := by decide +kernel
theorem dX12_isLine_370 : decode cX12_isLine 370 = .ok (.invokevirtual 171, 3) := by decide +kernel
theorem dX12_isLine_373 : decode cX12_isLine 373 = .ok (.ifCond .eq 7, 3) := by decide +kernel
theorem dX12_isLine_376 : decode cX12_isLine 376 = .ok (.iconst 1, 1) := by decide +kernel
theorem dX12_isLine_377 : decode cX12_isLine 377 = .ok (.goto 4, 3) := by decide +kernel
theorem dX12_isLine_380 : decode cX12_isLine 380 = .ok (.iconst 0, 1) := by decide +kernel
theorem dX12_isLine_381 : decode cX12_isLine 381 = .ok (.invokevirtual 167, 3) := by decide +kernel
theorem dX12_isLine_384 : decode cX12_isLine 384 = .ok (.ireturn, 1) := by decide +kernel
theorem dX12_isLine_385 : decode cX12_isLine 385 = .ok (.aload_n 0, 1) := by decide +kernel
theorem dX12_isLine_386 : decode cX12_isLine 386 = .ok (.aload_n 0, 1) := by decide +kernel
theorem dX12_isLine_387 : decode cX12_isLine 387 = .ok (.aload_n 0, 1) := by decide +kernel
theorem dX12_isLine_388 : decode cX12_isLine 388 = .ok (.getfield 158, 3) := by decide +kernel
theorem dX12_isLine_391 : decode cX12_isLine 391 = .ok (.invokevirtual 228, 3) := by decide +kernel
theorem dX12_isLine_394 : decode cX12_isLine 394 = .ok (.invokevirtual 167, 3) := by decide +kernel
theorem dX12_isLine_397 : decode cX12_isLine 397 = .ok (.ireturn, 1) := by decide +kernel
theorem dX12_isLine_398 : decode cX12_isLine 398 = .ok (.aload_n 0, 1) := by decide +kernel
theorem dX12_isLine_399 : decode cX12_isLine 399 = .ok (.aload_n 0, 1) := by decide +kernel
theorem dX12_isLine_400 : decode cX12_isLine 400 = .ok (.aload_n 0, 1) := by decide +kernel
theorem dX12_isLine_401 : decode cX12_isLine 401 = .ok (.getfield 158, 3) := by decide +kernel
theorem dX12_isLine_404 : decode cX12_isLine 404 = .ok (.invokevirtual 189, 3) := by decide +kernel
theorem dX12_isLine_407 : decode cX12_isLine 407 = .ok (.ifCond .eq 20, 3) := by decide +kernel
theorem dX12_isLine_410 : decode cX12_isLine 410 = .ok (.aload_n 0, 1) := by decide +kernel
theorem dX12_isLine_411 : decode cX12_isLine 411 = .ok (.aload_n 0, 1) := by decide +kernel
theorem dX12_isLine_412 : decode cX12_isLine 412 = .ok (.getfield 158, 3) := by decide +kernel
theorem dX12_isLine_415 : decode cX12_isLine 415 = .ok (.ldc 226, 2) := by decide +kernel
theorem dX12_isLine_417 : decode cX12_isLine 417 = .ok (.invokevirtual 163, 3) := by decide +kernel
theorem dX12_isLine_420 : decode cX12_isLine 420 = .ok (.ifCond .ne 7, 3) := by decide +kernel
theorem dX12_isLine_423 : decode cX12_isLine 423 = .ok (.iconst 1, 1) := by decide +kernel
theorem dX12_isLine_424 : decode cX12_isLine 424 = .ok (.goto 4, 3) := by decide +kernel
theorem dX12_isLine_427 : decode cX12_isLine 427 = .ok (.iconst 0, 1) := by decide +kernel
theorem dX12_isLine_428 : decode cX12_isLine 428 = .ok (.invokevirtual 167, 3) := by decide +kernel
theorem dX12_isLine_431 : decode cX12_isLine 431 = .ok (.ireturn, 1) := by decide +kernel
theorem dX12_isLine_432 : decode cX12_isLine 432 = .ok (.iconst 1, 1) := by decide +kernel
theorem dX12_isLine_433 : decode cX12_isLine 433 = .ok (.ireturn, 1) := by decide +kernel
theorem dX12_classCount_0 : decode cX12_classCount 0 = .ok (.bipush 8, 2) := by decide +kernel
theorem dX12_classCount_2 : decode cX12_classCount 2 = .ok (.aload_n 1, 1) := by decide +kernel
theorem dX12_classCount_3 : decode cX12_classCount 3 = .ok (.getfield 231, 3) := by decide +kernel
theorem dX12_classCount_6 : decode cX12_classCount 6 = .ok (.iadd, 1) := by decide +kernel
theorem dX12_classCount_7 : decode cX12_classCount 7 = .ok (.ireturn, 1) := by decide +kernel
theorem dX12_classOf_0 : decode cX12_classOf 0 = .ok (.aload_n 0, 1) := by decide +kernel
theorem dX12_classOf_1 : decode cX12_classOf 1 = .ok (.iload_n 2, 1) := by decide +kernel
theorem dX12_classOf_2 : decode cX12_classOf 2 = .ok (.iload_n 3, 1) := by decide +kernel
theorem dX12_classOf_3 : decode cX12_classOf 3 = .ok (.ldc 234, 2) := by decide +kernel
theorem dX12_classOf_5 : decode cX12_classOf 5 = .ok (.invokevirtual 212, 3) := by decide +kernel
theorem dX12_classOf_8 : decode cX12_classOf 8 = .ok (.istore 4, 2) := by decide +kernel
theorem dX12_classOf_10 : decode cX12_classOf 10 = .ok (.iload 4, 2) := by decide +kernel
theorem dX12_classOf_12 : decode cX12_classOf 12 = .ok (.ifCond .lt 6, 3) := by decide +kernel
theorem dX12_classOf_15 : decode cX12_classOf 15 = .ok (.iload 4, 2) := by decide +kernel
theorem dX12_classOf_17 : decode cX12_classOf 17 = .ok (.ireturn, 1) := by decide +kernel
theorem dX12_classOf_18 : decode cX12_classOf 18 = .ok (.bipush 8, 2) := by decide +kernel
theorem dX12_classOf_20 : decode cX12_classOf 20 = .ok (.istore 5, 2) := by decide +kernel
theorem dX12_classOf_22 : decode cX12_classOf 22 = .ok (.iload 5, 2) := by decide +kernel
theorem dX12_classOf_24 : decode cX12_classOf 24 = .ok (.aload_n 0, 1) := by decide +kernel
theorem dX12_classOf_25 : decode cX12_classOf 25 = .ok (.aload_n 1, 1) := by decide +kernel
theorem dX12_classOf_26 : decode cX12_classOf 26 = .ok (.invokevirtual 236, 3) := by decide +kernel
theorem dX12_classOf_29 : decode cX12_classOf 29 = .ok (.if_icmp .ge 45, 3) := by decide +kernel
theorem dX12_classOf_32 : decode cX12_classOf 32 = .ok (.aload_n 0, 1) := by decide +kernel
theorem dX12_classOf_33 : decode cX12_classOf 33 = .ok (.iload_n 2, 1) := by decide +kernel
theorem dX12_classOf_34 : decode cX12_classOf 34 = .ok (.iload_n 3, 1) := by decide +kernel
theorem dX12_classOf_35 : decode cX12_classOf 35 = .ok (.aload_n 0, 1) := by decide +kernel
theorem dX12_classOf_36 : decode cX12_classOf 36 = .ok (.getfield 26, 3) := by decide +kernel
theorem dX12_classOf_39 : decode cX12_classOf 39 = .ok (.aload_n 0, 1) := by decide +kernel
theorem dX12_classOf_40 : decode cX12_classOf 40 = .ok (.getfield 37, 3) := by decide +kernel
theorem dX12_classOf_43 : decode cX12_classOf 43 = .ok (.iload 5, 2) := by decide +kernel
theorem dX12_classOf_45 : decode cX12_classOf 45 = .ok (.iaload, 1) := by decide +kernel
theorem dX12_classOf_46 : decode cX12_classOf 46 = .ok (.iaload, 1) := by decide +kernel
theorem dX12_classOf_47 : decode cX12_classOf 47 = .ok (.aload_n 0, 1) := by decide +kernel
theorem dX12_classOf_48 : decode cX12_classOf 48 = .ok (.getfield 30, 3) := by decide +kernel
theorem dX12_classOf_51 : decode cX12_classOf 51 = .ok (.aload_n 0, 1) := by decide +kernel
theorem dX12_classOf_52 : decode cX12_classOf 52 = .ok (.getfield 37, 3) := by decide +kernel
theorem dX12_classOf_55 : decode cX12_classOf 55 = .ok (.iload 5, 2) := by decide +kernel
theorem dX12_classOf_57 : decode cX12_classOf 57 = .ok (.iaload, 1) := by decide +kernel
theorem dX12_classOf_58 : decode cX12_classOf 58 = .ok (.iaload, 1) := by decide +kernel
theorem dX12_classOf_59 : decode cX12_classOf 59 = .ok (.invokevirtual 131, 3) := by decide +kernel
theorem dX12_classOf_62 : decode cX12_classOf 62 = .ok (.ifCond .eq 6, 3) := by decide +kernel
theorem dX12_classOf_65 : decode cX12_classOf 65 = .ok (.iload 5, 2) := by decide +kernel
theorem dX12_classOf_67 : decode cX12_classOf 67 = .ok (.ireturn, 1) := by decide +kernel
theorem dX12_classOf_68 : decode cX12_classOf 68 = .ok (.iinc 5 1, 3) := by decide +kernel
theorem dX12_classOf_71 : decode cX12_classOf 71 = .ok (.goto (-49), 3) := by decide +kernel
theorem dX12_classOf_74 : decode cX12_classOf 74 = .ok (.iconst (-1), 1) := by decide +kernel
theorem dX12_classOf_75 : decode cX12_classOf 75 = .ok (.ireturn, 1) := by decide +kernel
theorem dX12_classOfToken_0 : decode cX12_classOfToken 0 = .ok (.aload_n 0, 1) := by decide +kernel
theorem dX12_classOfToken_1 : decode cX12_classOfToken 1 = .ok (.aload_n 1, 1) := by decide +kernel
theorem dX12_classOfToken_2 : decode cX12_classOfToken 2 = .ok (.aload_n 0, 1) := by decide +kernel
theorem dX12_classOfToken_3 : decode cX12_classOfToken 3 = .ok (.getfield 26, 3) := by decide +kernel
theorem dX12_classOfToken_6 : decode cX12_classOfToken 6 = .ok (.iload_n 2, 1) := by decide +kernel
theorem dX12_classOfToken_7 : decode cX12_classOfToken 7 = .ok (.iaload, 1) := by decide +kernel
theorem dX12_classOfToken_8 : decode cX12_classOfToken 8 = .ok (.aload_n 0, 1) := by decide +kernel
theorem dX12_classOfToken_9 : decode cX12_classOfToken 9 = .ok (.getfield 30, 3) := by decide +kernel
theorem dX12_classOfToken_12 : decode cX12_classOfToken 12 = .ok (.iload_n 2, 1) := by decide +kernel
theorem dX12_classOfToken_13 : decode cX12_classOfToken 13 = .ok (.iaload, 1) := by decide +kernel
theorem dX12_classOfToken_14 : decode cX12_classOfToken 14 = .ok (.invokevirtual 240, 3) := by decide +kernel
theorem dX12_classOfToken_17 : decode cX12_classOfToken 17 = .ok (.ireturn, 1) := by decide +kernel
theorem dX12_isAtOrBelow_0 : decode cX12_isAtOrBelow 0 = .ok (.iload_n 1, 1) := by decide +kernel
theorem dX12_isAtOrBelow_1 : decode cX12_isAtOrBelow 1 = .ok (.istore_n 3, 1) := by decide +kernel
theorem dX12_isAtOrBelow_2 : decode cX12_isAtOrBelow 2 = .ok (.iload_n 3, 1) := by decide +kernel
theorem dX12_isAtOrBelow_3 : decode cX12_isAtOrBelow 3 = .ok (.ifCond .lt 18, 3) := by decide +kernel
theorem dX12_isAtOrBelow_6 : decode cX12_isAtOrBelow 6 = .ok (.iload_n 3, 1) := by decide +kernel
theorem dX12_isAtOrBelow_7 : decode cX12_isAtOrBelow 7 = .ok (.iload_n 2, 1) := by decide +kernel
theorem dX12_isAtOrBelow_8 : decode cX12_isAtOrBelow 8 = .ok (.if_icmp .eq 13, 3) := by decide +kernel
theorem dX12_isAtOrBelow_11 : decode cX12_isAtOrBelow 11 = .ok (.aload_n 0, 1) := by decide +kernel
theorem dX12_isAtOrBelow_12 : decode cX12_isAtOrBelow 12 = .ok (.getfield 244, 3) := by decide +kernel
theorem dX12_isAtOrBelow_15 : decode cX12_isAtOrBelow 15 = .ok (.iload_n 3, 1) := by decide +kernel
theorem dX12_isAtOrBelow_16 : decode cX12_isAtOrBelow 16 = .ok (.iaload, 1) := by decide +kernel
theorem dX12_isAtOrBelow_17 : decode cX12_isAtOrBelow 17 = .ok (.istore_n 3, 1) := by decide +kernel
theorem dX12_isAtOrBelow_18 : decode cX12_isAtOrBelow 18 = .ok (.goto (-16), 3) := by decide +kernel
