theorem dX12_isAtOrBelow_21 : decode cX12_isAtOrBelow 21 = .ok (.iload_n 3, 1) := by decide +kernel
theorem dX12_isAtOrBelow_22 : decode cX12_isAtOrBelow 22 = .ok (.ifCond .lt 7, 3) := by decide +kernel
theorem dX12_isAtOrBelow_25 : decode cX12_isAtOrBelow 25 = .ok (.iconst 1, 1) := by decide +kernel
theorem dX12_isAtOrBelow_26 : decode cX12_isAtOrBelow 26 = .ok (.goto 4, 3) := by decide +kernel
theorem dX12_isAtOrBelow_29 : decode cX12_isAtOrBelow 29 = .ok (.iconst 0, 1) := by decide +kernel
theorem dX12_isAtOrBelow_30 : decode cX12_isAtOrBelow 30 = .ok (.ireturn, 1) := by decide +kernel
theorem dX12_typeOf_0 : decode cX12_typeOf 0 = .ok (.aload_n 0, 1) := by decide +kernel
theorem dX12_typeOf_1 : decode cX12_typeOf 1 = .ok (.iload_n 2, 1) := by decide +kernel
theorem dX12_typeOf_2 : decode cX12_typeOf 2 = .ok (.invokevirtual 138, 3) := by decide +kernel
theorem dX12_typeOf_5 : decode cX12_typeOf 5 = .ok (.istore_n 3, 1) := by decide +kernel
theorem dX12_typeOf_6 : decode cX12_typeOf 6 = .ok (.iload_n 3, 1) := by decide +kernel
theorem dX12_typeOf_7 : decode cX12_typeOf 7 = .ok (.ifCond .eq 14, 3) := by decide +kernel
theorem dX12_typeOf_10 : decode cX12_typeOf 10 = .ok (.aload_n 0, 1) := by decide +kernel
theorem dX12_typeOf_11 : decode cX12_typeOf 11 = .ok (.getfield 30, 3) := by decide +kernel
theorem dX12_typeOf_14 : decode cX12_typeOf 14 = .ok (.iload_n 2, 1) := by decide +kernel
theorem dX12_typeOf_15 : decode cX12_typeOf 15 = .ok (.iaload, 1) := by decide +kernel
theorem dX12_typeOf_16 : decode cX12_typeOf 16 = .ok (.iconst 2, 1) := by decide +kernel
theorem dX12_typeOf_17 : decode cX12_typeOf 17 = .ok (.isub, 1) := by decide +kernel
theorem dX12_typeOf_18 : decode cX12_typeOf 18 = .ok (.goto 9, 3) := by decide +kernel
theorem dX12_typeOf_21 : decode cX12_typeOf 21 = .ok (.aload_n 0, 1) := by decide +kernel
theorem dX12_typeOf_22 : decode cX12_typeOf 22 = .ok (.getfield 30, 3) := by decide +kernel
theorem dX12_typeOf_25 : decode cX12_typeOf 25 = .ok (.iload_n 2, 1) := by decide +kernel
theorem dX12_typeOf_26 : decode cX12_typeOf 26 = .ok (.iaload, 1) := by decide +kernel
theorem dX12_typeOf_27 : decode cX12_typeOf 27 = .ok (.istore 4, 2) := by decide +kernel
theorem dX12_typeOf_29 : decode cX12_typeOf 29 = .ok (.aload_n 0, 1) := by decide +kernel
theorem dX12_typeOf_30 : decode cX12_typeOf 30 = .ok (.getfield 23, 3) := by decide +kernel
theorem dX12_typeOf_33 : decode cX12_typeOf 33 = .ok (.aload_n 0, 1) := by decide +kernel
theorem dX12_typeOf_34 : decode cX12_typeOf 34 = .ok (.getfield 26, 3) := by decide +kernel
theorem dX12_typeOf_37 : decode cX12_typeOf 37 = .ok (.iload_n 2, 1) := by decide +kernel
theorem dX12_typeOf_38 : decode cX12_typeOf 38 = .ok (.iaload, 1) := by decide +kernel
theorem dX12_typeOf_39 : decode cX12_typeOf 39 = .ok (.baload, 1) := by decide +kernel
theorem dX12_typeOf_40 : decode cX12_typeOf 40 = .ok (.bipush 105, 2) := by decide +kernel
theorem dX12_typeOf_42 : decode cX12_typeOf 42 = .ok (.if_icmp .ne 14, 3) := by decide +kernel
theorem dX12_typeOf_45 : decode cX12_typeOf 45 = .ok (.iload_n 3, 1) := by decide +kernel
theorem dX12_typeOf_46 : decode cX12_typeOf 46 = .ok (.ifCond .eq 8, 3) := by decide +kernel
theorem dX12_typeOf_49 : decode cX12_typeOf 49 = .ok (.bipush 40, 2) := by decide +kernel
theorem dX12_typeOf_51 : decode cX12_typeOf 51 = .ok (.goto 4, 3) := by decide +kernel
theorem dX12_typeOf_54 : decode cX12_typeOf 54 = .ok (.iconst 0, 1) := by decide +kernel
theorem dX12_typeOf_55 : decode cX12_typeOf 55 = .ok (.ireturn, 1) := by decide +kernel
theorem dX12_typeOf_56 : decode cX12_typeOf 56 = .ok (.aload_n 0, 1) := by decide +kernel
theorem dX12_typeOf_57 : decode cX12_typeOf 57 = .ok (.aload_n 1, 1) := by decide +kernel
theorem dX12_typeOf_58 : decode cX12_typeOf 58 = .ok (.aload_n 0, 1) := by decide +kernel
theorem dX12_typeOf_59 : decode cX12_typeOf 59 = .ok (.getfield 26, 3) := by decide +kernel
theorem dX12_typeOf_62 : decode cX12_typeOf 62 = .ok (.iload_n 2, 1) := by decide +kernel
theorem dX12_typeOf_63 : decode cX12_typeOf 63 = .ok (.iaload, 1) := by decide +kernel
theorem dX12_typeOf_64 : decode cX12_typeOf 64 = .ok (.iload 4, 2) := by decide +kernel
theorem dX12_typeOf_66 : decode cX12_typeOf 66 = .ok (.invokevirtual 240, 3) := by decide +kernel
theorem dX12_typeOf_69 : decode cX12_typeOf 69 = .ok (.istore 5, 2) := by decide +kernel
theorem dX12_typeOf_71 : decode cX12_typeOf 71 = .ok (.iload 5, 2) := by decide +kernel
theorem dX12_typeOf_73 : decode cX12_typeOf 73 = .ok (.ifCond .ge 7, 3) := by decide +kernel
theorem dX12_typeOf_76 : decode cX12_typeOf 76 = .ok (.iconst (-1), 1) := by decide +kernel
theorem dX12_typeOf_77 : decode cX12_typeOf 77 = .ok (.goto 20, 3) := by decide +kernel
theorem dX12_typeOf_80 : decode cX12_typeOf 80 = .ok (.iload_n 3, 1) := by decide +kernel
theorem dX12_typeOf_81 : decode cX12_typeOf 81 = .ok (.ifCond .eq 11, 3) := by decide +kernel
theorem dX12_typeOf_84 : decode cX12_typeOf 84 = .ok (.bipush 48, 2) := by decide +kernel
theorem dX12_typeOf_86 : decode cX12_typeOf 86 = .ok (.iload 5, 2) := by decide +kernel
theorem dX12_typeOf_88 : decode cX12_typeOf 88 = .ok (.iadd, 1) := by decide +kernel
theorem dX12_typeOf_89 : decode cX12_typeOf 89 = .ok (.goto 8, 3) := by decide +kernel
theorem dX12_typeOf_92 : decode cX12_typeOf 92 = .ok (.bipush 8, 2) := by decide +kernel
theorem dX12_typeOf_94 : decode cX12_typeOf 94 = .ok (.iload 5, 2) := by decide +kernel
theorem dX12_typeOf_96 : decode cX12_typeOf 96 = .ok (.iadd, 1) := by decide +kernel
theorem dX12_typeOf_97 : decode cX12_typeOf 97 = .ok (.ireturn, 1) := by decide +kernel
theorem dX12_behind_0 : decode cX12_behind 0 = .ok (.iload_n 1, 1) := by decide +kernel
theorem dX12_behind_1 : decode cX12_behind 1 = .ok (.istore_n 2, 1) := by decide +kernel
theorem dX12_behind_2 : decode cX12_behind 2 = .ok (.aload_n 0, 1) := by decide +kernel
theorem dX12_behind_3 : decode cX12_behind 3 = .ok (.iload_n 2, 1) := by decide +kernel
theorem dX12_behind_4 : decode cX12_behind 4 = .ok (.ldc 176, 2) := by decide +kernel
theorem dX12_behind_6 : decode cX12_behind 6 = .ok (.invokevirtual 163, 3) := by decide +kernel
theorem dX12_behind_9 : decode cX12_behind 9 = .ok (.ifCond .ne 9, 3) := by decide +kernel
theorem dX12_behind_12 : decode cX12_behind 12 = .ok (.iinc 2 1, 3) := by decide +kernel
theorem dX12_behind_15 : decode cX12_behind 15 = .ok (.goto (-13), 3) := by decide +kernel
theorem dX12_behind_18 : decode cX12_behind 18 = .ok (.iconst 0, 1) := by decide +kernel
theorem dX12_behind_19 : decode cX12_behind 19 = .ok (.istore_n 3, 1) := by decide +kernel
theorem dX12_behind_20 : decode cX12_behind 20 = .ok (.aload_n 0, 1) := by decide +kernel
theorem dX12_behind_21 : decode cX12_behind 21 = .ok (.iload_n 2, 1) := by decide +kernel
theorem dX12_behind_22 : decode cX12_behind 22 = .ok (.ldc 176, 2) := by decide +kernel
theorem dX12_behind_24 : decode cX12_behind 24 = .ok (.invokevirtual 163, 3) := by decide +kernel
theorem dX12_behind_27 : decode cX12_behind 27 = .ok (.ifCond .eq 6, 3) := by decide +kernel
theorem dX12_behind_30 : decode cX12_behind 30 = .ok (.iinc 3 1, 3) := by decide +kernel
theorem dX12_behind_33 : decode cX12_behind 33 = .ok (.aload_n 0, 1) := by decide +kernel
theorem dX12_behind_34 : decode cX12_behind 34 = .ok (.iload_n 2, 1) := by decide +kernel
theorem dX12_behind_35 : decode cX12_behind 35 = .ok (.ldc 178, 2) := by decide +kernel
theorem dX12_behind_37 : decode cX12_behind 37 = .ok (.invokevirtual 163, 3) := by decide +kernel
theorem dX12_behind_40 : decode cX12_behind 40 = .ok (.ifCond .eq 6, 3) := by decide +kernel
theorem dX12_behind_43 : decode cX12_behind 43 = .ok (.iinc 3 (-1), 3) := by decide +kernel
theorem dX12_behind_46 : decode cX12_behind 46 = .ok (.iinc 2 1, 3) := by decide +kernel
theorem dX12_behind_49 : decode cX12_behind 49 = .ok (.iload_n 3, 1) := by decide +kernel
theorem dX12_behind_50 : decode cX12_behind 50 = .ok (.ifCond .gt (-30), 3) := by decide +kernel
theorem dX12_behind_53 : decode cX12_behind 53 = .ok (.iload_n 2, 1) := by decide +kernel
theorem dX12_behind_54 : decode cX12_behind 54 = .ok (.ireturn, 1) := by decide +kernel
theorem dX12_behindMember_0 : decode cX12_behindMember 0 = .ok (.aload_n 0, 1) := by decide +kernel
theorem dX12_behindMember_1 : decode cX12_behindMember 1 = .ok (.iload_n 1, 1) := by decide +kernel
theorem dX12_behindMember_2 : decode cX12_behindMember 2 = .ok (.ldc 184, 2) := by decide +kernel
theorem dX12_behindMember_4 : decode cX12_behindMember 4 = .ok (.invokevirtual 163, 3) := by decide +kernel
theorem dX12_behindMember_7 : decode cX12_behindMember 7 = .ok (.ifCond .eq 9, 3) := by decide +kernel
theorem dX12_behindMember_10 : decode cX12_behindMember 10 = .ok (.iload_n 1, 1) := by decide +kernel
theorem dX12_behindMember_11 : decode cX12_behindMember 11 = .ok (.iconst 3, 1) := by decide +kernel
theorem dX12_behindMember_12 : decode cX12_behindMember 12 = .ok (.iadd, 1) := by decide +kernel
theorem dX12_behindMember_13 : decode cX12_behindMember 13 = .ok (.goto 8, 3) := by decide +kernel
theorem dX12_behindMember_16 : decode cX12_behindMember 16 = .ok (.aload_n 0, 1) := by decide +kernel
theorem dX12_behindMember_17 : decode cX12_behindMember 17 = .ok (.iload_n 1, 1) := by decide +kernel
theorem dX12_behindMember_18 : decode cX12_behindMember 18 = .ok (.invokevirtual 247, 3) := by decide +kernel
theorem dX12_behindMember_21 : decode cX12_behindMember 21 = .ok (.ireturn, 1) := by decide +kernel
theorem dX12_wrong_0 : decode cX12_wrong 0 = .ok (.aload_n 0, 1) := by decide +kernel
theorem dX12_wrong_1 : decode cX12_wrong 1 = .ok (.iload_n 1, 1) := by decide +kernel
theorem dX12_wrong_2 : decode cX12_wrong 2 = .ok (.putfield 33, 3) := by decide +kernel
theorem dX12_wrong_5 : decode cX12_wrong 5 = .ok (.iconst 0, 1) := by decide +kernel
theorem dX12_wrong_6 : decode cX12_wrong 6 = .ok (.ireturn, 1) := by decide +kernel
theorem dX12_classNames_0 : decode cX12_classNames 0 = .ok (.aload_n 1, 1) := by decide +kernel
theorem dX12_classNames_1 : decode cX12_classNames 1 = .ok (.iconst 0, 1) := by decide +kernel
theorem dX12_classNames_2 : decode cX12_classNames 2 = .ok (.putfield 231, 3) := by decide +kernel
theorem dX12_classNames_5 : decode cX12_classNames 5 = .ok (.iconst 0, 1) := by decide +kernel
theorem dX12_classNames_6 : decode cX12_classNames 6 = .ok (.istore_n 2, 1) := by decide +kernel
theorem dX12_classNames_7 : decode cX12_classNames 7 = .ok (.iload_n 2, 1) := by decide +kernel
theorem dX12_classNames_8 : decode cX12_classNames 8 = .ok (.bipush 8, 2) := by decide +kernel
theorem dX12_classNames_10 : decode cX12_classNames 10 = .ok (.if_icmp .ge 33, 3) := by decide +kernel
theorem dX12_classNames_13 : decode cX12_classNames 13 = .ok (.aload_n 1, 1) := by decide +kernel
theorem dX12_classNames_14 : decode cX12_classNames 14 = .ok (.getfield 244, 3) := by decide +kernel
theorem dX12_classNames_17 : decode cX12_classNames 17 = .ok (.iload_n 2, 1) := by decide +kernel
theorem dX12_classNames_18 : decode cX12_classNames 18 = .ok (.iload_n 2, 1) := by decide +kernel
theorem dX12_classNames_19 : decode cX12_classNames 19 = .ok (.ifCond .ne 7, 3) := by decide +kernel
theorem dX12_classNames_22 : decode cX12_classNames 22 = .ok (.iconst (-1), 1) := by decide +kernel
theorem dX12_classNames_23 : decode cX12_classNames 23 = .ok (.goto 13, 3) := by decide +kernel
theorem dX12_classNames_26 : decode cX12_classNames 26 = .ok (.iload_n 2, 1) := by decide +kernel
theorem dX12_classNames_27 : decode cX12_classNames 27 = .ok (.iconst 1, 1) := by decide +kernel
theorem dX12_classNames_28 : decode cX12_classNames 28 = .ok (.if_icmp .ne 7, 3) := by decide +kernel
theorem dX12_classNames_31 : decode cX12_classNames 31 = .ok (.iconst 0, 1) := by decide +kernel
theorem dX12_classNames_32 : decode cX12_classNames 32 = .ok (.goto 4, 3) := by decide +kernel
theorem dX12_classNames_35 : decode cX12_classNames 35 = .ok (.iconst 1, 1) := by decide +kernel
theorem dX12_classNames_36 : decode cX12_classNames 36 = .ok (.iastore, 1) := by decide +kernel
theorem dX12_classNames_37 : decode cX12_classNames 37 = .ok (.iinc 2 1, 3) := by decide +kernel
theorem dX12_classNames_40 : decode cX12_classNames 40 = .ok (.goto (-33), 3) := by decide +kernel
theorem dX12_classNames_43 : decode cX12_classNames 43 = .ok (.iconst 0, 1) := by decide +kernel
theorem dX12_classNames_44 : decode cX12_classNames 44 = .ok (.istore_n 2, 1) := by decide +kernel
theorem dX12_classNames_45 : decode cX12_classNames 45 = .ok (.iload_n 2, 1) := by decide +kernel
theorem dX12_classNames_46 : decode cX12_classNames 46 = .ok (.aload_n 0, 1) := by decide +kernel
theorem dX12_classNames_47 : decode cX12_classNames 47 = .ok (.getfield 118, 3) := by decide +kernel
theorem dX12_classNames_50 : decode cX12_classNames 50 = .ok (.if_icmp .ge 99, 3) := by decide +kernel
theorem dX12_classNames_53 : decode cX12_classNames 53 = .ok (.aload_n 0, 1) := by decide +kernel
theorem dX12_classNames_54 : decode cX12_classNames 54 = .ok (.aload_n 1, 1) := by decide +kernel
theorem dX12_classNames_55 : decode cX12_classNames 55 = .ok (.iload_n 2, 1) := by decide +kernel
theorem dX12_classNames_56 : decode cX12_classNames 56 = .ok (.iconst 1, 1) := by decide +kernel
theorem dX12_classNames_57 : decode cX12_classNames 57 = .ok (.iadd, 1) := by decide +kernel
theorem dX12_classNames_58 : decode cX12_classNames 58 = .ok (.invokevirtual 250, 3) := by decide +kernel
theorem dX12_classNames_61 : decode cX12_classNames 61 = .ok (.ifCond .ge 12, 3) := by decide +kernel
theorem dX12_classNames_64 : decode cX12_classNames 64 = .ok (.aload_n 1, 1) := by decide +kernel
theorem dX12_classNames_65 : decode cX12_classNames 65 = .ok (.getfield 231, 3) := by decide +kernel
theorem dX12_classNames_68 : decode cX12_classNames 68 = .ok (.bipush 24, 2) := by decide +kernel
theorem dX12_classNames_70 : decode cX12_classNames 70 = .ok (.if_icmp .ne 11, 3) := by decide +kernel
theorem dX12_classNames_73 : decode cX12_classNames 73 = .ok (.aload_n 0, 1) := by decide +kernel
theorem dX12_classNames_74 : decode cX12_classNames 74 = .ok (.iload_n 2, 1) := by decide +kernel
theorem dX12_classNames_75 : decode cX12_classNames 75 = .ok (.iconst 1, 1) := by decide +kernel
theorem dX12_classNames_76 : decode cX12_classNames 76 = .ok (.iadd, 1) := by decide +kernel
theorem dX12_classNames_77 : decode cX12_classNames 77 = .ok (.invokevirtual 254, 3) := by decide +kernel
theorem dX12_classNames_80 : decode cX12_classNames 80 = .ok (.ireturn, 1) := by decide +kernel
theorem dX12_classNames_81 : decode cX12_classNames 81 = .ok (.aload_n 0, 1) := by decide +kernel
theorem dX12_classNames_82 : decode cX12_classNames 82 = .ok (.aload_n 1, 1) := by decide +kernel
theorem dX12_classNames_83 : decode cX12_classNames 83 = .ok (.iload_n 2, 1) := by decide +kernel
theorem dX12_classNames_84 : decode cX12_classNames 84 = .ok (.iconst 3, 1) := by decide +kernel
theorem dX12_classNames_85 : decode cX12_classNames 85 = .ok (.iadd, 1) := by decide +kernel
theorem dX12_classNames_86 : decode cX12_classNames 86 = .ok (.invokevirtual 250, 3) := by decide +kernel
theorem dX12_classNames_89 : decode cX12_classNames 89 = .ok (.istore_n 3, 1) := by decide +kernel
theorem dX12_classNames_90 : decode cX12_classNames 90 = .ok (.iload_n 3, 1) := by decide +kernel
theorem dX12_classNames_91 : decode cX12_classNames 91 = .ok (.ifCond .ge 11, 3) := by decide +kernel
theorem dX12_classNames_94 : decode cX12_classNames 94 = .ok (.aload_n 0, 1) := by decide +kernel
theorem dX12_classNames_95 : decode cX12_classNames 95 = .ok (.iload_n 2, 1) := by decide +kernel
theorem dX12_classNames_96 : decode cX12_classNames 96 = .ok (.iconst 3, 1) := by decide +kernel
theorem dX12_classNames_97 : decode cX12_classNames 97 = .ok (.iadd, 1) := by decide +kernel
theorem dX12_classNames_98 : decode cX12_classNames 98 = .ok (.invokevirtual 254, 3) := by decide +kernel
theorem dX12_classNames_101 : decode cX12_classNames 101 = .ok (.ireturn, 1) := by decide +kernel
theorem dX12_classNames_102 : decode cX12_classNames 102 = .ok (.aload_n 0, 1) := by decide +kernel
theorem dX12_classNames_103 : decode cX12_classNames 103 = .ok (.getfield 37, 3) := by decide +kernel
theorem dX12_classNames_106 : decode cX12_classNames 106 = .ok (.bipush 8, 2) := by decide +kernel
theorem dX12_classNames_108 : decode cX12_classNames 108 = .ok (.aload_n 1, 1) := by decide +kernel
theorem dX12_classNames_109 : decode cX12_classNames 109 = .ok (.getfield 231, 3) := by decide +kernel
theorem dX12_classNames_112 : decode cX12_classNames 112 = .ok (.iadd, 1) := by decide +kernel
theorem dX12_classNames_113 : decode cX12_classNames 113 = .ok (.iload_n 2, 1) := by decide +kernel
theorem dX12_classNames_114 : decode cX12_classNames 114 = .ok (.iconst 1, 1) := by decide +kernel
theorem dX12_classNames_115 : decode cX12_classNames 115 = .ok (.iadd, 1) := by decide +kernel
theorem dX12_classNames_116 : decode cX12_classNames 116 = .ok (.iastore, 1) := by decide +kernel
theorem dX12_classNames_117 : decode cX12_classNames 117 = .ok (.aload_n 1, 1) := by decide +kernel
theorem dX12_classNames_118 : decode cX12_classNames 118 = .ok (.getfield 244, 3) := by decide +kernel
theorem dX12_classNames_121 : decode cX12_classNames 121 = .ok (.bipush 8, 2) := by decide +kernel
theorem dX12_classNames_123 : decode cX12_classNames 123 = .ok (.aload_n 1, 1) := by decide +kernel
theorem dX12_classNames_124 : decode cX12_classNames 124 = .ok (.getfield 231, 3) := by decide +kernel
theorem dX12_classNames_127 : decode cX12_classNames 127 = .ok (.iadd, 1) := by decide +kernel
theorem dX12_classNames_128 : decode cX12_classNames 128 = .ok (.iload_n 3, 1) := by decide +kernel
theorem dX12_classNames_129 : decode cX12_classNames 129 = .ok (.iastore, 1) := by decide +kernel
theorem dX12_classNames_130 : decode cX12_classNames 130 = .ok (.aload_n 1, 1) := by decide +kernel
theorem dX12_classNames_131 : decode cX12_classNames 131 = .ok (.dup, 1) := by decide +kernel
theorem dX12_classNames_132 : decode cX12_classNames 132 = .ok (.getfield 231, 3) := by decide +kernel
theorem dX12_classNames_135 : decode cX12_classNames 135 = .ok (.iconst 1, 1) := by decide +kernel
theorem dX12_classNames_136 : decode cX12_classNames 136 = .ok (.iadd, 1) := by decide +kernel
theorem dX12_classNames_137 : decode cX12_classNames 137 = .ok (.putfield 231, 3) := by decide +kernel
theorem dX12_classNames_140 : decode cX12_classNames 140 = .ok (.aload_n 0, 1) := by decide +kernel
theorem dX12_classNames_141 : decode cX12_classNames 141 = .ok (.iload_n 2, 1) := by decide +kernel
theorem dX12_classNames_142 : decode cX12_classNames 142 = .ok (.invokevirtual 247, 3) := by decide +kernel
theorem dX12_classNames_145 : decode cX12_classNames 145 = .ok (.istore_n 2, 1) := by decide +kernel
theorem dX12_classNames_146 : decode cX12_classNames 146 = .ok (.goto (-101), 3) := by decide +kernel
theorem dX12_classNames_149 : decode cX12_classNames 149 = .ok (.iconst 1, 1) := by decide +kernel
theorem dX12_classNames_150 : decode cX12_classNames 150 = .ok (.ireturn, 1) := by decide +kernel
theorem dX12_fieldOf_0 : decode cX12_fieldOf 0 = .ok (.iconst 0, 1) := by decide +kernel
theorem dX12_fieldOf_1 : decode cX12_fieldOf 1 = .ok (.istore 5, 2) := by decide +kernel
theorem dX12_fieldOf_3 : decode cX12_fieldOf 3 = .ok (.iload 5, 2) := by decide +kernel
theorem dX12_fieldOf_5 : decode cX12_fieldOf 5 = .ok (.aload_n 1, 1) := by decide +kernel
theorem dX12_fieldOf_6 : decode cX12_fieldOf 6 = .ok (.getfield 257, 3) := by decide +kernel
theorem dX12_fieldOf_9 : decode cX12_fieldOf 9 = .ok (.if_icmp .ge 61, 3) := by decide +kernel
theorem dX12_fieldOf_12 : decode cX12_fieldOf 12 = .ok (.aload_n 1, 1) := by decide +kernel
theorem dX12_fieldOf_13 : decode cX12_fieldOf 13 = .ok (.iload_n 2, 1) := by decide +kernel
theorem dX12_fieldOf_14 : decode cX12_fieldOf 14 = .ok (.aload_n 1, 1) := by decide +kernel
theorem dX12_fieldOf_15 : decode cX12_fieldOf 15 = .ok (.getfield 260, 3) := by decide +kernel
theorem dX12_fieldOf_18 : decode cX12_fieldOf 18 = .ok (.iload 5, 2) := by decide +kernel
theorem dX12_fieldOf_20 : decode cX12_fieldOf 20 = .ok (.iaload, 1) := by decide +kernel
theorem dX12_fieldOf_21 : decode cX12_fieldOf 21 = .ok (.invokestatic 263, 3) := by decide +kernel
theorem dX12_fieldOf_24 : decode cX12_fieldOf 24 = .ok (.ifCond .eq 40, 3) := by decide +kernel
theorem dX12_fieldOf_27 : decode cX12_fieldOf 27 = .ok (.aload_n 0, 1) := by decide +kernel
theorem dX12_fieldOf_28 : decode cX12_fieldOf 28 = .ok (.iload_n 3, 1) := by decide +kernel
theorem dX12_fieldOf_29 : decode cX12_fieldOf 29 = .ok (.iload 4, 2) := by decide +kernel
theorem dX12_fieldOf_31 : decode cX12_fieldOf 31 = .ok (.aload_n 0, 1) := by decide +kernel
theorem dX12_fieldOf_32 : decode cX12_fieldOf 32 = .ok (.getfield 26, 3) := by decide +kernel
theorem dX12_fieldOf_35 : decode cX12_fieldOf 35 = .ok (.aload_n 0, 1) := by decide +kernel
theorem dX12_fieldOf_36 : decode cX12_fieldOf 36 = .ok (.getfield 40, 3) := by decide +kernel
theorem dX12_fieldOf_39 : decode cX12_fieldOf 39 = .ok (.iload 5, 2) := by decide +kernel
theorem dX12_fieldOf_41 : decode cX12_fieldOf 41 = .ok (.iaload, 1) := by decide +kernel
theorem dX12_fieldOf_42 : decode cX12_fieldOf 42 = .ok (.iaload, 1) := by decide +kernel
theorem dX12_fieldOf_43 : decode cX12_fieldOf 43 = .ok (.aload_n 0, 1) := by decide +kernel
theorem dX12_fieldOf_44 : decode cX12_fieldOf 44 = .ok (.getfield 30, 3) := by decide +kernel
theorem dX12_fieldOf_47 : decode cX12_fieldOf 47 = .ok (.aload_n 0, 1) := by decide +kernel
theorem dX12_fieldOf_48 : decode cX12_fieldOf 48 = .ok (.getfield 40, 3) := by decide +kernel
theorem dX12_fieldOf_51 : decode cX12_fieldOf 51 = .ok (.iload 5, 2) := by decide +kernel
theorem dX12_fieldOf_53 : decode cX12_fieldOf 53 = .ok (.iaload, 1) := by decide +kernel
theorem dX12_fieldOf_54 : decode cX12_fieldOf 54 = .ok (.iaload, 1) := by decide +kernel
theorem dX12_fieldOf_55 : decode cX12_fieldOf 55 = .ok (.invokevirtual 131, 3) := by decide +kernel
theorem dX12_fieldOf_58 : decode cX12_fieldOf 58 = .ok (.ifCond .eq 6, 3) := by decide +kernel
theorem dX12_fieldOf_61 : decode cX12_fieldOf 61 = .ok (.iload 5, 2) := by decide +kernel
theorem dX12_fieldOf_63 : decode cX12_fieldOf 63 = .ok (.ireturn, 1) := by decide +kernel
theorem dX12_fieldOf_64 : decode cX12_fieldOf 64 = .ok (.iinc 5 1, 3) := by decide +kernel
theorem dX12_fieldOf_67 : decode cX12_fieldOf 67 = .ok (.goto (-64), 3) := by decide +kernel
theorem dX12_fieldOf_70 : decode cX12_fieldOf 70 = .ok (.iconst (-1), 1) := by decide +kernel
theorem dX12_fieldOf_71 : decode cX12_fieldOf 71 = .ok (.ireturn, 1) := by decide +kernel
theorem dX12_bodyOf_0 : decode cX12_bodyOf 0 = .ok (.iload_n 2, 1) := by decide +kernel
theorem dX12_bodyOf_1 : decode cX12_bodyOf 1 = .ok (.istore 5, 2) := by decide +kernel
theorem dX12_bodyOf_3 : decode cX12_bodyOf 3 = .ok (.iload 5, 2) := by decide +kernel
theorem dX12_bodyOf_5 : decode cX12_bodyOf 5 = .ok (.ifCond .lt 82, 3) := by decide +kernel
theorem dX12_bodyOf_8 : decode cX12_bodyOf 8 = .ok (.iconst 0, 1) := by decide +kernel
theorem dX12_bodyOf_9 : decode cX12_bodyOf 9 = .ok (.istore 6, 2) := by decide +kernel
theorem dX12_bodyOf_11 : decode cX12_bodyOf 11 = .ok (.iload 6, 2) := by decide +kernel
theorem dX12_bodyOf_13 : decode cX12_bodyOf 13 = .ok (.aload_n 1, 1) := by decide +kernel
theorem dX12_bodyOf_14 : decode cX12_bodyOf 14 = .ok (.getfield 267, 3) := by decide +kernel
theorem dX12_bodyOf_17 : decode cX12_bodyOf 17 = .ok (.if_icmp .ge 58, 3) := by decide +kernel
theorem dX12_bodyOf_20 : decode cX12_bodyOf 20 = .ok (.aload_n 1, 1) := by decide +kernel
theorem dX12_bodyOf_21 : decode cX12_bodyOf 21 = .ok (.getfield 270, 3) := by decide +kernel
theorem dX12_bodyOf_24 : decode cX12_bodyOf 24 = .ok (.iload 6, 2) := by decide +kernel
theorem dX12_bodyOf_26 : decode cX12_bodyOf 26 = .ok (.iaload, 1) := by decide +kernel
theorem dX12_bodyOf_27 : decode cX12_bodyOf 27 = .ok (.iload 5, 2) := by decide +kernel
theorem dX12_bodyOf_29 : decode cX12_bodyOf 29 = .ok (.if_icmp .ne 40, 3) := by decide +kernel
theorem dX12_bodyOf_32 : decode cX12_bodyOf 32 = .ok (.aload_n 0, 1) := by decide +kernel
theorem dX12_bodyOf_33 : decode cX12_bodyOf 33 = .ok (.iload_n 3, 1) := by decide +kernel
theorem dX12_bodyOf_34 : decode cX12_bodyOf 34 = .ok (.iload 4, 2) := by decide +kernel
theorem dX12_bodyOf_36 : decode cX12_bodyOf 36 = .ok (.aload_n 0, 1) := by decide +kernel
theorem dX12_bodyOf_37 : decode cX12_bodyOf 37 = .ok (.getfield 26, 3) := by decide +kernel
theorem dX12_bodyOf_40 : decode cX12_bodyOf 40 = .ok (.aload_n 0, 1) := by decide +kernel
theorem dX12_bodyOf_41 : decode cX12_bodyOf 41 = .ok (.getfield 43, 3) := by decide +kernel
theorem dX12_bodyOf_44 : decode cX12_bodyOf 44 = .ok (.iload 6, 2) := by decide +kernel
theorem dX12_bodyOf_46 : decode cX12_bodyOf 46 = .ok (.iaload, 1) := by decide +kernel
theorem dX12_bodyOf_47 : decode cX12_bodyOf 47 = .ok (.iaload, 1) := by decide +kernel
theorem dX12_bodyOf_48 : decode cX12_bodyOf 48 = .ok (.aload_n 0, 1) := by decide +kernel
theorem dX12_bodyOf_49 : decode cX12_bodyOf 49 = .ok (.getfield 30, 3) := by decide +kernel
theorem dX12_bodyOf_52 : decode cX12_bodyOf 52 = .ok (.aload_n 0, 1) := by decide +kernel
theorem dX12_bodyOf_53 : decode cX12_bodyOf 53 = .ok (.getfield 43, 3) := by decide +kernel
theorem dX12_bodyOf_56 : decode cX12_bodyOf 56 = .ok (.iload 6, 2) := by decide +kernel
theorem dX12_bodyOf_58 : decode cX12_bodyOf 58 = .ok (.iaload, 1) := by decide +kernel
theorem dX12_bodyOf_59 : decode cX12_bodyOf 59 = .ok (.iaload, 1) := by decide +kernel
theorem dX12_bodyOf_60 : decode cX12_bodyOf 60 = .ok (.invokevirtual 131, 3) := by decide +kernel
theorem dX12_bodyOf_63 : decode cX12_bodyOf 63 = .ok (.ifCond .eq 6, 3) := by decide +kernel
theorem dX12_bodyOf_66 : decode cX12_bodyOf 66 = .ok (.iload 6, 2) := by decide +kernel
theorem dX12_bodyOf_68 : decode cX12_bodyOf 68 = .ok (.ireturn, 1) := by decide +kernel
theorem dX12_bodyOf_69 : decode cX12_bodyOf 69 = .ok (.iinc 6 1, 3) := by decide +kernel
theorem dX12_bodyOf_72 : decode cX12_bodyOf 72 = .ok (.goto (-61), 3) := by decide +kernel
theorem dX12_bodyOf_75 : decode cX12_bodyOf 75 = .ok (.aload_n 1, 1) := by decide +kernel
theorem dX12_bodyOf_76 : decode cX12_bodyOf 76 = .ok (.getfield 244, 3) := by decide +kernel
theorem dX12_bodyOf_79 : decode cX12_bodyOf 79 = .ok (.iload 5, 2) := by decide +kernel
theorem dX12_bodyOf_81 : decode cX12_bodyOf 81 = .ok (.iaload, 1) := by decide +kernel
theorem dX12_bodyOf_82 : decode cX12_bodyOf 82 = .ok (.istore 5, 2) := by decide +kernel
theorem dX12_bodyOf_84 : decode cX12_bodyOf 84 = .ok (.goto (-81), 3) := by decide +kernel
theorem dX12_bodyOf_87 : decode cX12_bodyOf 87 = .ok (.iconst (-1), 1) := by decide +kernel
theorem dX12_bodyOf_88 : decode cX12_bodyOf 88 = .ok (.ireturn, 1) := by decide +kernel
theorem dX12_members_0 : decode cX12_members 0 = .ok (.aload_n 1, 1) := by decide +kernel
theorem dX12_members_1 : decode cX12_members 1 = .ok (.iconst 0, 1) := by decide +kernel
theorem dX12_members_2 : decode cX12_members 2 = .ok (.putfield 257, 3) := by decide +kernel
theorem dX12_members_5 : decode cX12_members 5 = .ok (.aload_n 1, 1) := by decide +kernel
theorem dX12_members_6 : decode cX12_members 6 = .ok (.iconst 0, 1) := by decide +kernel
theorem dX12_members_7 : decode cX12_members 7 = .ok (.putfield 267, 3) := by decide +kernel
theorem dX12_members_10 : decode cX12_members 10 = .ok (.iconst 0, 1) := by decide +kernel
theorem dX12_members_11 : decode cX12_members 11 = .ok (.istore_n 2, 1) := by decide +kernel
theorem dX12_members_12 : decode cX12_members 12 = .ok (.bipush 8, 2) := by decide +kernel
theorem dX12_members_14 : decode cX12_members 14 = .ok (.istore_n 3, 1) := by decide +kernel
theorem dX12_members_15 : decode cX12_members 15 = .ok (.iload_n 3, 1) := by decide +kernel
theorem dX12_members_16 : decode cX12_members 16 = .ok (.aload_n 0, 1) := by decide +kernel
theorem dX12_members_17 : decode cX12_members 17 = .ok (.aload_n 1, 1) := by decide +kernel
theorem dX12_members_18 : decode cX12_members 18 = .ok (.invokevirtual 236, 3) := by decide +kernel
theorem dX12_members_21 : decode cX12_members 21 = .ok (.if_icmp .ge 72, 3) := by decide +kernel
theorem dX12_members_24 : decode cX12_members 24 = .ok (.aload_n 0, 1) := by decide +kernel
theorem dX12_members_25 : decode cX12_members 25 = .ok (.getfield 37, 3) := by decide +kernel
theorem dX12_members_28 : decode cX12_members 28 = .ok (.iload_n 3, 1) := by decide +kernel
theorem dX12_members_29 : decode cX12_members 29 = .ok (.iaload, 1) := by decide +kernel
theorem dX12_members_30 : decode cX12_members 30 = .ok (.iconst 4, 1) := by decide +kernel
theorem dX12_members_31 : decode cX12_members 31 = .ok (.iadd, 1) := by decide +kernel
theorem dX12_members_32 : decode cX12_members 32 = .ok (.istore_n 2, 1) := by decide +kernel
theorem dX12_members_33 : decode cX12_members 33 = .ok (.aload_n 0, 1) := by decide +kernel
theorem dX12_members_34 : decode cX12_members 34 = .ok (.iload_n 2, 1) := by decide +kernel
theorem dX12_members_35 : decode cX12_members 35 = .ok (.ldc 178, 2) := by decide +kernel
theorem dX12_members_37 : decode cX12_members 37 = .ok (.invokevirtual 163, 3) := by decide +kernel
theorem dX12_members_40 : decode cX12_members 40 = .ok (.ifCond .ne 47, 3) := by decide +kernel
theorem dX12_members_43 : decode cX12_members 43 = .ok (.aload_n 0, 1) := by decide +kernel
theorem dX12_members_44 : decode cX12_members 44 = .ok (.iload_n 2, 1) := by decide +kernel
theorem dX12_members_45 : decode cX12_members 45 = .ok (.ldc 184, 2) := by decide +kernel
theorem dX12_members_47 : decode cX12_members 47 = .ok (.invokevirtual 163, 3) := by decide +kernel
theorem dX12_members_50 : decode cX12_members 50 = .ok (.ifCond .eq 16, 3) := by decide +kernel
theorem dX12_members_53 : decode cX12_members 53 = .ok (.aload_n 0, 1) := by decide +kernel
theorem dX12_members_54 : decode cX12_members 54 = .ok (.aload_n 1, 1) := by decide +kernel
theorem dX12_members_55 : decode cX12_members 55 = .ok (.iload_n 3, 1) := by decide +kernel
theorem dX12_members_56 : decode cX12_members 56 = .ok (.iload_n 2, 1) := by decide +kernel
theorem dX12_members_57 : decode cX12_members 57 = .ok (.invokevirtual 273, 3) := by decide +kernel
theorem dX12_members_60 : decode cX12_members 60 = .ok (.ifCond .ne 18, 3) := by decide +kernel
theorem dX12_members_63 : decode cX12_members 63 = .ok (.goto 13, 3) := by decide +kernel
theorem dX12_members_66 : decode cX12_members 66 = .ok (.aload_n 0, 1) := by decide +kernel
theorem dX12_members_67 : decode cX12_members 67 = .ok (.aload_n 1, 1) := by decide +kernel
theorem dX12_members_68 : decode cX12_members 68 = .ok (.iload_n 3, 1) := by decide +kernel
theorem dX12_members_69 : decode cX12_members 69 = .ok (.iload_n 2, 1) := by decide +kernel
theorem dX12_members_70 : decode cX12_members 70 = .ok (.invokevirtual 275, 3) := by decide +kernel
theorem dX12_members_73 : decode cX12_members 73 = .ok (.ifCond .ne 5, 3) := by decide +kernel
theorem dX12_members_76 : decode cX12_members 76 = .ok (.iconst 0, 1) := by decide +kernel
theorem dX12_members_77 : decode cX12_members 77 = .ok (.ireturn, 1) := by decide +kernel
theorem dX12_members_78 : decode cX12_members 78 = .ok (.aload_n 0, 1) := by decide +kernel
theorem dX12_members_79 : decode cX12_members 79 = .ok (.iload_n 2, 1) := by decide +kernel
theorem dX12_members_80 : decode cX12_members 80 = .ok (.invokevirtual 278, 3) := by decide +kernel
theorem dX12_members_83 : decode cX12_members 83 = .ok (.istore_n 2, 1) := by decide +kernel
theorem dX12_members_84 : decode cX12_members 84 = .ok (.goto (-51), 3) := by decide +kernel
theorem dX12_members_87 : decode cX12_members 87 = .ok (.iinc 3 1, 3) := by decide +kernel
theorem dX12_members_90 : decode cX12_members 90 = .ok (.goto (-75), 3) := by decide +kernel
theorem dX12_members_93 : decode cX12_members 93 = .ok (.iconst 1, 1) := by decide +kernel
theorem dX12_members_94 : decode cX12_members 94 = .ok (.ireturn, 1) := by decide +kernel
theorem dX12_field_0 : decode cX12_field 0 = .ok (.aload_n 1, 1) := by decide +kernel
theorem dX12_field_1 : decode cX12_field 1 = .ok (.getfield 257, 3) := by decide +kernel
theorem dX12_field_4 : decode cX12_field 4 = .ok (.bipush 48, 2) := by decide +kernel
theorem dX12_field_6 : decode cX12_field 6 = .ok (.if_icmp .eq 28, 3) := by decide +kernel
theorem dX12_field_9 : decode cX12_field 9 = .ok (.aload_n 0, 1) := by decide +kernel
theorem dX12_field_10 : decode cX12_field 10 = .ok (.aload_n 1, 1) := by decide +kernel
theorem dX12_field_11 : decode cX12_field 11 = .ok (.iload_n 2, 1) := by decide +kernel
theorem dX12_field_12 : decode cX12_field 12 = .ok (.aload_n 0, 1) := by decide +kernel
theorem dX12_field_13 : decode cX12_field 13 = .ok (.getfield 26, 3) := by decide +kernel
theorem dX12_field_16 : decode cX12_field 16 = .ok (.iload_n 3, 1) := by decide +kernel
theorem dX12_field_17 : decode cX12_field 17 = .ok (.iconst 1, 1) := by decide +kernel
theorem dX12_field_18 : decode cX12_field 18 = .ok (.iadd, 1) := by decide +kernel
theorem dX12_field_19 : decode cX12_field 19 = .ok (.iaload, 1) := by decide +kernel
theorem dX12_field_20 : decode cX12_field 20 = .ok (.aload_n 0, 1) := by decide +kernel
theorem dX12_field_21 : decode cX12_field 21 = .ok (.getfield 30, 3) := by decide +kernel
theorem dX12_field_24 : decode cX12_field 24 = .ok (.iload_n 3, 1) := by decide +kernel
theorem dX12_field_25 : decode cX12_field 25 = .ok (.iconst 1, 1) := by decide +kernel
theorem dX12_field_26 : decode cX12_field 26 = .ok (.iadd, 1) := by decide +kernel
theorem dX12_field_27 : decode cX12_field 27 = .ok (.iaload, 1) := by decide +kernel
theorem dX12_field_28 : decode cX12_field 28 = .ok (.invokevirtual 281, 3) := by decide +kernel
theorem dX12_field_31 : decode cX12_field 31 = .ok (.ifCond .lt 11, 3) := by decide +kernel
theorem dX12_field_34 : decode cX12_field 34 = .ok (.aload_n 0, 1) := by decide +kernel
theorem dX12_field_35 : decode cX12_field 35 = .ok (.iload_n 3, 1) := by decide +kernel
theorem dX12_field_36 : decode cX12_field 36 = .ok (.iconst 1, 1) := by decide +kernel
theorem dX12_field_37 : decode cX12_field 37 = .ok (.iadd, 1) := by decide +kernel
theorem dX12_field_38 : decode cX12_field 38 = .ok (.invokevirtual 254, 3) := by decide +kernel
theorem dX12_field_41 : decode cX12_field 41 = .ok (.ireturn, 1) := by decide +kernel
theorem dX12_field_42 : decode cX12_field 42 = .ok (.aload_n 0, 1) := by decide +kernel
theorem dX12_field_43 : decode cX12_field 43 = .ok (.aload_n 1, 1) := by decide +kernel
theorem dX12_field_44 : decode cX12_field 44 = .ok (.iload_n 3, 1) := by decide +kernel
theorem dX12_field_45 : decode cX12_field 45 = .ok (.iconst 2, 1) := by decide +kernel
theorem dX12_field_46 : decode cX12_field 46 = .ok (.iadd, 1) := by decide +kernel
theorem dX12_field_47 : decode cX12_field 47 = .ok (.invokevirtual 285, 3) := by decide +kernel
theorem dX12_field_50 : decode cX12_field 50 = .ok (.istore 4, 2) := by decide +kernel
theorem dX12_field_52 : decode cX12_field 52 = .ok (.iload 4, 2) := by decide +kernel
theorem dX12_field_54 : decode cX12_field 54 = .ok (.ifCond .ge 11, 3) := by decide +kernel
theorem dX12_field_57 : decode cX12_field 57 = .ok (.aload_n 0, 1) := by decide +kernel
theorem dX12_field_58 : decode cX12_field 58 = .ok (.iload_n 3, 1) := by decide +kernel
theorem dX12_field_59 : decode cX12_field 59 = .ok (.iconst 2, 1) := by decide +kernel
theorem dX12_field_60 : decode cX12_field 60 = .ok (.iadd, 1) := by decide +kernel
theorem dX12_field_61 : decode cX12_field 61 = .ok (.invokevirtual 254, 3) := by decide +kernel
theorem dX12_field_64 : decode cX12_field 64 = .ok (.ireturn, 1) := by decide +kernel
theorem dX12_field_65 : decode cX12_field 65 = .ok (.aload_n 0, 1) := by decide +kernel
theorem dX12_field_66 : decode cX12_field 66 = .ok (.getfield 40, 3) := by decide +kernel
theorem dX12_field_69 : decode cX12_field 69 = .ok (.aload_n 1, 1) := by decide +kernel
theorem dX12_field_70 : decode cX12_field 70 = .ok (.getfield 257, 3) := by decide +kernel
theorem dX12_field_73 : decode cX12_field 73 = .ok (.iload_n 3, 1) := by decide +kernel
theorem dX12_field_74 : decode cX12_field 74 = .ok (.iconst 1, 1) := by decide +kernel
theorem dX12_field_75 : decode cX12_field 75 = .ok (.iadd, 1) := by decide +kernel
theorem dX12_field_76 : decode cX12_field 76 = .ok (.iastore, 1) := by decide +kernel
theorem dX12_field_77 : decode cX12_field 77 = .ok (.aload_n 1, 1) := by decide +kernel
theorem dX12_field_78 : decode cX12_field 78 = .ok (.getfield 260, 3) := by decide +kernel
theorem dX12_field_81 : decode cX12_field 81 = .ok (.aload_n 1, 1) := by decide +kernel
theorem dX12_field_82 : decode cX12_field 82 = .ok (.getfield 257, 3) := by decide +kernel
theorem dX12_field_85 : decode cX12_field 85 = .ok (.iload_n 2, 1) := by decide +kernel
theorem dX12_field_86 : decode cX12_field 86 = .ok (.iastore, 1) := by decide +kernel
theorem dX12_field_87 : decode cX12_field 87 = .ok (.aload_n 1, 1) := by decide +kernel
theorem dX12_field_88 : decode cX12_field 88 = .ok (.getfield 288, 3) := by decide +kernel
theorem dX12_field_91 : decode cX12_field 91 = .ok (.aload_n 1, 1) := by decide +kernel
theorem dX12_field_92 : decode cX12_field 92 = .ok (.getfield 257, 3) := by decide +kernel
theorem dX12_field_95 : decode cX12_field 95 = .ok (.iload 4, 2) := by decide +kernel
theorem dX12_field_97 : decode cX12_field 97 = .ok (.iastore, 1) := by decide +kernel
theorem dX12_field_98 : decode cX12_field 98 = .ok (.aload_n 1, 1) := by decide +kernel
theorem dX12_field_99 : decode cX12_field 99 = .ok (.dup, 1) := by decide +kernel
theorem dX12_field_100 : decode cX12_field 100 = .ok (.getfield 257, 3) := by decide +kernel
theorem dX12_field_103 : decode cX12_field 103 = .ok (.iconst 1, 1) := by decide +kernel
theorem dX12_field_104 : decode cX12_field 104 = .ok (.iadd, 1) := by decide +kernel
theorem dX12_field_105 : decode cX12_field 105 = .ok (.putfield 257, 3) := by decide +kernel
theorem dX12_field_108 : decode cX12_field 108 = .ok (.iconst 1, 1) := by decide +kernel
theorem dX12_field_109 : decode cX12_field 109 = .ok (.ireturn, 1) := by decide +kernel
theorem dX12_isSameRow_0 : decode cX12_isSameRow 0 = .ok (.iconst 0, 1) := by decide +kernel
theorem dX12_isSameRow_1 : decode cX12_isSameRow 1 = .ok (.istore_n 3, 1) := by decide +kernel
theorem dX12_isSameRow_2 : decode cX12_isSameRow 2 = .ok (.aload_n 0, 1) := by decide +kernel
theorem dX12_isSameRow_3 : decode cX12_isSameRow 3 = .ok (.iload_n 1, 1) := by decide +kernel
theorem dX12_isSameRow_4 : decode cX12_isSameRow 4 = .ok (.iload_n 3, 1) := by decide +kernel
theorem dX12_isSameRow_5 : decode cX12_isSameRow 5 = .ok (.iadd, 1) := by decide +kernel
theorem dX12_isSameRow_6 : decode cX12_isSameRow 6 = .ok (.ldc 198, 2) := by decide +kernel
theorem dX12_isSameRow_8 : decode cX12_isSameRow 8 = .ok (.invokevirtual 163, 3) := by decide +kernel
theorem dX12_isSameRow_11 : decode cX12_isSameRow 11 = .ok (.ifCond .ne 36, 3) := by decide +kernel
theorem dX12_isSameRow_14 : decode cX12_isSameRow 14 = .ok (.aload_n 0, 1) := by decide +kernel
theorem dX12_isSameRow_15 : decode cX12_isSameRow 15 = .ok (.iload_n 2, 1) := by decide +kernel
theorem dX12_isSameRow_16 : decode cX12_isSameRow 16 = .ok (.iload_n 3, 1) := by decide +kernel
theorem dX12_isSameRow_17 : decode cX12_isSameRow 17 = .ok (.iadd, 1) := by decide +kernel
theorem dX12_isSameRow_18 : decode cX12_isSameRow 18 = .ok (.ldc 198, 2) := by decide +kernel
theorem dX12_isSameRow_20 : decode cX12_isSameRow 20 = .ok (.invokevirtual 163, 3) := by decide +kernel
theorem dX12_isSameRow_23 : decode cX12_isSameRow 23 = .ok (.ifCond .ne 24, 3) := by decide +kernel
theorem dX12_isSameRow_26 : decode cX12_isSameRow 26 = .ok (.aload_n 0, 1) := by decide +kernel
theorem dX12_isSameRow_27 : decode cX12_isSameRow 27 = .ok (.iload_n 1, 1) := by decide +kernel
theorem dX12_isSameRow_28 : decode cX12_isSameRow 28 = .ok (.iload_n 3, 1) := by decide +kernel
theorem dX12_isSameRow_29 : decode cX12_isSameRow 29 = .ok (.iadd, 1) := by decide +kernel
theorem dX12_isSameRow_30 : decode cX12_isSameRow 30 = .ok (.iload_n 2, 1) := by decide +kernel
theorem dX12_isSameRow_31 : decode cX12_isSameRow 31 = .ok (.iload_n 3, 1) := by decide +kernel
theorem dX12_isSameRow_32 : decode cX12_isSameRow 32 = .ok (.iadd, 1) := by decide +kernel
theorem dX12_isSameRow_33 : decode cX12_isSameRow 33 = .ok (.invokevirtual 291, 3) := by decide +kernel
theorem dX12_isSameRow_36 : decode cX12_isSameRow 36 = .ok (.ifCond .ne 5, 3) := by decide +kernel
theorem dX12_isSameRow_39 : decode cX12_isSameRow 39 = .ok (.iconst 0, 1) := by decide +kernel
theorem dX12_isSameRow_40 : decode cX12_isSameRow 40 = .ok (.ireturn, 1) := by decide +kernel
theorem dX12_isSameRow_41 : decode cX12_isSameRow 41 = .ok (.iinc 3 1, 3) := by decide +kernel
theorem dX12_isSameRow_44 : decode cX12_isSameRow 44 = .ok (.goto (-42), 3) := by decide +kernel
theorem dX12_isSameRow_47 : decode cX12_isSameRow 47 = .ok (.aload_n 0, 1) := by decide +kernel
theorem dX12_isSameRow_48 : decode cX12_isSameRow 48 = .ok (.iload_n 1, 1) := by decide +kernel
theorem dX12_isSameRow_49 : decode cX12_isSameRow 49 = .ok (.iload_n 3, 1) := by decide +kernel
theorem dX12_isSameRow_50 : decode cX12_isSameRow 50 = .ok (.iadd, 1) := by decide +kernel
theorem dX12_isSameRow_51 : decode cX12_isSameRow 51 = .ok (.ldc 198, 2) := by decide +kernel
theorem dX12_isSameRow_53 : decode cX12_isSameRow 53 = .ok (.invokevirtual 163, 3) := by decide +kernel
theorem dX12_isSameRow_56 : decode cX12_isSameRow 56 = .ok (.ifCond .eq 36, 3) := by decide +kernel
theorem dX12_isSameRow_59 : decode cX12_isSameRow 59 = .ok (.aload_n 0, 1) := by decide +kernel
theorem dX12_isSameRow_60 : decode cX12_isSameRow 60 = .ok (.iload_n 2, 1) := by decide +kernel
theorem dX12_isSameRow_61 : decode cX12_isSameRow 61 = .ok (.iload_n 3, 1) := by decide +kernel
theorem dX12_isSameRow_62 : decode cX12_isSameRow 62 = .ok (.iadd, 1) := by decide +kernel
theorem dX12_isSameRow_63 : decode cX12_isSameRow 63 = .ok (.ldc 198, 2) := by decide +kernel
theorem dX12_isSameRow_65 : decode cX12_isSameRow 65 = .ok (.invokevirtual 163, 3) := by decide +kernel
theorem dX12_isSameRow_68 : decode cX12_isSameRow 68 = .ok (.ifCond .eq 24, 3) := by decide +kernel
theorem dX12_isSameRow_71 : decode cX12_isSameRow 71 = .ok (.aload_n 0, 1) := by decide +kernel
theorem dX12_isSameRow_72 : decode cX12_isSameRow 72 = .ok (.iload_n 1, 1) := by decide +kernel
theorem dX12_isSameRow_73 : decode cX12_isSameRow 73 = .ok (.iload_n 3, 1) := by decide +kernel
theorem dX12_isSameRow_74 : decode cX12_isSameRow 74 = .ok (.iadd, 1) := by decide +kernel
theorem dX12_isSameRow_75 : decode cX12_isSameRow 75 = .ok (.iconst 1, 1) := by decide +kernel
theorem dX12_isSameRow_76 : decode cX12_isSameRow 76 = .ok (.iadd, 1) := by decide +kernel
theorem dX12_isSameRow_77 : decode cX12_isSameRow 77 = .ok (.iload_n 2, 1) := by decide +kernel
theorem dX12_isSameRow_78 : decode cX12_isSameRow 78 = .ok (.iload_n 3, 1) := by decide +kernel
theorem dX12_isSameRow_79 : decode cX12_isSameRow 79 = .ok (.iadd, 1) := by decide +kernel
theorem dX12_isSameRow_80 : decode cX12_isSameRow 80 = .ok (.iconst 1, 1) := by decide +kernel
theorem dX12_isSameRow_81 : decode cX12_isSameRow 81 = .ok (.iadd, 1) := by decide +kernel
theorem dX12_isSameRow_82 : decode cX12_isSameRow 82 = .ok (.invokevirtual 291, 3) := by decide +kernel
theorem dX12_isSameRow_85 : decode cX12_isSameRow 85 = .ok (.ifCond .eq 7, 3) := by decide +kernel
theorem dX12_isSameRow_88 : decode cX12_isSameRow 88 = .ok (.iconst 1, 1) := by decide +kernel
theorem dX12_isSameRow_89 : decode cX12_isSameRow 89 = .ok (.goto 4, 3) := by decide +kernel
theorem dX12_isSameRow_92 : decode cX12_isSameRow 92 = .ok (.iconst 0, 1) := by decide +kernel
theorem dX12_isSameRow_93 : decode cX12_isSameRow 93 = .ok (.ireturn, 1) := by decide +kernel
theorem dX12_body_0 : decode cX12_body 0 = .ok (.aload_n 0, 1) := by decide +kernel
theorem dX12_body_1 : decode cX12_body 1 = .ok (.iload_n 3, 1) := by decide +kernel
theorem dX12_body_2 : decode cX12_body 2 = .ok (.ldc 194, 2) := by decide +kernel
theorem dX12_body_4 : decode cX12_body 4 = .ok (.invokevirtual 163, 3) := by decide +kernel
theorem dX12_body_7 : decode cX12_body 7 = .ok (.istore 4, 2) := by decide +kernel
theorem dX12_body_9 : decode cX12_body 9 = .ok (.aload_n 0, 1) := by decide +kernel
theorem dX12_body_10 : decode cX12_body 10 = .ok (.aload_n 1, 1) := by decide +kernel
theorem dX12_body_11 : decode cX12_body 11 = .ok (.iload_n 2, 1) := by decide +kernel
theorem dX12_body_12 : decode cX12_body 12 = .ok (.aload_n 0, 1) := by decide +kernel
theorem dX12_body_13 : decode cX12_body 13 = .ok (.getfield 26, 3) := by decide +kernel
theorem dX12_body_16 : decode cX12_body 16 = .ok (.iload_n 3, 1) := by decide +kernel
theorem dX12_body_17 : decode cX12_body 17 = .ok (.iconst 1, 1) := by decide +kernel
theorem dX12_body_18 : decode cX12_body 18 = .ok (.iadd, 1) := by decide +kernel
theorem dX12_body_19 : decode cX12_body 19 = .ok (.iaload, 1) := by decide +kernel
theorem dX12_body_20 : decode cX12_body 20 = .ok (.aload_n 0, 1) := by decide +kernel
theorem dX12_body_21 : decode cX12_body 21 = .ok (.getfield 30, 3) := by decide +kernel
theorem dX12_body_24 : decode cX12_body 24 = .ok (.iload_n 3, 1) := by decide +kernel
theorem dX12_body_25 : decode cX12_body 25 = .ok (.iconst 1, 1) := by decide +kernel
theorem dX12_body_26 : decode cX12_body 26 = .ok (.iadd, 1) := by decide +kernel
theorem dX12_body_27 : decode cX12_body 27 = .ok (.iaload, 1) := by decide +kernel
theorem dX12_body_28 : decode cX12_body 28 = .ok (.invokevirtual 295, 3) := by decide +kernel
theorem dX12_body_31 : decode cX12_body 31 = .ok (.istore 5, 2) := by decide +kernel
theorem dX12_body_33 : decode cX12_body 33 = .ok (.iload 5, 2) := by decide +kernel
theorem dX12_body_35 : decode cX12_body 35 = .ok (.ifCond .lt 52, 3) := by decide +kernel
theorem dX12_body_38 : decode cX12_body 38 = .ok (.aload_n 1, 1) := by decide +kernel
theorem dX12_body_39 : decode cX12_body 39 = .ok (.getfield 270, 3) := by decide +kernel
theorem dX12_body_42 : decode cX12_body 42 = .ok (.iload 5, 2) := by decide +kernel
theorem dX12_body_44 : decode cX12_body 44 = .ok (.iaload, 1) := by decide +kernel
theorem dX12_body_45 : decode cX12_body 45 = .ok (.iload_n 2, 1) := by decide +kernel
theorem dX12_body_46 : decode cX12_body 46 = .ok (.if_icmp .eq 41, 3) := by decide +kernel
theorem dX12_body_49 : decode cX12_body 49 = .ok (.iload 4, 2) := by decide +kernel
theorem dX12_body_51 : decode cX12_body 51 = .ok (.ifCond .eq 36, 3) := by decide +kernel
theorem dX12_body_54 : decode cX12_body 54 = .ok (.aload_n 1, 1) := by decide +kernel
theorem dX12_body_55 : decode cX12_body 55 = .ok (.getfield 298, 3) := by decide +kernel
theorem dX12_body_58 : decode cX12_body 58 = .ok (.iload 5, 2) := by decide +kernel
theorem dX12_body_60 : decode cX12_body 60 = .ok (.baload, 1) := by decide +kernel
theorem dX12_body_61 : decode cX12_body 61 = .ok (.ifCond .eq 26, 3) := by decide +kernel
theorem dX12_body_64 : decode cX12_body 64 = .ok (.aload_n 0, 1) := by decide +kernel
theorem dX12_body_65 : decode cX12_body 65 = .ok (.iload_n 3, 1) := by decide +kernel
theorem dX12_body_66 : decode cX12_body 66 = .ok (.iconst 2, 1) := by decide +kernel
theorem dX12_body_67 : decode cX12_body 67 = .ok (.iadd, 1) := by decide +kernel
theorem dX12_body_68 : decode cX12_body 68 = .ok (.aload_n 0, 1) := by decide +kernel
theorem dX12_body_69 : decode cX12_body 69 = .ok (.getfield 43, 3) := by decide +kernel
theorem dX12_body_72 : decode cX12_body 72 = .ok (.iload 5, 2) := by decide +kernel
theorem dX12_body_74 : decode cX12_body 74 = .ok (.iaload, 1) := by decide +kernel
theorem dX12_body_75 : decode cX12_body 75 = .ok (.iconst 1, 1) := by decide +kernel
theorem dX12_body_76 : decode cX12_body 76 = .ok (.iadd, 1) := by decide +kernel
theorem dX12_body_77 : decode cX12_body 77 = .ok (.invokevirtual 302, 3) := by decide +kernel
theorem dX12_body_80 : decode cX12_body 80 = .ok (.ifCond .eq 7, 3) := by decide +kernel
theorem dX12_body_83 : decode cX12_body 83 = .ok (.iconst 1, 1) := by decide +kernel
theorem dX12_body_84 : decode cX12_body 84 = .ok (.goto 4, 3) := by decide +kernel
theorem dX12_body_87 : decode cX12_body 87 = .ok (.iconst 0, 1) := by decide +kernel
theorem dX12_body_88 : decode cX12_body 88 = .ok (.istore 6, 2) := by decide +kernel
theorem dX12_body_90 : decode cX12_body 90 = .ok (.iload 5, 2) := by decide +kernel
theorem dX12_body_92 : decode cX12_body 92 = .ok (.ifCond .lt 8, 3) := by decide +kernel
theorem dX12_body_95 : decode cX12_body 95 = .ok (.iload 6, 2) := by decide +kernel
theorem dX12_body_97 : decode cX12_body 97 = .ok (.ifCond .eq 12, 3) := by decide +kernel
theorem dX12_body_100 : decode cX12_body 100 = .ok (.aload_n 1, 1) := by decide +kernel
theorem dX12_body_101 : decode cX12_body 101 = .ok (.getfield 267, 3) := by decide +kernel
theorem dX12_body_104 : decode cX12_body 104 = .ok (.bipush 48, 2) := by decide +kernel
theorem dX12_body_106 : decode cX12_body 106 = .ok (.if_icmp .ne 11, 3) := by decide +kernel
theorem dX12_body_109 : decode cX12_body 109 = .ok (.aload_n 0, 1) := by decide +kernel
theorem dX12_body_110 : decode cX12_body 110 = .ok (.iload_n 3, 1) := by decide +kernel
theorem dX12_body_111 : decode cX12_body 111 = .ok (.iconst 1, 1) := by decide +kernel
theorem dX12_body_112 : decode cX12_body 112 = .ok (.iadd, 1) := by decide +kernel
theorem dX12_body_113 : decode cX12_body 113 = .ok (.invokevirtual 254, 3) := by decide +kernel
theorem dX12_body_116 : decode cX12_body 116 = .ok (.ireturn, 1) := by decide +kernel
theorem dX12_body_117 : decode cX12_body 117 = .ok (.aload_n 1, 1) := by decide +kernel
theorem dX12_body_118 : decode cX12_body 118 = .ok (.getfield 267, 3) := by decide +kernel
theorem dX12_body_121 : decode cX12_body 121 = .ok (.istore 7, 2) := by decide +kernel
theorem dX12_body_123 : decode cX12_body 123 = .ok (.iload 4, 2) := by decide +kernel
theorem dX12_body_125 : decode cX12_body 125 = .ok (.ifCond .eq 7, 3) := by decide +kernel
theorem dX12_body_128 : decode cX12_body 128 = .ok (.iconst 1, 1) := by decide +kernel
theorem dX12_body_129 : decode cX12_body 129 = .ok (.goto 4, 3) := by decide +kernel
theorem dX12_body_132 : decode cX12_body 132 = .ok (.iconst 0, 1) := by decide +kernel
theorem dX12_body_133 : decode cX12_body 133 = .ok (.istore 8, 2) := by decide +kernel
theorem dX12_body_135 : decode cX12_body 135 = .ok (.iload 4, 2) := by decide +kernel
theorem dX12_body_137 : decode cX12_body 137 = .ok (.ifCond .eq 17, 3) := by decide +kernel
theorem dX12_body_140 : decode cX12_body 140 = .ok (.aload_n 1, 1) := by decide +kernel
theorem dX12_body_141 : decode cX12_body 141 = .ok (.getfield 305, 3) := by decide +kernel
theorem dX12_body_144 : decode cX12_body 144 = .ok (.iload 7, 2) := by decide +kernel
theorem dX12_body_146 : decode cX12_body 146 = .ok (.bipush 12, 2) := by decide +kernel
theorem dX12_body_148 : decode cX12_body 148 = .ok (.imul, 1) := by decide +kernel
theorem dX12_body_149 : decode cX12_body 149 = .ok (.bipush 8, 2) := by decide +kernel
theorem dX12_body_151 : decode cX12_body 151 = .ok (.iload_n 2, 1) := by decide +kernel
theorem dX12_body_152 : decode cX12_body 152 = .ok (.iadd, 1) := by decide +kernel
theorem dX12_body_153 : decode cX12_body 153 = .ok (.iastore, 1) := by decide +kernel
theorem dX12_body_154 : decode cX12_body 154 = .ok (.iload_n 3, 1) := by decide +kernel
theorem dX12_body_155 : decode cX12_body 155 = .ok (.iconst 3, 1) := by decide +kernel
theorem dX12_body_156 : decode cX12_body 156 = .ok (.iadd, 1) := by decide +kernel
theorem dX12_body_157 : decode cX12_body 157 = .ok (.istore 9, 2) := by decide +kernel
theorem dX12_body_159 : decode cX12_body 159 = .ok (.aload_n 0, 1) := by decide +kernel
theorem dX12_body_160 : decode cX12_body 160 = .ok (.iload 9, 2) := by decide +kernel
theorem dX12_body_162 : decode cX12_body 162 = .ok (.ldc 198, 2) := by decide +kernel
theorem dX12_body_164 : decode cX12_body 164 = .ok (.invokevirtual 163, 3) := by decide +kernel
theorem dX12_body_167 : decode cX12_body 167 = .ok (.ifCond .ne 55, 3) := by decide +kernel
theorem dX12_body_170 : decode cX12_body 170 = .ok (.aload_n 0, 1) := by decide +kernel
theorem dX12_body_171 : decode cX12_body 171 = .ok (.aload_n 1, 1) := by decide +kernel
theorem dX12_body_172 : decode cX12_body 172 = .ok (.iload 9, 2) := by decide +kernel
theorem dX12_body_174 : decode cX12_body 174 = .ok (.invokevirtual 285, 3) := by decide +kernel
theorem dX12_body_177 : decode cX12_body 177 = .ok (.istore 10, 2) := by decide +kernel
theorem dX12_body_179 : decode cX12_body 179 = .ok (.iload 10, 2) := by decide +kernel
theorem dX12_body_181 : decode cX12_body 181 = .ok (.ifCond .ge 10, 3) := by decide +kernel
theorem dX12_body_184 : decode cX12_body 184 = .ok (.aload_n 0, 1) := by decide +kernel
theorem dX12_body_185 : decode cX12_body 185 = .ok (.iload 9, 2) := by decide +kernel
theorem dX12_body_187 : decode cX12_body 187 = .ok (.invokevirtual 254, 3) := by decide +kernel
theorem dX12_body_190 : decode cX12_body 190 = .ok (.ireturn, 1) := by decide +kernel
theorem dX12_body_191 : decode cX12_body 191 = .ok (.iload 8, 2) := by decide +kernel
theorem dX12_body_193 : decode cX12_body 193 = .ok (.bipush 12, 2) := by decide +kernel
theorem dX12_body_195 : decode cX12_body 195 = .ok (.if_icmp .ge 18, 3) := by decide +kernel
theorem dX12_body_198 : decode cX12_body 198 = .ok (.aload_n 1, 1) := by decide +kernel
theorem dX12_body_199 : decode cX12_body 199 = .ok (.getfield 305, 3) := by decide +kernel
theorem dX12_body_202 : decode cX12_body 202 = .ok (.iload 7, 2) := by decide +kernel
theorem dX12_body_204 : decode cX12_body 204 = .ok (.bipush 12, 2) := by decide +kernel
theorem dX12_body_206 : decode cX12_body 206 = .ok (.imul, 1) := by decide +kernel
theorem dX12_body_207 : decode cX12_body 207 = .ok (.iload 8, 2) := by decide +kernel
theorem dX12_body_209 : decode cX12_body 209 = .ok (.iadd, 1) := by decide +kernel
theorem dX12_body_210 : decode cX12_body 210 = .ok (.iload 10, 2) := by decide +kernel
theorem dX12_body_212 : decode cX12_body 212 = .ok (.iastore, 1) := by decide +kernel
theorem dX12_body_213 : decode cX12_body 213 = .ok (.iinc 8 1, 3) := by decide +kernel
theorem dX12_body_216 : decode cX12_body 216 = .ok (.iinc 9 1, 3) := by decide +kernel
theorem dX12_body_219 : decode cX12_body 219 = .ok (.goto (-60), 3) := by decide +kernel
theorem dX12_body_222 : decode cX12_body 222 = .ok (.iinc 9 1, 3) := by decide +kernel
theorem dX12_body_225 : decode cX12_body 225 = .ok (.aload_n 1, 1) := by decide +kernel
theorem dX12_body_226 : decode cX12_body 226 = .ok (.getfield 308, 3) := by decide +kernel
theorem dX12_body_229 : decode cX12_body 229 = .ok (.iload 7, 2) := by decide +kernel
theorem dX12_body_231 : decode cX12_body 231 = .ok (.aload_n 0, 1) := by decide +kernel
theorem dX12_body_232 : decode cX12_body 232 = .ok (.iload 9, 2) := by decide +kernel
theorem dX12_body_234 : decode cX12_body 234 = .ok (.ldc 200, 2) := by decide +kernel
theorem dX12_body_236 : decode cX12_body 236 = .ok (.invokevirtual 163, 3) := by decide +kernel
theorem dX12_body_239 : decode cX12_body 239 = .ok (.ifCond .eq 7, 3) := by decide +kernel
theorem dX12_body_242 : decode cX12_body 242 = .ok (.iconst (-1), 1) := by decide +kernel
theorem dX12_body_243 : decode cX12_body 243 = .ok (.goto 10, 3) := by decide +kernel
theorem dX12_body_246 : decode cX12_body 246 = .ok (.aload_n 0, 1) := by decide +kernel
theorem dX12_body_247 : decode cX12_body 247 = .ok (.aload_n 1, 1) := by decide +kernel
theorem dX12_body_248 : decode cX12_body 248 = .ok (.iload 9, 2) := by decide +kernel
theorem dX12_body_250 : decode cX12_body 250 = .ok (.invokevirtual 285, 3) := by decide +kernel
theorem dX12_body_253 : decode cX12_body 253 = .ok (.iastore, 1) := by decide +kernel
theorem dX12_body_254 : decode cX12_body 254 = .ok (.aload_n 0, 1) := by decide +kernel
theorem dX12_body_255 : decode cX12_body 255 = .ok (.iload 9, 2) := by decide +kernel
theorem dX12_body_257 : decode cX12_body 257 = .ok (.ldc 200, 2) := by decide +kernel
theorem dX12_body_259 : decode cX12_body 259 = .ok (.invokevirtual 163, 3) := by decide +kernel
theorem dX12_body_262 : decode cX12_body 262 = .ok (.ifCond .ne 20, 3) := by decide +kernel
theorem dX12_body_265 : decode cX12_body 265 = .ok (.aload_n 1, 1) := by decide +kernel
theorem dX12_body_266 : decode cX12_body 266 = .ok (.getfield 308, 3) := by decide +kernel
theorem dX12_body_269 : decode cX12_body 269 = .ok (.iload 7, 2) := by decide +kernel
theorem dX12_body_271 : decode cX12_body 271 = .ok (.iaload, 1) := by decide +kernel
theorem dX12_body_272 : decode cX12_body 272 = .ok (.ifCond .ge 10, 3) := by decide +kernel
theorem dX12_body_275 : decode cX12_body 275 = .ok (.aload_n 0, 1) := by decide +kernel
theorem dX12_body_276 : decode cX12_body 276 = .ok (.iload 9, 2) := by decide +kernel
theorem dX12_body_278 : decode cX12_body 278 = .ok (.invokevirtual 254, 3) := by decide +kernel
theorem dX12_body_281 : decode cX12_body 281 = .ok (.ireturn, 1) := by decide +kernel
theorem dX12_body_282 : decode cX12_body 282 = .ok (.aload_n 0, 1) := by decide +kernel
theorem dX12_body_283 : decode cX12_body 283 = .ok (.getfield 46, 3) := by decide +kernel
theorem dX12_body_286 : decode cX12_body 286 = .ok (.iload 7, 2) := by decide +kernel
theorem dX12_body_288 : decode cX12_body 288 = .ok (.iload 9, 2) := by decide +kernel
theorem dX12_body_290 : decode cX12_body 290 = .ok (.iastore, 1) := by decide +kernel
theorem dX12_body_291 : decode cX12_body 291 = .ok (.aload_n 0, 1) := by decide +kernel
theorem dX12_body_292 : decode cX12_body 292 = .ok (.iload 9, 2) := by decide +kernel
theorem dX12_body_294 : decode cX12_body 294 = .ok (.iconst 1, 1) := by decide +kernel
theorem dX12_body_295 : decode cX12_body 295 = .ok (.iadd, 1) := by decide +kernel
theorem dX12_body_296 : decode cX12_body 296 = .ok (.invokevirtual 146, 3) := by decide +kernel
theorem dX12_body_299 : decode cX12_body 299 = .ok (.lstore 10, 2) := by decide +kernel
theorem dX12_body_301 : decode cX12_body 301 = .ok (.lload 10, 2) := by decide +kernel
theorem dX12_body_303 : decode cX12_body 303 = .ok (.iload 8, 2) := by decide +kernel
theorem dX12_body_305 : decode cX12_body 305 = .ok (.i2l, 1) := by decide +kernel
theorem dX12_body_306 : decode cX12_body 306 = .ok (.lcmp, 1) := by decide +kernel
theorem dX12_body_307 : decode cX12_body 307 = .ok (.ifCond .lt 12, 3) := by decide +kernel
theorem dX12_body_310 : decode cX12_body 310 = .ok (.lload 10, 2) := by decide +kernel
theorem dX12_body_312 : decode cX12_body 312 = .ok (.ldc2_w 311, 3) := by decide +kernel
theorem dX12_body_315 : decode cX12_body 315 = .ok (.lcmp, 1) := by decide +kernel
theorem dX12_body_316 : decode cX12_body 316 = .ok (.ifCond .le 12, 3) := by decide +kernel
theorem dX12_body_319 : decode cX12_body 319 = .ok (.aload_n 0, 1) := by decide +kernel
theorem dX12_body_320 : decode cX12_body 320 = .ok (.iload 9, 2) := by decide +kernel
theorem dX12_body_322 : decode cX12_body 322 = .ok (.iconst 1, 1) := by decide +kernel
theorem dX12_body_323 : decode cX12_body 323 = .ok (.iadd, 1) := by decide +kernel
theorem dX12_body_324 : decode cX12_body 324 = .ok (.invokevirtual 254, 3) := by decide +kernel
theorem dX12_body_327 : decode cX12_body 327 = .ok (.ireturn, 1) := by decide +kernel
theorem dX12_body_328 : decode cX12_body 328 = .ok (.aload_n 0, 1) := by decide +kernel
theorem dX12_body_329 : decode cX12_body 329 = .ok (.getfield 43, 3) := by decide +kernel
theorem dX12_body_332 : decode cX12_body 332 = .ok (.iload 7, 2) := by decide +kernel
theorem dX12_body_334 : decode cX12_body 334 = .ok (.iload_n 3, 1) := by decide +kernel
theorem dX12_body_335 : decode cX12_body 335 = .ok (.iconst 1, 1) := by decide +kernel
theorem dX12_body_336 : decode cX12_body 336 = .ok (.iadd, 1) := by decide +kernel
theorem dX12_body_337 : decode cX12_body 337 = .ok (.iastore, 1) := by decide +kernel
theorem dX12_body_338 : decode cX12_body 338 = .ok (.aload_n 1, 1) := by decide +kernel
theorem dX12_body_339 : decode cX12_body 339 = .ok (.getfield 270, 3) := by decide +kernel
theorem dX12_body_342 : decode cX12_body 342 = .ok (.iload 7, 2) := by decide +kernel
theorem dX12_body_344 : decode cX12_body 344 = .ok (.iload_n 2, 1) := by decide +kernel
theorem dX12_body_345 : decode cX12_body 345 = .ok (.iastore, 1) := by decide +kernel
theorem dX12_body_346 : decode cX12_body 346 = .ok (.aload_n 1, 1) := by decide +kernel
theorem dX12_body_347 : decode cX12_body 347 = .ok (.getfield 298, 3) := by decide +kernel
theorem dX12_body_350 : decode cX12_body 350 = .ok (.iload 7, 2) := by decide +kernel
theorem dX12_body_352 : decode cX12_body 352 = .ok (.iload 4, 2) := by decide +kernel
theorem dX12_body_354 : decode cX12_body 354 = .ok (.bastore, 1) := by decide +kernel
theorem dX12_body_355 : decode cX12_body 355 = .ok (.aload_n 1, 1) := by decide +kernel
theorem dX12_body_356 : decode cX12_body 356 = .ok (.getfield 313, 3) := by decide +kernel
theorem dX12_body_359 : decode cX12_body 359 = .ok (.iload 7, 2) := by decide +kernel
theorem dX12_body_361 : decode cX12_body 361 = .ok (.iload 8, 2) := by decide +kernel
theorem dX12_body_363 : decode cX12_body 363 = .ok (.iastore, 1) := by decide +kernel
theorem dX12_body_364 : decode cX12_body 364 = .ok (.aload_n 1, 1) := by decide +kernel
theorem dX12_body_365 : decode cX12_body 365 = .ok (.getfield 316, 3) := by decide +kernel
theorem dX12_body_368 : decode cX12_body 368 = .ok (.iload 7, 2) := by decide +kernel
theorem dX12_body_370 : decode cX12_body 370 = .ok (.lload 10, 2) := by decide +kernel
theorem dX12_body_372 : decode cX12_body 372 = .ok (.l2i, 1) := by decide +kernel
theorem dX12_body_373 : decode cX12_body 373 = .ok (.iastore, 1) := by decide +kernel
theorem dX12_body_374 : decode cX12_body 374 = .ok (.aload_n 1, 1) := by decide +kernel
theorem dX12_body_375 : decode cX12_body 375 = .ok (.dup, 1) := by decide +kernel
theorem dX12_body_376 : decode cX12_body 376 = .ok (.getfield 267, 3) := by decide +kernel
theorem dX12_body_379 : decode cX12_body 379 = .ok (.iconst 1, 1) := by decide +kernel
theorem dX12_body_380 : decode cX12_body 380 = .ok (.iadd, 1) := by decide +kernel
theorem dX12_body_381 : decode cX12_body 381 = .ok (.putfield 267, 3) := by decide +kernel
theorem dX12_body_384 : decode cX12_body 384 = .ok (.iconst 1, 1) := by decide +kernel
theorem dX12_body_385 : decode cX12_body 385 = .ok (.ireturn, 1) := by decide +kernel
theorem dX12_lines_0 : decode cX12_lines 0 = .ok (.aload_n 1, 1) := by decide +kernel
theorem dX12_lines_1 : decode cX12_lines 1 = .ok (.iconst 0, 1) := by decide +kernel
theorem dX12_lines_2 : decode cX12_lines 2 = .ok (.putfield 318, 3) := by decide +kernel
theorem dX12_lines_5 : decode cX12_lines 5 = .ok (.aload_n 1, 1) := by decide +kernel
theorem dX12_lines_6 : decode cX12_lines 6 = .ok (.iconst 0, 1) := by decide +kernel
theorem dX12_lines_7 : decode cX12_lines 7 = .ok (.putfield 321, 3) := by decide +kernel
theorem dX12_lines_10 : decode cX12_lines 10 = .ok (.aload_n 1, 1) := by decide +kernel
theorem dX12_lines_11 : decode cX12_lines 11 = .ok (.iconst 0, 1) := by decide +kernel
theorem dX12_lines_12 : decode cX12_lines 12 = .ok (.putfield 324, 3) := by decide +kernel
theorem dX12_lines_15 : decode cX12_lines 15 = .ok (.iconst 0, 1) := by decide +kernel
theorem dX12_lines_16 : decode cX12_lines 16 = .ok (.istore_n 2, 1) := by decide +kernel
theorem dX12_lines_17 : decode cX12_lines 17 = .ok (.iload_n 2, 1) := by decide +kernel
theorem dX12_lines_18 : decode cX12_lines 18 = .ok (.aload_n 1, 1) := by decide +kernel
