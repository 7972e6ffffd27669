theorem dX3_init_0 : decode cX3_init 0 = .ok (.aload_n 0, 1) := by decide +kernel
theorem dX3_init_1 : decode cX3_init 1 = .ok (.invokespecial 3, 3) := by decide +kernel
theorem dX3_init_4 : decode cX3_init 4 = .ok (.aload_n 0, 1) := by decide +kernel
theorem dX3_init_5 : decode cX3_init 5 = .ok (.sipush 1024, 3) := by decide +kernel
theorem dX3_init_8 : decode cX3_init 8 = .ok (.newarray .int, 2) := by decide +kernel
theorem dX3_init_10 : decode cX3_init 10 = .ok (.putfield 9, 3) := by decide +kernel
theorem dX3_init_13 : decode cX3_init 13 = .ok (.aload_n 0, 1) := by decide +kernel
theorem dX3_init_14 : decode cX3_init 14 = .ok (.sipush 1024, 3) := by decide +kernel
theorem dX3_init_17 : decode cX3_init 17 = .ok (.newarray .boolean, 2) := by decide +kernel
theorem dX3_init_19 : decode cX3_init 19 = .ok (.putfield 15, 3) := by decide +kernel
theorem dX3_init_22 : decode cX3_init 22 = .ok (.aload_n 0, 1) := by decide +kernel
theorem dX3_init_23 : decode cX3_init 23 = .ok (.aload_n 1, 1) := by decide +kernel
theorem dX3_init_24 : decode cX3_init 24 = .ok (.putfield 19, 3) := by decide +kernel
theorem dX3_init_27 : decode cX3_init 27 = .ok (.aload_n 0, 1) := by decide +kernel
theorem dX3_init_28 : decode cX3_init 28 = .ok (.aload_n 1, 1) := by decide +kernel
theorem dX3_init_29 : decode cX3_init 29 = .ok (.getfield 23, 3) := by decide +kernel
theorem dX3_init_32 : decode cX3_init 32 = .ok (.putfield 29, 3) := by decide +kernel
theorem dX3_init_35 : decode cX3_init 35 = .ok (.return_, 1) := by decide +kernel
theorem dX3_begin_0 : decode cX3_begin 0 = .ok (.aload_n 0, 1) := by decide +kernel
theorem dX3_begin_1 : decode cX3_begin 1 = .ok (.aload_n 1, 1) := by decide +kernel
theorem dX3_begin_2 : decode cX3_begin 2 = .ok (.putfield 19, 3) := by decide +kernel
theorem dX3_begin_5 : decode cX3_begin 5 = .ok (.aload_n 0, 1) := by decide +kernel
theorem dX3_begin_6 : decode cX3_begin 6 = .ok (.aload_n 1, 1) := by decide +kernel
theorem dX3_begin_7 : decode cX3_begin 7 = .ok (.getfield 23, 3) := by decide +kernel
theorem dX3_begin_10 : decode cX3_begin 10 = .ok (.putfield 29, 3) := by decide +kernel
theorem dX3_begin_13 : decode cX3_begin 13 = .ok (.return_, 1) := by decide +kernel
theorem dX3_firstFault_0 : decode cX3_firstFault 0 = .ok (.aload_n 0, 1) := by decide +kernel
theorem dX3_firstFault_1 : decode cX3_firstFault 1 = .ok (.getfield 19, 3) := by decide +kernel
theorem dX3_firstFault_4 : decode cX3_firstFault 4 = .ok (.getfield 30, 3) := by decide +kernel
theorem dX3_firstFault_7 : decode cX3_firstFault 7 = .ok (.iload_n 1, 1) := by decide +kernel
theorem dX3_firstFault_8 : decode cX3_firstFault 8 = .ok (.iaload, 1) := by decide +kernel
theorem dX3_firstFault_9 : decode cX3_firstFault 9 = .ok (.istore_n 2, 1) := by decide +kernel
theorem dX3_firstFault_10 : decode cX3_firstFault 10 = .ok (.aload_n 0, 1) := by decide +kernel
theorem dX3_firstFault_11 : decode cX3_firstFault 11 = .ok (.getfield 19, 3) := by decide +kernel
theorem dX3_firstFault_14 : decode cX3_firstFault 14 = .ok (.getfield 33, 3) := by decide +kernel
theorem dX3_firstFault_17 : decode cX3_firstFault 17 = .ok (.iload_n 1, 1) := by decide +kernel
theorem dX3_firstFault_18 : decode cX3_firstFault 18 = .ok (.iaload, 1) := by decide +kernel
theorem dX3_firstFault_19 : decode cX3_firstFault 19 = .ok (.istore_n 3, 1) := by decide +kernel
theorem dX3_firstFault_20 : decode cX3_firstFault 20 = .ok (.aload_n 0, 1) := by decide +kernel
theorem dX3_firstFault_21 : decode cX3_firstFault 21 = .ok (.getfield 9, 3) := by decide +kernel
theorem dX3_firstFault_24 : decode cX3_firstFault 24 = .ok (.iload_n 2, 1) := by decide +kernel
theorem dX3_firstFault_25 : decode cX3_firstFault 25 = .ok (.iload_n 3, 1) := by decide +kernel
theorem dX3_firstFault_26 : decode cX3_firstFault 26 = .ok (.iconst 0, 1) := by decide +kernel
theorem dX3_firstFault_27 : decode cX3_firstFault 27 = .ok (.invokestatic 36, 3) := by decide +kernel
theorem dX3_firstFault_30 : decode cX3_firstFault 30 = .ok (.aload_n 0, 1) := by decide +kernel
theorem dX3_firstFault_31 : decode cX3_firstFault 31 = .ok (.iload_n 2, 1) := by decide +kernel
theorem dX3_firstFault_32 : decode cX3_firstFault 32 = .ok (.iconst 1, 1) := by decide +kernel
theorem dX3_firstFault_33 : decode cX3_firstFault 33 = .ok (.invokevirtual 42, 3) := by decide +kernel
theorem dX3_firstFault_36 : decode cX3_firstFault 36 = .ok (.iconst 0, 1) := by decide +kernel
theorem dX3_firstFault_37 : decode cX3_firstFault 37 = .ok (.istore 4, 2) := by decide +kernel
theorem dX3_firstFault_39 : decode cX3_firstFault 39 = .ok (.iload 4, 2) := by decide +kernel
theorem dX3_firstFault_41 : decode cX3_firstFault 41 = .ok (.ldc 46, 2) := by decide +kernel
theorem dX3_firstFault_43 : decode cX3_firstFault 43 = .ok (.if_icmp .ge 61, 3) := by decide +kernel
theorem dX3_firstFault_46 : decode cX3_firstFault 46 = .ok (.aload_n 0, 1) := by decide +kernel
theorem dX3_firstFault_47 : decode cX3_firstFault 47 = .ok (.getfield 47, 3) := by decide +kernel
theorem dX3_firstFault_50 : decode cX3_firstFault 50 = .ok (.ifCond .eq 54, 3) := by decide +kernel
theorem dX3_firstFault_53 : decode cX3_firstFault 53 = .ok (.aload_n 0, 1) := by decide +kernel
theorem dX3_firstFault_54 : decode cX3_firstFault 54 = .ok (.iconst 0, 1) := by decide +kernel
theorem dX3_firstFault_55 : decode cX3_firstFault 55 = .ok (.putfield 47, 3) := by decide +kernel
theorem dX3_firstFault_58 : decode cX3_firstFault 58 = .ok (.iload_n 2, 1) := by decide +kernel
theorem dX3_firstFault_59 : decode cX3_firstFault 59 = .ok (.istore 5, 2) := by decide +kernel
theorem dX3_firstFault_61 : decode cX3_firstFault 61 = .ok (.iload 5, 2) := by decide +kernel
theorem dX3_firstFault_63 : decode cX3_firstFault 63 = .ok (.iload_n 3, 1) := by decide +kernel
theorem dX3_firstFault_64 : decode cX3_firstFault 64 = .ok (.if_icmp .ge 34, 3) := by decide +kernel
theorem dX3_firstFault_67 : decode cX3_firstFault 67 = .ok (.aload_n 0, 1) := by decide +kernel
theorem dX3_firstFault_68 : decode cX3_firstFault 68 = .ok (.getfield 15, 3) := by decide +kernel
theorem dX3_firstFault_71 : decode cX3_firstFault 71 = .ok (.iload 5, 2) := by decide +kernel
theorem dX3_firstFault_73 : decode cX3_firstFault 73 = .ok (.baload, 1) := by decide +kernel
theorem dX3_firstFault_74 : decode cX3_firstFault 74 = .ok (.ifCond .eq 18, 3) := by decide +kernel
theorem dX3_firstFault_77 : decode cX3_firstFault 77 = .ok (.aload_n 0, 1) := by decide +kernel
theorem dX3_firstFault_78 : decode cX3_firstFault 78 = .ok (.getfield 15, 3) := by decide +kernel
theorem dX3_firstFault_81 : decode cX3_firstFault 81 = .ok (.iload 5, 2) := by decide +kernel
theorem dX3_firstFault_83 : decode cX3_firstFault 83 = .ok (.iconst 0, 1) := by decide +kernel
theorem dX3_firstFault_84 : decode cX3_firstFault 84 = .ok (.bastore, 1) := by decide +kernel
theorem dX3_firstFault_85 : decode cX3_firstFault 85 = .ok (.aload_n 0, 1) := by decide +kernel
theorem dX3_firstFault_86 : decode cX3_firstFault 86 = .ok (.iload 5, 2) := by decide +kernel
theorem dX3_firstFault_88 : decode cX3_firstFault 88 = .ok (.iload_n 1, 1) := by decide +kernel
theorem dX3_firstFault_89 : decode cX3_firstFault 89 = .ok (.invokevirtual 51, 3) := by decide +kernel
theorem dX3_firstFault_92 : decode cX3_firstFault 92 = .ok (.iinc 5 1, 3) := by decide +kernel
theorem dX3_firstFault_95 : decode cX3_firstFault 95 = .ok (.goto (-34), 3) := by decide +kernel
theorem dX3_firstFault_98 : decode cX3_firstFault 98 = .ok (.iinc 4 1, 3) := by decide +kernel
theorem dX3_firstFault_101 : decode cX3_firstFault 101 = .ok (.goto (-62), 3) := by decide +kernel
theorem dX3_firstFault_104 : decode cX3_firstFault 104 = .ok (.iload_n 2, 1) := by decide +kernel
theorem dX3_firstFault_105 : decode cX3_firstFault 105 = .ok (.istore 4, 2) := by decide +kernel
theorem dX3_firstFault_107 : decode cX3_firstFault 107 = .ok (.iload 4, 2) := by decide +kernel
theorem dX3_firstFault_109 : decode cX3_firstFault 109 = .ok (.iload_n 3, 1) := by decide +kernel
theorem dX3_firstFault_110 : decode cX3_firstFault 110 = .ok (.if_icmp .ge 65, 3) := by decide +kernel
theorem dX3_firstFault_113 : decode cX3_firstFault 113 = .ok (.aload_n 0, 1) := by decide +kernel
theorem dX3_firstFault_114 : decode cX3_firstFault 114 = .ok (.getfield 9, 3) := by decide +kernel
theorem dX3_firstFault_117 : decode cX3_firstFault 117 = .ok (.iload 4, 2) := by decide +kernel
theorem dX3_firstFault_119 : decode cX3_firstFault 119 = .ok (.iaload, 1) := by decide +kernel
theorem dX3_firstFault_120 : decode cX3_firstFault 120 = .ok (.istore 5, 2) := by decide +kernel
theorem dX3_firstFault_122 : decode cX3_firstFault 122 = .ok (.iload 5, 2) := by decide +kernel
theorem dX3_firstFault_124 : decode cX3_firstFault 124 = .ok (.aload_n 0, 1) := by decide +kernel
theorem dX3_firstFault_125 : decode cX3_firstFault 125 = .ok (.iload 4, 2) := by decide +kernel
theorem dX3_firstFault_127 : decode cX3_firstFault 127 = .ok (.invokevirtual 54, 3) := by decide +kernel
theorem dX3_firstFault_130 : decode cX3_firstFault 130 = .ok (.if_icmp .ne 12, 3) := by decide +kernel
theorem dX3_firstFault_133 : decode cX3_firstFault 133 = .ok (.iload 5, 2) := by decide +kernel
theorem dX3_firstFault_135 : decode cX3_firstFault 135 = .ok (.invokestatic 58, 3) := by decide +kernel
theorem dX3_firstFault_138 : decode cX3_firstFault 138 = .ok (.iconst 1, 1) := by decide +kernel
theorem dX3_firstFault_139 : decode cX3_firstFault 139 = .ok (.if_icmp .le 6, 3) := by decide +kernel
theorem dX3_firstFault_142 : decode cX3_firstFault 142 = .ok (.iload 4, 2) := by decide +kernel
theorem dX3_firstFault_144 : decode cX3_firstFault 144 = .ok (.ireturn, 1) := by decide +kernel
theorem dX3_firstFault_145 : decode cX3_firstFault 145 = .ok (.aload_n 0, 1) := by decide +kernel
theorem dX3_firstFault_146 : decode cX3_firstFault 146 = .ok (.getfield 29, 3) := by decide +kernel
theorem dX3_firstFault_149 : decode cX3_firstFault 149 = .ok (.getfield 63, 3) := by decide +kernel
theorem dX3_firstFault_152 : decode cX3_firstFault 152 = .ok (.iload 4, 2) := by decide +kernel
theorem dX3_firstFault_154 : decode cX3_firstFault 154 = .ok (.iload 5, 2) := by decide +kernel
theorem dX3_firstFault_156 : decode cX3_firstFault 156 = .ok (.ifCond .ne 7, 3) := by decide +kernel
theorem dX3_firstFault_159 : decode cX3_firstFault 159 = .ok (.iconst (-1), 1) := by decide +kernel
theorem dX3_firstFault_160 : decode cX3_firstFault 160 = .ok (.goto 8, 3) := by decide +kernel
theorem dX3_firstFault_163 : decode cX3_firstFault 163 = .ok (.iload 5, 2) := by decide +kernel
theorem dX3_firstFault_165 : decode cX3_firstFault 165 = .ok (.invokestatic 68, 3) := by decide +kernel
theorem dX3_firstFault_168 : decode cX3_firstFault 168 = .ok (.iastore, 1) := by decide +kernel
theorem dX3_firstFault_169 : decode cX3_firstFault 169 = .ok (.iinc 4 1, 3) := by decide +kernel
theorem dX3_firstFault_172 : decode cX3_firstFault 172 = .ok (.goto (-65), 3) := by decide +kernel
theorem dX3_firstFault_175 : decode cX3_firstFault 175 = .ok (.iconst (-1), 1) := by decide +kernel
theorem dX3_firstFault_176 : decode cX3_firstFault 176 = .ok (.ireturn, 1) := by decide +kernel
theorem dX3_goodOf_0 : decode cX3_goodOf 0 = .ok (.aload_n 0, 1) := by decide +kernel
theorem dX3_goodOf_1 : decode cX3_goodOf 1 = .ok (.getfield 19, 3) := by decide +kernel
theorem dX3_goodOf_4 : decode cX3_goodOf 4 = .ok (.iload_n 1, 1) := by decide +kernel
theorem dX3_goodOf_5 : decode cX3_goodOf 5 = .ok (.invokevirtual 71, 3) := by decide +kernel
theorem dX3_goodOf_8 : decode cX3_goodOf 8 = .ok (.istore_n 2, 1) := by decide +kernel
theorem dX3_goodOf_9 : decode cX3_goodOf 9 = .ok (.bipush 8, 2) := by decide +kernel
theorem dX3_goodOf_11 : decode cX3_goodOf 11 = .ok (.aload_n 0, 1) := by decide +kernel
theorem dX3_goodOf_12 : decode cX3_goodOf 12 = .ok (.getfield 19, 3) := by decide +kernel
theorem dX3_goodOf_15 : decode cX3_goodOf 15 = .ok (.iload_n 1, 1) := by decide +kernel
theorem dX3_goodOf_16 : decode cX3_goodOf 16 = .ok (.invokevirtual 74, 3) := by decide +kernel
theorem dX3_goodOf_19 : decode cX3_goodOf 19 = .ok (.isub, 1) := by decide +kernel
theorem dX3_goodOf_20 : decode cX3_goodOf 20 = .ok (.iload_n 2, 1) := by decide +kernel
theorem dX3_goodOf_21 : decode cX3_goodOf 21 = .ok (.iadd, 1) := by decide +kernel
theorem dX3_goodOf_22 : decode cX3_goodOf 22 = .ok (.istore_n 3, 1) := by decide +kernel
theorem dX3_goodOf_23 : decode cX3_goodOf 23 = .ok (.iconst 0, 1) := by decide +kernel
theorem dX3_goodOf_24 : decode cX3_goodOf 24 = .ok (.istore 4, 2) := by decide +kernel
theorem dX3_goodOf_26 : decode cX3_goodOf 26 = .ok (.iload_n 2, 1) := by decide +kernel
theorem dX3_goodOf_27 : decode cX3_goodOf 27 = .ok (.istore 5, 2) := by decide +kernel
theorem dX3_goodOf_29 : decode cX3_goodOf 29 = .ok (.iload 5, 2) := by decide +kernel
theorem dX3_goodOf_31 : decode cX3_goodOf 31 = .ok (.iload_n 3, 1) := by decide +kernel
theorem dX3_goodOf_32 : decode cX3_goodOf 32 = .ok (.if_icmp .gt 32, 3) := by decide +kernel
theorem dX3_goodOf_35 : decode cX3_goodOf 35 = .ok (.iload 5, 2) := by decide +kernel
theorem dX3_goodOf_37 : decode cX3_goodOf 37 = .ok (.bipush 8, 2) := by decide +kernel
theorem dX3_goodOf_39 : decode cX3_goodOf 39 = .ok (.if_icmp .gt 25, 3) := by decide +kernel
theorem dX3_goodOf_42 : decode cX3_goodOf 42 = .ok (.iload 4, 2) := by decide +kernel
theorem dX3_goodOf_44 : decode cX3_goodOf 44 = .ok (.aload_n 0, 1) := by decide +kernel
theorem dX3_goodOf_45 : decode cX3_goodOf 45 = .ok (.getfield 9, 3) := by decide +kernel
theorem dX3_goodOf_48 : decode cX3_goodOf 48 = .ok (.iload_n 1, 1) := by decide +kernel
theorem dX3_goodOf_49 : decode cX3_goodOf 49 = .ok (.iaload, 1) := by decide +kernel
theorem dX3_goodOf_50 : decode cX3_goodOf 50 = .ok (.iconst 1, 1) := by decide +kernel
theorem dX3_goodOf_51 : decode cX3_goodOf 51 = .ok (.iload 5, 2) := by decide +kernel
theorem dX3_goodOf_53 : decode cX3_goodOf 53 = .ok (.ishl, 1) := by decide +kernel
theorem dX3_goodOf_54 : decode cX3_goodOf 54 = .ok (.iand, 1) := by decide +kernel
theorem dX3_goodOf_55 : decode cX3_goodOf 55 = .ok (.ior, 1) := by decide +kernel
theorem dX3_goodOf_56 : decode cX3_goodOf 56 = .ok (.istore 4, 2) := by decide +kernel
theorem dX3_goodOf_58 : decode cX3_goodOf 58 = .ok (.iinc 5 1, 3) := by decide +kernel
theorem dX3_goodOf_61 : decode cX3_goodOf 61 = .ok (.goto (-32), 3) := by decide +kernel
theorem dX3_goodOf_64 : decode cX3_goodOf 64 = .ok (.iload 4, 2) := by decide +kernel
theorem dX3_goodOf_66 : decode cX3_goodOf 66 = .ok (.ireturn, 1) := by decide +kernel
theorem dX3_spread_0 : decode cX3_spread 0 = .ok (.aload_n 0, 1) := by decide +kernel
theorem dX3_spread_1 : decode cX3_spread 1 = .ok (.iload_n 1, 1) := by decide +kernel
theorem dX3_spread_2 : decode cX3_spread 2 = .ok (.invokevirtual 54, 3) := by decide +kernel
theorem dX3_spread_5 : decode cX3_spread 5 = .ok (.istore_n 3, 1) := by decide +kernel
theorem dX3_spread_6 : decode cX3_spread 6 = .ok (.iload_n 3, 1) := by decide +kernel
theorem dX3_spread_7 : decode cX3_spread 7 = .ok (.ifCond .ne 4, 3) := by decide +kernel
theorem dX3_spread_10 : decode cX3_spread 10 = .ok (.return_, 1) := by decide +kernel
theorem dX3_spread_11 : decode cX3_spread 11 = .ok (.iload_n 3, 1) := by decide +kernel
theorem dX3_spread_12 : decode cX3_spread 12 = .ok (.aload_n 0, 1) := by decide +kernel
theorem dX3_spread_13 : decode cX3_spread 13 = .ok (.getfield 19, 3) := by decide +kernel
theorem dX3_spread_16 : decode cX3_spread 16 = .ok (.iload_n 1, 1) := by decide +kernel
theorem dX3_spread_17 : decode cX3_spread 17 = .ok (.invokevirtual 71, 3) := by decide +kernel
theorem dX3_spread_20 : decode cX3_spread 20 = .ok (.ishr, 1) := by decide +kernel
theorem dX3_spread_21 : decode cX3_spread 21 = .ok (.aload_n 0, 1) := by decide +kernel
theorem dX3_spread_22 : decode cX3_spread 22 = .ok (.getfield 19, 3) := by decide +kernel
theorem dX3_spread_25 : decode cX3_spread 25 = .ok (.iload_n 1, 1) := by decide +kernel
theorem dX3_spread_26 : decode cX3_spread 26 = .ok (.invokevirtual 74, 3) := by decide +kernel
theorem dX3_spread_29 : decode cX3_spread 29 = .ok (.ishl, 1) := by decide +kernel
theorem dX3_spread_30 : decode cX3_spread 30 = .ok (.istore 4, 2) := by decide +kernel
theorem dX3_spread_32 : decode cX3_spread 32 = .ok (.aload_n 0, 1) := by decide +kernel
theorem dX3_spread_33 : decode cX3_spread 33 = .ok (.getfield 29, 3) := by decide +kernel
theorem dX3_spread_36 : decode cX3_spread 36 = .ok (.getfield 77, 3) := by decide +kernel
theorem dX3_spread_39 : decode cX3_spread 39 = .ok (.iload_n 1, 1) := by decide +kernel
theorem dX3_spread_40 : decode cX3_spread 40 = .ok (.iaload, 1) := by decide +kernel
theorem dX3_spread_41 : decode cX3_spread 41 = .ok (.invokestatic 80, 3) := by decide +kernel
theorem dX3_spread_44 : decode cX3_spread 44 = .ok (.ifCond .eq 12, 3) := by decide +kernel
theorem dX3_spread_47 : decode cX3_spread 47 = .ok (.aload_n 0, 1) := by decide +kernel
theorem dX3_spread_48 : decode cX3_spread 48 = .ok (.iload_n 1, 1) := by decide +kernel
theorem dX3_spread_49 : decode cX3_spread 49 = .ok (.iconst 1, 1) := by decide +kernel
theorem dX3_spread_50 : decode cX3_spread 50 = .ok (.iadd, 1) := by decide +kernel
theorem dX3_spread_51 : decode cX3_spread 51 = .ok (.iload 4, 2) := by decide +kernel
theorem dX3_spread_53 : decode cX3_spread 53 = .ok (.invokevirtual 42, 3) := by decide +kernel
theorem dX3_spread_56 : decode cX3_spread 56 = .ok (.aload_n 0, 1) := by decide +kernel
theorem dX3_spread_57 : decode cX3_spread 57 = .ok (.getfield 29, 3) := by decide +kernel
theorem dX3_spread_60 : decode cX3_spread 60 = .ok (.getfield 77, 3) := by decide +kernel
theorem dX3_spread_63 : decode cX3_spread 63 = .ok (.iload_n 1, 1) := by decide +kernel
theorem dX3_spread_64 : decode cX3_spread 64 = .ok (.iaload, 1) := by decide +kernel
theorem dX3_spread_65 : decode cX3_spread 65 = .ok (.invokestatic 84, 3) := by decide +kernel
theorem dX3_spread_68 : decode cX3_spread 68 = .ok (.ifCond .eq 18, 3) := by decide +kernel
theorem dX3_spread_71 : decode cX3_spread 71 = .ok (.aload_n 0, 1) := by decide +kernel
theorem dX3_spread_72 : decode cX3_spread 72 = .ok (.aload_n 0, 1) := by decide +kernel
theorem dX3_spread_73 : decode cX3_spread 73 = .ok (.getfield 29, 3) := by decide +kernel
theorem dX3_spread_76 : decode cX3_spread 76 = .ok (.getfield 87, 3) := by decide +kernel
theorem dX3_spread_79 : decode cX3_spread 79 = .ok (.iload_n 1, 1) := by decide +kernel
theorem dX3_spread_80 : decode cX3_spread 80 = .ok (.iaload, 1) := by decide +kernel
theorem dX3_spread_81 : decode cX3_spread 81 = .ok (.iload 4, 2) := by decide +kernel
theorem dX3_spread_83 : decode cX3_spread 83 = .ok (.invokevirtual 42, 3) := by decide +kernel
theorem dX3_spread_86 : decode cX3_spread 86 = .ok (.aload_n 0, 1) := by decide +kernel
theorem dX3_spread_87 : decode cX3_spread 87 = .ok (.getfield 19, 3) := by decide +kernel
theorem dX3_spread_90 : decode cX3_spread 90 = .ok (.getfield 90, 3) := by decide +kernel
theorem dX3_spread_93 : decode cX3_spread 93 = .ok (.iload_n 2, 1) := by decide +kernel
theorem dX3_spread_94 : decode cX3_spread 94 = .ok (.iaload, 1) := by decide +kernel
theorem dX3_spread_95 : decode cX3_spread 95 = .ok (.istore 5, 2) := by decide +kernel
theorem dX3_spread_97 : decode cX3_spread 97 = .ok (.iload 5, 2) := by decide +kernel
theorem dX3_spread_99 : decode cX3_spread 99 = .ok (.aload_n 0, 1) := by decide +kernel
theorem dX3_spread_100 : decode cX3_spread 100 = .ok (.getfield 19, 3) := by decide +kernel
theorem dX3_spread_103 : decode cX3_spread 103 = .ok (.getfield 93, 3) := by decide +kernel
theorem dX3_spread_106 : decode cX3_spread 106 = .ok (.iload_n 2, 1) := by decide +kernel
theorem dX3_spread_107 : decode cX3_spread 107 = .ok (.iaload, 1) := by decide +kernel
theorem dX3_spread_108 : decode cX3_spread 108 = .ok (.if_icmp .ge 37, 3) := by decide +kernel
theorem dX3_spread_111 : decode cX3_spread 111 = .ok (.aload_n 0, 1) := by decide +kernel
theorem dX3_spread_112 : decode cX3_spread 112 = .ok (.getfield 29, 3) := by decide +kernel
theorem dX3_spread_115 : decode cX3_spread 115 = .ok (.iload_n 1, 1) := by decide +kernel
theorem dX3_spread_116 : decode cX3_spread 116 = .ok (.iload 5, 2) := by decide +kernel
theorem dX3_spread_118 : decode cX3_spread 118 = .ok (.invokevirtual 96, 3) := by decide +kernel
theorem dX3_spread_121 : decode cX3_spread 121 = .ok (.ifCond .eq 18, 3) := by decide +kernel
theorem dX3_spread_124 : decode cX3_spread 124 = .ok (.aload_n 0, 1) := by decide +kernel
theorem dX3_spread_125 : decode cX3_spread 125 = .ok (.aload_n 0, 1) := by decide +kernel
theorem dX3_spread_126 : decode cX3_spread 126 = .ok (.getfield 29, 3) := by decide +kernel
theorem dX3_spread_129 : decode cX3_spread 129 = .ok (.getfield 100, 3) := by decide +kernel
theorem dX3_spread_132 : decode cX3_spread 132 = .ok (.iload 5, 2) := by decide +kernel
theorem dX3_spread_134 : decode cX3_spread 134 = .ok (.iaload, 1) := by decide +kernel
theorem dX3_spread_135 : decode cX3_spread 135 = .ok (.iconst 2, 1) := by decide +kernel
theorem dX3_spread_136 : decode cX3_spread 136 = .ok (.invokevirtual 42, 3) := by decide +kernel
theorem dX3_spread_139 : decode cX3_spread 139 = .ok (.iinc 5 1, 3) := by decide +kernel
theorem dX3_spread_142 : decode cX3_spread 142 = .ok (.goto (-45), 3) := by decide +kernel
theorem dX3_spread_145 : decode cX3_spread 145 = .ok (.return_, 1) := by decide +kernel
theorem dX3_arrive_0 : decode cX3_arrive 0 = .ok (.iload_n 1, 1) := by decide +kernel
theorem dX3_arrive_1 : decode cX3_arrive 1 = .ok (.ifCond .lt 53, 3) := by decide +kernel
theorem dX3_arrive_4 : decode cX3_arrive 4 = .ok (.iload_n 1, 1) := by decide +kernel
theorem dX3_arrive_5 : decode cX3_arrive 5 = .ok (.aload_n 0, 1) := by decide +kernel
theorem dX3_arrive_6 : decode cX3_arrive 6 = .ok (.getfield 29, 3) := by decide +kernel
theorem dX3_arrive_9 : decode cX3_arrive 9 = .ok (.getfield 103, 3) := by decide +kernel
theorem dX3_arrive_12 : decode cX3_arrive 12 = .ok (.if_icmp .ge 42, 3) := by decide +kernel
theorem dX3_arrive_15 : decode cX3_arrive 15 = .ok (.aload_n 0, 1) := by decide +kernel
theorem dX3_arrive_16 : decode cX3_arrive 16 = .ok (.getfield 9, 3) := by decide +kernel
theorem dX3_arrive_19 : decode cX3_arrive 19 = .ok (.iload_n 1, 1) := by decide +kernel
theorem dX3_arrive_20 : decode cX3_arrive 20 = .ok (.iaload, 1) := by decide +kernel
theorem dX3_arrive_21 : decode cX3_arrive 21 = .ok (.iload_n 2, 1) := by decide +kernel
theorem dX3_arrive_22 : decode cX3_arrive 22 = .ok (.ior, 1) := by decide +kernel
theorem dX3_arrive_23 : decode cX3_arrive 23 = .ok (.aload_n 0, 1) := by decide +kernel
theorem dX3_arrive_24 : decode cX3_arrive 24 = .ok (.getfield 9, 3) := by decide +kernel
theorem dX3_arrive_27 : decode cX3_arrive 27 = .ok (.iload_n 1, 1) := by decide +kernel
theorem dX3_arrive_28 : decode cX3_arrive 28 = .ok (.iaload, 1) := by decide +kernel
theorem dX3_arrive_29 : decode cX3_arrive 29 = .ok (.if_icmp .eq 25, 3) := by decide +kernel
theorem dX3_arrive_32 : decode cX3_arrive 32 = .ok (.aload_n 0, 1) := by decide +kernel
theorem dX3_arrive_33 : decode cX3_arrive 33 = .ok (.getfield 9, 3) := by decide +kernel
theorem dX3_arrive_36 : decode cX3_arrive 36 = .ok (.iload_n 1, 1) := by decide +kernel
theorem dX3_arrive_37 : decode cX3_arrive 37 = .ok (.dup2, 1) := by decide +kernel
theorem dX3_arrive_38 : decode cX3_arrive 38 = .ok (.iaload, 1) := by decide +kernel
theorem dX3_arrive_39 : decode cX3_arrive 39 = .ok (.iload_n 2, 1) := by decide +kernel
theorem dX3_arrive_40 : decode cX3_arrive 40 = .ok (.ior, 1) := by decide +kernel
theorem dX3_arrive_41 : decode cX3_arrive 41 = .ok (.iastore, 1) := by decide +kernel
theorem dX3_arrive_42 : decode cX3_arrive 42 = .ok (.aload_n 0, 1) := by decide +kernel
theorem dX3_arrive_43 : decode cX3_arrive 43 = .ok (.getfield 15, 3) := by decide +kernel
theorem dX3_arrive_46 : decode cX3_arrive 46 = .ok (.iload_n 1, 1) := by decide +kernel
theorem dX3_arrive_47 : decode cX3_arrive 47 = .ok (.iconst 1, 1) := by decide +kernel
theorem dX3_arrive_48 : decode cX3_arrive 48 = .ok (.bastore, 1) := by decide +kernel
theorem dX3_arrive_49 : decode cX3_arrive 49 = .ok (.aload_n 0, 1) := by decide +kernel
theorem dX3_arrive_50 : decode cX3_arrive 50 = .ok (.iconst 1, 1) := by decide +kernel
theorem dX3_arrive_51 : decode cX3_arrive 51 = .ok (.putfield 47, 3) := by decide +kernel
theorem dX3_arrive_54 : decode cX3_arrive 54 = .ok (.return_, 1) := by decide +kernel
