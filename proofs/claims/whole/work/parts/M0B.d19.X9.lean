theorem dX9_init_0 : decode cX9_init 0 = .ok (.aload_n 0, 1) := by decide +kernel
theorem dX9_init_1 : decode cX9_init 1 = .ok (.invokespecial 3, 3) := by decide +kernel
theorem dX9_init_4 : decode cX9_init 4 = .ok (.aload_n 0, 1) := by decide +kernel
theorem dX9_init_5 : decode cX9_init 5 = .ok (.sipush 20480, 3) := by decide +kernel
theorem dX9_init_8 : decode cX9_init 8 = .ok (.newarray .byte, 2) := by decide +kernel
theorem dX9_init_10 : decode cX9_init 10 = .ok (.putfield 9, 3) := by decide +kernel
theorem dX9_init_13 : decode cX9_init 13 = .ok (.aload_n 0, 1) := by decide +kernel
theorem dX9_init_14 : decode cX9_init 14 = .ok (.sipush 1024, 3) := by decide +kernel
theorem dX9_init_17 : decode cX9_init 17 = .ok (.newarray .boolean, 2) := by decide +kernel
theorem dX9_init_19 : decode cX9_init 19 = .ok (.putfield 15, 3) := by decide +kernel
theorem dX9_init_22 : decode cX9_init 22 = .ok (.aload_n 0, 1) := by decide +kernel
theorem dX9_init_23 : decode cX9_init 23 = .ok (.sipush 1024, 3) := by decide +kernel
theorem dX9_init_26 : decode cX9_init 26 = .ok (.newarray .boolean, 2) := by decide +kernel
theorem dX9_init_28 : decode cX9_init 28 = .ok (.putfield 19, 3) := by decide +kernel
theorem dX9_init_31 : decode cX9_init 31 = .ok (.aload_n 0, 1) := by decide +kernel
theorem dX9_init_32 : decode cX9_init 32 = .ok (.bipush 20, 2) := by decide +kernel
theorem dX9_init_34 : decode cX9_init 34 = .ok (.newarray .byte, 2) := by decide +kernel
theorem dX9_init_36 : decode cX9_init 36 = .ok (.putfield 22, 3) := by decide +kernel
theorem dX9_init_39 : decode cX9_init 39 = .ok (.aload_n 0, 1) := by decide +kernel
theorem dX9_init_40 : decode cX9_init 40 = .ok (.aload_n 1, 1) := by decide +kernel
theorem dX9_init_41 : decode cX9_init 41 = .ok (.putfield 25, 3) := by decide +kernel
theorem dX9_init_44 : decode cX9_init 44 = .ok (.aload_n 0, 1) := by decide +kernel
theorem dX9_init_45 : decode cX9_init 45 = .ok (.aload_n 1, 1) := by decide +kernel
theorem dX9_init_46 : decode cX9_init 46 = .ok (.getfield 29, 3) := by decide +kernel
theorem dX9_init_49 : decode cX9_init 49 = .ok (.putfield 35, 3) := by decide +kernel
theorem dX9_init_52 : decode cX9_init 52 = .ok (.aload_n 0, 1) := by decide +kernel
theorem dX9_init_53 : decode cX9_init 53 = .ok (.aload_n 1, 1) := by decide +kernel
theorem dX9_init_54 : decode cX9_init 54 = .ok (.getfield 36, 3) := by decide +kernel
theorem dX9_init_57 : decode cX9_init 57 = .ok (.putfield 40, 3) := by decide +kernel
theorem dX9_init_60 : decode cX9_init 60 = .ok (.return_, 1) := by decide +kernel
theorem dX9_begin_0 : decode cX9_begin 0 = .ok (.aload_n 0, 1) := by decide +kernel
theorem dX9_begin_1 : decode cX9_begin 1 = .ok (.aload_n 1, 1) := by decide +kernel
theorem dX9_begin_2 : decode cX9_begin 2 = .ok (.putfield 25, 3) := by decide +kernel
theorem dX9_begin_5 : decode cX9_begin 5 = .ok (.aload_n 0, 1) := by decide +kernel
theorem dX9_begin_6 : decode cX9_begin 6 = .ok (.aload_n 1, 1) := by decide +kernel
theorem dX9_begin_7 : decode cX9_begin 7 = .ok (.getfield 29, 3) := by decide +kernel
theorem dX9_begin_10 : decode cX9_begin 10 = .ok (.putfield 35, 3) := by decide +kernel
theorem dX9_begin_13 : decode cX9_begin 13 = .ok (.aload_n 0, 1) := by decide +kernel
theorem dX9_begin_14 : decode cX9_begin 14 = .ok (.aload_n 1, 1) := by decide +kernel
theorem dX9_begin_15 : decode cX9_begin 15 = .ok (.getfield 36, 3) := by decide +kernel
theorem dX9_begin_18 : decode cX9_begin 18 = .ok (.putfield 40, 3) := by decide +kernel
theorem dX9_begin_21 : decode cX9_begin 21 = .ok (.return_, 1) := by decide +kernel
theorem dX9_firstFault_0 : decode cX9_firstFault 0 = .ok (.aload_n 0, 1) := by decide +kernel
theorem dX9_firstFault_1 : decode cX9_firstFault 1 = .ok (.getfield 25, 3) := by decide +kernel
theorem dX9_firstFault_4 : decode cX9_firstFault 4 = .ok (.getfield 41, 3) := by decide +kernel
theorem dX9_firstFault_7 : decode cX9_firstFault 7 = .ok (.iload_n 1, 1) := by decide +kernel
theorem dX9_firstFault_8 : decode cX9_firstFault 8 = .ok (.iaload, 1) := by decide +kernel
theorem dX9_firstFault_9 : decode cX9_firstFault 9 = .ok (.istore_n 2, 1) := by decide +kernel
theorem dX9_firstFault_10 : decode cX9_firstFault 10 = .ok (.aload_n 0, 1) := by decide +kernel
theorem dX9_firstFault_11 : decode cX9_firstFault 11 = .ok (.getfield 25, 3) := by decide +kernel
theorem dX9_firstFault_14 : decode cX9_firstFault 14 = .ok (.getfield 45, 3) := by decide +kernel
theorem dX9_firstFault_17 : decode cX9_firstFault 17 = .ok (.iload_n 1, 1) := by decide +kernel
theorem dX9_firstFault_18 : decode cX9_firstFault 18 = .ok (.iaload, 1) := by decide +kernel
theorem dX9_firstFault_19 : decode cX9_firstFault 19 = .ok (.istore_n 3, 1) := by decide +kernel
theorem dX9_firstFault_20 : decode cX9_firstFault 20 = .ok (.iload_n 2, 1) := by decide +kernel
theorem dX9_firstFault_21 : decode cX9_firstFault 21 = .ok (.istore 4, 2) := by decide +kernel
theorem dX9_firstFault_23 : decode cX9_firstFault 23 = .ok (.iload 4, 2) := by decide +kernel
theorem dX9_firstFault_25 : decode cX9_firstFault 25 = .ok (.iload_n 3, 1) := by decide +kernel
theorem dX9_firstFault_26 : decode cX9_firstFault 26 = .ok (.if_icmp .ge 17, 3) := by decide +kernel
theorem dX9_firstFault_29 : decode cX9_firstFault 29 = .ok (.aload_n 0, 1) := by decide +kernel
theorem dX9_firstFault_30 : decode cX9_firstFault 30 = .ok (.getfield 15, 3) := by decide +kernel
theorem dX9_firstFault_33 : decode cX9_firstFault 33 = .ok (.iload 4, 2) := by decide +kernel
theorem dX9_firstFault_35 : decode cX9_firstFault 35 = .ok (.iconst 0, 1) := by decide +kernel
theorem dX9_firstFault_36 : decode cX9_firstFault 36 = .ok (.bastore, 1) := by decide +kernel
theorem dX9_firstFault_37 : decode cX9_firstFault 37 = .ok (.iinc 4 1, 3) := by decide +kernel
theorem dX9_firstFault_40 : decode cX9_firstFault 40 = .ok (.goto (-17), 3) := by decide +kernel
theorem dX9_firstFault_43 : decode cX9_firstFault 43 = .ok (.aload_n 0, 1) := by decide +kernel
theorem dX9_firstFault_44 : decode cX9_firstFault 44 = .ok (.iload_n 1, 1) := by decide +kernel
theorem dX9_firstFault_45 : decode cX9_firstFault 45 = .ok (.invokevirtual 48, 3) := by decide +kernel
theorem dX9_firstFault_48 : decode cX9_firstFault 48 = .ok (.iconst 0, 1) := by decide +kernel
theorem dX9_firstFault_49 : decode cX9_firstFault 49 = .ok (.istore 4, 2) := by decide +kernel
theorem dX9_firstFault_51 : decode cX9_firstFault 51 = .ok (.iload 4, 2) := by decide +kernel
theorem dX9_firstFault_53 : decode cX9_firstFault 53 = .ok (.ldc 52, 2) := by decide +kernel
theorem dX9_firstFault_55 : decode cX9_firstFault 55 = .ok (.if_icmp .ge 61, 3) := by decide +kernel
theorem dX9_firstFault_58 : decode cX9_firstFault 58 = .ok (.aload_n 0, 1) := by decide +kernel
theorem dX9_firstFault_59 : decode cX9_firstFault 59 = .ok (.getfield 53, 3) := by decide +kernel
theorem dX9_firstFault_62 : decode cX9_firstFault 62 = .ok (.ifCond .eq 54, 3) := by decide +kernel
theorem dX9_firstFault_65 : decode cX9_firstFault 65 = .ok (.aload_n 0, 1) := by decide +kernel
theorem dX9_firstFault_66 : decode cX9_firstFault 66 = .ok (.iconst 0, 1) := by decide +kernel
theorem dX9_firstFault_67 : decode cX9_firstFault 67 = .ok (.putfield 53, 3) := by decide +kernel
theorem dX9_firstFault_70 : decode cX9_firstFault 70 = .ok (.iload_n 2, 1) := by decide +kernel
theorem dX9_firstFault_71 : decode cX9_firstFault 71 = .ok (.istore 5, 2) := by decide +kernel
theorem dX9_firstFault_73 : decode cX9_firstFault 73 = .ok (.iload 5, 2) := by decide +kernel
theorem dX9_firstFault_75 : decode cX9_firstFault 75 = .ok (.iload_n 3, 1) := by decide +kernel
theorem dX9_firstFault_76 : decode cX9_firstFault 76 = .ok (.if_icmp .ge 34, 3) := by decide +kernel
theorem dX9_firstFault_79 : decode cX9_firstFault 79 = .ok (.aload_n 0, 1) := by decide +kernel
theorem dX9_firstFault_80 : decode cX9_firstFault 80 = .ok (.getfield 19, 3) := by decide +kernel
theorem dX9_firstFault_83 : decode cX9_firstFault 83 = .ok (.iload 5, 2) := by decide +kernel
theorem dX9_firstFault_85 : decode cX9_firstFault 85 = .ok (.baload, 1) := by decide +kernel
theorem dX9_firstFault_86 : decode cX9_firstFault 86 = .ok (.ifCond .eq 18, 3) := by decide +kernel
theorem dX9_firstFault_89 : decode cX9_firstFault 89 = .ok (.aload_n 0, 1) := by decide +kernel
theorem dX9_firstFault_90 : decode cX9_firstFault 90 = .ok (.getfield 19, 3) := by decide +kernel
theorem dX9_firstFault_93 : decode cX9_firstFault 93 = .ok (.iload 5, 2) := by decide +kernel
theorem dX9_firstFault_95 : decode cX9_firstFault 95 = .ok (.iconst 0, 1) := by decide +kernel
theorem dX9_firstFault_96 : decode cX9_firstFault 96 = .ok (.bastore, 1) := by decide +kernel
theorem dX9_firstFault_97 : decode cX9_firstFault 97 = .ok (.aload_n 0, 1) := by decide +kernel
theorem dX9_firstFault_98 : decode cX9_firstFault 98 = .ok (.iload 5, 2) := by decide +kernel
theorem dX9_firstFault_100 : decode cX9_firstFault 100 = .ok (.iload_n 1, 1) := by decide +kernel
theorem dX9_firstFault_101 : decode cX9_firstFault 101 = .ok (.invokevirtual 57, 3) := by decide +kernel
theorem dX9_firstFault_104 : decode cX9_firstFault 104 = .ok (.iinc 5 1, 3) := by decide +kernel
theorem dX9_firstFault_107 : decode cX9_firstFault 107 = .ok (.goto (-34), 3) := by decide +kernel
theorem dX9_firstFault_110 : decode cX9_firstFault 110 = .ok (.iinc 4 1, 3) := by decide +kernel
theorem dX9_firstFault_113 : decode cX9_firstFault 113 = .ok (.goto (-62), 3) := by decide +kernel
theorem dX9_firstFault_116 : decode cX9_firstFault 116 = .ok (.iload_n 2, 1) := by decide +kernel
theorem dX9_firstFault_117 : decode cX9_firstFault 117 = .ok (.istore 4, 2) := by decide +kernel
theorem dX9_firstFault_119 : decode cX9_firstFault 119 = .ok (.iload 4, 2) := by decide +kernel
theorem dX9_firstFault_121 : decode cX9_firstFault 121 = .ok (.iload_n 3, 1) := by decide +kernel
theorem dX9_firstFault_122 : decode cX9_firstFault 122 = .ok (.if_icmp .ge 31, 3) := by decide +kernel
theorem dX9_firstFault_125 : decode cX9_firstFault 125 = .ok (.aload_n 0, 1) := by decide +kernel
theorem dX9_firstFault_126 : decode cX9_firstFault 126 = .ok (.getfield 15, 3) := by decide +kernel
theorem dX9_firstFault_129 : decode cX9_firstFault 129 = .ok (.iload 4, 2) := by decide +kernel
theorem dX9_firstFault_131 : decode cX9_firstFault 131 = .ok (.baload, 1) := by decide +kernel
theorem dX9_firstFault_132 : decode cX9_firstFault 132 = .ok (.ifCond .eq 15, 3) := by decide +kernel
theorem dX9_firstFault_135 : decode cX9_firstFault 135 = .ok (.aload_n 0, 1) := by decide +kernel
theorem dX9_firstFault_136 : decode cX9_firstFault 136 = .ok (.iload 4, 2) := by decide +kernel
theorem dX9_firstFault_138 : decode cX9_firstFault 138 = .ok (.invokevirtual 61, 3) := by decide +kernel
theorem dX9_firstFault_141 : decode cX9_firstFault 141 = .ok (.ifCond .ne 6, 3) := by decide +kernel
theorem dX9_firstFault_144 : decode cX9_firstFault 144 = .ok (.iload 4, 2) := by decide +kernel
theorem dX9_firstFault_146 : decode cX9_firstFault 146 = .ok (.ireturn, 1) := by decide +kernel
theorem dX9_firstFault_147 : decode cX9_firstFault 147 = .ok (.iinc 4 1, 3) := by decide +kernel
theorem dX9_firstFault_150 : decode cX9_firstFault 150 = .ok (.goto (-31), 3) := by decide +kernel
theorem dX9_firstFault_153 : decode cX9_firstFault 153 = .ok (.iconst (-1), 1) := by decide +kernel
theorem dX9_firstFault_154 : decode cX9_firstFault 154 = .ok (.ireturn, 1) := by decide +kernel
theorem dX9_enter_0 : decode cX9_enter 0 = .ok (.iconst 0, 1) := by decide +kernel
theorem dX9_enter_1 : decode cX9_enter 1 = .ok (.istore_n 2, 1) := by decide +kernel
theorem dX9_enter_2 : decode cX9_enter 2 = .ok (.iload_n 2, 1) := by decide +kernel
theorem dX9_enter_3 : decode cX9_enter 3 = .ok (.bipush 12, 2) := by decide +kernel
theorem dX9_enter_5 : decode cX9_enter 5 = .ok (.if_icmp .ge 48, 3) := by decide +kernel
theorem dX9_enter_8 : decode cX9_enter 8 = .ok (.aload_n 0, 1) := by decide +kernel
theorem dX9_enter_9 : decode cX9_enter 9 = .ok (.getfield 22, 3) := by decide +kernel
theorem dX9_enter_12 : decode cX9_enter 12 = .ok (.iload_n 2, 1) := by decide +kernel
theorem dX9_enter_13 : decode cX9_enter 13 = .ok (.iload_n 2, 1) := by decide +kernel
theorem dX9_enter_14 : decode cX9_enter 14 = .ok (.aload_n 0, 1) := by decide +kernel
theorem dX9_enter_15 : decode cX9_enter 15 = .ok (.getfield 25, 3) := by decide +kernel
theorem dX9_enter_18 : decode cX9_enter 18 = .ok (.getfield 65, 3) := by decide +kernel
theorem dX9_enter_21 : decode cX9_enter 21 = .ok (.iload_n 1, 1) := by decide +kernel
theorem dX9_enter_22 : decode cX9_enter 22 = .ok (.iaload, 1) := by decide +kernel
theorem dX9_enter_23 : decode cX9_enter 23 = .ok (.if_icmp .ge 20, 3) := by decide +kernel
theorem dX9_enter_26 : decode cX9_enter 26 = .ok (.aload_n 0, 1) := by decide +kernel
theorem dX9_enter_27 : decode cX9_enter 27 = .ok (.getfield 25, 3) := by decide +kernel
theorem dX9_enter_30 : decode cX9_enter 30 = .ok (.getfield 68, 3) := by decide +kernel
theorem dX9_enter_33 : decode cX9_enter 33 = .ok (.iload_n 1, 1) := by decide +kernel
theorem dX9_enter_34 : decode cX9_enter 34 = .ok (.bipush 12, 2) := by decide +kernel
theorem dX9_enter_36 : decode cX9_enter 36 = .ok (.imul, 1) := by decide +kernel
theorem dX9_enter_37 : decode cX9_enter 37 = .ok (.iload_n 2, 1) := by decide +kernel
theorem dX9_enter_38 : decode cX9_enter 38 = .ok (.iadd, 1) := by decide +kernel
theorem dX9_enter_39 : decode cX9_enter 39 = .ok (.iaload, 1) := by decide +kernel
theorem dX9_enter_40 : decode cX9_enter 40 = .ok (.goto 5, 3) := by decide +kernel
theorem dX9_enter_43 : decode cX9_enter 43 = .ok (.bipush 67, 2) := by decide +kernel
theorem dX9_enter_45 : decode cX9_enter 45 = .ok (.i2b, 1) := by decide +kernel
theorem dX9_enter_46 : decode cX9_enter 46 = .ok (.bastore, 1) := by decide +kernel
theorem dX9_enter_47 : decode cX9_enter 47 = .ok (.iinc 2 1, 3) := by decide +kernel
theorem dX9_enter_50 : decode cX9_enter 50 = .ok (.goto (-48), 3) := by decide +kernel
theorem dX9_enter_53 : decode cX9_enter 53 = .ok (.aload_n 0, 1) := by decide +kernel
theorem dX9_enter_54 : decode cX9_enter 54 = .ok (.aload_n 0, 1) := by decide +kernel
theorem dX9_enter_55 : decode cX9_enter 55 = .ok (.getfield 25, 3) := by decide +kernel
theorem dX9_enter_58 : decode cX9_enter 58 = .ok (.getfield 41, 3) := by decide +kernel
theorem dX9_enter_61 : decode cX9_enter 61 = .ok (.iload_n 1, 1) := by decide +kernel
theorem dX9_enter_62 : decode cX9_enter 62 = .ok (.iaload, 1) := by decide +kernel
theorem dX9_enter_63 : decode cX9_enter 63 = .ok (.invokevirtual 71, 3) := by decide +kernel
theorem dX9_enter_66 : decode cX9_enter 66 = .ok (.return_, 1) := by decide +kernel
theorem dX9_isRight_0 : decode cX9_isRight 0 = .ok (.iload_n 1, 1) := by decide +kernel
theorem dX9_isRight_1 : decode cX9_isRight 1 = .ok (.bipush 20, 2) := by decide +kernel
theorem dX9_isRight_3 : decode cX9_isRight 3 = .ok (.imul, 1) := by decide +kernel
theorem dX9_isRight_4 : decode cX9_isRight 4 = .ok (.istore_n 2, 1) := by decide +kernel
theorem dX9_isRight_5 : decode cX9_isRight 5 = .ok (.iload_n 2, 1) := by decide +kernel
theorem dX9_isRight_6 : decode cX9_isRight 6 = .ok (.bipush 12, 2) := by decide +kernel
theorem dX9_isRight_8 : decode cX9_isRight 8 = .ok (.iadd, 1) := by decide +kernel
theorem dX9_isRight_9 : decode cX9_isRight 9 = .ok (.aload_n 0, 1) := by decide +kernel
theorem dX9_isRight_10 : decode cX9_isRight 10 = .ok (.getfield 40, 3) := by decide +kernel
theorem dX9_isRight_13 : decode cX9_isRight 13 = .ok (.getfield 74, 3) := by decide +kernel
theorem dX9_isRight_16 : decode cX9_isRight 16 = .ok (.iload_n 1, 1) := by decide +kernel
theorem dX9_isRight_17 : decode cX9_isRight 17 = .ok (.iaload, 1) := by decide +kernel
theorem dX9_isRight_18 : decode cX9_isRight 18 = .ok (.iadd, 1) := by decide +kernel
theorem dX9_isRight_19 : decode cX9_isRight 19 = .ok (.aload_n 0, 1) := by decide +kernel
theorem dX9_isRight_20 : decode cX9_isRight 20 = .ok (.getfield 25, 3) := by decide +kernel
theorem dX9_isRight_23 : decode cX9_isRight 23 = .ok (.iload_n 1, 1) := by decide +kernel
theorem dX9_isRight_24 : decode cX9_isRight 24 = .ok (.invokevirtual 79, 3) := by decide +kernel
theorem dX9_isRight_27 : decode cX9_isRight 27 = .ok (.isub, 1) := by decide +kernel
theorem dX9_isRight_28 : decode cX9_isRight 28 = .ok (.istore_n 3, 1) := by decide +kernel
theorem dX9_isRight_29 : decode cX9_isRight 29 = .ok (.aload_n 0, 1) := by decide +kernel
theorem dX9_isRight_30 : decode cX9_isRight 30 = .ok (.getfield 25, 3) := by decide +kernel
theorem dX9_isRight_33 : decode cX9_isRight 33 = .ok (.iload_n 1, 1) := by decide +kernel
theorem dX9_isRight_34 : decode cX9_isRight 34 = .ok (.aload_n 0, 1) := by decide +kernel
theorem dX9_isRight_35 : decode cX9_isRight 35 = .ok (.getfield 9, 3) := by decide +kernel
theorem dX9_isRight_38 : decode cX9_isRight 38 = .ok (.iload_n 2, 1) := by decide +kernel
theorem dX9_isRight_39 : decode cX9_isRight 39 = .ok (.iload_n 3, 1) := by decide +kernel
theorem dX9_isRight_40 : decode cX9_isRight 40 = .ok (.invokevirtual 83, 3) := by decide +kernel
theorem dX9_isRight_43 : decode cX9_isRight 43 = .ok (.ifCond .ne 5, 3) := by decide +kernel
theorem dX9_isRight_46 : decode cX9_isRight 46 = .ok (.iconst 0, 1) := by decide +kernel
theorem dX9_isRight_47 : decode cX9_isRight 47 = .ok (.ireturn, 1) := by decide +kernel
theorem dX9_isRight_48 : decode cX9_isRight 48 = .ok (.aload_n 0, 1) := by decide +kernel
theorem dX9_isRight_49 : decode cX9_isRight 49 = .ok (.getfield 40, 3) := by decide +kernel
theorem dX9_isRight_52 : decode cX9_isRight 52 = .ok (.getfield 87, 3) := by decide +kernel
theorem dX9_isRight_55 : decode cX9_isRight 55 = .ok (.iload_n 1, 1) := by decide +kernel
theorem dX9_isRight_56 : decode cX9_isRight 56 = .ok (.iaload, 1) := by decide +kernel
theorem dX9_isRight_57 : decode cX9_isRight 57 = .ok (.bipush 34, 2) := by decide +kernel
theorem dX9_isRight_59 : decode cX9_isRight 59 = .ok (.if_icmp .ne 27, 3) := by decide +kernel
theorem dX9_isRight_62 : decode cX9_isRight 62 = .ok (.aload_n 0, 1) := by decide +kernel
theorem dX9_isRight_63 : decode cX9_isRight 63 = .ok (.getfield 35, 3) := by decide +kernel
theorem dX9_isRight_66 : decode cX9_isRight 66 = .ok (.aload_n 0, 1) := by decide +kernel
theorem dX9_isRight_67 : decode cX9_isRight 67 = .ok (.getfield 9, 3) := by decide +kernel
theorem dX9_isRight_70 : decode cX9_isRight 70 = .ok (.iload_n 3, 1) := by decide +kernel
theorem dX9_isRight_71 : decode cX9_isRight 71 = .ok (.iconst 2, 1) := by decide +kernel
theorem dX9_isRight_72 : decode cX9_isRight 72 = .ok (.iadd, 1) := by decide +kernel
theorem dX9_isRight_73 : decode cX9_isRight 73 = .ok (.baload, 1) := by decide +kernel
theorem dX9_isRight_74 : decode cX9_isRight 74 = .ok (.aload_n 0, 1) := by decide +kernel
theorem dX9_isRight_75 : decode cX9_isRight 75 = .ok (.getfield 9, 3) := by decide +kernel
theorem dX9_isRight_78 : decode cX9_isRight 78 = .ok (.iload_n 3, 1) := by decide +kernel
theorem dX9_isRight_79 : decode cX9_isRight 79 = .ok (.baload, 1) := by decide +kernel
theorem dX9_isRight_80 : decode cX9_isRight 80 = .ok (.invokevirtual 90, 3) := by decide +kernel
theorem dX9_isRight_83 : decode cX9_isRight 83 = .ok (.ifCond .eq 7, 3) := by decide +kernel
theorem dX9_isRight_86 : decode cX9_isRight 86 = .ok (.iconst 1, 1) := by decide +kernel
theorem dX9_isRight_87 : decode cX9_isRight 87 = .ok (.goto 4, 3) := by decide +kernel
theorem dX9_isRight_90 : decode cX9_isRight 90 = .ok (.iconst 0, 1) := by decide +kernel
theorem dX9_isRight_91 : decode cX9_isRight 91 = .ok (.ireturn, 1) := by decide +kernel
theorem dX9_spread_0 : decode cX9_spread 0 = .ok (.aload_n 0, 1) := by decide +kernel
theorem dX9_spread_1 : decode cX9_spread 1 = .ok (.getfield 9, 3) := by decide +kernel
theorem dX9_spread_4 : decode cX9_spread 4 = .ok (.iload_n 1, 1) := by decide +kernel
theorem dX9_spread_5 : decode cX9_spread 5 = .ok (.bipush 20, 2) := by decide +kernel
theorem dX9_spread_7 : decode cX9_spread 7 = .ok (.imul, 1) := by decide +kernel
theorem dX9_spread_8 : decode cX9_spread 8 = .ok (.aload_n 0, 1) := by decide +kernel
theorem dX9_spread_9 : decode cX9_spread 9 = .ok (.getfield 22, 3) := by decide +kernel
theorem dX9_spread_12 : decode cX9_spread 12 = .ok (.iconst 0, 1) := by decide +kernel
theorem dX9_spread_13 : decode cX9_spread 13 = .ok (.bipush 20, 2) := by decide +kernel
theorem dX9_spread_15 : decode cX9_spread 15 = .ok (.invokestatic 96, 3) := by decide +kernel
theorem dX9_spread_18 : decode cX9_spread 18 = .ok (.aload_n 0, 1) := by decide +kernel
theorem dX9_spread_19 : decode cX9_spread 19 = .ok (.iload_n 1, 1) := by decide +kernel
theorem dX9_spread_20 : decode cX9_spread 20 = .ok (.invokevirtual 102, 3) := by decide +kernel
theorem dX9_spread_23 : decode cX9_spread 23 = .ok (.ifCond .eq 53, 3) := by decide +kernel
theorem dX9_spread_26 : decode cX9_spread 26 = .ok (.aload_n 0, 1) := by decide +kernel
theorem dX9_spread_27 : decode cX9_spread 27 = .ok (.getfield 40, 3) := by decide +kernel
theorem dX9_spread_30 : decode cX9_spread 30 = .ok (.getfield 87, 3) := by decide +kernel
theorem dX9_spread_33 : decode cX9_spread 33 = .ok (.iload_n 1, 1) := by decide +kernel
theorem dX9_spread_34 : decode cX9_spread 34 = .ok (.iaload, 1) := by decide +kernel
theorem dX9_spread_35 : decode cX9_spread 35 = .ok (.invokestatic 105, 3) := by decide +kernel
theorem dX9_spread_38 : decode cX9_spread 38 = .ok (.ifCond .eq 10, 3) := by decide +kernel
theorem dX9_spread_41 : decode cX9_spread 41 = .ok (.aload_n 0, 1) := by decide +kernel
theorem dX9_spread_42 : decode cX9_spread 42 = .ok (.iload_n 1, 1) := by decide +kernel
theorem dX9_spread_43 : decode cX9_spread 43 = .ok (.iconst 1, 1) := by decide +kernel
theorem dX9_spread_44 : decode cX9_spread 44 = .ok (.iadd, 1) := by decide +kernel
theorem dX9_spread_45 : decode cX9_spread 45 = .ok (.invokevirtual 71, 3) := by decide +kernel
theorem dX9_spread_48 : decode cX9_spread 48 = .ok (.aload_n 0, 1) := by decide +kernel
theorem dX9_spread_49 : decode cX9_spread 49 = .ok (.getfield 40, 3) := by decide +kernel
theorem dX9_spread_52 : decode cX9_spread 52 = .ok (.getfield 87, 3) := by decide +kernel
theorem dX9_spread_55 : decode cX9_spread 55 = .ok (.iload_n 1, 1) := by decide +kernel
theorem dX9_spread_56 : decode cX9_spread 56 = .ok (.iaload, 1) := by decide +kernel
theorem dX9_spread_57 : decode cX9_spread 57 = .ok (.invokestatic 108, 3) := by decide +kernel
theorem dX9_spread_60 : decode cX9_spread 60 = .ok (.ifCond .eq 16, 3) := by decide +kernel
theorem dX9_spread_63 : decode cX9_spread 63 = .ok (.aload_n 0, 1) := by decide +kernel
theorem dX9_spread_64 : decode cX9_spread 64 = .ok (.aload_n 0, 1) := by decide +kernel
theorem dX9_spread_65 : decode cX9_spread 65 = .ok (.getfield 40, 3) := by decide +kernel
theorem dX9_spread_68 : decode cX9_spread 68 = .ok (.getfield 111, 3) := by decide +kernel
theorem dX9_spread_71 : decode cX9_spread 71 = .ok (.iload_n 1, 1) := by decide +kernel
theorem dX9_spread_72 : decode cX9_spread 72 = .ok (.iaload, 1) := by decide +kernel
theorem dX9_spread_73 : decode cX9_spread 73 = .ok (.invokevirtual 71, 3) := by decide +kernel
theorem dX9_spread_76 : decode cX9_spread 76 = .ok (.aload_n 0, 1) := by decide +kernel
theorem dX9_spread_77 : decode cX9_spread 77 = .ok (.getfield 25, 3) := by decide +kernel
theorem dX9_spread_80 : decode cX9_spread 80 = .ok (.getfield 114, 3) := by decide +kernel
theorem dX9_spread_83 : decode cX9_spread 83 = .ok (.iload_n 2, 1) := by decide +kernel
theorem dX9_spread_84 : decode cX9_spread 84 = .ok (.iaload, 1) := by decide +kernel
theorem dX9_spread_85 : decode cX9_spread 85 = .ok (.istore_n 3, 1) := by decide +kernel
theorem dX9_spread_86 : decode cX9_spread 86 = .ok (.iload_n 3, 1) := by decide +kernel
theorem dX9_spread_87 : decode cX9_spread 87 = .ok (.aload_n 0, 1) := by decide +kernel
theorem dX9_spread_88 : decode cX9_spread 88 = .ok (.getfield 25, 3) := by decide +kernel
theorem dX9_spread_91 : decode cX9_spread 91 = .ok (.getfield 117, 3) := by decide +kernel
theorem dX9_spread_94 : decode cX9_spread 94 = .ok (.iload_n 2, 1) := by decide +kernel
theorem dX9_spread_95 : decode cX9_spread 95 = .ok (.iaload, 1) := by decide +kernel
theorem dX9_spread_96 : decode cX9_spread 96 = .ok (.if_icmp .ge 69, 3) := by decide +kernel
theorem dX9_spread_99 : decode cX9_spread 99 = .ok (.aload_n 0, 1) := by decide +kernel
theorem dX9_spread_100 : decode cX9_spread 100 = .ok (.getfield 40, 3) := by decide +kernel
theorem dX9_spread_103 : decode cX9_spread 103 = .ok (.iload_n 1, 1) := by decide +kernel
theorem dX9_spread_104 : decode cX9_spread 104 = .ok (.iload_n 3, 1) := by decide +kernel
theorem dX9_spread_105 : decode cX9_spread 105 = .ok (.invokevirtual 120, 3) := by decide +kernel
theorem dX9_spread_108 : decode cX9_spread 108 = .ok (.ifCond .eq 51, 3) := by decide +kernel
theorem dX9_spread_111 : decode cX9_spread 111 = .ok (.aload_n 0, 1) := by decide +kernel
theorem dX9_spread_112 : decode cX9_spread 112 = .ok (.getfield 9, 3) := by decide +kernel
theorem dX9_spread_115 : decode cX9_spread 115 = .ok (.iload_n 1, 1) := by decide +kernel
theorem dX9_spread_116 : decode cX9_spread 116 = .ok (.bipush 20, 2) := by decide +kernel
theorem dX9_spread_118 : decode cX9_spread 118 = .ok (.imul, 1) := by decide +kernel
theorem dX9_spread_119 : decode cX9_spread 119 = .ok (.aload_n 0, 1) := by decide +kernel
theorem dX9_spread_120 : decode cX9_spread 120 = .ok (.getfield 22, 3) := by decide +kernel
theorem dX9_spread_123 : decode cX9_spread 123 = .ok (.iconst 0, 1) := by decide +kernel
theorem dX9_spread_124 : decode cX9_spread 124 = .ok (.bipush 20, 2) := by decide +kernel
theorem dX9_spread_126 : decode cX9_spread 126 = .ok (.invokestatic 96, 3) := by decide +kernel
theorem dX9_spread_129 : decode cX9_spread 129 = .ok (.aload_n 0, 1) := by decide +kernel
theorem dX9_spread_130 : decode cX9_spread 130 = .ok (.getfield 22, 3) := by decide +kernel
theorem dX9_spread_133 : decode cX9_spread 133 = .ok (.bipush 12, 2) := by decide +kernel
theorem dX9_spread_135 : decode cX9_spread 135 = .ok (.aload_n 0, 1) := by decide +kernel
theorem dX9_spread_136 : decode cX9_spread 136 = .ok (.getfield 40, 3) := by decide +kernel
theorem dX9_spread_139 : decode cX9_spread 139 = .ok (.getfield 123, 3) := by decide +kernel
theorem dX9_spread_142 : decode cX9_spread 142 = .ok (.iload_n 3, 1) := by decide +kernel
theorem dX9_spread_143 : decode cX9_spread 143 = .ok (.iaload, 1) := by decide +kernel
theorem dX9_spread_144 : decode cX9_spread 144 = .ok (.i2b, 1) := by decide +kernel
theorem dX9_spread_145 : decode cX9_spread 145 = .ok (.bastore, 1) := by decide +kernel
theorem dX9_spread_146 : decode cX9_spread 146 = .ok (.aload_n 0, 1) := by decide +kernel
theorem dX9_spread_147 : decode cX9_spread 147 = .ok (.aload_n 0, 1) := by decide +kernel
theorem dX9_spread_148 : decode cX9_spread 148 = .ok (.getfield 40, 3) := by decide +kernel
theorem dX9_spread_151 : decode cX9_spread 151 = .ok (.getfield 126, 3) := by decide +kernel
theorem dX9_spread_154 : decode cX9_spread 154 = .ok (.iload_n 3, 1) := by decide +kernel
theorem dX9_spread_155 : decode cX9_spread 155 = .ok (.iaload, 1) := by decide +kernel
theorem dX9_spread_156 : decode cX9_spread 156 = .ok (.invokevirtual 71, 3) := by decide +kernel
theorem dX9_spread_159 : decode cX9_spread 159 = .ok (.iinc 3 1, 3) := by decide +kernel
theorem dX9_spread_162 : decode cX9_spread 162 = .ok (.goto (-76), 3) := by decide +kernel
theorem dX9_spread_165 : decode cX9_spread 165 = .ok (.return_, 1) := by decide +kernel
theorem dX9_perform_0 : decode cX9_perform 0 = .ok (.aload_n 0, 1) := by decide +kernel
theorem dX9_perform_1 : decode cX9_perform 1 = .ok (.getfield 40, 3) := by decide +kernel
theorem dX9_perform_4 : decode cX9_perform 4 = .ok (.getfield 111, 3) := by decide +kernel
theorem dX9_perform_7 : decode cX9_perform 7 = .ok (.iload_n 1, 1) := by decide +kernel
theorem dX9_perform_8 : decode cX9_perform 8 = .ok (.iaload, 1) := by decide +kernel
theorem dX9_perform_9 : decode cX9_perform 9 = .ok (.istore_n 2, 1) := by decide +kernel
theorem dX9_perform_10 : decode cX9_perform 10 = .ok (.bipush 12, 2) := by decide +kernel
theorem dX9_perform_12 : decode cX9_perform 12 = .ok (.aload_n 0, 1) := by decide +kernel
theorem dX9_perform_13 : decode cX9_perform 13 = .ok (.getfield 40, 3) := by decide +kernel
theorem dX9_perform_16 : decode cX9_perform 16 = .ok (.getfield 74, 3) := by decide +kernel
theorem dX9_perform_19 : decode cX9_perform 19 = .ok (.iload_n 1, 1) := by decide +kernel
theorem dX9_perform_20 : decode cX9_perform 20 = .ok (.iaload, 1) := by decide +kernel
theorem dX9_perform_21 : decode cX9_perform 21 = .ok (.iadd, 1) := by decide +kernel
theorem dX9_perform_22 : decode cX9_perform 22 = .ok (.istore_n 3, 1) := by decide +kernel
theorem dX9_perform_23 : decode cX9_perform 23 = .ok (.iload_n 3, 1) := by decide +kernel
theorem dX9_perform_24 : decode cX9_perform 24 = .ok (.aload_n 0, 1) := by decide +kernel
theorem dX9_perform_25 : decode cX9_perform 25 = .ok (.getfield 25, 3) := by decide +kernel
theorem dX9_perform_28 : decode cX9_perform 28 = .ok (.iload_n 1, 1) := by decide +kernel
theorem dX9_perform_29 : decode cX9_perform 29 = .ok (.invokevirtual 79, 3) := by decide +kernel
theorem dX9_perform_32 : decode cX9_perform 32 = .ok (.isub, 1) := by decide +kernel
theorem dX9_perform_33 : decode cX9_perform 33 = .ok (.istore 4, 2) := by decide +kernel
theorem dX9_perform_35 : decode cX9_perform 35 = .ok (.aload_n 0, 1) := by decide +kernel
theorem dX9_perform_36 : decode cX9_perform 36 = .ok (.getfield 40, 3) := by decide +kernel
theorem dX9_perform_39 : decode cX9_perform 39 = .ok (.getfield 87, 3) := by decide +kernel
theorem dX9_perform_42 : decode cX9_perform 42 = .ok (.iload_n 1, 1) := by decide +kernel
theorem dX9_perform_43 : decode cX9_perform 43 = .ok (.iaload, 1) := by decide +kernel
theorem dX9_perform_44 : decode cX9_perform 44 = .ok (.lookupswitch 148 #[(2, 52), (3, 66), (5, 81), (7, 96), (33, 108)], 52) := by decide +kernel
theorem dX9_perform_96 : decode cX9_perform 96 = .ok (.aload_n 0, 1) := by decide +kernel
theorem dX9_perform_97 : decode cX9_perform 97 = .ok (.getfield 22, 3) := by decide +kernel
theorem dX9_perform_100 : decode cX9_perform 100 = .ok (.iload_n 3, 1) := by decide +kernel
theorem dX9_perform_101 : decode cX9_perform 101 = .ok (.aload_n 0, 1) := by decide +kernel
theorem dX9_perform_102 : decode cX9_perform 102 = .ok (.getfield 22, 3) := by decide +kernel
theorem dX9_perform_105 : decode cX9_perform 105 = .ok (.iload_n 2, 1) := by decide +kernel
theorem dX9_perform_106 : decode cX9_perform 106 = .ok (.baload, 1) := by decide +kernel
theorem dX9_perform_107 : decode cX9_perform 107 = .ok (.bastore, 1) := by decide +kernel
theorem dX9_perform_108 : decode cX9_perform 108 = .ok (.iconst 1, 1) := by decide +kernel
theorem dX9_perform_109 : decode cX9_perform 109 = .ok (.ireturn, 1) := by decide +kernel
theorem dX9_perform_110 : decode cX9_perform 110 = .ok (.aload_n 0, 1) := by decide +kernel
theorem dX9_perform_111 : decode cX9_perform 111 = .ok (.getfield 22, 3) := by decide +kernel
theorem dX9_perform_114 : decode cX9_perform 114 = .ok (.iload_n 2, 1) := by decide +kernel
theorem dX9_perform_115 : decode cX9_perform 115 = .ok (.aload_n 0, 1) := by decide +kernel
theorem dX9_perform_116 : decode cX9_perform 116 = .ok (.getfield 22, 3) := by decide +kernel
theorem dX9_perform_119 : decode cX9_perform 119 = .ok (.iload 4, 2) := by decide +kernel
theorem dX9_perform_121 : decode cX9_perform 121 = .ok (.baload, 1) := by decide +kernel
theorem dX9_perform_122 : decode cX9_perform 122 = .ok (.bastore, 1) := by decide +kernel
theorem dX9_perform_123 : decode cX9_perform 123 = .ok (.iconst 1, 1) := by decide +kernel
theorem dX9_perform_124 : decode cX9_perform 124 = .ok (.ireturn, 1) := by decide +kernel
theorem dX9_perform_125 : decode cX9_perform 125 = .ok (.aload_n 0, 1) := by decide +kernel
theorem dX9_perform_126 : decode cX9_perform 126 = .ok (.getfield 22, 3) := by decide +kernel
theorem dX9_perform_129 : decode cX9_perform 129 = .ok (.iload_n 3, 1) := by decide +kernel
theorem dX9_perform_130 : decode cX9_perform 130 = .ok (.aload_n 0, 1) := by decide +kernel
theorem dX9_perform_131 : decode cX9_perform 131 = .ok (.getfield 22, 3) := by decide +kernel
theorem dX9_perform_134 : decode cX9_perform 134 = .ok (.iload 4, 2) := by decide +kernel
theorem dX9_perform_136 : decode cX9_perform 136 = .ok (.baload, 1) := by decide +kernel
theorem dX9_perform_137 : decode cX9_perform 137 = .ok (.bastore, 1) := by decide +kernel
theorem dX9_perform_138 : decode cX9_perform 138 = .ok (.iconst 1, 1) := by decide +kernel
theorem dX9_perform_139 : decode cX9_perform 139 = .ok (.ireturn, 1) := by decide +kernel
theorem dX9_perform_140 : decode cX9_perform 140 = .ok (.aload_n 0, 1) := by decide +kernel
theorem dX9_perform_141 : decode cX9_perform 141 = .ok (.iload 4, 2) := by decide +kernel
theorem dX9_perform_143 : decode cX9_perform 143 = .ok (.iload 4, 2) := by decide +kernel
theorem dX9_perform_145 : decode cX9_perform 145 = .ok (.iconst 1, 1) := by decide +kernel
theorem dX9_perform_146 : decode cX9_perform 146 = .ok (.iadd, 1) := by decide +kernel
theorem dX9_perform_147 : decode cX9_perform 147 = .ok (.invokevirtual 129, 3) := by decide +kernel
theorem dX9_perform_150 : decode cX9_perform 150 = .ok (.iconst 1, 1) := by decide +kernel
theorem dX9_perform_151 : decode cX9_perform 151 = .ok (.ireturn, 1) := by decide +kernel
theorem dX9_perform_152 : decode cX9_perform 152 = .ok (.aload_n 0, 1) := by decide +kernel
theorem dX9_perform_153 : decode cX9_perform 153 = .ok (.getfield 22, 3) := by decide +kernel
theorem dX9_perform_156 : decode cX9_perform 156 = .ok (.iload 4, 2) := by decide +kernel
theorem dX9_perform_158 : decode cX9_perform 158 = .ok (.aload_n 0, 1) := by decide +kernel
theorem dX9_perform_159 : decode cX9_perform 159 = .ok (.getfield 35, 3) := by decide +kernel
theorem dX9_perform_162 : decode cX9_perform 162 = .ok (.aload_n 0, 1) := by decide +kernel
theorem dX9_perform_163 : decode cX9_perform 163 = .ok (.getfield 22, 3) := by decide +kernel
theorem dX9_perform_166 : decode cX9_perform 166 = .ok (.iload 4, 2) := by decide +kernel
theorem dX9_perform_168 : decode cX9_perform 168 = .ok (.baload, 1) := by decide +kernel
theorem dX9_perform_169 : decode cX9_perform 169 = .ok (.invokevirtual 132, 3) := by decide +kernel
theorem dX9_perform_172 : decode cX9_perform 172 = .ok (.i2b, 1) := by decide +kernel
theorem dX9_perform_173 : decode cX9_perform 173 = .ok (.bastore, 1) := by decide +kernel
theorem dX9_perform_174 : decode cX9_perform 174 = .ok (.aload_n 0, 1) := by decide +kernel
theorem dX9_perform_175 : decode cX9_perform 175 = .ok (.getfield 22, 3) := by decide +kernel
theorem dX9_perform_178 : decode cX9_perform 178 = .ok (.iload 4, 2) := by decide +kernel
theorem dX9_perform_180 : decode cX9_perform 180 = .ok (.baload, 1) := by decide +kernel
theorem dX9_perform_181 : decode cX9_perform 181 = .ok (.bipush 68, 2) := by decide +kernel
theorem dX9_perform_183 : decode cX9_perform 183 = .ok (.if_icmp .eq 7, 3) := by decide +kernel
theorem dX9_perform_186 : decode cX9_perform 186 = .ok (.iconst 1, 1) := by decide +kernel
theorem dX9_perform_187 : decode cX9_perform 187 = .ok (.goto 4, 3) := by decide +kernel
theorem dX9_perform_190 : decode cX9_perform 190 = .ok (.iconst 0, 1) := by decide +kernel
theorem dX9_perform_191 : decode cX9_perform 191 = .ok (.ireturn, 1) := by decide +kernel
theorem dX9_perform_192 : decode cX9_perform 192 = .ok (.aload_n 0, 1) := by decide +kernel
theorem dX9_perform_193 : decode cX9_perform 193 = .ok (.getfield 25, 3) := by decide +kernel
theorem dX9_perform_196 : decode cX9_perform 196 = .ok (.iload_n 1, 1) := by decide +kernel
theorem dX9_perform_197 : decode cX9_perform 197 = .ok (.invokevirtual 135, 3) := by decide +kernel
theorem dX9_perform_200 : decode cX9_perform 200 = .ok (.iconst 1, 1) := by decide +kernel
theorem dX9_perform_201 : decode cX9_perform 201 = .ok (.if_icmp .ne 19, 3) := by decide +kernel
theorem dX9_perform_204 : decode cX9_perform 204 = .ok (.aload_n 0, 1) := by decide +kernel
theorem dX9_perform_205 : decode cX9_perform 205 = .ok (.getfield 22, 3) := by decide +kernel
theorem dX9_perform_208 : decode cX9_perform 208 = .ok (.iload 4, 2) := by decide +kernel
theorem dX9_perform_210 : decode cX9_perform 210 = .ok (.aload_n 0, 1) := by decide +kernel
theorem dX9_perform_211 : decode cX9_perform 211 = .ok (.getfield 25, 3) := by decide +kernel
theorem dX9_perform_214 : decode cX9_perform 214 = .ok (.iload_n 1, 1) := by decide +kernel
theorem dX9_perform_215 : decode cX9_perform 215 = .ok (.invokevirtual 138, 3) := by decide +kernel
theorem dX9_perform_218 : decode cX9_perform 218 = .ok (.i2b, 1) := by decide +kernel
theorem dX9_perform_219 : decode cX9_perform 219 = .ok (.bastore, 1) := by decide +kernel
theorem dX9_perform_220 : decode cX9_perform 220 = .ok (.iconst 1, 1) := by decide +kernel
theorem dX9_perform_221 : decode cX9_perform 221 = .ok (.ireturn, 1) := by decide +kernel
theorem dX9_swap_0 : decode cX9_swap 0 = .ok (.aload_n 0, 1) := by decide +kernel
theorem dX9_swap_1 : decode cX9_swap 1 = .ok (.getfield 22, 3) := by decide +kernel
theorem dX9_swap_4 : decode cX9_swap 4 = .ok (.iload_n 1, 1) := by decide +kernel
theorem dX9_swap_5 : decode cX9_swap 5 = .ok (.baload, 1) := by decide +kernel
theorem dX9_swap_6 : decode cX9_swap 6 = .ok (.istore_n 3, 1) := by decide +kernel
theorem dX9_swap_7 : decode cX9_swap 7 = .ok (.aload_n 0, 1) := by decide +kernel
theorem dX9_swap_8 : decode cX9_swap 8 = .ok (.getfield 22, 3) := by decide +kernel
theorem dX9_swap_11 : decode cX9_swap 11 = .ok (.iload_n 1, 1) := by decide +kernel
theorem dX9_swap_12 : decode cX9_swap 12 = .ok (.aload_n 0, 1) := by decide +kernel
theorem dX9_swap_13 : decode cX9_swap 13 = .ok (.getfield 22, 3) := by decide +kernel
theorem dX9_swap_16 : decode cX9_swap 16 = .ok (.iload_n 2, 1) := by decide +kernel
theorem dX9_swap_17 : decode cX9_swap 17 = .ok (.baload, 1) := by decide +kernel
theorem dX9_swap_18 : decode cX9_swap 18 = .ok (.bastore, 1) := by decide +kernel
theorem dX9_swap_19 : decode cX9_swap 19 = .ok (.aload_n 0, 1) := by decide +kernel
theorem dX9_swap_20 : decode cX9_swap 20 = .ok (.getfield 22, 3) := by decide +kernel
theorem dX9_swap_23 : decode cX9_swap 23 = .ok (.iload_n 2, 1) := by decide +kernel
theorem dX9_swap_24 : decode cX9_swap 24 = .ok (.iload_n 3, 1) := by decide +kernel
theorem dX9_swap_25 : decode cX9_swap 25 = .ok (.bastore, 1) := by decide +kernel
theorem dX9_swap_26 : decode cX9_swap 26 = .ok (.return_, 1) := by decide +kernel
theorem dX9_arrive_0 : decode cX9_arrive 0 = .ok (.iload_n 1, 1) := by decide +kernel
theorem dX9_arrive_1 : decode cX9_arrive 1 = .ok (.bipush 20, 2) := by decide +kernel
theorem dX9_arrive_3 : decode cX9_arrive 3 = .ok (.imul, 1) := by decide +kernel
theorem dX9_arrive_4 : decode cX9_arrive 4 = .ok (.istore_n 2, 1) := by decide +kernel
theorem dX9_arrive_5 : decode cX9_arrive 5 = .ok (.bipush 12, 2) := by decide +kernel
theorem dX9_arrive_7 : decode cX9_arrive 7 = .ok (.aload_n 0, 1) := by decide +kernel
theorem dX9_arrive_8 : decode cX9_arrive 8 = .ok (.getfield 40, 3) := by decide +kernel
theorem dX9_arrive_11 : decode cX9_arrive 11 = .ok (.getfield 74, 3) := by decide +kernel
theorem dX9_arrive_14 : decode cX9_arrive 14 = .ok (.iload_n 1, 1) := by decide +kernel
theorem dX9_arrive_15 : decode cX9_arrive 15 = .ok (.iaload, 1) := by decide +kernel
theorem dX9_arrive_16 : decode cX9_arrive 16 = .ok (.iadd, 1) := by decide +kernel
theorem dX9_arrive_17 : decode cX9_arrive 17 = .ok (.istore_n 3, 1) := by decide +kernel
theorem dX9_arrive_18 : decode cX9_arrive 18 = .ok (.aload_n 0, 1) := by decide +kernel
theorem dX9_arrive_19 : decode cX9_arrive 19 = .ok (.getfield 15, 3) := by decide +kernel
theorem dX9_arrive_22 : decode cX9_arrive 22 = .ok (.iload_n 1, 1) := by decide +kernel
theorem dX9_arrive_23 : decode cX9_arrive 23 = .ok (.baload, 1) := by decide +kernel
theorem dX9_arrive_24 : decode cX9_arrive 24 = .ok (.ifCond .ne 7, 3) := by decide +kernel
theorem dX9_arrive_27 : decode cX9_arrive 27 = .ok (.iconst 1, 1) := by decide +kernel
theorem dX9_arrive_28 : decode cX9_arrive 28 = .ok (.goto 4, 3) := by decide +kernel
theorem dX9_arrive_31 : decode cX9_arrive 31 = .ok (.iconst 0, 1) := by decide +kernel
theorem dX9_arrive_32 : decode cX9_arrive 32 = .ok (.istore 4, 2) := by decide +kernel
theorem dX9_arrive_34 : decode cX9_arrive 34 = .ok (.aload_n 0, 1) := by decide +kernel
theorem dX9_arrive_35 : decode cX9_arrive 35 = .ok (.getfield 15, 3) := by decide +kernel
theorem dX9_arrive_38 : decode cX9_arrive 38 = .ok (.iload_n 1, 1) := by decide +kernel
theorem dX9_arrive_39 : decode cX9_arrive 39 = .ok (.baload, 1) := by decide +kernel
theorem dX9_arrive_40 : decode cX9_arrive 40 = .ok (.ifCond .ne 24, 3) := by decide +kernel
theorem dX9_arrive_43 : decode cX9_arrive 43 = .ok (.aload_n 0, 1) := by decide +kernel
theorem dX9_arrive_44 : decode cX9_arrive 44 = .ok (.getfield 22, 3) := by decide +kernel
theorem dX9_arrive_47 : decode cX9_arrive 47 = .ok (.iconst 0, 1) := by decide +kernel
theorem dX9_arrive_48 : decode cX9_arrive 48 = .ok (.aload_n 0, 1) := by decide +kernel
theorem dX9_arrive_49 : decode cX9_arrive 49 = .ok (.getfield 9, 3) := by decide +kernel
theorem dX9_arrive_52 : decode cX9_arrive 52 = .ok (.iload_n 2, 1) := by decide +kernel
theorem dX9_arrive_53 : decode cX9_arrive 53 = .ok (.iload_n 3, 1) := by decide +kernel
theorem dX9_arrive_54 : decode cX9_arrive 54 = .ok (.invokestatic 96, 3) := by decide +kernel
theorem dX9_arrive_57 : decode cX9_arrive 57 = .ok (.aload_n 0, 1) := by decide +kernel
theorem dX9_arrive_58 : decode cX9_arrive 58 = .ok (.getfield 15, 3) := by decide +kernel
theorem dX9_arrive_61 : decode cX9_arrive 61 = .ok (.iload_n 1, 1) := by decide +kernel
theorem dX9_arrive_62 : decode cX9_arrive 62 = .ok (.iconst 1, 1) := by decide +kernel
theorem dX9_arrive_63 : decode cX9_arrive 63 = .ok (.bastore, 1) := by decide +kernel
theorem dX9_arrive_64 : decode cX9_arrive 64 = .ok (.iconst 0, 1) := by decide +kernel
theorem dX9_arrive_65 : decode cX9_arrive 65 = .ok (.istore 5, 2) := by decide +kernel
theorem dX9_arrive_67 : decode cX9_arrive 67 = .ok (.iload 5, 2) := by decide +kernel
theorem dX9_arrive_69 : decode cX9_arrive 69 = .ok (.iload_n 3, 1) := by decide +kernel
theorem dX9_arrive_70 : decode cX9_arrive 70 = .ok (.if_icmp .ge 70, 3) := by decide +kernel
theorem dX9_arrive_73 : decode cX9_arrive 73 = .ok (.aload_n 0, 1) := by decide +kernel
theorem dX9_arrive_74 : decode cX9_arrive 74 = .ok (.getfield 35, 3) := by decide +kernel
theorem dX9_arrive_77 : decode cX9_arrive 77 = .ok (.aload_n 0, 1) := by decide +kernel
theorem dX9_arrive_78 : decode cX9_arrive 78 = .ok (.getfield 9, 3) := by decide +kernel
theorem dX9_arrive_81 : decode cX9_arrive 81 = .ok (.iload_n 2, 1) := by decide +kernel
theorem dX9_arrive_82 : decode cX9_arrive 82 = .ok (.iload 5, 2) := by decide +kernel
theorem dX9_arrive_84 : decode cX9_arrive 84 = .ok (.iadd, 1) := by decide +kernel
theorem dX9_arrive_85 : decode cX9_arrive 85 = .ok (.baload, 1) := by decide +kernel
theorem dX9_arrive_86 : decode cX9_arrive 86 = .ok (.aload_n 0, 1) := by decide +kernel
theorem dX9_arrive_87 : decode cX9_arrive 87 = .ok (.getfield 22, 3) := by decide +kernel
theorem dX9_arrive_90 : decode cX9_arrive 90 = .ok (.iload 5, 2) := by decide +kernel
theorem dX9_arrive_92 : decode cX9_arrive 92 = .ok (.baload, 1) := by decide +kernel
theorem dX9_arrive_93 : decode cX9_arrive 93 = .ok (.invokevirtual 141, 3) := by decide +kernel
theorem dX9_arrive_96 : decode cX9_arrive 96 = .ok (.i2b, 1) := by decide +kernel
theorem dX9_arrive_97 : decode cX9_arrive 97 = .ok (.istore 6, 2) := by decide +kernel
theorem dX9_arrive_99 : decode cX9_arrive 99 = .ok (.iload 4, 2) := by decide +kernel
theorem dX9_arrive_101 : decode cX9_arrive 101 = .ok (.iload 6, 2) := by decide +kernel
theorem dX9_arrive_103 : decode cX9_arrive 103 = .ok (.aload_n 0, 1) := by decide +kernel
theorem dX9_arrive_104 : decode cX9_arrive 104 = .ok (.getfield 9, 3) := by decide +kernel
theorem dX9_arrive_107 : decode cX9_arrive 107 = .ok (.iload_n 2, 1) := by decide +kernel
theorem dX9_arrive_108 : decode cX9_arrive 108 = .ok (.iload 5, 2) := by decide +kernel
theorem dX9_arrive_110 : decode cX9_arrive 110 = .ok (.iadd, 1) := by decide +kernel
theorem dX9_arrive_111 : decode cX9_arrive 111 = .ok (.baload, 1) := by decide +kernel
theorem dX9_arrive_112 : decode cX9_arrive 112 = .ok (.if_icmp .eq 7, 3) := by decide +kernel
theorem dX9_arrive_115 : decode cX9_arrive 115 = .ok (.iconst 1, 1) := by decide +kernel
theorem dX9_arrive_116 : decode cX9_arrive 116 = .ok (.goto 4, 3) := by decide +kernel
theorem dX9_arrive_119 : decode cX9_arrive 119 = .ok (.iconst 0, 1) := by decide +kernel
theorem dX9_arrive_120 : decode cX9_arrive 120 = .ok (.ior, 1) := by decide +kernel
theorem dX9_arrive_121 : decode cX9_arrive 121 = .ok (.istore 4, 2) := by decide +kernel
theorem dX9_arrive_123 : decode cX9_arrive 123 = .ok (.aload_n 0, 1) := by decide +kernel
theorem dX9_arrive_124 : decode cX9_arrive 124 = .ok (.getfield 9, 3) := by decide +kernel
theorem dX9_arrive_127 : decode cX9_arrive 127 = .ok (.iload_n 2, 1) := by decide +kernel
theorem dX9_arrive_128 : decode cX9_arrive 128 = .ok (.iload 5, 2) := by decide +kernel
theorem dX9_arrive_130 : decode cX9_arrive 130 = .ok (.iadd, 1) := by decide +kernel
theorem dX9_arrive_131 : decode cX9_arrive 131 = .ok (.iload 6, 2) := by decide +kernel
theorem dX9_arrive_133 : decode cX9_arrive 133 = .ok (.bastore, 1) := by decide +kernel
theorem dX9_arrive_134 : decode cX9_arrive 134 = .ok (.iinc 5 1, 3) := by decide +kernel
theorem dX9_arrive_137 : decode cX9_arrive 137 = .ok (.goto (-70), 3) := by decide +kernel
theorem dX9_arrive_140 : decode cX9_arrive 140 = .ok (.iload 4, 2) := by decide +kernel
theorem dX9_arrive_142 : decode cX9_arrive 142 = .ok (.ifCond .eq 15, 3) := by decide +kernel
theorem dX9_arrive_145 : decode cX9_arrive 145 = .ok (.aload_n 0, 1) := by decide +kernel
theorem dX9_arrive_146 : decode cX9_arrive 146 = .ok (.getfield 19, 3) := by decide +kernel
theorem dX9_arrive_149 : decode cX9_arrive 149 = .ok (.iload_n 1, 1) := by decide +kernel
theorem dX9_arrive_150 : decode cX9_arrive 150 = .ok (.iconst 1, 1) := by decide +kernel
theorem dX9_arrive_151 : decode cX9_arrive 151 = .ok (.bastore, 1) := by decide +kernel
theorem dX9_arrive_152 : decode cX9_arrive 152 = .ok (.aload_n 0, 1) := by decide +kernel
theorem dX9_arrive_153 : decode cX9_arrive 153 = .ok (.iconst 1, 1) := by decide +kernel
theorem dX9_arrive_154 : decode cX9_arrive 154 = .ok (.putfield 53, 3) := by decide +kernel
theorem dX9_arrive_157 : decode cX9_arrive 157 = .ok (.return_, 1) := by decide +kernel
