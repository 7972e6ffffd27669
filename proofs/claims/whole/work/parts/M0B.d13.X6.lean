theorem dX6_init_0 : decode cX6_init 0 = .ok (.aload_n 0, 1) := by decide +kernel
theorem dX6_init_1 : decode cX6_init 1 = .ok (.invokespecial 3, 3) := by decide +kernel
theorem dX6_init_4 : decode cX6_init 4 = .ok (.aload_n 0, 1) := by decide +kernel
theorem dX6_init_5 : decode cX6_init 5 = .ok (.new 9, 3) := by decide +kernel
theorem dX6_init_8 : decode cX6_init 8 = .ok (.dup, 1) := by decide +kernel
theorem dX6_init_9 : decode cX6_init 9 = .ok (.invokespecial 11, 3) := by decide +kernel
theorem dX6_init_12 : decode cX6_init 12 = .ok (.putfield 12, 3) := by decide +kernel
theorem dX6_init_15 : decode cX6_init 15 = .ok (.aload_n 0, 1) := by decide +kernel
theorem dX6_init_16 : decode cX6_init 16 = .ok (.sipush 1280, 3) := by decide +kernel
theorem dX6_init_19 : decode cX6_init 19 = .ok (.newarray .int, 2) := by decide +kernel
theorem dX6_init_21 : decode cX6_init 21 = .ok (.putfield 18, 3) := by decide +kernel
theorem dX6_init_24 : decode cX6_init 24 = .ok (.aload_n 0, 1) := by decide +kernel
theorem dX6_init_25 : decode cX6_init 25 = .ok (.sipush 1280, 3) := by decide +kernel
theorem dX6_init_28 : decode cX6_init 28 = .ok (.newarray .byte, 2) := by decide +kernel
theorem dX6_init_30 : decode cX6_init 30 = .ok (.putfield 22, 3) := by decide +kernel
theorem dX6_init_33 : decode cX6_init 33 = .ok (.aload_n 0, 1) := by decide +kernel
theorem dX6_init_34 : decode cX6_init 34 = .ok (.bipush 64, 2) := by decide +kernel
theorem dX6_init_36 : decode cX6_init 36 = .ok (.newarray .int, 2) := by decide +kernel
theorem dX6_init_38 : decode cX6_init 38 = .ok (.putfield 26, 3) := by decide +kernel
theorem dX6_init_41 : decode cX6_init 41 = .ok (.aload_n 0, 1) := by decide +kernel
theorem dX6_init_42 : decode cX6_init 42 = .ok (.bipush 64, 2) := by decide +kernel
theorem dX6_init_44 : decode cX6_init 44 = .ok (.newarray .int, 2) := by decide +kernel
theorem dX6_init_46 : decode cX6_init 46 = .ok (.putfield 29, 3) := by decide +kernel
theorem dX6_init_49 : decode cX6_init 49 = .ok (.aload_n 0, 1) := by decide +kernel
theorem dX6_init_50 : decode cX6_init 50 = .ok (.sipush 256, 3) := by decide +kernel
theorem dX6_init_53 : decode cX6_init 53 = .ok (.newarray .int, 2) := by decide +kernel
theorem dX6_init_55 : decode cX6_init 55 = .ok (.putfield 32, 3) := by decide +kernel
theorem dX6_init_58 : decode cX6_init 58 = .ok (.aload_n 0, 1) := by decide +kernel
theorem dX6_init_59 : decode cX6_init 59 = .ok (.sipush 256, 3) := by decide +kernel
theorem dX6_init_62 : decode cX6_init 62 = .ok (.newarray .int, 2) := by decide +kernel
theorem dX6_init_64 : decode cX6_init 64 = .ok (.putfield 35, 3) := by decide +kernel
theorem dX6_init_67 : decode cX6_init 67 = .ok (.aload_n 0, 1) := by decide +kernel
theorem dX6_init_68 : decode cX6_init 68 = .ok (.iconst (-1), 1) := by decide +kernel
theorem dX6_init_69 : decode cX6_init 69 = .ok (.putfield 38, 3) := by decide +kernel
theorem dX6_init_72 : decode cX6_init 72 = .ok (.aload_n 0, 1) := by decide +kernel
theorem dX6_init_73 : decode cX6_init 73 = .ok (.iconst (-1), 1) := by decide +kernel
theorem dX6_init_74 : decode cX6_init 74 = .ok (.putfield 42, 3) := by decide +kernel
theorem dX6_init_77 : decode cX6_init 77 = .ok (.aload_n 0, 1) := by decide +kernel
theorem dX6_init_78 : decode cX6_init 78 = .ok (.aload_n 1, 1) := by decide +kernel
theorem dX6_init_79 : decode cX6_init 79 = .ok (.putfield 45, 3) := by decide +kernel
theorem dX6_init_82 : decode cX6_init 82 = .ok (.aload_n 0, 1) := by decide +kernel
theorem dX6_init_83 : decode cX6_init 83 = .ok (.aload_n 1, 1) := by decide +kernel
theorem dX6_init_84 : decode cX6_init 84 = .ok (.getfield 49, 3) := by decide +kernel
theorem dX6_init_87 : decode cX6_init 87 = .ok (.putfield 55, 3) := by decide +kernel
theorem dX6_init_90 : decode cX6_init 90 = .ok (.return_, 1) := by decide +kernel
theorem dX6_addInput_0 : decode cX6_addInput 0 = .ok (.aload_n 0, 1) := by decide +kernel
theorem dX6_addInput_1 : decode cX6_addInput 1 = .ok (.getfield 56, 3) := by decide +kernel
theorem dX6_addInput_4 : decode cX6_addInput 4 = .ok (.sipush 256, 3) := by decide +kernel
theorem dX6_addInput_7 : decode cX6_addInput 7 = .ok (.if_icmp .ne 5, 3) := by decide +kernel
theorem dX6_addInput_10 : decode cX6_addInput 10 = .ok (.iconst 0, 1) := by decide +kernel
theorem dX6_addInput_11 : decode cX6_addInput 11 = .ok (.ireturn, 1) := by decide +kernel
theorem dX6_addInput_12 : decode cX6_addInput 12 = .ok (.aload_n 0, 1) := by decide +kernel
theorem dX6_addInput_13 : decode cX6_addInput 13 = .ok (.getfield 32, 3) := by decide +kernel
theorem dX6_addInput_16 : decode cX6_addInput 16 = .ok (.aload_n 0, 1) := by decide +kernel
theorem dX6_addInput_17 : decode cX6_addInput 17 = .ok (.getfield 56, 3) := by decide +kernel
theorem dX6_addInput_20 : decode cX6_addInput 20 = .ok (.iload_n 1, 1) := by decide +kernel
theorem dX6_addInput_21 : decode cX6_addInput 21 = .ok (.iastore, 1) := by decide +kernel
theorem dX6_addInput_22 : decode cX6_addInput 22 = .ok (.aload_n 0, 1) := by decide +kernel
theorem dX6_addInput_23 : decode cX6_addInput 23 = .ok (.dup, 1) := by decide +kernel
theorem dX6_addInput_24 : decode cX6_addInput 24 = .ok (.getfield 56, 3) := by decide +kernel
theorem dX6_addInput_27 : decode cX6_addInput 27 = .ok (.iconst 1, 1) := by decide +kernel
theorem dX6_addInput_28 : decode cX6_addInput 28 = .ok (.iadd, 1) := by decide +kernel
theorem dX6_addInput_29 : decode cX6_addInput 29 = .ok (.putfield 56, 3) := by decide +kernel
theorem dX6_addInput_32 : decode cX6_addInput 32 = .ok (.iconst 1, 1) := by decide +kernel
theorem dX6_addInput_33 : decode cX6_addInput 33 = .ok (.ireturn, 1) := by decide +kernel
theorem dX6_outcomeOf_0 : decode cX6_outcomeOf 0 = .ok (.aload_n 0, 1) := by decide +kernel
theorem dX6_outcomeOf_1 : decode cX6_outcomeOf 1 = .ok (.aload_n 1, 1) := by decide +kernel
theorem dX6_outcomeOf_2 : decode cX6_outcomeOf 2 = .ok (.putfield 45, 3) := by decide +kernel
theorem dX6_outcomeOf_5 : decode cX6_outcomeOf 5 = .ok (.aload_n 0, 1) := by decide +kernel
theorem dX6_outcomeOf_6 : decode cX6_outcomeOf 6 = .ok (.aload_n 1, 1) := by decide +kernel
theorem dX6_outcomeOf_7 : decode cX6_outcomeOf 7 = .ok (.getfield 49, 3) := by decide +kernel
theorem dX6_outcomeOf_10 : decode cX6_outcomeOf 10 = .ok (.putfield 55, 3) := by decide +kernel
theorem dX6_outcomeOf_13 : decode cX6_outcomeOf 13 = .ok (.aload_n 0, 1) := by decide +kernel
theorem dX6_outcomeOf_14 : decode cX6_outcomeOf 14 = .ok (.getfield 12, 3) := by decide +kernel
theorem dX6_outcomeOf_17 : decode cX6_outcomeOf 17 = .ok (.invokevirtual 59, 3) := by decide +kernel
theorem dX6_outcomeOf_20 : decode cX6_outcomeOf 20 = .ok (.aload_n 0, 1) := by decide +kernel
theorem dX6_outcomeOf_21 : decode cX6_outcomeOf 21 = .ok (.iconst 0, 1) := by decide +kernel
theorem dX6_outcomeOf_22 : decode cX6_outcomeOf 22 = .ok (.putfield 62, 3) := by decide +kernel
theorem dX6_outcomeOf_25 : decode cX6_outcomeOf 25 = .ok (.aload_n 0, 1) := by decide +kernel
theorem dX6_outcomeOf_26 : decode cX6_outcomeOf 26 = .ok (.iconst 0, 1) := by decide +kernel
theorem dX6_outcomeOf_27 : decode cX6_outcomeOf 27 = .ok (.putfield 65, 3) := by decide +kernel
theorem dX6_outcomeOf_30 : decode cX6_outcomeOf 30 = .ok (.aload_n 0, 1) := by decide +kernel
theorem dX6_outcomeOf_31 : decode cX6_outcomeOf 31 = .ok (.iconst 0, 1) := by decide +kernel
theorem dX6_outcomeOf_32 : decode cX6_outcomeOf 32 = .ok (.putfield 68, 3) := by decide +kernel
theorem dX6_outcomeOf_35 : decode cX6_outcomeOf 35 = .ok (.aload_n 0, 1) := by decide +kernel
theorem dX6_outcomeOf_36 : decode cX6_outcomeOf 36 = .ok (.iconst (-1), 1) := by decide +kernel
theorem dX6_outcomeOf_37 : decode cX6_outcomeOf 37 = .ok (.putfield 42, 3) := by decide +kernel
theorem dX6_outcomeOf_40 : decode cX6_outcomeOf 40 = .ok (.aload_n 0, 1) := by decide +kernel
theorem dX6_outcomeOf_41 : decode cX6_outcomeOf 41 = .ok (.iconst (-1), 1) := by decide +kernel
theorem dX6_outcomeOf_42 : decode cX6_outcomeOf 42 = .ok (.putfield 71, 3) := by decide +kernel
theorem dX6_outcomeOf_45 : decode cX6_outcomeOf 45 = .ok (.aload_n 0, 1) := by decide +kernel
theorem dX6_outcomeOf_46 : decode cX6_outcomeOf 46 = .ok (.iconst 0, 1) := by decide +kernel
theorem dX6_outcomeOf_47 : decode cX6_outcomeOf 47 = .ok (.putfield 74, 3) := by decide +kernel
theorem dX6_outcomeOf_50 : decode cX6_outcomeOf 50 = .ok (.aload_n 0, 1) := by decide +kernel
theorem dX6_outcomeOf_51 : decode cX6_outcomeOf 51 = .ok (.iconst 0, 1) := by decide +kernel
theorem dX6_outcomeOf_52 : decode cX6_outcomeOf 52 = .ok (.putfield 77, 3) := by decide +kernel
theorem dX6_outcomeOf_55 : decode cX6_outcomeOf 55 = .ok (.aload_n 0, 1) := by decide +kernel
theorem dX6_outcomeOf_56 : decode cX6_outcomeOf 56 = .ok (.getfield 22, 3) := by decide +kernel
theorem dX6_outcomeOf_59 : decode cX6_outcomeOf 59 = .ok (.iconst 0, 1) := by decide +kernel
theorem dX6_outcomeOf_60 : decode cX6_outcomeOf 60 = .ok (.bipush 12, 2) := by decide +kernel
theorem dX6_outcomeOf_62 : decode cX6_outcomeOf 62 = .ok (.bipush 67, 2) := by decide +kernel
theorem dX6_outcomeOf_64 : decode cX6_outcomeOf 64 = .ok (.invokestatic 80, 3) := by decide +kernel
theorem dX6_outcomeOf_67 : decode cX6_outcomeOf 67 = .ok (.aload_n 0, 1) := by decide +kernel
theorem dX6_outcomeOf_68 : decode cX6_outcomeOf 68 = .ok (.getfield 29, 3) := by decide +kernel
theorem dX6_outcomeOf_71 : decode cX6_outcomeOf 71 = .ok (.iconst 0, 1) := by decide +kernel
theorem dX6_outcomeOf_72 : decode cX6_outcomeOf 72 = .ok (.iconst 0, 1) := by decide +kernel
theorem dX6_outcomeOf_73 : decode cX6_outcomeOf 73 = .ok (.iastore, 1) := by decide +kernel
theorem dX6_outcomeOf_74 : decode cX6_outcomeOf 74 = .ok (.aload_n 0, 1) := by decide +kernel
theorem dX6_outcomeOf_75 : decode cX6_outcomeOf 75 = .ok (.getfield 26, 3) := by decide +kernel
theorem dX6_outcomeOf_78 : decode cX6_outcomeOf 78 = .ok (.iconst 0, 1) := by decide +kernel
theorem dX6_outcomeOf_79 : decode cX6_outcomeOf 79 = .ok (.aload_n 0, 1) := by decide +kernel
theorem dX6_outcomeOf_80 : decode cX6_outcomeOf 80 = .ok (.getfield 45, 3) := by decide +kernel
theorem dX6_outcomeOf_83 : decode cX6_outcomeOf 83 = .ok (.getfield 86, 3) := by decide +kernel
theorem dX6_outcomeOf_86 : decode cX6_outcomeOf 86 = .ok (.aload_n 0, 1) := by decide +kernel
theorem dX6_outcomeOf_87 : decode cX6_outcomeOf 87 = .ok (.getfield 45, 3) := by decide +kernel
theorem dX6_outcomeOf_90 : decode cX6_outcomeOf 90 = .ok (.getfield 89, 3) := by decide +kernel
theorem dX6_outcomeOf_93 : decode cX6_outcomeOf 93 = .ok (.iaload, 1) := by decide +kernel
theorem dX6_outcomeOf_94 : decode cX6_outcomeOf 94 = .ok (.iastore, 1) := by decide +kernel
theorem dX6_outcomeOf_95 : decode cX6_outcomeOf 95 = .ok (.iconst 0, 1) := by decide +kernel
theorem dX6_outcomeOf_96 : decode cX6_outcomeOf 96 = .ok (.istore_n 3, 1) := by decide +kernel
theorem dX6_outcomeOf_97 : decode cX6_outcomeOf 97 = .ok (.iload_n 3, 1) := by decide +kernel
theorem dX6_outcomeOf_98 : decode cX6_outcomeOf 98 = .ok (.iload_n 2, 1) := by decide +kernel
theorem dX6_outcomeOf_99 : decode cX6_outcomeOf 99 = .ok (.if_icmp .ge 42, 3) := by decide +kernel
theorem dX6_outcomeOf_102 : decode cX6_outcomeOf 102 = .ok (.aload_n 0, 1) := by decide +kernel
theorem dX6_outcomeOf_103 : decode cX6_outcomeOf 103 = .ok (.getfield 71, 3) := by decide +kernel
theorem dX6_outcomeOf_106 : decode cX6_outcomeOf 106 = .ok (.iconst (-1), 1) := by decide +kernel
theorem dX6_outcomeOf_107 : decode cX6_outcomeOf 107 = .ok (.if_icmp .ne 34, 3) := by decide +kernel
theorem dX6_outcomeOf_110 : decode cX6_outcomeOf 110 = .ok (.aload_n 0, 1) := by decide +kernel
theorem dX6_outcomeOf_111 : decode cX6_outcomeOf 111 = .ok (.dup, 1) := by decide +kernel
theorem dX6_outcomeOf_112 : decode cX6_outcomeOf 112 = .ok (.getfield 68, 3) := by decide +kernel
theorem dX6_outcomeOf_115 : decode cX6_outcomeOf 115 = .ok (.iconst 1, 1) := by decide +kernel
theorem dX6_outcomeOf_116 : decode cX6_outcomeOf 116 = .ok (.iadd, 1) := by decide +kernel
theorem dX6_outcomeOf_117 : decode cX6_outcomeOf 117 = .ok (.putfield 68, 3) := by decide +kernel
theorem dX6_outcomeOf_120 : decode cX6_outcomeOf 120 = .ok (.aload_n 0, 1) := by decide +kernel
theorem dX6_outcomeOf_121 : decode cX6_outcomeOf 121 = .ok (.invokevirtual 92, 3) := by decide +kernel
theorem dX6_outcomeOf_124 : decode cX6_outcomeOf 124 = .ok (.aload_n 0, 1) := by decide +kernel
theorem dX6_outcomeOf_125 : decode cX6_outcomeOf 125 = .ok (.getfield 74, 3) := by decide +kernel
theorem dX6_outcomeOf_128 : decode cX6_outcomeOf 128 = .ok (.ifCond .eq 7, 3) := by decide +kernel
theorem dX6_outcomeOf_131 : decode cX6_outcomeOf 131 = .ok (.aload_n 0, 1) := by decide +kernel
theorem dX6_outcomeOf_132 : decode cX6_outcomeOf 132 = .ok (.invokevirtual 95, 3) := by decide +kernel
theorem dX6_outcomeOf_135 : decode cX6_outcomeOf 135 = .ok (.iinc 3 1, 3) := by decide +kernel
theorem dX6_outcomeOf_138 : decode cX6_outcomeOf 138 = .ok (.goto (-41), 3) := by decide +kernel
theorem dX6_outcomeOf_141 : decode cX6_outcomeOf 141 = .ok (.aload_n 0, 1) := by decide +kernel
theorem dX6_outcomeOf_142 : decode cX6_outcomeOf 142 = .ok (.getfield 71, 3) := by decide +kernel
theorem dX6_outcomeOf_145 : decode cX6_outcomeOf 145 = .ok (.iconst (-1), 1) := by decide +kernel
theorem dX6_outcomeOf_146 : decode cX6_outcomeOf 146 = .ok (.if_icmp .ne 21, 3) := by decide +kernel
theorem dX6_outcomeOf_149 : decode cX6_outcomeOf 149 = .ok (.aload_n 0, 1) := by decide +kernel
theorem dX6_outcomeOf_150 : decode cX6_outcomeOf 150 = .ok (.iconst 2, 1) := by decide +kernel
theorem dX6_outcomeOf_151 : decode cX6_outcomeOf 151 = .ok (.putfield 71, 3) := by decide +kernel
theorem dX6_outcomeOf_154 : decode cX6_outcomeOf 154 = .ok (.aload_n 0, 1) := by decide +kernel
theorem dX6_outcomeOf_155 : decode cX6_outcomeOf 155 = .ok (.aload_n 0, 1) := by decide +kernel
theorem dX6_outcomeOf_156 : decode cX6_outcomeOf 156 = .ok (.getfield 26, 3) := by decide +kernel
theorem dX6_outcomeOf_159 : decode cX6_outcomeOf 159 = .ok (.aload_n 0, 1) := by decide +kernel
theorem dX6_outcomeOf_160 : decode cX6_outcomeOf 160 = .ok (.getfield 77, 3) := by decide +kernel
theorem dX6_outcomeOf_163 : decode cX6_outcomeOf 163 = .ok (.iaload, 1) := by decide +kernel
theorem dX6_outcomeOf_164 : decode cX6_outcomeOf 164 = .ok (.putfield 38, 3) := by decide +kernel
theorem dX6_outcomeOf_167 : decode cX6_outcomeOf 167 = .ok (.aload_n 0, 1) := by decide +kernel
theorem dX6_outcomeOf_168 : decode cX6_outcomeOf 168 = .ok (.iconst 0, 1) := by decide +kernel
theorem dX6_outcomeOf_169 : decode cX6_outcomeOf 169 = .ok (.putfield 56, 3) := by decide +kernel
theorem dX6_outcomeOf_172 : decode cX6_outcomeOf 172 = .ok (.aload_n 0, 1) := by decide +kernel
theorem dX6_outcomeOf_173 : decode cX6_outcomeOf 173 = .ok (.getfield 71, 3) := by decide +kernel
theorem dX6_outcomeOf_176 : decode cX6_outcomeOf 176 = .ok (.ireturn, 1) := by decide +kernel
theorem dX6_step_0 : decode cX6_step 0 = .ok (.aload_n 0, 1) := by decide +kernel
theorem dX6_step_1 : decode cX6_step 1 = .ok (.getfield 26, 3) := by decide +kernel
theorem dX6_step_4 : decode cX6_step 4 = .ok (.aload_n 0, 1) := by decide +kernel
theorem dX6_step_5 : decode cX6_step 5 = .ok (.getfield 77, 3) := by decide +kernel
theorem dX6_step_8 : decode cX6_step 8 = .ok (.iaload, 1) := by decide +kernel
theorem dX6_step_9 : decode cX6_step 9 = .ok (.istore_n 1, 1) := by decide +kernel
theorem dX6_step_10 : decode cX6_step 10 = .ok (.aload_n 0, 1) := by decide +kernel
theorem dX6_step_11 : decode cX6_step 11 = .ok (.iload_n 1, 1) := by decide +kernel
theorem dX6_step_12 : decode cX6_step 12 = .ok (.putfield 38, 3) := by decide +kernel
theorem dX6_step_15 : decode cX6_step 15 = .ok (.aload_n 0, 1) := by decide +kernel
theorem dX6_step_16 : decode cX6_step 16 = .ok (.iload_n 1, 1) := by decide +kernel
theorem dX6_step_17 : decode cX6_step 17 = .ok (.invokevirtual 98, 3) := by decide +kernel
theorem dX6_step_20 : decode cX6_step 20 = .ok (.ifCond .eq 14, 3) := by decide +kernel
theorem dX6_step_23 : decode cX6_step 23 = .ok (.aload_n 0, 1) := by decide +kernel
theorem dX6_step_24 : decode cX6_step 24 = .ok (.dup, 1) := by decide +kernel
theorem dX6_step_25 : decode cX6_step 25 = .ok (.getfield 102, 3) := by decide +kernel
theorem dX6_step_28 : decode cX6_step 28 = .ok (.iconst 1, 1) := by decide +kernel
theorem dX6_step_29 : decode cX6_step 29 = .ok (.iadd, 1) := by decide +kernel
theorem dX6_step_30 : decode cX6_step 30 = .ok (.putfield 102, 3) := by decide +kernel
theorem dX6_step_33 : decode cX6_step 33 = .ok (.return_, 1) := by decide +kernel
theorem dX6_step_34 : decode cX6_step 34 = .ok (.aload_n 0, 1) := by decide +kernel
theorem dX6_step_35 : decode cX6_step 35 = .ok (.getfield 26, 3) := by decide +kernel
theorem dX6_step_38 : decode cX6_step 38 = .ok (.aload_n 0, 1) := by decide +kernel
theorem dX6_step_39 : decode cX6_step 39 = .ok (.getfield 77, 3) := by decide +kernel
theorem dX6_step_42 : decode cX6_step 42 = .ok (.iload_n 1, 1) := by decide +kernel
theorem dX6_step_43 : decode cX6_step 43 = .ok (.iconst 1, 1) := by decide +kernel
theorem dX6_step_44 : decode cX6_step 44 = .ok (.iadd, 1) := by decide +kernel
theorem dX6_step_45 : decode cX6_step 45 = .ok (.iastore, 1) := by decide +kernel
theorem dX6_step_46 : decode cX6_step 46 = .ok (.aload_n 0, 1) := by decide +kernel
theorem dX6_step_47 : decode cX6_step 47 = .ok (.getfield 55, 3) := by decide +kernel
theorem dX6_step_50 : decode cX6_step 50 = .ok (.getfield 105, 3) := by decide +kernel
theorem dX6_step_53 : decode cX6_step 53 = .ok (.iload_n 1, 1) := by decide +kernel
theorem dX6_step_54 : decode cX6_step 54 = .ok (.iaload, 1) := by decide +kernel
theorem dX6_step_55 : decode cX6_step 55 = .ok (.istore_n 2, 1) := by decide +kernel
theorem dX6_step_56 : decode cX6_step 56 = .ok (.iload_n 2, 1) := by decide +kernel
theorem dX6_step_57 : decode cX6_step 57 = .ok (.bipush 7, 2) := by decide +kernel
theorem dX6_step_59 : decode cX6_step 59 = .ok (.if_icmp .gt 29, 3) := by decide +kernel
theorem dX6_step_62 : decode cX6_step 62 = .ok (.aload_n 0, 1) := by decide +kernel
theorem dX6_step_63 : decode cX6_step 63 = .ok (.iload_n 2, 1) := by decide +kernel
theorem dX6_step_64 : decode cX6_step 64 = .ok (.aload_n 0, 1) := by decide +kernel
theorem dX6_step_65 : decode cX6_step 65 = .ok (.getfield 55, 3) := by decide +kernel
theorem dX6_step_68 : decode cX6_step 68 = .ok (.getfield 110, 3) := by decide +kernel
theorem dX6_step_71 : decode cX6_step 71 = .ok (.iload_n 1, 1) := by decide +kernel
theorem dX6_step_72 : decode cX6_step 72 = .ok (.iaload, 1) := by decide +kernel
theorem dX6_step_73 : decode cX6_step 73 = .ok (.aload_n 0, 1) := by decide +kernel
theorem dX6_step_74 : decode cX6_step 74 = .ok (.getfield 55, 3) := by decide +kernel
theorem dX6_step_77 : decode cX6_step 77 = .ok (.getfield 113, 3) := by decide +kernel
theorem dX6_step_80 : decode cX6_step 80 = .ok (.iload_n 1, 1) := by decide +kernel
theorem dX6_step_81 : decode cX6_step 81 = .ok (.iaload, 1) := by decide +kernel
theorem dX6_step_82 : decode cX6_step 82 = .ok (.invokevirtual 116, 3) := by decide +kernel
theorem dX6_step_85 : decode cX6_step 85 = .ok (.goto 73, 3) := by decide +kernel
theorem dX6_step_88 : decode cX6_step 88 = .ok (.iload_n 2, 1) := by decide +kernel
theorem dX6_step_89 : decode cX6_step 89 = .ok (.bipush 18, 2) := by decide +kernel
theorem dX6_step_91 : decode cX6_step 91 = .ok (.if_icmp .gt 11, 3) := by decide +kernel
theorem dX6_step_94 : decode cX6_step 94 = .ok (.aload_n 0, 1) := by decide +kernel
theorem dX6_step_95 : decode cX6_step 95 = .ok (.iload_n 2, 1) := by decide +kernel
theorem dX6_step_96 : decode cX6_step 96 = .ok (.invokevirtual 120, 3) := by decide +kernel
theorem dX6_step_99 : decode cX6_step 99 = .ok (.goto 59, 3) := by decide +kernel
theorem dX6_step_102 : decode cX6_step 102 = .ok (.iload_n 2, 1) := by decide +kernel
theorem dX6_step_103 : decode cX6_step 103 = .ok (.bipush 29, 2) := by decide +kernel
theorem dX6_step_105 : decode cX6_step 105 = .ok (.if_icmp .gt 20, 3) := by decide +kernel
theorem dX6_step_108 : decode cX6_step 108 = .ok (.aload_n 0, 1) := by decide +kernel
theorem dX6_step_109 : decode cX6_step 109 = .ok (.iload_n 2, 1) := by decide +kernel
theorem dX6_step_110 : decode cX6_step 110 = .ok (.aload_n 0, 1) := by decide +kernel
theorem dX6_step_111 : decode cX6_step 111 = .ok (.getfield 55, 3) := by decide +kernel
theorem dX6_step_114 : decode cX6_step 114 = .ok (.getfield 110, 3) := by decide +kernel
theorem dX6_step_117 : decode cX6_step 117 = .ok (.iload_n 1, 1) := by decide +kernel
theorem dX6_step_118 : decode cX6_step 118 = .ok (.iaload, 1) := by decide +kernel
theorem dX6_step_119 : decode cX6_step 119 = .ok (.invokevirtual 124, 3) := by decide +kernel
theorem dX6_step_122 : decode cX6_step 122 = .ok (.goto 36, 3) := by decide +kernel
theorem dX6_step_125 : decode cX6_step 125 = .ok (.iload_n 2, 1) := by decide +kernel
theorem dX6_step_126 : decode cX6_step 126 = .ok (.bipush 34, 2) := by decide +kernel
theorem dX6_step_128 : decode cX6_step 128 = .ok (.if_icmp .gt 11, 3) := by decide +kernel
theorem dX6_step_131 : decode cX6_step 131 = .ok (.aload_n 0, 1) := by decide +kernel
theorem dX6_step_132 : decode cX6_step 132 = .ok (.iload_n 1, 1) := by decide +kernel
theorem dX6_step_133 : decode cX6_step 133 = .ok (.invokevirtual 128, 3) := by decide +kernel
theorem dX6_step_136 : decode cX6_step 136 = .ok (.goto 22, 3) := by decide +kernel
theorem dX6_step_139 : decode cX6_step 139 = .ok (.iload_n 2, 1) := by decide +kernel
theorem dX6_step_140 : decode cX6_step 140 = .ok (.bipush 38, 2) := by decide +kernel
theorem dX6_step_142 : decode cX6_step 142 = .ok (.if_icmp .gt 11, 3) := by decide +kernel
theorem dX6_step_145 : decode cX6_step 145 = .ok (.aload_n 0, 1) := by decide +kernel
theorem dX6_step_146 : decode cX6_step 146 = .ok (.iload_n 1, 1) := by decide +kernel
theorem dX6_step_147 : decode cX6_step 147 = .ok (.invokevirtual 131, 3) := by decide +kernel
theorem dX6_step_150 : decode cX6_step 150 = .ok (.goto 8, 3) := by decide +kernel
theorem dX6_step_153 : decode cX6_step 153 = .ok (.aload_n 0, 1) := by decide +kernel
theorem dX6_step_154 : decode cX6_step 154 = .ok (.iload_n 1, 1) := by decide +kernel
theorem dX6_step_155 : decode cX6_step 155 = .ok (.invokevirtual 134, 3) := by decide +kernel
theorem dX6_step_158 : decode cX6_step 158 = .ok (.return_, 1) := by decide +kernel
theorem dX6_isStray_0 : decode cX6_isStray 0 = .ok (.aload_n 0, 1) := by decide +kernel
theorem dX6_isStray_1 : decode cX6_isStray 1 = .ok (.getfield 29, 3) := by decide +kernel
theorem dX6_isStray_4 : decode cX6_isStray 4 = .ok (.aload_n 0, 1) := by decide +kernel
theorem dX6_isStray_5 : decode cX6_isStray 5 = .ok (.getfield 77, 3) := by decide +kernel
theorem dX6_isStray_8 : decode cX6_isStray 8 = .ok (.iaload, 1) := by decide +kernel
theorem dX6_isStray_9 : decode cX6_isStray 9 = .ok (.aload_n 0, 1) := by decide +kernel
theorem dX6_isStray_10 : decode cX6_isStray 10 = .ok (.getfield 55, 3) := by decide +kernel
theorem dX6_isStray_13 : decode cX6_isStray 13 = .ok (.getfield 137, 3) := by decide +kernel
theorem dX6_isStray_16 : decode cX6_isStray 16 = .ok (.iload_n 1, 1) := by decide +kernel
theorem dX6_isStray_17 : decode cX6_isStray 17 = .ok (.iaload, 1) := by decide +kernel
theorem dX6_isStray_18 : decode cX6_isStray 18 = .ok (.if_icmp .eq 5, 3) := by decide +kernel
theorem dX6_isStray_21 : decode cX6_isStray 21 = .ok (.iconst 1, 1) := by decide +kernel
theorem dX6_isStray_22 : decode cX6_isStray 22 = .ok (.ireturn, 1) := by decide +kernel
theorem dX6_isStray_23 : decode cX6_isStray 23 = .ok (.aload_n 0, 1) := by decide +kernel
theorem dX6_isStray_24 : decode cX6_isStray 24 = .ok (.invokevirtual 138, 3) := by decide +kernel
theorem dX6_isStray_27 : decode cX6_isStray 27 = .ok (.aload_n 0, 1) := by decide +kernel
theorem dX6_isStray_28 : decode cX6_isStray 28 = .ok (.getfield 45, 3) := by decide +kernel
theorem dX6_isStray_31 : decode cX6_isStray 31 = .ok (.iload_n 1, 1) := by decide +kernel
theorem dX6_isStray_32 : decode cX6_isStray 32 = .ok (.invokevirtual 142, 3) := by decide +kernel
theorem dX6_isStray_35 : decode cX6_isStray 35 = .ok (.isub, 1) := by decide +kernel
theorem dX6_isStray_36 : decode cX6_isStray 36 = .ok (.istore_n 2, 1) := by decide +kernel
theorem dX6_isStray_37 : decode cX6_isStray 37 = .ok (.aload_n 0, 1) := by decide +kernel
theorem dX6_isStray_38 : decode cX6_isStray 38 = .ok (.getfield 45, 3) := by decide +kernel
theorem dX6_isStray_41 : decode cX6_isStray 41 = .ok (.iload_n 1, 1) := by decide +kernel
theorem dX6_isStray_42 : decode cX6_isStray 42 = .ok (.aload_n 0, 1) := by decide +kernel
theorem dX6_isStray_43 : decode cX6_isStray 43 = .ok (.getfield 22, 3) := by decide +kernel
theorem dX6_isStray_46 : decode cX6_isStray 46 = .ok (.aload_n 0, 1) := by decide +kernel
theorem dX6_isStray_47 : decode cX6_isStray 47 = .ok (.getfield 77, 3) := by decide +kernel
theorem dX6_isStray_50 : decode cX6_isStray 50 = .ok (.bipush 20, 2) := by decide +kernel
theorem dX6_isStray_52 : decode cX6_isStray 52 = .ok (.imul, 1) := by decide +kernel
theorem dX6_isStray_53 : decode cX6_isStray 53 = .ok (.iload_n 2, 1) := by decide +kernel
theorem dX6_isStray_54 : decode cX6_isStray 54 = .ok (.invokevirtual 146, 3) := by decide +kernel
theorem dX6_isStray_57 : decode cX6_isStray 57 = .ok (.ifCond .ne 5, 3) := by decide +kernel
theorem dX6_isStray_60 : decode cX6_isStray 60 = .ok (.iconst 1, 1) := by decide +kernel
theorem dX6_isStray_61 : decode cX6_isStray 61 = .ok (.ireturn, 1) := by decide +kernel
theorem dX6_isStray_62 : decode cX6_isStray 62 = .ok (.aload_n 0, 1) := by decide +kernel
theorem dX6_isStray_63 : decode cX6_isStray 63 = .ok (.getfield 55, 3) := by decide +kernel
theorem dX6_isStray_66 : decode cX6_isStray 66 = .ok (.getfield 105, 3) := by decide +kernel
theorem dX6_isStray_69 : decode cX6_isStray 69 = .ok (.iload_n 1, 1) := by decide +kernel
theorem dX6_isStray_70 : decode cX6_isStray 70 = .ok (.iaload, 1) := by decide +kernel
theorem dX6_isStray_71 : decode cX6_isStray 71 = .ok (.bipush 34, 2) := by decide +kernel
theorem dX6_isStray_73 : decode cX6_isStray 73 = .ok (.if_icmp .eq 5, 3) := by decide +kernel
theorem dX6_isStray_76 : decode cX6_isStray 76 = .ok (.iconst 0, 1) := by decide +kernel
theorem dX6_isStray_77 : decode cX6_isStray 77 = .ok (.ireturn, 1) := by decide +kernel
theorem dX6_isStray_78 : decode cX6_isStray 78 = .ok (.aload_n 0, 1) := by decide +kernel
theorem dX6_isStray_79 : decode cX6_isStray 79 = .ok (.getfield 22, 3) := by decide +kernel
theorem dX6_isStray_82 : decode cX6_isStray 82 = .ok (.iload_n 2, 1) := by decide +kernel
theorem dX6_isStray_83 : decode cX6_isStray 83 = .ok (.iconst 2, 1) := by decide +kernel
theorem dX6_isStray_84 : decode cX6_isStray 84 = .ok (.iadd, 1) := by decide +kernel
theorem dX6_isStray_85 : decode cX6_isStray 85 = .ok (.baload, 1) := by decide +kernel
theorem dX6_isStray_86 : decode cX6_isStray 86 = .ok (.bipush 65, 2) := by decide +kernel
theorem dX6_isStray_88 : decode cX6_isStray 88 = .ok (.if_icmp .ge 8, 3) := by decide +kernel
theorem dX6_isStray_91 : decode cX6_isStray 91 = .ok (.bipush 65, 2) := by decide +kernel
theorem dX6_isStray_93 : decode cX6_isStray 93 = .ok (.goto 11, 3) := by decide +kernel
theorem dX6_isStray_96 : decode cX6_isStray 96 = .ok (.aload_n 0, 1) := by decide +kernel
theorem dX6_isStray_97 : decode cX6_isStray 97 = .ok (.getfield 22, 3) := by decide +kernel
theorem dX6_isStray_100 : decode cX6_isStray 100 = .ok (.iload_n 2, 1) := by decide +kernel
theorem dX6_isStray_101 : decode cX6_isStray 101 = .ok (.iconst 2, 1) := by decide +kernel
theorem dX6_isStray_102 : decode cX6_isStray 102 = .ok (.iadd, 1) := by decide +kernel
theorem dX6_isStray_103 : decode cX6_isStray 103 = .ok (.baload, 1) := by decide +kernel
theorem dX6_isStray_104 : decode cX6_isStray 104 = .ok (.istore_n 3, 1) := by decide +kernel
theorem dX6_isStray_105 : decode cX6_isStray 105 = .ok (.aload_n 0, 1) := by decide +kernel
theorem dX6_isStray_106 : decode cX6_isStray 106 = .ok (.getfield 45, 3) := by decide +kernel
theorem dX6_isStray_109 : decode cX6_isStray 109 = .ok (.getfield 150, 3) := by decide +kernel
theorem dX6_isStray_112 : decode cX6_isStray 112 = .ok (.iload_n 3, 1) := by decide +kernel
theorem dX6_isStray_113 : decode cX6_isStray 113 = .ok (.aload_n 0, 1) := by decide +kernel
theorem dX6_isStray_114 : decode cX6_isStray 114 = .ok (.getfield 22, 3) := by decide +kernel
theorem dX6_isStray_117 : decode cX6_isStray 117 = .ok (.iload_n 2, 1) := by decide +kernel
theorem dX6_isStray_118 : decode cX6_isStray 118 = .ok (.baload, 1) := by decide +kernel
theorem dX6_isStray_119 : decode cX6_isStray 119 = .ok (.invokevirtual 154, 3) := by decide +kernel
theorem dX6_isStray_122 : decode cX6_isStray 122 = .ok (.ifCond .ne 7, 3) := by decide +kernel
theorem dX6_isStray_125 : decode cX6_isStray 125 = .ok (.iconst 1, 1) := by decide +kernel
theorem dX6_isStray_126 : decode cX6_isStray 126 = .ok (.goto 4, 3) := by decide +kernel
theorem dX6_isStray_129 : decode cX6_isStray 129 = .ok (.iconst 0, 1) := by decide +kernel
theorem dX6_isStray_130 : decode cX6_isStray 130 = .ok (.ireturn, 1) := by decide +kernel
theorem dX6_top_0 : decode cX6_top 0 = .ok (.aload_n 0, 1) := by decide +kernel
theorem dX6_top_1 : decode cX6_top 1 = .ok (.getfield 77, 3) := by decide +kernel
theorem dX6_top_4 : decode cX6_top 4 = .ok (.bipush 20, 2) := by decide +kernel
theorem dX6_top_6 : decode cX6_top 6 = .ok (.imul, 1) := by decide +kernel
theorem dX6_top_7 : decode cX6_top 7 = .ok (.bipush 12, 2) := by decide +kernel
theorem dX6_top_9 : decode cX6_top 9 = .ok (.iadd, 1) := by decide +kernel
theorem dX6_top_10 : decode cX6_top 10 = .ok (.aload_n 0, 1) := by decide +kernel
theorem dX6_top_11 : decode cX6_top 11 = .ok (.getfield 29, 3) := by decide +kernel
theorem dX6_top_14 : decode cX6_top 14 = .ok (.aload_n 0, 1) := by decide +kernel
theorem dX6_top_15 : decode cX6_top 15 = .ok (.getfield 77, 3) := by decide +kernel
theorem dX6_top_18 : decode cX6_top 18 = .ok (.iaload, 1) := by decide +kernel
theorem dX6_top_19 : decode cX6_top 19 = .ok (.iadd, 1) := by decide +kernel
theorem dX6_top_20 : decode cX6_top 20 = .ok (.ireturn, 1) := by decide +kernel
theorem dX6_push_0 : decode cX6_push 0 = .ok (.aload_n 0, 1) := by decide +kernel
theorem dX6_push_1 : decode cX6_push 1 = .ok (.getfield 29, 3) := by decide +kernel
theorem dX6_push_4 : decode cX6_push 4 = .ok (.aload_n 0, 1) := by decide +kernel
theorem dX6_push_5 : decode cX6_push 5 = .ok (.getfield 77, 3) := by decide +kernel
theorem dX6_push_8 : decode cX6_push 8 = .ok (.iaload, 1) := by decide +kernel
theorem dX6_push_9 : decode cX6_push 9 = .ok (.bipush 8, 2) := by decide +kernel
theorem dX6_push_11 : decode cX6_push 11 = .ok (.if_icmp .ge 52, 3) := by decide +kernel
theorem dX6_push_14 : decode cX6_push 14 = .ok (.aload_n 0, 1) := by decide +kernel
theorem dX6_push_15 : decode cX6_push 15 = .ok (.getfield 77, 3) := by decide +kernel
theorem dX6_push_18 : decode cX6_push 18 = .ok (.bipush 20, 2) := by decide +kernel
theorem dX6_push_20 : decode cX6_push 20 = .ok (.imul, 1) := by decide +kernel
theorem dX6_push_21 : decode cX6_push 21 = .ok (.bipush 12, 2) := by decide +kernel
theorem dX6_push_23 : decode cX6_push 23 = .ok (.iadd, 1) := by decide +kernel
theorem dX6_push_24 : decode cX6_push 24 = .ok (.aload_n 0, 1) := by decide +kernel
theorem dX6_push_25 : decode cX6_push 25 = .ok (.getfield 29, 3) := by decide +kernel
theorem dX6_push_28 : decode cX6_push 28 = .ok (.aload_n 0, 1) := by decide +kernel
theorem dX6_push_29 : decode cX6_push 29 = .ok (.getfield 77, 3) := by decide +kernel
theorem dX6_push_32 : decode cX6_push 32 = .ok (.iaload, 1) := by decide +kernel
theorem dX6_push_33 : decode cX6_push 33 = .ok (.iadd, 1) := by decide +kernel
theorem dX6_push_34 : decode cX6_push 34 = .ok (.istore_n 3, 1) := by decide +kernel
theorem dX6_push_35 : decode cX6_push 35 = .ok (.aload_n 0, 1) := by decide +kernel
theorem dX6_push_36 : decode cX6_push 36 = .ok (.getfield 18, 3) := by decide +kernel
theorem dX6_push_39 : decode cX6_push 39 = .ok (.iload_n 3, 1) := by decide +kernel
theorem dX6_push_40 : decode cX6_push 40 = .ok (.iload_n 1, 1) := by decide +kernel
theorem dX6_push_41 : decode cX6_push 41 = .ok (.iastore, 1) := by decide +kernel
theorem dX6_push_42 : decode cX6_push 42 = .ok (.aload_n 0, 1) := by decide +kernel
theorem dX6_push_43 : decode cX6_push 43 = .ok (.getfield 22, 3) := by decide +kernel
theorem dX6_push_46 : decode cX6_push 46 = .ok (.iload_n 3, 1) := by decide +kernel
theorem dX6_push_47 : decode cX6_push 47 = .ok (.iload_n 2, 1) := by decide +kernel
theorem dX6_push_48 : decode cX6_push 48 = .ok (.i2b, 1) := by decide +kernel
theorem dX6_push_49 : decode cX6_push 49 = .ok (.bastore, 1) := by decide +kernel
theorem dX6_push_50 : decode cX6_push 50 = .ok (.aload_n 0, 1) := by decide +kernel
theorem dX6_push_51 : decode cX6_push 51 = .ok (.getfield 29, 3) := by decide +kernel
theorem dX6_push_54 : decode cX6_push 54 = .ok (.aload_n 0, 1) := by decide +kernel
theorem dX6_push_55 : decode cX6_push 55 = .ok (.getfield 77, 3) := by decide +kernel
theorem dX6_push_58 : decode cX6_push 58 = .ok (.dup2, 1) := by decide +kernel
theorem dX6_push_59 : decode cX6_push 59 = .ok (.iaload, 1) := by decide +kernel
theorem dX6_push_60 : decode cX6_push 60 = .ok (.iconst 1, 1) := by decide +kernel
theorem dX6_push_61 : decode cX6_push 61 = .ok (.iadd, 1) := by decide +kernel
theorem dX6_push_62 : decode cX6_push 62 = .ok (.iastore, 1) := by decide +kernel
theorem dX6_push_63 : decode cX6_push 63 = .ok (.return_, 1) := by decide +kernel
theorem dX6_pushInt_0 : decode cX6_pushInt 0 = .ok (.aload_n 0, 1) := by decide +kernel
theorem dX6_pushInt_1 : decode cX6_pushInt 1 = .ok (.iload_n 1, 1) := by decide +kernel
theorem dX6_pushInt_2 : decode cX6_pushInt 2 = .ok (.bipush 66, 2) := by decide +kernel
theorem dX6_pushInt_4 : decode cX6_pushInt 4 = .ok (.invokevirtual 160, 3) := by decide +kernel
theorem dX6_pushInt_7 : decode cX6_pushInt 7 = .ok (.return_, 1) := by decide +kernel
theorem dX6_pushObject_0 : decode cX6_pushObject 0 = .ok (.aload_n 0, 1) := by decide +kernel
theorem dX6_pushObject_1 : decode cX6_pushObject 1 = .ok (.iload_n 1, 1) := by decide +kernel
theorem dX6_pushObject_2 : decode cX6_pushObject 2 = .ok (.aload_n 0, 1) := by decide +kernel
theorem dX6_pushObject_3 : decode cX6_pushObject 3 = .ok (.getfield 12, 3) := by decide +kernel
theorem dX6_pushObject_6 : decode cX6_pushObject 6 = .ok (.getfield 163, 3) := by decide +kernel
theorem dX6_pushObject_9 : decode cX6_pushObject 9 = .ok (.iload_n 1, 1) := by decide +kernel
theorem dX6_pushObject_10 : decode cX6_pushObject 10 = .ok (.iaload, 1) := by decide +kernel
theorem dX6_pushObject_11 : decode cX6_pushObject 11 = .ok (.invokevirtual 160, 3) := by decide +kernel
theorem dX6_pushObject_14 : decode cX6_pushObject 14 = .ok (.return_, 1) := by decide +kernel
theorem dX6_pop_0 : decode cX6_pop 0 = .ok (.aload_n 0, 1) := by decide +kernel
theorem dX6_pop_1 : decode cX6_pop 1 = .ok (.getfield 29, 3) := by decide +kernel
theorem dX6_pop_4 : decode cX6_pop 4 = .ok (.aload_n 0, 1) := by decide +kernel
theorem dX6_pop_5 : decode cX6_pop 5 = .ok (.getfield 77, 3) := by decide +kernel
theorem dX6_pop_8 : decode cX6_pop 8 = .ok (.iaload, 1) := by decide +kernel
theorem dX6_pop_9 : decode cX6_pop 9 = .ok (.ifCond .ne 5, 3) := by decide +kernel
theorem dX6_pop_12 : decode cX6_pop 12 = .ok (.iconst 0, 1) := by decide +kernel
theorem dX6_pop_13 : decode cX6_pop 13 = .ok (.ireturn, 1) := by decide +kernel
theorem dX6_pop_14 : decode cX6_pop 14 = .ok (.aload_n 0, 1) := by decide +kernel
theorem dX6_pop_15 : decode cX6_pop 15 = .ok (.getfield 29, 3) := by decide +kernel
theorem dX6_pop_18 : decode cX6_pop 18 = .ok (.aload_n 0, 1) := by decide +kernel
theorem dX6_pop_19 : decode cX6_pop 19 = .ok (.getfield 77, 3) := by decide +kernel
theorem dX6_pop_22 : decode cX6_pop 22 = .ok (.dup2, 1) := by decide +kernel
theorem dX6_pop_23 : decode cX6_pop 23 = .ok (.iaload, 1) := by decide +kernel
theorem dX6_pop_24 : decode cX6_pop 24 = .ok (.iconst 1, 1) := by decide +kernel
theorem dX6_pop_25 : decode cX6_pop 25 = .ok (.isub, 1) := by decide +kernel
theorem dX6_pop_26 : decode cX6_pop 26 = .ok (.iastore, 1) := by decide +kernel
theorem dX6_pop_27 : decode cX6_pop 27 = .ok (.aload_n 0, 1) := by decide +kernel
theorem dX6_pop_28 : decode cX6_pop 28 = .ok (.getfield 18, 3) := by decide +kernel
theorem dX6_pop_31 : decode cX6_pop 31 = .ok (.aload_n 0, 1) := by decide +kernel
theorem dX6_pop_32 : decode cX6_pop 32 = .ok (.invokevirtual 138, 3) := by decide +kernel
theorem dX6_pop_35 : decode cX6_pop 35 = .ok (.iaload, 1) := by decide +kernel
theorem dX6_pop_36 : decode cX6_pop 36 = .ok (.ireturn, 1) := by decide +kernel
theorem dX6_move_0 : decode cX6_move 0 = .ok (.aload_n 0, 1) := by decide +kernel
theorem dX6_move_1 : decode cX6_move 1 = .ok (.getfield 77, 3) := by decide +kernel
theorem dX6_move_4 : decode cX6_move 4 = .ok (.bipush 20, 2) := by decide +kernel
theorem dX6_move_6 : decode cX6_move 6 = .ok (.imul, 1) := by decide +kernel
theorem dX6_move_7 : decode cX6_move 7 = .ok (.iload_n 2, 1) := by decide +kernel
theorem dX6_move_8 : decode cX6_move 8 = .ok (.iadd, 1) := by decide +kernel
theorem dX6_move_9 : decode cX6_move 9 = .ok (.istore 4, 2) := by decide +kernel
theorem dX6_move_11 : decode cX6_move 11 = .ok (.aload_n 0, 1) := by decide +kernel
theorem dX6_move_12 : decode cX6_move 12 = .ok (.invokevirtual 138, 3) := by decide +kernel
theorem dX6_move_15 : decode cX6_move 15 = .ok (.istore 5, 2) := by decide +kernel
theorem dX6_move_17 : decode cX6_move 17 = .ok (.iload_n 1, 1) := by decide +kernel
theorem dX6_move_18 : decode cX6_move 18 = .ok (.tableswitch 156 0 6 #[42, 50, 58, 79, 109, 123, 148], 42) := by decide +kernel
theorem dX6_move_60 : decode cX6_move 60 = .ok (.aload_n 0, 1) := by decide +kernel
theorem dX6_move_61 : decode cX6_move 61 = .ok (.iload_n 2, 1) := by decide +kernel
theorem dX6_move_62 : decode cX6_move 62 = .ok (.invokevirtual 166, 3) := by decide +kernel
theorem dX6_move_65 : decode cX6_move 65 = .ok (.goto 121, 3) := by decide +kernel
theorem dX6_move_68 : decode cX6_move 68 = .ok (.aload_n 0, 1) := by decide +kernel
theorem dX6_move_69 : decode cX6_move 69 = .ok (.iconst 0, 1) := by decide +kernel
theorem dX6_move_70 : decode cX6_move 70 = .ok (.invokevirtual 169, 3) := by decide +kernel
theorem dX6_move_73 : decode cX6_move 73 = .ok (.goto 113, 3) := by decide +kernel
theorem dX6_move_76 : decode cX6_move 76 = .ok (.aload_n 0, 1) := by decide +kernel
theorem dX6_move_77 : decode cX6_move 77 = .ok (.aload_n 0, 1) := by decide +kernel
theorem dX6_move_78 : decode cX6_move 78 = .ok (.getfield 18, 3) := by decide +kernel
theorem dX6_move_81 : decode cX6_move 81 = .ok (.iload 4, 2) := by decide +kernel
theorem dX6_move_83 : decode cX6_move 83 = .ok (.iaload, 1) := by decide +kernel
theorem dX6_move_84 : decode cX6_move 84 = .ok (.aload_n 0, 1) := by decide +kernel
theorem dX6_move_85 : decode cX6_move 85 = .ok (.getfield 22, 3) := by decide +kernel
theorem dX6_move_88 : decode cX6_move 88 = .ok (.iload 4, 2) := by decide +kernel
theorem dX6_move_90 : decode cX6_move 90 = .ok (.baload, 1) := by decide +kernel
theorem dX6_move_91 : decode cX6_move 91 = .ok (.invokevirtual 160, 3) := by decide +kernel
theorem dX6_move_94 : decode cX6_move 94 = .ok (.goto 92, 3) := by decide +kernel
theorem dX6_move_97 : decode cX6_move 97 = .ok (.aload_n 0, 1) := by decide +kernel
theorem dX6_move_98 : decode cX6_move 98 = .ok (.getfield 18, 3) := by decide +kernel
theorem dX6_move_101 : decode cX6_move 101 = .ok (.iload 4, 2) := by decide +kernel
theorem dX6_move_103 : decode cX6_move 103 = .ok (.aload_n 0, 1) := by decide +kernel
theorem dX6_move_104 : decode cX6_move 104 = .ok (.invokevirtual 172, 3) := by decide +kernel
theorem dX6_move_107 : decode cX6_move 107 = .ok (.iastore, 1) := by decide +kernel
theorem dX6_move_108 : decode cX6_move 108 = .ok (.aload_n 0, 1) := by decide +kernel
theorem dX6_move_109 : decode cX6_move 109 = .ok (.getfield 22, 3) := by decide +kernel
theorem dX6_move_112 : decode cX6_move 112 = .ok (.iload 4, 2) := by decide +kernel
theorem dX6_move_114 : decode cX6_move 114 = .ok (.aload_n 0, 1) := by decide +kernel
theorem dX6_move_115 : decode cX6_move 115 = .ok (.getfield 22, 3) := by decide +kernel
theorem dX6_move_118 : decode cX6_move 118 = .ok (.iload 5, 2) := by decide +kernel
theorem dX6_move_120 : decode cX6_move 120 = .ok (.iconst 1, 1) := by decide +kernel
theorem dX6_move_121 : decode cX6_move 121 = .ok (.isub, 1) := by decide +kernel
theorem dX6_move_122 : decode cX6_move 122 = .ok (.baload, 1) := by decide +kernel
theorem dX6_move_123 : decode cX6_move 123 = .ok (.bastore, 1) := by decide +kernel
theorem dX6_move_124 : decode cX6_move 124 = .ok (.goto 62, 3) := by decide +kernel
theorem dX6_move_127 : decode cX6_move 127 = .ok (.aload_n 0, 1) := by decide +kernel
theorem dX6_move_128 : decode cX6_move 128 = .ok (.getfield 18, 3) := by decide +kernel
theorem dX6_move_131 : decode cX6_move 131 = .ok (.iload 4, 2) := by decide +kernel
theorem dX6_move_133 : decode cX6_move 133 = .ok (.dup2, 1) := by decide +kernel
theorem dX6_move_134 : decode cX6_move 134 = .ok (.iaload, 1) := by decide +kernel
theorem dX6_move_135 : decode cX6_move 135 = .ok (.iload_n 3, 1) := by decide +kernel
theorem dX6_move_136 : decode cX6_move 136 = .ok (.iadd, 1) := by decide +kernel
theorem dX6_move_137 : decode cX6_move 137 = .ok (.iastore, 1) := by decide +kernel
theorem dX6_move_138 : decode cX6_move 138 = .ok (.goto 48, 3) := by decide +kernel
theorem dX6_move_141 : decode cX6_move 141 = .ok (.aload_n 0, 1) := by decide +kernel
theorem dX6_move_142 : decode cX6_move 142 = .ok (.aload_n 0, 1) := by decide +kernel
theorem dX6_move_143 : decode cX6_move 143 = .ok (.getfield 18, 3) := by decide +kernel
theorem dX6_move_146 : decode cX6_move 146 = .ok (.iload 5, 2) := by decide +kernel
theorem dX6_move_148 : decode cX6_move 148 = .ok (.iconst 1, 1) := by decide +kernel
theorem dX6_move_149 : decode cX6_move 149 = .ok (.isub, 1) := by decide +kernel
theorem dX6_move_150 : decode cX6_move 150 = .ok (.iaload, 1) := by decide +kernel
theorem dX6_move_151 : decode cX6_move 151 = .ok (.aload_n 0, 1) := by decide +kernel
theorem dX6_move_152 : decode cX6_move 152 = .ok (.getfield 22, 3) := by decide +kernel
theorem dX6_move_155 : decode cX6_move 155 = .ok (.iload 5, 2) := by decide +kernel
theorem dX6_move_157 : decode cX6_move 157 = .ok (.iconst 1, 1) := by decide +kernel
theorem dX6_move_158 : decode cX6_move 158 = .ok (.isub, 1) := by decide +kernel
theorem dX6_move_159 : decode cX6_move 159 = .ok (.baload, 1) := by decide +kernel
theorem dX6_move_160 : decode cX6_move 160 = .ok (.invokevirtual 160, 3) := by decide +kernel
theorem dX6_move_163 : decode cX6_move 163 = .ok (.goto 23, 3) := by decide +kernel
theorem dX6_move_166 : decode cX6_move 166 = .ok (.aload_n 0, 1) := by decide +kernel
theorem dX6_move_167 : decode cX6_move 167 = .ok (.invokevirtual 172, 3) := by decide +kernel
theorem dX6_move_170 : decode cX6_move 170 = .ok (.pop, 1) := by decide +kernel
theorem dX6_move_171 : decode cX6_move 171 = .ok (.goto 15, 3) := by decide +kernel
theorem dX6_move_174 : decode cX6_move 174 = .ok (.aload_n 0, 1) := by decide +kernel
theorem dX6_move_175 : decode cX6_move 175 = .ok (.iload 5, 2) := by decide +kernel
theorem dX6_move_177 : decode cX6_move 177 = .ok (.iconst 2, 1) := by decide +kernel
theorem dX6_move_178 : decode cX6_move 178 = .ok (.isub, 1) := by decide +kernel
theorem dX6_move_179 : decode cX6_move 179 = .ok (.iload 5, 2) := by decide +kernel
theorem dX6_move_181 : decode cX6_move 181 = .ok (.iconst 1, 1) := by decide +kernel
theorem dX6_move_182 : decode cX6_move 182 = .ok (.isub, 1) := by decide +kernel
theorem dX6_move_183 : decode cX6_move 183 = .ok (.invokevirtual 175, 3) := by decide +kernel
theorem dX6_move_186 : decode cX6_move 186 = .ok (.return_, 1) := by decide +kernel
theorem dX6_swap_0 : decode cX6_swap 0 = .ok (.aload_n 0, 1) := by decide +kernel
theorem dX6_swap_1 : decode cX6_swap 1 = .ok (.getfield 18, 3) := by decide +kernel
theorem dX6_swap_4 : decode cX6_swap 4 = .ok (.iload_n 1, 1) := by decide +kernel
theorem dX6_swap_5 : decode cX6_swap 5 = .ok (.iaload, 1) := by decide +kernel
theorem dX6_swap_6 : decode cX6_swap 6 = .ok (.istore_n 3, 1) := by decide +kernel
theorem dX6_swap_7 : decode cX6_swap 7 = .ok (.aload_n 0, 1) := by decide +kernel
theorem dX6_swap_8 : decode cX6_swap 8 = .ok (.getfield 22, 3) := by decide +kernel
theorem dX6_swap_11 : decode cX6_swap 11 = .ok (.iload_n 1, 1) := by decide +kernel
theorem dX6_swap_12 : decode cX6_swap 12 = .ok (.baload, 1) := by decide +kernel
theorem dX6_swap_13 : decode cX6_swap 13 = .ok (.istore 4, 2) := by decide +kernel
theorem dX6_swap_15 : decode cX6_swap 15 = .ok (.aload_n 0, 1) := by decide +kernel
theorem dX6_swap_16 : decode cX6_swap 16 = .ok (.getfield 18, 3) := by decide +kernel
theorem dX6_swap_19 : decode cX6_swap 19 = .ok (.iload_n 1, 1) := by decide +kernel
theorem dX6_swap_20 : decode cX6_swap 20 = .ok (.aload_n 0, 1) := by decide +kernel
theorem dX6_swap_21 : decode cX6_swap 21 = .ok (.getfield 18, 3) := by decide +kernel
theorem dX6_swap_24 : decode cX6_swap 24 = .ok (.iload_n 2, 1) := by decide +kernel
theorem dX6_swap_25 : decode cX6_swap 25 = .ok (.iaload, 1) := by decide +kernel
theorem dX6_swap_26 : decode cX6_swap 26 = .ok (.iastore, 1) := by decide +kernel
theorem dX6_swap_27 : decode cX6_swap 27 = .ok (.aload_n 0, 1) := by decide +kernel
theorem dX6_swap_28 : decode cX6_swap 28 = .ok (.getfield 22, 3) := by decide +kernel
theorem dX6_swap_31 : decode cX6_swap 31 = .ok (.iload_n 1, 1) := by decide +kernel
theorem dX6_swap_32 : decode cX6_swap 32 = .ok (.aload_n 0, 1) := by decide +kernel
theorem dX6_swap_33 : decode cX6_swap 33 = .ok (.getfield 22, 3) := by decide +kernel
theorem dX6_swap_36 : decode cX6_swap 36 = .ok (.iload_n 2, 1) := by decide +kernel
theorem dX6_swap_37 : decode cX6_swap 37 = .ok (.baload, 1) := by decide +kernel
theorem dX6_swap_38 : decode cX6_swap 38 = .ok (.bastore, 1) := by decide +kernel
theorem dX6_swap_39 : decode cX6_swap 39 = .ok (.aload_n 0, 1) := by decide +kernel
theorem dX6_swap_40 : decode cX6_swap 40 = .ok (.getfield 18, 3) := by decide +kernel
theorem dX6_swap_43 : decode cX6_swap 43 = .ok (.iload_n 2, 1) := by decide +kernel
theorem dX6_swap_44 : decode cX6_swap 44 = .ok (.iload_n 3, 1) := by decide +kernel
theorem dX6_swap_45 : decode cX6_swap 45 = .ok (.iastore, 1) := by decide +kernel
theorem dX6_swap_46 : decode cX6_swap 46 = .ok (.aload_n 0, 1) := by decide +kernel
theorem dX6_swap_47 : decode cX6_swap 47 = .ok (.getfield 22, 3) := by decide +kernel
theorem dX6_swap_50 : decode cX6_swap 50 = .ok (.iload_n 2, 1) := by decide +kernel
theorem dX6_swap_51 : decode cX6_swap 51 = .ok (.iload 4, 2) := by decide +kernel
theorem dX6_swap_53 : decode cX6_swap 53 = .ok (.bastore, 1) := by decide +kernel
theorem dX6_swap_54 : decode cX6_swap 54 = .ok (.return_, 1) := by decide +kernel
theorem dX6_calculate_0 : decode cX6_calculate 0 = .ok (.aload_n 0, 1) := by decide +kernel
theorem dX6_calculate_1 : decode cX6_calculate 1 = .ok (.invokevirtual 172, 3) := by decide +kernel
theorem dX6_calculate_4 : decode cX6_calculate 4 = .ok (.istore_n 2, 1) := by decide +kernel
theorem dX6_calculate_5 : decode cX6_calculate 5 = .ok (.iload_n 1, 1) := by decide +kernel
theorem dX6_calculate_6 : decode cX6_calculate 6 = .ok (.bipush 18, 2) := by decide +kernel
theorem dX6_calculate_8 : decode cX6_calculate 8 = .ok (.if_icmp .ne 10, 3) := by decide +kernel
theorem dX6_calculate_11 : decode cX6_calculate 11 = .ok (.aload_n 0, 1) := by decide +kernel
theorem dX6_calculate_12 : decode cX6_calculate 12 = .ok (.iload_n 2, 1) := by decide +kernel
theorem dX6_calculate_13 : decode cX6_calculate 13 = .ok (.ineg, 1) := by decide +kernel
theorem dX6_calculate_14 : decode cX6_calculate 14 = .ok (.invokevirtual 166, 3) := by decide +kernel
theorem dX6_calculate_17 : decode cX6_calculate 17 = .ok (.return_, 1) := by decide +kernel
theorem dX6_calculate_18 : decode cX6_calculate 18 = .ok (.aload_n 0, 1) := by decide +kernel
theorem dX6_calculate_19 : decode cX6_calculate 19 = .ok (.invokevirtual 172, 3) := by decide +kernel
theorem dX6_calculate_22 : decode cX6_calculate 22 = .ok (.istore_n 3, 1) := by decide +kernel
theorem dX6_calculate_23 : decode cX6_calculate 23 = .ok (.iload_n 1, 1) := by decide +kernel
theorem dX6_calculate_24 : decode cX6_calculate 24 = .ok (.bipush 11, 2) := by decide +kernel
theorem dX6_calculate_26 : decode cX6_calculate 26 = .ok (.if_icmp .eq 9, 3) := by decide +kernel
theorem dX6_calculate_29 : decode cX6_calculate 29 = .ok (.iload_n 1, 1) := by decide +kernel
theorem dX6_calculate_30 : decode cX6_calculate 30 = .ok (.bipush 12, 2) := by decide +kernel
theorem dX6_calculate_32 : decode cX6_calculate 32 = .ok (.if_icmp .ne 13, 3) := by decide +kernel
theorem dX6_calculate_35 : decode cX6_calculate 35 = .ok (.iload_n 2, 1) := by decide +kernel
theorem dX6_calculate_36 : decode cX6_calculate 36 = .ok (.ifCond .ne 9, 3) := by decide +kernel
theorem dX6_calculate_39 : decode cX6_calculate 39 = .ok (.aload_n 0, 1) := by decide +kernel
theorem dX6_calculate_40 : decode cX6_calculate 40 = .ok (.iconst 5, 1) := by decide +kernel
theorem dX6_calculate_41 : decode cX6_calculate 41 = .ok (.invokevirtual 178, 3) := by decide +kernel
theorem dX6_calculate_44 : decode cX6_calculate 44 = .ok (.return_, 1) := by decide +kernel
theorem dX6_calculate_45 : decode cX6_calculate 45 = .ok (.iload_n 1, 1) := by decide +kernel
theorem dX6_calculate_46 : decode cX6_calculate 46 = .ok (.tableswitch 140 8 16 #[50, 60, 70, 80, 90, 100, 110, 120, 130], 50) := by decide +kernel
theorem dX6_calculate_96 : decode cX6_calculate 96 = .ok (.aload_n 0, 1) := by decide +kernel
theorem dX6_calculate_97 : decode cX6_calculate 97 = .ok (.iload_n 3, 1) := by decide +kernel
theorem dX6_calculate_98 : decode cX6_calculate 98 = .ok (.iload_n 2, 1) := by decide +kernel
theorem dX6_calculate_99 : decode cX6_calculate 99 = .ok (.iadd, 1) := by decide +kernel
theorem dX6_calculate_100 : decode cX6_calculate 100 = .ok (.invokevirtual 166, 3) := by decide +kernel
theorem dX6_calculate_103 : decode cX6_calculate 103 = .ok (.goto 90, 3) := by decide +kernel
theorem dX6_calculate_106 : decode cX6_calculate 106 = .ok (.aload_n 0, 1) := by decide +kernel
theorem dX6_calculate_107 : decode cX6_calculate 107 = .ok (.iload_n 3, 1) := by decide +kernel
theorem dX6_calculate_108 : decode cX6_calculate 108 = .ok (.iload_n 2, 1) := by decide +kernel
theorem dX6_calculate_109 : decode cX6_calculate 109 = .ok (.isub, 1) := by decide +kernel
theorem dX6_calculate_110 : decode cX6_calculate 110 = .ok (.invokevirtual 166, 3) := by decide +kernel
theorem dX6_calculate_113 : decode cX6_calculate 113 = .ok (.goto 80, 3) := by decide +kernel
theorem dX6_calculate_116 : decode cX6_calculate 116 = .ok (.aload_n 0, 1) := by decide +kernel
theorem dX6_calculate_117 : decode cX6_calculate 117 = .ok (.iload_n 3, 1) := by decide +kernel
theorem dX6_calculate_118 : decode cX6_calculate 118 = .ok (.iload_n 2, 1) := by decide +kernel
theorem dX6_calculate_119 : decode cX6_calculate 119 = .ok (.imul, 1) := by decide +kernel
theorem dX6_calculate_120 : decode cX6_calculate 120 = .ok (.invokevirtual 166, 3) := by decide +kernel
theorem dX6_calculate_123 : decode cX6_calculate 123 = .ok (.goto 70, 3) := by decide +kernel
theorem dX6_calculate_126 : decode cX6_calculate 126 = .ok (.aload_n 0, 1) := by decide +kernel
theorem dX6_calculate_127 : decode cX6_calculate 127 = .ok (.iload_n 3, 1) := by decide +kernel
theorem dX6_calculate_128 : decode cX6_calculate 128 = .ok (.iload_n 2, 1) := by decide +kernel
theorem dX6_calculate_129 : decode cX6_calculate 129 = .ok (.idiv, 1) := by decide +kernel
theorem dX6_calculate_130 : decode cX6_calculate 130 = .ok (.invokevirtual 166, 3) := by decide +kernel
theorem dX6_calculate_133 : decode cX6_calculate 133 = .ok (.goto 60, 3) := by decide +kernel
theorem dX6_calculate_136 : decode cX6_calculate 136 = .ok (.aload_n 0, 1) := by decide +kernel
theorem dX6_calculate_137 : decode cX6_calculate 137 = .ok (.iload_n 3, 1) := by decide +kernel
theorem dX6_calculate_138 : decode cX6_calculate 138 = .ok (.iload_n 2, 1) := by decide +kernel
theorem dX6_calculate_139 : decode cX6_calculate 139 = .ok (.irem, 1) := by decide +kernel
theorem dX6_calculate_140 : decode cX6_calculate 140 = .ok (.invokevirtual 166, 3) := by decide +kernel
theorem dX6_calculate_143 : decode cX6_calculate 143 = .ok (.goto 50, 3) := by decide +kernel
theorem dX6_calculate_146 : decode cX6_calculate 146 = .ok (.aload_n 0, 1) := by decide +kernel
theorem dX6_calculate_147 : decode cX6_calculate 147 = .ok (.iload_n 3, 1) := by decide +kernel
theorem dX6_calculate_148 : decode cX6_calculate 148 = .ok (.iload_n 2, 1) := by decide +kernel
theorem dX6_calculate_149 : decode cX6_calculate 149 = .ok (.iand, 1) := by decide +kernel
theorem dX6_calculate_150 : decode cX6_calculate 150 = .ok (.invokevirtual 166, 3) := by decide +kernel
theorem dX6_calculate_153 : decode cX6_calculate 153 = .ok (.goto 40, 3) := by decide +kernel
theorem dX6_calculate_156 : decode cX6_calculate 156 = .ok (.aload_n 0, 1) := by decide +kernel
theorem dX6_calculate_157 : decode cX6_calculate 157 = .ok (.iload_n 3, 1) := by decide +kernel
theorem dX6_calculate_158 : decode cX6_calculate 158 = .ok (.iload_n 2, 1) := by decide +kernel
theorem dX6_calculate_159 : decode cX6_calculate 159 = .ok (.ior, 1) := by decide +kernel
theorem dX6_calculate_160 : decode cX6_calculate 160 = .ok (.invokevirtual 166, 3) := by decide +kernel
theorem dX6_calculate_163 : decode cX6_calculate 163 = .ok (.goto 30, 3) := by decide +kernel
theorem dX6_calculate_166 : decode cX6_calculate 166 = .ok (.aload_n 0, 1) := by decide +kernel
theorem dX6_calculate_167 : decode cX6_calculate 167 = .ok (.iload_n 3, 1) := by decide +kernel
theorem dX6_calculate_168 : decode cX6_calculate 168 = .ok (.iload_n 2, 1) := by decide +kernel
theorem dX6_calculate_169 : decode cX6_calculate 169 = .ok (.ixor, 1) := by decide +kernel
theorem dX6_calculate_170 : decode cX6_calculate 170 = .ok (.invokevirtual 166, 3) := by decide +kernel
theorem dX6_calculate_173 : decode cX6_calculate 173 = .ok (.goto 20, 3) := by decide +kernel
theorem dX6_calculate_176 : decode cX6_calculate 176 = .ok (.aload_n 0, 1) := by decide +kernel
theorem dX6_calculate_177 : decode cX6_calculate 177 = .ok (.iload_n 3, 1) := by decide +kernel
theorem dX6_calculate_178 : decode cX6_calculate 178 = .ok (.iload_n 2, 1) := by decide +kernel
theorem dX6_calculate_179 : decode cX6_calculate 179 = .ok (.ishl, 1) := by decide +kernel
theorem dX6_calculate_180 : decode cX6_calculate 180 = .ok (.invokevirtual 166, 3) := by decide +kernel
theorem dX6_calculate_183 : decode cX6_calculate 183 = .ok (.goto 10, 3) := by decide +kernel
theorem dX6_calculate_186 : decode cX6_calculate 186 = .ok (.aload_n 0, 1) := by decide +kernel
theorem dX6_calculate_187 : decode cX6_calculate 187 = .ok (.iload_n 3, 1) := by decide +kernel
theorem dX6_calculate_188 : decode cX6_calculate 188 = .ok (.iload_n 2, 1) := by decide +kernel
theorem dX6_calculate_189 : decode cX6_calculate 189 = .ok (.ishr, 1) := by decide +kernel
theorem dX6_calculate_190 : decode cX6_calculate 190 = .ok (.invokevirtual 166, 3) := by decide +kernel
theorem dX6_calculate_193 : decode cX6_calculate 193 = .ok (.return_, 1) := by decide +kernel
theorem dX6_decide_0 : decode cX6_decide 0 = .ok (.iload_n 1, 1) := by decide +kernel
theorem dX6_decide_1 : decode cX6_decide 1 = .ok (.bipush 19, 2) := by decide +kernel
theorem dX6_decide_3 : decode cX6_decide 3 = .ok (.if_icmp .ne 7, 3) := by decide +kernel
theorem dX6_decide_6 : decode cX6_decide 6 = .ok (.iconst 0, 1) := by decide +kernel
theorem dX6_decide_7 : decode cX6_decide 7 = .ok (.goto 7, 3) := by decide +kernel
theorem dX6_decide_10 : decode cX6_decide 10 = .ok (.aload_n 0, 1) := by decide +kernel
theorem dX6_decide_11 : decode cX6_decide 11 = .ok (.invokevirtual 172, 3) := by decide +kernel
theorem dX6_decide_14 : decode cX6_decide 14 = .ok (.istore_n 3, 1) := by decide +kernel
theorem dX6_decide_15 : decode cX6_decide 15 = .ok (.iload_n 1, 1) := by decide +kernel
theorem dX6_decide_16 : decode cX6_decide 16 = .ok (.bipush 19, 2) := by decide +kernel
theorem dX6_decide_18 : decode cX6_decide 18 = .ok (.if_icmp .eq 15, 3) := by decide +kernel
theorem dX6_decide_21 : decode cX6_decide 21 = .ok (.iload_n 1, 1) := by decide +kernel
theorem dX6_decide_22 : decode cX6_decide 22 = .ok (.bipush 26, 2) := by decide +kernel
theorem dX6_decide_24 : decode cX6_decide 24 = .ok (.if_icmp .eq 9, 3) := by decide +kernel
theorem dX6_decide_27 : decode cX6_decide 27 = .ok (.iload_n 1, 1) := by decide +kernel
theorem dX6_decide_28 : decode cX6_decide 28 = .ok (.bipush 27, 2) := by decide +kernel
theorem dX6_decide_30 : decode cX6_decide 30 = .ok (.if_icmp .ne 7, 3) := by decide +kernel
theorem dX6_decide_33 : decode cX6_decide 33 = .ok (.iconst 0, 1) := by decide +kernel
theorem dX6_decide_34 : decode cX6_decide 34 = .ok (.goto 7, 3) := by decide +kernel
theorem dX6_decide_37 : decode cX6_decide 37 = .ok (.aload_n 0, 1) := by decide +kernel
theorem dX6_decide_38 : decode cX6_decide 38 = .ok (.invokevirtual 172, 3) := by decide +kernel
theorem dX6_decide_41 : decode cX6_decide 41 = .ok (.istore 4, 2) := by decide +kernel
theorem dX6_decide_43 : decode cX6_decide 43 = .ok (.iload_n 1, 1) := by decide +kernel
theorem dX6_decide_44 : decode cX6_decide 44 = .ok (.tableswitch 180 20 29 #[56, 72, 88, 104, 120, 136, 152, 166, 56, 72], 56) := by decide +kernel
theorem dX6_decide_100 : decode cX6_decide 100 = .ok (.iload 4, 2) := by decide +kernel
theorem dX6_decide_102 : decode cX6_decide 102 = .ok (.iload_n 3, 1) := by decide +kernel
theorem dX6_decide_103 : decode cX6_decide 103 = .ok (.if_icmp .ne 7, 3) := by decide +kernel
theorem dX6_decide_106 : decode cX6_decide 106 = .ok (.iconst 1, 1) := by decide +kernel
theorem dX6_decide_107 : decode cX6_decide 107 = .ok (.goto 4, 3) := by decide +kernel
theorem dX6_decide_110 : decode cX6_decide 110 = .ok (.iconst 0, 1) := by decide +kernel
theorem dX6_decide_111 : decode cX6_decide 111 = .ok (.istore 5, 2) := by decide +kernel
theorem dX6_decide_113 : decode cX6_decide 113 = .ok (.goto 114, 3) := by decide +kernel
theorem dX6_decide_116 : decode cX6_decide 116 = .ok (.iload 4, 2) := by decide +kernel
theorem dX6_decide_118 : decode cX6_decide 118 = .ok (.iload_n 3, 1) := by decide +kernel
theorem dX6_decide_119 : decode cX6_decide 119 = .ok (.if_icmp .eq 7, 3) := by decide +kernel
theorem dX6_decide_122 : decode cX6_decide 122 = .ok (.iconst 1, 1) := by decide +kernel
theorem dX6_decide_123 : decode cX6_decide 123 = .ok (.goto 4, 3) := by decide +kernel
theorem dX6_decide_126 : decode cX6_decide 126 = .ok (.iconst 0, 1) := by decide +kernel
theorem dX6_decide_127 : decode cX6_decide 127 = .ok (.istore 5, 2) := by decide +kernel
theorem dX6_decide_129 : decode cX6_decide 129 = .ok (.goto 98, 3) := by decide +kernel
theorem dX6_decide_132 : decode cX6_decide 132 = .ok (.iload 4, 2) := by decide +kernel
theorem dX6_decide_134 : decode cX6_decide 134 = .ok (.iload_n 3, 1) := by decide +kernel
theorem dX6_decide_135 : decode cX6_decide 135 = .ok (.if_icmp .ge 7, 3) := by decide +kernel
theorem dX6_decide_138 : decode cX6_decide 138 = .ok (.iconst 1, 1) := by decide +kernel
theorem dX6_decide_139 : decode cX6_decide 139 = .ok (.goto 4, 3) := by decide +kernel
theorem dX6_decide_142 : decode cX6_decide 142 = .ok (.iconst 0, 1) := by decide +kernel
theorem dX6_decide_143 : decode cX6_decide 143 = .ok (.istore 5, 2) := by decide +kernel
theorem dX6_decide_145 : decode cX6_decide 145 = .ok (.goto 82, 3) := by decide +kernel
theorem dX6_decide_148 : decode cX6_decide 148 = .ok (.iload 4, 2) := by decide +kernel
theorem dX6_decide_150 : decode cX6_decide 150 = .ok (.iload_n 3, 1) := by decide +kernel
theorem dX6_decide_151 : decode cX6_decide 151 = .ok (.if_icmp .gt 7, 3) := by decide +kernel
theorem dX6_decide_154 : decode cX6_decide 154 = .ok (.iconst 1, 1) := by decide +kernel
theorem dX6_decide_155 : decode cX6_decide 155 = .ok (.goto 4, 3) := by decide +kernel
theorem dX6_decide_158 : decode cX6_decide 158 = .ok (.iconst 0, 1) := by decide +kernel
theorem dX6_decide_159 : decode cX6_decide 159 = .ok (.istore 5, 2) := by decide +kernel
theorem dX6_decide_161 : decode cX6_decide 161 = .ok (.goto 66, 3) := by decide +kernel
theorem dX6_decide_164 : decode cX6_decide 164 = .ok (.iload 4, 2) := by decide +kernel
theorem dX6_decide_166 : decode cX6_decide 166 = .ok (.iload_n 3, 1) := by decide +kernel
theorem dX6_decide_167 : decode cX6_decide 167 = .ok (.if_icmp .le 7, 3) := by decide +kernel
theorem dX6_decide_170 : decode cX6_decide 170 = .ok (.iconst 1, 1) := by decide +kernel
theorem dX6_decide_171 : decode cX6_decide 171 = .ok (.goto 4, 3) := by decide +kernel
theorem dX6_decide_174 : decode cX6_decide 174 = .ok (.iconst 0, 1) := by decide +kernel
theorem dX6_decide_175 : decode cX6_decide 175 = .ok (.istore 5, 2) := by decide +kernel
theorem dX6_decide_177 : decode cX6_decide 177 = .ok (.goto 50, 3) := by decide +kernel
theorem dX6_decide_180 : decode cX6_decide 180 = .ok (.iload 4, 2) := by decide +kernel
theorem dX6_decide_182 : decode cX6_decide 182 = .ok (.iload_n 3, 1) := by decide +kernel
theorem dX6_decide_183 : decode cX6_decide 183 = .ok (.if_icmp .lt 7, 3) := by decide +kernel
theorem dX6_decide_186 : decode cX6_decide 186 = .ok (.iconst 1, 1) := by decide +kernel
theorem dX6_decide_187 : decode cX6_decide 187 = .ok (.goto 4, 3) := by decide +kernel
theorem dX6_decide_190 : decode cX6_decide 190 = .ok (.iconst 0, 1) := by decide +kernel
theorem dX6_decide_191 : decode cX6_decide 191 = .ok (.istore 5, 2) := by decide +kernel
theorem dX6_decide_193 : decode cX6_decide 193 = .ok (.goto 34, 3) := by decide +kernel
theorem dX6_decide_196 : decode cX6_decide 196 = .ok (.iload_n 3, 1) := by decide +kernel
theorem dX6_decide_197 : decode cX6_decide 197 = .ok (.ifCond .ne 7, 3) := by decide +kernel
