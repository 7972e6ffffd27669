theorem dX1_init_0 : decode cX1_init 0 = .ok (.aload_n 0, 1) := by decide +kernel
theorem dX1_init_1 : decode cX1_init 1 = .ok (.invokespecial 3, 3) := by decide +kernel
theorem dX1_init_4 : decode cX1_init 4 = .ok (.aload_n 0, 1) := by decide +kernel
theorem dX1_init_5 : decode cX1_init 5 = .ok (.sipush 1024, 3) := by decide +kernel
theorem dX1_init_8 : decode cX1_init 8 = .ok (.newarray .int, 2) := by decide +kernel
theorem dX1_init_10 : decode cX1_init 10 = .ok (.putfield 9, 3) := by decide +kernel
theorem dX1_init_13 : decode cX1_init 13 = .ok (.aload_n 0, 1) := by decide +kernel
theorem dX1_init_14 : decode cX1_init 14 = .ok (.sipush 1024, 3) := by decide +kernel
theorem dX1_init_17 : decode cX1_init 17 = .ok (.newarray .int, 2) := by decide +kernel
theorem dX1_init_19 : decode cX1_init 19 = .ok (.putfield 15, 3) := by decide +kernel
theorem dX1_init_22 : decode cX1_init 22 = .ok (.aload_n 0, 1) := by decide +kernel
theorem dX1_init_23 : decode cX1_init 23 = .ok (.sipush 1024, 3) := by decide +kernel
theorem dX1_init_26 : decode cX1_init 26 = .ok (.newarray .int, 2) := by decide +kernel
theorem dX1_init_28 : decode cX1_init 28 = .ok (.putfield 18, 3) := by decide +kernel
theorem dX1_init_31 : decode cX1_init 31 = .ok (.aload_n 0, 1) := by decide +kernel
theorem dX1_init_32 : decode cX1_init 32 = .ok (.sipush 1024, 3) := by decide +kernel
theorem dX1_init_35 : decode cX1_init 35 = .ok (.newarray .int, 2) := by decide +kernel
theorem dX1_init_37 : decode cX1_init 37 = .ok (.putfield 21, 3) := by decide +kernel
theorem dX1_init_40 : decode cX1_init 40 = .ok (.aload_n 0, 1) := by decide +kernel
theorem dX1_init_41 : decode cX1_init 41 = .ok (.sipush 1024, 3) := by decide +kernel
theorem dX1_init_44 : decode cX1_init 44 = .ok (.newarray .int, 2) := by decide +kernel
theorem dX1_init_46 : decode cX1_init 46 = .ok (.putfield 24, 3) := by decide +kernel
theorem dX1_init_49 : decode cX1_init 49 = .ok (.aload_n 0, 1) := by decide +kernel
theorem dX1_init_50 : decode cX1_init 50 = .ok (.sipush 1024, 3) := by decide +kernel
theorem dX1_init_53 : decode cX1_init 53 = .ok (.newarray .int, 2) := by decide +kernel
theorem dX1_init_55 : decode cX1_init 55 = .ok (.putfield 27, 3) := by decide +kernel
theorem dX1_init_58 : decode cX1_init 58 = .ok (.aload_n 0, 1) := by decide +kernel
theorem dX1_init_59 : decode cX1_init 59 = .ok (.sipush 1024, 3) := by decide +kernel
theorem dX1_init_62 : decode cX1_init 62 = .ok (.newarray .int, 2) := by decide +kernel
theorem dX1_init_64 : decode cX1_init 64 = .ok (.putfield 30, 3) := by decide +kernel
theorem dX1_init_67 : decode cX1_init 67 = .ok (.aload_n 0, 1) := by decide +kernel
theorem dX1_init_68 : decode cX1_init 68 = .ok (.bipush 64, 2) := by decide +kernel
theorem dX1_init_70 : decode cX1_init 70 = .ok (.newarray .int, 2) := by decide +kernel
theorem dX1_init_72 : decode cX1_init 72 = .ok (.putfield 33, 3) := by decide +kernel
theorem dX1_init_75 : decode cX1_init 75 = .ok (.aload_n 0, 1) := by decide +kernel
theorem dX1_init_76 : decode cX1_init 76 = .ok (.bipush 64, 2) := by decide +kernel
theorem dX1_init_78 : decode cX1_init 78 = .ok (.newarray .int, 2) := by decide +kernel
theorem dX1_init_80 : decode cX1_init 80 = .ok (.putfield 36, 3) := by decide +kernel
theorem dX1_init_83 : decode cX1_init 83 = .ok (.aload_n 0, 1) := by decide +kernel
theorem dX1_init_84 : decode cX1_init 84 = .ok (.bipush 64, 2) := by decide +kernel
theorem dX1_init_86 : decode cX1_init 86 = .ok (.newarray .int, 2) := by decide +kernel
theorem dX1_init_88 : decode cX1_init 88 = .ok (.putfield 39, 3) := by decide +kernel
theorem dX1_init_91 : decode cX1_init 91 = .ok (.aload_n 0, 1) := by decide +kernel
theorem dX1_init_92 : decode cX1_init 92 = .ok (.bipush 64, 2) := by decide +kernel
theorem dX1_init_94 : decode cX1_init 94 = .ok (.newarray .int, 2) := by decide +kernel
theorem dX1_init_96 : decode cX1_init 96 = .ok (.putfield 42, 3) := by decide +kernel
theorem dX1_init_99 : decode cX1_init 99 = .ok (.return_, 1) := by decide +kernel
theorem dX1_begin_0 : decode cX1_begin 0 = .ok (.aload_n 0, 1) := by decide +kernel
theorem dX1_begin_1 : decode cX1_begin 1 = .ok (.iconst 0, 1) := by decide +kernel
theorem dX1_begin_2 : decode cX1_begin 2 = .ok (.putfield 45, 3) := by decide +kernel
theorem dX1_begin_5 : decode cX1_begin 5 = .ok (.aload_n 0, 1) := by decide +kernel
theorem dX1_begin_6 : decode cX1_begin 6 = .ok (.iconst 0, 1) := by decide +kernel
theorem dX1_begin_7 : decode cX1_begin 7 = .ok (.putfield 49, 3) := by decide +kernel
theorem dX1_begin_10 : decode cX1_begin 10 = .ok (.aload_n 0, 1) := by decide +kernel
theorem dX1_begin_11 : decode cX1_begin 11 = .ok (.iconst 0, 1) := by decide +kernel
theorem dX1_begin_12 : decode cX1_begin 12 = .ok (.putfield 52, 3) := by decide +kernel
theorem dX1_begin_15 : decode cX1_begin 15 = .ok (.return_, 1) := by decide +kernel
theorem dX1_addInstruction_0 : decode cX1_addInstruction 0 = .ok (.aload_n 0, 1) := by decide +kernel
theorem dX1_addInstruction_1 : decode cX1_addInstruction 1 = .ok (.getfield 45, 3) := by decide +kernel
theorem dX1_addInstruction_4 : decode cX1_addInstruction 4 = .ok (.sipush 1024, 3) := by decide +kernel
theorem dX1_addInstruction_7 : decode cX1_addInstruction 7 = .ok (.if_icmp .ge 107, 3) := by decide +kernel
theorem dX1_addInstruction_10 : decode cX1_addInstruction 10 = .ok (.aload_n 0, 1) := by decide +kernel
theorem dX1_addInstruction_11 : decode cX1_addInstruction 11 = .ok (.getfield 9, 3) := by decide +kernel
theorem dX1_addInstruction_14 : decode cX1_addInstruction 14 = .ok (.aload_n 0, 1) := by decide +kernel
theorem dX1_addInstruction_15 : decode cX1_addInstruction 15 = .ok (.getfield 45, 3) := by decide +kernel
theorem dX1_addInstruction_18 : decode cX1_addInstruction 18 = .ok (.iload_n 1, 1) := by decide +kernel
theorem dX1_addInstruction_19 : decode cX1_addInstruction 19 = .ok (.iastore, 1) := by decide +kernel
theorem dX1_addInstruction_20 : decode cX1_addInstruction 20 = .ok (.aload_n 0, 1) := by decide +kernel
theorem dX1_addInstruction_21 : decode cX1_addInstruction 21 = .ok (.getfield 15, 3) := by decide +kernel
theorem dX1_addInstruction_24 : decode cX1_addInstruction 24 = .ok (.aload_n 0, 1) := by decide +kernel
theorem dX1_addInstruction_25 : decode cX1_addInstruction 25 = .ok (.getfield 45, 3) := by decide +kernel
theorem dX1_addInstruction_28 : decode cX1_addInstruction 28 = .ok (.iconst 0, 1) := by decide +kernel
theorem dX1_addInstruction_29 : decode cX1_addInstruction 29 = .ok (.iastore, 1) := by decide +kernel
theorem dX1_addInstruction_30 : decode cX1_addInstruction 30 = .ok (.aload_n 0, 1) := by decide +kernel
theorem dX1_addInstruction_31 : decode cX1_addInstruction 31 = .ok (.getfield 18, 3) := by decide +kernel
theorem dX1_addInstruction_34 : decode cX1_addInstruction 34 = .ok (.aload_n 0, 1) := by decide +kernel
theorem dX1_addInstruction_35 : decode cX1_addInstruction 35 = .ok (.getfield 45, 3) := by decide +kernel
theorem dX1_addInstruction_38 : decode cX1_addInstruction 38 = .ok (.iconst 0, 1) := by decide +kernel
theorem dX1_addInstruction_39 : decode cX1_addInstruction 39 = .ok (.iastore, 1) := by decide +kernel
theorem dX1_addInstruction_40 : decode cX1_addInstruction 40 = .ok (.aload_n 0, 1) := by decide +kernel
theorem dX1_addInstruction_41 : decode cX1_addInstruction 41 = .ok (.getfield 21, 3) := by decide +kernel
theorem dX1_addInstruction_44 : decode cX1_addInstruction 44 = .ok (.aload_n 0, 1) := by decide +kernel
theorem dX1_addInstruction_45 : decode cX1_addInstruction 45 = .ok (.getfield 45, 3) := by decide +kernel
theorem dX1_addInstruction_48 : decode cX1_addInstruction 48 = .ok (.iload_n 2, 1) := by decide +kernel
theorem dX1_addInstruction_49 : decode cX1_addInstruction 49 = .ok (.iastore, 1) := by decide +kernel
theorem dX1_addInstruction_50 : decode cX1_addInstruction 50 = .ok (.aload_n 0, 1) := by decide +kernel
theorem dX1_addInstruction_51 : decode cX1_addInstruction 51 = .ok (.getfield 24, 3) := by decide +kernel
theorem dX1_addInstruction_54 : decode cX1_addInstruction 54 = .ok (.aload_n 0, 1) := by decide +kernel
theorem dX1_addInstruction_55 : decode cX1_addInstruction 55 = .ok (.getfield 45, 3) := by decide +kernel
theorem dX1_addInstruction_58 : decode cX1_addInstruction 58 = .ok (.iload_n 3, 1) := by decide +kernel
theorem dX1_addInstruction_59 : decode cX1_addInstruction 59 = .ok (.iastore, 1) := by decide +kernel
theorem dX1_addInstruction_60 : decode cX1_addInstruction 60 = .ok (.aload_n 0, 1) := by decide +kernel
theorem dX1_addInstruction_61 : decode cX1_addInstruction 61 = .ok (.getfield 30, 3) := by decide +kernel
theorem dX1_addInstruction_64 : decode cX1_addInstruction 64 = .ok (.aload_n 0, 1) := by decide +kernel
theorem dX1_addInstruction_65 : decode cX1_addInstruction 65 = .ok (.getfield 45, 3) := by decide +kernel
theorem dX1_addInstruction_68 : decode cX1_addInstruction 68 = .ok (.iconst (-1), 1) := by decide +kernel
theorem dX1_addInstruction_69 : decode cX1_addInstruction 69 = .ok (.iastore, 1) := by decide +kernel
theorem dX1_addInstruction_70 : decode cX1_addInstruction 70 = .ok (.aload_n 0, 1) := by decide +kernel
theorem dX1_addInstruction_71 : decode cX1_addInstruction 71 = .ok (.getfield 27, 3) := by decide +kernel
theorem dX1_addInstruction_74 : decode cX1_addInstruction 74 = .ok (.aload_n 0, 1) := by decide +kernel
theorem dX1_addInstruction_75 : decode cX1_addInstruction 75 = .ok (.getfield 45, 3) := by decide +kernel
theorem dX1_addInstruction_78 : decode cX1_addInstruction 78 = .ok (.aload_n 0, 1) := by decide +kernel
theorem dX1_addInstruction_79 : decode cX1_addInstruction 79 = .ok (.getfield 49, 3) := by decide +kernel
theorem dX1_addInstruction_82 : decode cX1_addInstruction 82 = .ok (.iastore, 1) := by decide +kernel
theorem dX1_addInstruction_83 : decode cX1_addInstruction 83 = .ok (.aload_n 0, 1) := by decide +kernel
theorem dX1_addInstruction_84 : decode cX1_addInstruction 84 = .ok (.dup, 1) := by decide +kernel
theorem dX1_addInstruction_85 : decode cX1_addInstruction 85 = .ok (.getfield 49, 3) := by decide +kernel
theorem dX1_addInstruction_88 : decode cX1_addInstruction 88 = .ok (.iload_n 1, 1) := by decide +kernel
theorem dX1_addInstruction_89 : decode cX1_addInstruction 89 = .ok (.invokestatic 55, 3) := by decide +kernel
theorem dX1_addInstruction_92 : decode cX1_addInstruction 92 = .ok (.ifCond .eq 7, 3) := by decide +kernel
theorem dX1_addInstruction_95 : decode cX1_addInstruction 95 = .ok (.iconst 1, 1) := by decide +kernel
theorem dX1_addInstruction_96 : decode cX1_addInstruction 96 = .ok (.goto 4, 3) := by decide +kernel
theorem dX1_addInstruction_99 : decode cX1_addInstruction 99 = .ok (.iconst 0, 1) := by decide +kernel
theorem dX1_addInstruction_100 : decode cX1_addInstruction 100 = .ok (.iadd, 1) := by decide +kernel
theorem dX1_addInstruction_101 : decode cX1_addInstruction 101 = .ok (.putfield 49, 3) := by decide +kernel
theorem dX1_addInstruction_104 : decode cX1_addInstruction 104 = .ok (.aload_n 0, 1) := by decide +kernel
theorem dX1_addInstruction_105 : decode cX1_addInstruction 105 = .ok (.dup, 1) := by decide +kernel
theorem dX1_addInstruction_106 : decode cX1_addInstruction 106 = .ok (.getfield 45, 3) := by decide +kernel
theorem dX1_addInstruction_109 : decode cX1_addInstruction 109 = .ok (.iconst 1, 1) := by decide +kernel
theorem dX1_addInstruction_110 : decode cX1_addInstruction 110 = .ok (.iadd, 1) := by decide +kernel
theorem dX1_addInstruction_111 : decode cX1_addInstruction 111 = .ok (.putfield 45, 3) := by decide +kernel
theorem dX1_addInstruction_114 : decode cX1_addInstruction 114 = .ok (.return_, 1) := by decide +kernel
theorem dX1_addCatch_0 : decode cX1_addCatch 0 = .ok (.aload_n 0, 1) := by decide +kernel
theorem dX1_addCatch_1 : decode cX1_addCatch 1 = .ok (.getfield 52, 3) := by decide +kernel
theorem dX1_addCatch_4 : decode cX1_addCatch 4 = .ok (.bipush 64, 2) := by decide +kernel
theorem dX1_addCatch_6 : decode cX1_addCatch 6 = .ok (.if_icmp .ge 54, 3) := by decide +kernel
theorem dX1_addCatch_9 : decode cX1_addCatch 9 = .ok (.aload_n 0, 1) := by decide +kernel
theorem dX1_addCatch_10 : decode cX1_addCatch 10 = .ok (.getfield 33, 3) := by decide +kernel
theorem dX1_addCatch_13 : decode cX1_addCatch 13 = .ok (.aload_n 0, 1) := by decide +kernel
theorem dX1_addCatch_14 : decode cX1_addCatch 14 = .ok (.getfield 52, 3) := by decide +kernel
theorem dX1_addCatch_17 : decode cX1_addCatch 17 = .ok (.iload_n 1, 1) := by decide +kernel
theorem dX1_addCatch_18 : decode cX1_addCatch 18 = .ok (.iastore, 1) := by decide +kernel
theorem dX1_addCatch_19 : decode cX1_addCatch 19 = .ok (.aload_n 0, 1) := by decide +kernel
theorem dX1_addCatch_20 : decode cX1_addCatch 20 = .ok (.getfield 36, 3) := by decide +kernel
theorem dX1_addCatch_23 : decode cX1_addCatch 23 = .ok (.aload_n 0, 1) := by decide +kernel
theorem dX1_addCatch_24 : decode cX1_addCatch 24 = .ok (.getfield 52, 3) := by decide +kernel
theorem dX1_addCatch_27 : decode cX1_addCatch 27 = .ok (.iload_n 2, 1) := by decide +kernel
theorem dX1_addCatch_28 : decode cX1_addCatch 28 = .ok (.iastore, 1) := by decide +kernel
theorem dX1_addCatch_29 : decode cX1_addCatch 29 = .ok (.aload_n 0, 1) := by decide +kernel
theorem dX1_addCatch_30 : decode cX1_addCatch 30 = .ok (.getfield 39, 3) := by decide +kernel
theorem dX1_addCatch_33 : decode cX1_addCatch 33 = .ok (.aload_n 0, 1) := by decide +kernel
theorem dX1_addCatch_34 : decode cX1_addCatch 34 = .ok (.getfield 52, 3) := by decide +kernel
theorem dX1_addCatch_37 : decode cX1_addCatch 37 = .ok (.iload_n 3, 1) := by decide +kernel
theorem dX1_addCatch_38 : decode cX1_addCatch 38 = .ok (.iastore, 1) := by decide +kernel
theorem dX1_addCatch_39 : decode cX1_addCatch 39 = .ok (.aload_n 0, 1) := by decide +kernel
theorem dX1_addCatch_40 : decode cX1_addCatch 40 = .ok (.getfield 42, 3) := by decide +kernel
theorem dX1_addCatch_43 : decode cX1_addCatch 43 = .ok (.aload_n 0, 1) := by decide +kernel
theorem dX1_addCatch_44 : decode cX1_addCatch 44 = .ok (.getfield 52, 3) := by decide +kernel
theorem dX1_addCatch_47 : decode cX1_addCatch 47 = .ok (.iload 4, 2) := by decide +kernel
theorem dX1_addCatch_49 : decode cX1_addCatch 49 = .ok (.iastore, 1) := by decide +kernel
theorem dX1_addCatch_50 : decode cX1_addCatch 50 = .ok (.aload_n 0, 1) := by decide +kernel
theorem dX1_addCatch_51 : decode cX1_addCatch 51 = .ok (.dup, 1) := by decide +kernel
theorem dX1_addCatch_52 : decode cX1_addCatch 52 = .ok (.getfield 52, 3) := by decide +kernel
theorem dX1_addCatch_55 : decode cX1_addCatch 55 = .ok (.iconst 1, 1) := by decide +kernel
theorem dX1_addCatch_56 : decode cX1_addCatch 56 = .ok (.iadd, 1) := by decide +kernel
theorem dX1_addCatch_57 : decode cX1_addCatch 57 = .ok (.putfield 52, 3) := by decide +kernel
theorem dX1_addCatch_60 : decode cX1_addCatch 60 = .ok (.return_, 1) := by decide +kernel
theorem dX1_isMaking_0 : decode cX1_isMaking 0 = .ok (.iload_n 0, 1) := by decide +kernel
theorem dX1_isMaking_1 : decode cX1_isMaking 1 = .ok (.bipush 30, 2) := by decide +kernel
theorem dX1_isMaking_3 : decode cX1_isMaking 3 = .ok (.if_icmp .eq 9, 3) := by decide +kernel
theorem dX1_isMaking_6 : decode cX1_isMaking 6 = .ok (.iload_n 0, 1) := by decide +kernel
theorem dX1_isMaking_7 : decode cX1_isMaking 7 = .ok (.bipush 31, 2) := by decide +kernel
theorem dX1_isMaking_9 : decode cX1_isMaking 9 = .ok (.if_icmp .ne 7, 3) := by decide +kernel
theorem dX1_isMaking_12 : decode cX1_isMaking 12 = .ok (.iconst 1, 1) := by decide +kernel
theorem dX1_isMaking_13 : decode cX1_isMaking 13 = .ok (.goto 4, 3) := by decide +kernel
theorem dX1_isMaking_16 : decode cX1_isMaking 16 = .ok (.iconst 0, 1) := by decide +kernel
theorem dX1_isMaking_17 : decode cX1_isMaking 17 = .ok (.ireturn, 1) := by decide +kernel
theorem dX1_goesOn_0 : decode cX1_goesOn 0 = .ok (.iload_n 0, 1) := by decide +kernel
theorem dX1_goesOn_1 : decode cX1_goesOn 1 = .ok (.bipush 19, 2) := by decide +kernel
theorem dX1_goesOn_3 : decode cX1_goesOn 3 = .ok (.if_icmp .eq 25, 3) := by decide +kernel
theorem dX1_goesOn_6 : decode cX1_goesOn 6 = .ok (.iload_n 0, 1) := by decide +kernel
theorem dX1_goesOn_7 : decode cX1_goesOn 7 = .ok (.bipush 41, 2) := by decide +kernel
theorem dX1_goesOn_9 : decode cX1_goesOn 9 = .ok (.if_icmp .eq 19, 3) := by decide +kernel
theorem dX1_goesOn_12 : decode cX1_goesOn 12 = .ok (.iload_n 0, 1) := by decide +kernel
theorem dX1_goesOn_13 : decode cX1_goesOn 13 = .ok (.bipush 42, 2) := by decide +kernel
theorem dX1_goesOn_15 : decode cX1_goesOn 15 = .ok (.if_icmp .eq 13, 3) := by decide +kernel
theorem dX1_goesOn_18 : decode cX1_goesOn 18 = .ok (.iload_n 0, 1) := by decide +kernel
theorem dX1_goesOn_19 : decode cX1_goesOn 19 = .ok (.bipush 43, 2) := by decide +kernel
theorem dX1_goesOn_21 : decode cX1_goesOn 21 = .ok (.if_icmp .eq 7, 3) := by decide +kernel
theorem dX1_goesOn_24 : decode cX1_goesOn 24 = .ok (.iconst 1, 1) := by decide +kernel
theorem dX1_goesOn_25 : decode cX1_goesOn 25 = .ok (.goto 4, 3) := by decide +kernel
theorem dX1_goesOn_28 : decode cX1_goesOn 28 = .ok (.iconst 0, 1) := by decide +kernel
theorem dX1_goesOn_29 : decode cX1_goesOn 29 = .ok (.ireturn, 1) := by decide +kernel
theorem dX1_goesToLabel_0 : decode cX1_goesToLabel 0 = .ok (.iload_n 0, 1) := by decide +kernel
theorem dX1_goesToLabel_1 : decode cX1_goesToLabel 1 = .ok (.bipush 19, 2) := by decide +kernel
theorem dX1_goesToLabel_3 : decode cX1_goesToLabel 3 = .ok (.if_icmp .lt 13, 3) := by decide +kernel
theorem dX1_goesToLabel_6 : decode cX1_goesToLabel 6 = .ok (.iload_n 0, 1) := by decide +kernel
theorem dX1_goesToLabel_7 : decode cX1_goesToLabel 7 = .ok (.bipush 29, 2) := by decide +kernel
theorem dX1_goesToLabel_9 : decode cX1_goesToLabel 9 = .ok (.if_icmp .gt 7, 3) := by decide +kernel
theorem dX1_goesToLabel_12 : decode cX1_goesToLabel 12 = .ok (.iconst 1, 1) := by decide +kernel
theorem dX1_goesToLabel_13 : decode cX1_goesToLabel 13 = .ok (.goto 4, 3) := by decide +kernel
theorem dX1_goesToLabel_16 : decode cX1_goesToLabel 16 = .ok (.iconst 0, 1) := by decide +kernel
theorem dX1_goesToLabel_17 : decode cX1_goesToLabel 17 = .ok (.ireturn, 1) := by decide +kernel
theorem dX1_isCaught_0 : decode cX1_isCaught 0 = .ok (.aload_n 0, 1) := by decide +kernel
theorem dX1_isCaught_1 : decode cX1_isCaught 1 = .ok (.getfield 33, 3) := by decide +kernel
theorem dX1_isCaught_4 : decode cX1_isCaught 4 = .ok (.iload_n 2, 1) := by decide +kernel
theorem dX1_isCaught_5 : decode cX1_isCaught 5 = .ok (.iaload, 1) := by decide +kernel
theorem dX1_isCaught_6 : decode cX1_isCaught 6 = .ok (.iload_n 1, 1) := by decide +kernel
theorem dX1_isCaught_7 : decode cX1_isCaught 7 = .ok (.if_icmp .gt 17, 3) := by decide +kernel
theorem dX1_isCaught_10 : decode cX1_isCaught 10 = .ok (.iload_n 1, 1) := by decide +kernel
theorem dX1_isCaught_11 : decode cX1_isCaught 11 = .ok (.aload_n 0, 1) := by decide +kernel
theorem dX1_isCaught_12 : decode cX1_isCaught 12 = .ok (.getfield 36, 3) := by decide +kernel
theorem dX1_isCaught_15 : decode cX1_isCaught 15 = .ok (.iload_n 2, 1) := by decide +kernel
theorem dX1_isCaught_16 : decode cX1_isCaught 16 = .ok (.iaload, 1) := by decide +kernel
theorem dX1_isCaught_17 : decode cX1_isCaught 17 = .ok (.if_icmp .ge 7, 3) := by decide +kernel
theorem dX1_isCaught_20 : decode cX1_isCaught 20 = .ok (.iconst 1, 1) := by decide +kernel
theorem dX1_isCaught_21 : decode cX1_isCaught 21 = .ok (.goto 4, 3) := by decide +kernel
theorem dX1_isCaught_24 : decode cX1_isCaught 24 = .ok (.iconst 0, 1) := by decide +kernel
theorem dX1_isCaught_25 : decode cX1_isCaught 25 = .ok (.ireturn, 1) := by decide +kernel
