theorem dX4_init_0 : decode cX4_init 0 = .ok (.aload_n 0, 1) := by decide +kernel
theorem dX4_init_1 : decode cX4_init 1 = .ok (.invokespecial 3, 3) := by decide +kernel
theorem dX4_init_4 : decode cX4_init 4 = .ok (.aload_n 0, 1) := by decide +kernel
theorem dX4_init_5 : decode cX4_init 5 = .ok (.sipush 8000, 3) := by decide +kernel
theorem dX4_init_8 : decode cX4_init 8 = .ok (.newarray .int, 2) := by decide +kernel
theorem dX4_init_10 : decode cX4_init 10 = .ok (.putfield 9, 3) := by decide +kernel
theorem dX4_init_13 : decode cX4_init 13 = .ok (.aload_n 0, 1) := by decide +kernel
theorem dX4_init_14 : decode cX4_init 14 = .ok (.sipush 8000, 3) := by decide +kernel
theorem dX4_init_17 : decode cX4_init 17 = .ok (.newarray .int, 2) := by decide +kernel
theorem dX4_init_19 : decode cX4_init 19 = .ok (.putfield 15, 3) := by decide +kernel
theorem dX4_init_22 : decode cX4_init 22 = .ok (.aload_n 0, 1) := by decide +kernel
theorem dX4_init_23 : decode cX4_init 23 = .ok (.aload_n 1, 1) := by decide +kernel
theorem dX4_init_24 : decode cX4_init 24 = .ok (.putfield 18, 3) := by decide +kernel
theorem dX4_init_27 : decode cX4_init 27 = .ok (.aload_n 0, 1) := by decide +kernel
theorem dX4_init_28 : decode cX4_init 28 = .ok (.aload_n 2, 1) := by decide +kernel
theorem dX4_init_29 : decode cX4_init 29 = .ok (.putfield 22, 3) := by decide +kernel
theorem dX4_init_32 : decode cX4_init 32 = .ok (.aload_n 0, 1) := by decide +kernel
theorem dX4_init_33 : decode cX4_init 33 = .ok (.aload_n 2, 1) := by decide +kernel
theorem dX4_init_34 : decode cX4_init 34 = .ok (.getfield 26, 3) := by decide +kernel
theorem dX4_init_37 : decode cX4_init 37 = .ok (.putfield 32, 3) := by decide +kernel
theorem dX4_init_40 : decode cX4_init 40 = .ok (.aload_n 0, 1) := by decide +kernel
theorem dX4_init_41 : decode cX4_init 41 = .ok (.aload_n 2, 1) := by decide +kernel
theorem dX4_init_42 : decode cX4_init 42 = .ok (.getfield 33, 3) := by decide +kernel
theorem dX4_init_45 : decode cX4_init 45 = .ok (.putfield 37, 3) := by decide +kernel
theorem dX4_init_48 : decode cX4_init 48 = .ok (.return_, 1) := by decide +kernel
theorem dX4_begin_0 : decode cX4_begin 0 = .ok (.aload_n 0, 1) := by decide +kernel
theorem dX4_begin_1 : decode cX4_begin 1 = .ok (.aload_n 1, 1) := by decide +kernel
theorem dX4_begin_2 : decode cX4_begin 2 = .ok (.putfield 22, 3) := by decide +kernel
theorem dX4_begin_5 : decode cX4_begin 5 = .ok (.aload_n 0, 1) := by decide +kernel
theorem dX4_begin_6 : decode cX4_begin 6 = .ok (.aload_n 1, 1) := by decide +kernel
theorem dX4_begin_7 : decode cX4_begin 7 = .ok (.getfield 26, 3) := by decide +kernel
theorem dX4_begin_10 : decode cX4_begin 10 = .ok (.putfield 32, 3) := by decide +kernel
theorem dX4_begin_13 : decode cX4_begin 13 = .ok (.aload_n 0, 1) := by decide +kernel
theorem dX4_begin_14 : decode cX4_begin 14 = .ok (.aload_n 1, 1) := by decide +kernel
theorem dX4_begin_15 : decode cX4_begin 15 = .ok (.getfield 33, 3) := by decide +kernel
theorem dX4_begin_18 : decode cX4_begin 18 = .ok (.putfield 37, 3) := by decide +kernel
theorem dX4_begin_21 : decode cX4_begin 21 = .ok (.aload_n 1, 1) := by decide +kernel
theorem dX4_begin_22 : decode cX4_begin 22 = .ok (.invokevirtual 38, 3) := by decide +kernel
theorem dX4_begin_25 : decode cX4_begin 25 = .ok (.return_, 1) := by decide +kernel
theorem dX4_classFault_0 : decode cX4_classFault 0 = .ok (.iconst 0, 1) := by decide +kernel
theorem dX4_classFault_1 : decode cX4_classFault 1 = .ok (.istore_n 1, 1) := by decide +kernel
theorem dX4_classFault_2 : decode cX4_classFault 2 = .ok (.iload_n 1, 1) := by decide +kernel
theorem dX4_classFault_3 : decode cX4_classFault 3 = .ok (.aload_n 0, 1) := by decide +kernel
theorem dX4_classFault_4 : decode cX4_classFault 4 = .ok (.getfield 18, 3) := by decide +kernel
theorem dX4_classFault_7 : decode cX4_classFault 7 = .ok (.getfield 41, 3) := by decide +kernel
theorem dX4_classFault_10 : decode cX4_classFault 10 = .ok (.if_icmp .ge 78, 3) := by decide +kernel
theorem dX4_classFault_13 : decode cX4_classFault 13 = .ok (.aload_n 0, 1) := by decide +kernel
theorem dX4_classFault_14 : decode cX4_classFault 14 = .ok (.getfield 18, 3) := by decide +kernel
theorem dX4_classFault_17 : decode cX4_classFault 17 = .ok (.getfield 47, 3) := by decide +kernel
theorem dX4_classFault_20 : decode cX4_classFault 20 = .ok (.iload_n 1, 1) := by decide +kernel
theorem dX4_classFault_21 : decode cX4_classFault 21 = .ok (.baload, 1) := by decide +kernel
theorem dX4_classFault_22 : decode cX4_classFault 22 = .ok (.bipush 48, 2) := by decide +kernel
theorem dX4_classFault_24 : decode cX4_classFault 24 = .ok (.if_icmp .ne 58, 3) := by decide +kernel
theorem dX4_classFault_27 : decode cX4_classFault 27 = .ok (.aload_n 0, 1) := by decide +kernel
theorem dX4_classFault_28 : decode cX4_classFault 28 = .ok (.iload_n 1, 1) := by decide +kernel
theorem dX4_classFault_29 : decode cX4_classFault 29 = .ok (.iconst 1, 1) := by decide +kernel
theorem dX4_classFault_30 : decode cX4_classFault 30 = .ok (.iadd, 1) := by decide +kernel
theorem dX4_classFault_31 : decode cX4_classFault 31 = .ok (.invokevirtual 51, 3) := by decide +kernel
theorem dX4_classFault_34 : decode cX4_classFault 34 = .ok (.iconst (-1), 1) := by decide +kernel
theorem dX4_classFault_35 : decode cX4_classFault 35 = .ok (.if_icmp .ne 15, 3) := by decide +kernel
theorem dX4_classFault_38 : decode cX4_classFault 38 = .ok (.aload_n 0, 1) := by decide +kernel
theorem dX4_classFault_39 : decode cX4_classFault 39 = .ok (.getfield 32, 3) := by decide +kernel
theorem dX4_classFault_42 : decode cX4_classFault 42 = .ok (.getfield 55, 3) := by decide +kernel
theorem dX4_classFault_45 : decode cX4_classFault 45 = .ok (.bipush 32, 2) := by decide +kernel
theorem dX4_classFault_47 : decode cX4_classFault 47 = .ok (.if_icmp .ne 7, 3) := by decide +kernel
theorem dX4_classFault_50 : decode cX4_classFault 50 = .ok (.iload_n 1, 1) := by decide +kernel
theorem dX4_classFault_51 : decode cX4_classFault 51 = .ok (.iconst 1, 1) := by decide +kernel
theorem dX4_classFault_52 : decode cX4_classFault 52 = .ok (.iadd, 1) := by decide +kernel
theorem dX4_classFault_53 : decode cX4_classFault 53 = .ok (.ireturn, 1) := by decide +kernel
theorem dX4_classFault_54 : decode cX4_classFault 54 = .ok (.aload_n 0, 1) := by decide +kernel
theorem dX4_classFault_55 : decode cX4_classFault 55 = .ok (.iload_n 1, 1) := by decide +kernel
theorem dX4_classFault_56 : decode cX4_classFault 56 = .ok (.iconst 3, 1) := by decide +kernel
theorem dX4_classFault_57 : decode cX4_classFault 57 = .ok (.iadd, 1) := by decide +kernel
theorem dX4_classFault_58 : decode cX4_classFault 58 = .ok (.invokevirtual 51, 3) := by decide +kernel
theorem dX4_classFault_61 : decode cX4_classFault 61 = .ok (.istore_n 2, 1) := by decide +kernel
theorem dX4_classFault_62 : decode cX4_classFault 62 = .ok (.iload_n 2, 1) := by decide +kernel
theorem dX4_classFault_63 : decode cX4_classFault 63 = .ok (.iconst (-1), 1) := by decide +kernel
theorem dX4_classFault_64 : decode cX4_classFault 64 = .ok (.if_icmp .ne 7, 3) := by decide +kernel
theorem dX4_classFault_67 : decode cX4_classFault 67 = .ok (.iload_n 1, 1) := by decide +kernel
theorem dX4_classFault_68 : decode cX4_classFault 68 = .ok (.iconst 3, 1) := by decide +kernel
theorem dX4_classFault_69 : decode cX4_classFault 69 = .ok (.iadd, 1) := by decide +kernel
theorem dX4_classFault_70 : decode cX4_classFault 70 = .ok (.ireturn, 1) := by decide +kernel
theorem dX4_classFault_71 : decode cX4_classFault 71 = .ok (.aload_n 0, 1) := by decide +kernel
theorem dX4_classFault_72 : decode cX4_classFault 72 = .ok (.getfield 32, 3) := by decide +kernel
theorem dX4_classFault_75 : decode cX4_classFault 75 = .ok (.iload_n 1, 1) := by decide +kernel
theorem dX4_classFault_76 : decode cX4_classFault 76 = .ok (.iconst 1, 1) := by decide +kernel
theorem dX4_classFault_77 : decode cX4_classFault 77 = .ok (.iadd, 1) := by decide +kernel
theorem dX4_classFault_78 : decode cX4_classFault 78 = .ok (.iload_n 2, 1) := by decide +kernel
theorem dX4_classFault_79 : decode cX4_classFault 79 = .ok (.invokevirtual 60, 3) := by decide +kernel
theorem dX4_classFault_82 : decode cX4_classFault 82 = .ok (.iinc 1 1, 3) := by decide +kernel
theorem dX4_classFault_85 : decode cX4_classFault 85 = .ok (.goto (-83), 3) := by decide +kernel
theorem dX4_classFault_88 : decode cX4_classFault 88 = .ok (.iconst (-1), 1) := by decide +kernel
theorem dX4_classFault_89 : decode cX4_classFault 89 = .ok (.ireturn, 1) := by decide +kernel
theorem dX4_memberFault_0 : decode cX4_memberFault 0 = .ok (.bipush 7, 2) := by decide +kernel
theorem dX4_memberFault_2 : decode cX4_memberFault 2 = .ok (.istore_n 1, 1) := by decide +kernel
theorem dX4_memberFault_3 : decode cX4_memberFault 3 = .ok (.iconst 0, 1) := by decide +kernel
theorem dX4_memberFault_4 : decode cX4_memberFault 4 = .ok (.istore_n 2, 1) := by decide +kernel
theorem dX4_memberFault_5 : decode cX4_memberFault 5 = .ok (.iload_n 2, 1) := by decide +kernel
theorem dX4_memberFault_6 : decode cX4_memberFault 6 = .ok (.aload_n 0, 1) := by decide +kernel
theorem dX4_memberFault_7 : decode cX4_memberFault 7 = .ok (.getfield 18, 3) := by decide +kernel
theorem dX4_memberFault_10 : decode cX4_memberFault 10 = .ok (.getfield 41, 3) := by decide +kernel
theorem dX4_memberFault_13 : decode cX4_memberFault 13 = .ok (.if_icmp .ge 90, 3) := by decide +kernel
theorem dX4_memberFault_16 : decode cX4_memberFault 16 = .ok (.iconst (-1), 1) := by decide +kernel
theorem dX4_memberFault_17 : decode cX4_memberFault 17 = .ok (.istore_n 3, 1) := by decide +kernel
theorem dX4_memberFault_18 : decode cX4_memberFault 18 = .ok (.aload_n 0, 1) := by decide +kernel
theorem dX4_memberFault_19 : decode cX4_memberFault 19 = .ok (.getfield 18, 3) := by decide +kernel
theorem dX4_memberFault_22 : decode cX4_memberFault 22 = .ok (.getfield 47, 3) := by decide +kernel
theorem dX4_memberFault_25 : decode cX4_memberFault 25 = .ok (.iload_n 2, 1) := by decide +kernel
theorem dX4_memberFault_26 : decode cX4_memberFault 26 = .ok (.baload, 1) := by decide +kernel
theorem dX4_memberFault_27 : decode cX4_memberFault 27 = .ok (.tableswitch 63 48 51 #[29, 43, 53, 53], 29) := by decide +kernel
theorem dX4_memberFault_56 : decode cX4_memberFault 56 = .ok (.iinc 1 1, 3) := by decide +kernel
theorem dX4_memberFault_59 : decode cX4_memberFault 59 = .ok (.aload_n 0, 1) := by decide +kernel
theorem dX4_memberFault_60 : decode cX4_memberFault 60 = .ok (.getfield 22, 3) := by decide +kernel
theorem dX4_memberFault_63 : decode cX4_memberFault 63 = .ok (.iload_n 1, 1) := by decide +kernel
theorem dX4_memberFault_64 : decode cX4_memberFault 64 = .ok (.invokevirtual 64, 3) := by decide +kernel
theorem dX4_memberFault_67 : decode cX4_memberFault 67 = .ok (.goto 23, 3) := by decide +kernel
theorem dX4_memberFault_70 : decode cX4_memberFault 70 = .ok (.aload_n 0, 1) := by decide +kernel
theorem dX4_memberFault_71 : decode cX4_memberFault 71 = .ok (.iload_n 2, 1) := by decide +kernel
theorem dX4_memberFault_72 : decode cX4_memberFault 72 = .ok (.iload_n 1, 1) := by decide +kernel
theorem dX4_memberFault_73 : decode cX4_memberFault 73 = .ok (.invokevirtual 68, 3) := by decide +kernel
theorem dX4_memberFault_76 : decode cX4_memberFault 76 = .ok (.istore_n 3, 1) := by decide +kernel
theorem dX4_memberFault_77 : decode cX4_memberFault 77 = .ok (.goto 13, 3) := by decide +kernel
theorem dX4_memberFault_80 : decode cX4_memberFault 80 = .ok (.aload_n 0, 1) := by decide +kernel
theorem dX4_memberFault_81 : decode cX4_memberFault 81 = .ok (.iload_n 2, 1) := by decide +kernel
theorem dX4_memberFault_82 : decode cX4_memberFault 82 = .ok (.iload_n 1, 1) := by decide +kernel
theorem dX4_memberFault_83 : decode cX4_memberFault 83 = .ok (.invokevirtual 72, 3) := by decide +kernel
theorem dX4_memberFault_86 : decode cX4_memberFault 86 = .ok (.istore_n 3, 1) := by decide +kernel
theorem dX4_memberFault_87 : decode cX4_memberFault 87 = .ok (.goto 3, 3) := by decide +kernel
theorem dX4_memberFault_90 : decode cX4_memberFault 90 = .ok (.iload_n 3, 1) := by decide +kernel
theorem dX4_memberFault_91 : decode cX4_memberFault 91 = .ok (.iconst (-1), 1) := by decide +kernel
theorem dX4_memberFault_92 : decode cX4_memberFault 92 = .ok (.if_icmp .eq 5, 3) := by decide +kernel
theorem dX4_memberFault_95 : decode cX4_memberFault 95 = .ok (.iload_n 3, 1) := by decide +kernel
theorem dX4_memberFault_96 : decode cX4_memberFault 96 = .ok (.ireturn, 1) := by decide +kernel
theorem dX4_memberFault_97 : decode cX4_memberFault 97 = .ok (.iinc 2 1, 3) := by decide +kernel
theorem dX4_memberFault_100 : decode cX4_memberFault 100 = .ok (.goto (-95), 3) := by decide +kernel
theorem dX4_memberFault_103 : decode cX4_memberFault 103 = .ok (.iconst (-1), 1) := by decide +kernel
theorem dX4_memberFault_104 : decode cX4_memberFault 104 = .ok (.ireturn, 1) := by decide +kernel
theorem dX4_fieldFault_0 : decode cX4_fieldFault 0 = .ok (.aload_n 0, 1) := by decide +kernel
theorem dX4_fieldFault_1 : decode cX4_fieldFault 1 = .ok (.iload_n 2, 1) := by decide +kernel
theorem dX4_fieldFault_2 : decode cX4_fieldFault 2 = .ok (.aload_n 0, 1) := by decide +kernel
theorem dX4_fieldFault_3 : decode cX4_fieldFault 3 = .ok (.getfield 18, 3) := by decide +kernel
theorem dX4_fieldFault_6 : decode cX4_fieldFault 6 = .ok (.iload_n 1, 1) := by decide +kernel
theorem dX4_fieldFault_7 : decode cX4_fieldFault 7 = .ok (.iconst 1, 1) := by decide +kernel
theorem dX4_fieldFault_8 : decode cX4_fieldFault 8 = .ok (.iadd, 1) := by decide +kernel
theorem dX4_fieldFault_9 : decode cX4_fieldFault 9 = .ok (.invokevirtual 75, 3) := by decide +kernel
theorem dX4_fieldFault_12 : decode cX4_fieldFault 12 = .ok (.aload_n 0, 1) := by decide +kernel
theorem dX4_fieldFault_13 : decode cX4_fieldFault 13 = .ok (.getfield 18, 3) := by decide +kernel
theorem dX4_fieldFault_16 : decode cX4_fieldFault 16 = .ok (.iload_n 1, 1) := by decide +kernel
theorem dX4_fieldFault_17 : decode cX4_fieldFault 17 = .ok (.iconst 1, 1) := by decide +kernel
theorem dX4_fieldFault_18 : decode cX4_fieldFault 18 = .ok (.iadd, 1) := by decide +kernel
theorem dX4_fieldFault_19 : decode cX4_fieldFault 19 = .ok (.invokevirtual 78, 3) := by decide +kernel
theorem dX4_fieldFault_22 : decode cX4_fieldFault 22 = .ok (.invokevirtual 81, 3) := by decide +kernel
theorem dX4_fieldFault_25 : decode cX4_fieldFault 25 = .ok (.istore_n 3, 1) := by decide +kernel
theorem dX4_fieldFault_26 : decode cX4_fieldFault 26 = .ok (.iload_n 3, 1) := by decide +kernel
theorem dX4_fieldFault_27 : decode cX4_fieldFault 27 = .ok (.iconst (-1), 1) := by decide +kernel
theorem dX4_fieldFault_28 : decode cX4_fieldFault 28 = .ok (.if_icmp .ne 15, 3) := by decide +kernel
theorem dX4_fieldFault_31 : decode cX4_fieldFault 31 = .ok (.aload_n 0, 1) := by decide +kernel
theorem dX4_fieldFault_32 : decode cX4_fieldFault 32 = .ok (.getfield 32, 3) := by decide +kernel
theorem dX4_fieldFault_35 : decode cX4_fieldFault 35 = .ok (.getfield 85, 3) := by decide +kernel
theorem dX4_fieldFault_38 : decode cX4_fieldFault 38 = .ok (.bipush 48, 2) := by decide +kernel
theorem dX4_fieldFault_40 : decode cX4_fieldFault 40 = .ok (.if_icmp .ne 7, 3) := by decide +kernel
theorem dX4_fieldFault_43 : decode cX4_fieldFault 43 = .ok (.iload_n 1, 1) := by decide +kernel
theorem dX4_fieldFault_44 : decode cX4_fieldFault 44 = .ok (.iconst 1, 1) := by decide +kernel
theorem dX4_fieldFault_45 : decode cX4_fieldFault 45 = .ok (.iadd, 1) := by decide +kernel
theorem dX4_fieldFault_46 : decode cX4_fieldFault 46 = .ok (.ireturn, 1) := by decide +kernel
theorem dX4_fieldFault_47 : decode cX4_fieldFault 47 = .ok (.aload_n 0, 1) := by decide +kernel
theorem dX4_fieldFault_48 : decode cX4_fieldFault 48 = .ok (.iload_n 1, 1) := by decide +kernel
theorem dX4_fieldFault_49 : decode cX4_fieldFault 49 = .ok (.iconst 2, 1) := by decide +kernel
theorem dX4_fieldFault_50 : decode cX4_fieldFault 50 = .ok (.iadd, 1) := by decide +kernel
theorem dX4_fieldFault_51 : decode cX4_fieldFault 51 = .ok (.invokevirtual 88, 3) := by decide +kernel
theorem dX4_fieldFault_54 : decode cX4_fieldFault 54 = .ok (.istore 4, 2) := by decide +kernel
theorem dX4_fieldFault_56 : decode cX4_fieldFault 56 = .ok (.iload 4, 2) := by decide +kernel
theorem dX4_fieldFault_58 : decode cX4_fieldFault 58 = .ok (.iconst (-1), 1) := by decide +kernel
theorem dX4_fieldFault_59 : decode cX4_fieldFault 59 = .ok (.if_icmp .ne 7, 3) := by decide +kernel
theorem dX4_fieldFault_62 : decode cX4_fieldFault 62 = .ok (.iload_n 1, 1) := by decide +kernel
theorem dX4_fieldFault_63 : decode cX4_fieldFault 63 = .ok (.iconst 2, 1) := by decide +kernel
theorem dX4_fieldFault_64 : decode cX4_fieldFault 64 = .ok (.iadd, 1) := by decide +kernel
theorem dX4_fieldFault_65 : decode cX4_fieldFault 65 = .ok (.ireturn, 1) := by decide +kernel
theorem dX4_fieldFault_66 : decode cX4_fieldFault 66 = .ok (.aload_n 0, 1) := by decide +kernel
theorem dX4_fieldFault_67 : decode cX4_fieldFault 67 = .ok (.getfield 32, 3) := by decide +kernel
theorem dX4_fieldFault_70 : decode cX4_fieldFault 70 = .ok (.iload_n 2, 1) := by decide +kernel
theorem dX4_fieldFault_71 : decode cX4_fieldFault 71 = .ok (.iload_n 1, 1) := by decide +kernel
theorem dX4_fieldFault_72 : decode cX4_fieldFault 72 = .ok (.iconst 1, 1) := by decide +kernel
theorem dX4_fieldFault_73 : decode cX4_fieldFault 73 = .ok (.iadd, 1) := by decide +kernel
theorem dX4_fieldFault_74 : decode cX4_fieldFault 74 = .ok (.iload 4, 2) := by decide +kernel
theorem dX4_fieldFault_76 : decode cX4_fieldFault 76 = .ok (.invokevirtual 91, 3) := by decide +kernel
theorem dX4_fieldFault_79 : decode cX4_fieldFault 79 = .ok (.iconst (-1), 1) := by decide +kernel
theorem dX4_fieldFault_80 : decode cX4_fieldFault 80 = .ok (.ireturn, 1) := by decide +kernel
theorem dX4_headFault_0 : decode cX4_headFault 0 = .ok (.aload_n 0, 1) := by decide +kernel
theorem dX4_headFault_1 : decode cX4_headFault 1 = .ok (.iload_n 2, 1) := by decide +kernel
theorem dX4_headFault_2 : decode cX4_headFault 2 = .ok (.aload_n 0, 1) := by decide +kernel
theorem dX4_headFault_3 : decode cX4_headFault 3 = .ok (.getfield 18, 3) := by decide +kernel
theorem dX4_headFault_6 : decode cX4_headFault 6 = .ok (.iload_n 1, 1) := by decide +kernel
theorem dX4_headFault_7 : decode cX4_headFault 7 = .ok (.iconst 1, 1) := by decide +kernel
theorem dX4_headFault_8 : decode cX4_headFault 8 = .ok (.iadd, 1) := by decide +kernel
theorem dX4_headFault_9 : decode cX4_headFault 9 = .ok (.invokevirtual 75, 3) := by decide +kernel
theorem dX4_headFault_12 : decode cX4_headFault 12 = .ok (.aload_n 0, 1) := by decide +kernel
theorem dX4_headFault_13 : decode cX4_headFault 13 = .ok (.getfield 18, 3) := by decide +kernel
theorem dX4_headFault_16 : decode cX4_headFault 16 = .ok (.iload_n 1, 1) := by decide +kernel
theorem dX4_headFault_17 : decode cX4_headFault 17 = .ok (.iconst 1, 1) := by decide +kernel
theorem dX4_headFault_18 : decode cX4_headFault 18 = .ok (.iadd, 1) := by decide +kernel
theorem dX4_headFault_19 : decode cX4_headFault 19 = .ok (.invokevirtual 78, 3) := by decide +kernel
theorem dX4_headFault_22 : decode cX4_headFault 22 = .ok (.invokevirtual 95, 3) := by decide +kernel
theorem dX4_headFault_25 : decode cX4_headFault 25 = .ok (.istore_n 3, 1) := by decide +kernel
theorem dX4_headFault_26 : decode cX4_headFault 26 = .ok (.aload_n 0, 1) := by decide +kernel
theorem dX4_headFault_27 : decode cX4_headFault 27 = .ok (.getfield 22, 3) := by decide +kernel
theorem dX4_headFault_30 : decode cX4_headFault 30 = .ok (.getfield 98, 3) := by decide +kernel
theorem dX4_headFault_33 : decode cX4_headFault 33 = .ok (.bipush 48, 2) := by decide +kernel
theorem dX4_headFault_35 : decode cX4_headFault 35 = .ok (.if_icmp .eq 18, 3) := by decide +kernel
theorem dX4_headFault_38 : decode cX4_headFault 38 = .ok (.iload_n 3, 1) := by decide +kernel
theorem dX4_headFault_39 : decode cX4_headFault 39 = .ok (.iconst (-1), 1) := by decide +kernel
theorem dX4_headFault_40 : decode cX4_headFault 40 = .ok (.if_icmp .eq 17, 3) := by decide +kernel
theorem dX4_headFault_43 : decode cX4_headFault 43 = .ok (.aload_n 0, 1) := by decide +kernel
theorem dX4_headFault_44 : decode cX4_headFault 44 = .ok (.iload_n 1, 1) := by decide +kernel
theorem dX4_headFault_45 : decode cX4_headFault 45 = .ok (.iload_n 2, 1) := by decide +kernel
theorem dX4_headFault_46 : decode cX4_headFault 46 = .ok (.iload_n 3, 1) := by decide +kernel
theorem dX4_headFault_47 : decode cX4_headFault 47 = .ok (.invokevirtual 101, 3) := by decide +kernel
theorem dX4_headFault_50 : decode cX4_headFault 50 = .ok (.ifCond .ne 7, 3) := by decide +kernel
theorem dX4_headFault_53 : decode cX4_headFault 53 = .ok (.iload_n 1, 1) := by decide +kernel
theorem dX4_headFault_54 : decode cX4_headFault 54 = .ok (.iconst 1, 1) := by decide +kernel
theorem dX4_headFault_55 : decode cX4_headFault 55 = .ok (.iadd, 1) := by decide +kernel
theorem dX4_headFault_56 : decode cX4_headFault 56 = .ok (.ireturn, 1) := by decide +kernel
theorem dX4_headFault_57 : decode cX4_headFault 57 = .ok (.aload_n 0, 1) := by decide +kernel
theorem dX4_headFault_58 : decode cX4_headFault 58 = .ok (.getfield 22, 3) := by decide +kernel
theorem dX4_headFault_61 : decode cX4_headFault 61 = .ok (.getfield 98, 3) := by decide +kernel
theorem dX4_headFault_64 : decode cX4_headFault 64 = .ok (.istore 4, 2) := by decide +kernel
theorem dX4_headFault_66 : decode cX4_headFault 66 = .ok (.aload_n 0, 1) := by decide +kernel
theorem dX4_headFault_67 : decode cX4_headFault 67 = .ok (.getfield 22, 3) := by decide +kernel
theorem dX4_headFault_70 : decode cX4_headFault 70 = .ok (.iload_n 2, 1) := by decide +kernel
theorem dX4_headFault_71 : decode cX4_headFault 71 = .ok (.iload_n 1, 1) := by decide +kernel
theorem dX4_headFault_72 : decode cX4_headFault 72 = .ok (.iconst 1, 1) := by decide +kernel
theorem dX4_headFault_73 : decode cX4_headFault 73 = .ok (.iadd, 1) := by decide +kernel
theorem dX4_headFault_74 : decode cX4_headFault 74 = .ok (.aload_n 0, 1) := by decide +kernel
theorem dX4_headFault_75 : decode cX4_headFault 75 = .ok (.getfield 18, 3) := by decide +kernel
theorem dX4_headFault_78 : decode cX4_headFault 78 = .ok (.getfield 47, 3) := by decide +kernel
theorem dX4_headFault_81 : decode cX4_headFault 81 = .ok (.iload_n 1, 1) := by decide +kernel
theorem dX4_headFault_82 : decode cX4_headFault 82 = .ok (.baload, 1) := by decide +kernel
theorem dX4_headFault_83 : decode cX4_headFault 83 = .ok (.bipush 51, 2) := by decide +kernel
theorem dX4_headFault_85 : decode cX4_headFault 85 = .ok (.if_icmp .ne 7, 3) := by decide +kernel
theorem dX4_headFault_88 : decode cX4_headFault 88 = .ok (.iconst 1, 1) := by decide +kernel
theorem dX4_headFault_89 : decode cX4_headFault 89 = .ok (.goto 4, 3) := by decide +kernel
theorem dX4_headFault_92 : decode cX4_headFault 92 = .ok (.iconst 0, 1) := by decide +kernel
theorem dX4_headFault_93 : decode cX4_headFault 93 = .ok (.iload_n 3, 1) := by decide +kernel
theorem dX4_headFault_94 : decode cX4_headFault 94 = .ok (.invokevirtual 105, 3) := by decide +kernel
theorem dX4_headFault_97 : decode cX4_headFault 97 = .ok (.iload_n 1, 1) := by decide +kernel
theorem dX4_headFault_98 : decode cX4_headFault 98 = .ok (.iconst 3, 1) := by decide +kernel
theorem dX4_headFault_99 : decode cX4_headFault 99 = .ok (.iadd, 1) := by decide +kernel
theorem dX4_headFault_100 : decode cX4_headFault 100 = .ok (.istore 5, 2) := by decide +kernel
theorem dX4_headFault_102 : decode cX4_headFault 102 = .ok (.iload 5, 2) := by decide +kernel
theorem dX4_headFault_104 : decode cX4_headFault 104 = .ok (.aload_n 0, 1) := by decide +kernel
theorem dX4_headFault_105 : decode cX4_headFault 105 = .ok (.getfield 18, 3) := by decide +kernel
theorem dX4_headFault_108 : decode cX4_headFault 108 = .ok (.getfield 41, 3) := by decide +kernel
theorem dX4_headFault_111 : decode cX4_headFault 111 = .ok (.if_icmp .ge 51, 3) := by decide +kernel
theorem dX4_headFault_114 : decode cX4_headFault 114 = .ok (.aload_n 0, 1) := by decide +kernel
theorem dX4_headFault_115 : decode cX4_headFault 115 = .ok (.getfield 18, 3) := by decide +kernel
theorem dX4_headFault_118 : decode cX4_headFault 118 = .ok (.iload 5, 2) := by decide +kernel
theorem dX4_headFault_120 : decode cX4_headFault 120 = .ok (.bipush 41, 2) := by decide +kernel
theorem dX4_headFault_122 : decode cX4_headFault 122 = .ok (.invokevirtual 109, 3) := by decide +kernel
theorem dX4_headFault_125 : decode cX4_headFault 125 = .ok (.ifCond .ne 37, 3) := by decide +kernel
theorem dX4_headFault_128 : decode cX4_headFault 128 = .ok (.aload_n 0, 1) := by decide +kernel
theorem dX4_headFault_129 : decode cX4_headFault 129 = .ok (.iload 5, 2) := by decide +kernel
theorem dX4_headFault_131 : decode cX4_headFault 131 = .ok (.invokevirtual 88, 3) := by decide +kernel
theorem dX4_headFault_134 : decode cX4_headFault 134 = .ok (.istore 6, 2) := by decide +kernel
theorem dX4_headFault_136 : decode cX4_headFault 136 = .ok (.iload 6, 2) := by decide +kernel
theorem dX4_headFault_138 : decode cX4_headFault 138 = .ok (.iconst (-1), 1) := by decide +kernel
theorem dX4_headFault_139 : decode cX4_headFault 139 = .ok (.if_icmp .ne 6, 3) := by decide +kernel
theorem dX4_headFault_142 : decode cX4_headFault 142 = .ok (.iload 5, 2) := by decide +kernel
theorem dX4_headFault_144 : decode cX4_headFault 144 = .ok (.ireturn, 1) := by decide +kernel
theorem dX4_headFault_145 : decode cX4_headFault 145 = .ok (.aload_n 0, 1) := by decide +kernel
theorem dX4_headFault_146 : decode cX4_headFault 146 = .ok (.getfield 22, 3) := by decide +kernel
theorem dX4_headFault_149 : decode cX4_headFault 149 = .ok (.iload 4, 2) := by decide +kernel
theorem dX4_headFault_151 : decode cX4_headFault 151 = .ok (.iload 6, 2) := by decide +kernel
theorem dX4_headFault_153 : decode cX4_headFault 153 = .ok (.invokevirtual 113, 3) := by decide +kernel
theorem dX4_headFault_156 : decode cX4_headFault 156 = .ok (.iinc 5 1, 3) := by decide +kernel
theorem dX4_headFault_159 : decode cX4_headFault 159 = .ok (.goto (-57), 3) := by decide +kernel
theorem dX4_headFault_162 : decode cX4_headFault 162 = .ok (.aload_n 0, 1) := by decide +kernel
theorem dX4_headFault_163 : decode cX4_headFault 163 = .ok (.getfield 18, 3) := by decide +kernel
theorem dX4_headFault_166 : decode cX4_headFault 166 = .ok (.iload 5, 2) := by decide +kernel
theorem dX4_headFault_168 : decode cX4_headFault 168 = .ok (.iconst 1, 1) := by decide +kernel
theorem dX4_headFault_169 : decode cX4_headFault 169 = .ok (.iadd, 1) := by decide +kernel
theorem dX4_headFault_170 : decode cX4_headFault 170 = .ok (.ldc 116, 2) := by decide +kernel
theorem dX4_headFault_172 : decode cX4_headFault 172 = .ok (.invokevirtual 118, 3) := by decide +kernel
theorem dX4_headFault_175 : decode cX4_headFault 175 = .ok (.ifCond .eq 8, 3) := by decide +kernel
theorem dX4_headFault_178 : decode cX4_headFault 178 = .ok (.bipush 68, 2) := by decide +kernel
theorem dX4_headFault_180 : decode cX4_headFault 180 = .ok (.goto 11, 3) := by decide +kernel
theorem dX4_headFault_183 : decode cX4_headFault 183 = .ok (.aload_n 0, 1) := by decide +kernel
theorem dX4_headFault_184 : decode cX4_headFault 184 = .ok (.iload 5, 2) := by decide +kernel
theorem dX4_headFault_186 : decode cX4_headFault 186 = .ok (.iconst 1, 1) := by decide +kernel
theorem dX4_headFault_187 : decode cX4_headFault 187 = .ok (.iadd, 1) := by decide +kernel
theorem dX4_headFault_188 : decode cX4_headFault 188 = .ok (.invokevirtual 88, 3) := by decide +kernel
theorem dX4_headFault_191 : decode cX4_headFault 191 = .ok (.istore 6, 2) := by decide +kernel
theorem dX4_headFault_193 : decode cX4_headFault 193 = .ok (.iload 6, 2) := by decide +kernel
theorem dX4_headFault_195 : decode cX4_headFault 195 = .ok (.iconst (-1), 1) := by decide +kernel
theorem dX4_headFault_196 : decode cX4_headFault 196 = .ok (.if_icmp .ne 8, 3) := by decide +kernel
theorem dX4_headFault_199 : decode cX4_headFault 199 = .ok (.iload 5, 2) := by decide +kernel
theorem dX4_headFault_201 : decode cX4_headFault 201 = .ok (.iconst 1, 1) := by decide +kernel
theorem dX4_headFault_202 : decode cX4_headFault 202 = .ok (.iadd, 1) := by decide +kernel
theorem dX4_headFault_203 : decode cX4_headFault 203 = .ok (.ireturn, 1) := by decide +kernel
theorem dX4_headFault_204 : decode cX4_headFault 204 = .ok (.aload_n 0, 1) := by decide +kernel
theorem dX4_headFault_205 : decode cX4_headFault 205 = .ok (.getfield 18, 3) := by decide +kernel
theorem dX4_headFault_208 : decode cX4_headFault 208 = .ok (.iload 5, 2) := by decide +kernel
theorem dX4_headFault_210 : decode cX4_headFault 210 = .ok (.iconst 2, 1) := by decide +kernel
theorem dX4_headFault_211 : decode cX4_headFault 211 = .ok (.iadd, 1) := by decide +kernel
theorem dX4_headFault_212 : decode cX4_headFault 212 = .ok (.invokevirtual 122, 3) := by decide +kernel
theorem dX4_headFault_215 : decode cX4_headFault 215 = .ok (.istore 7, 2) := by decide +kernel
theorem dX4_headFault_217 : decode cX4_headFault 217 = .ok (.iload 7, 2) := by decide +kernel
theorem dX4_headFault_219 : decode cX4_headFault 219 = .ok (.aload_n 0, 1) := by decide +kernel
theorem dX4_headFault_220 : decode cX4_headFault 220 = .ok (.getfield 22, 3) := by decide +kernel
theorem dX4_headFault_223 : decode cX4_headFault 223 = .ok (.getfield 125, 3) := by decide +kernel
theorem dX4_headFault_226 : decode cX4_headFault 226 = .ok (.iload 4, 2) := by decide +kernel
theorem dX4_headFault_228 : decode cX4_headFault 228 = .ok (.iaload, 1) := by decide +kernel
theorem dX4_headFault_229 : decode cX4_headFault 229 = .ok (.if_icmp .lt 10, 3) := by decide +kernel
theorem dX4_headFault_232 : decode cX4_headFault 232 = .ok (.iload 7, 2) := by decide +kernel
theorem dX4_headFault_234 : decode cX4_headFault 234 = .ok (.bipush 12, 2) := by decide +kernel
theorem dX4_headFault_236 : decode cX4_headFault 236 = .ok (.if_icmp .le 8, 3) := by decide +kernel
theorem dX4_headFault_239 : decode cX4_headFault 239 = .ok (.iload 5, 2) := by decide +kernel
theorem dX4_headFault_241 : decode cX4_headFault 241 = .ok (.iconst 2, 1) := by decide +kernel
theorem dX4_headFault_242 : decode cX4_headFault 242 = .ok (.iadd, 1) := by decide +kernel
theorem dX4_headFault_243 : decode cX4_headFault 243 = .ok (.ireturn, 1) := by decide +kernel
theorem dX4_headFault_244 : decode cX4_headFault 244 = .ok (.aload_n 0, 1) := by decide +kernel
theorem dX4_headFault_245 : decode cX4_headFault 245 = .ok (.getfield 22, 3) := by decide +kernel
theorem dX4_headFault_248 : decode cX4_headFault 248 = .ok (.getfield 128, 3) := by decide +kernel
theorem dX4_headFault_251 : decode cX4_headFault 251 = .ok (.iload 4, 2) := by decide +kernel
theorem dX4_headFault_253 : decode cX4_headFault 253 = .ok (.iload 6, 2) := by decide +kernel
theorem dX4_headFault_255 : decode cX4_headFault 255 = .ok (.iastore, 1) := by decide +kernel
theorem dX4_headFault_256 : decode cX4_headFault 256 = .ok (.aload_n 0, 1) := by decide +kernel
theorem dX4_headFault_257 : decode cX4_headFault 257 = .ok (.getfield 22, 3) := by decide +kernel
theorem dX4_headFault_260 : decode cX4_headFault 260 = .ok (.getfield 131, 3) := by decide +kernel
theorem dX4_headFault_263 : decode cX4_headFault 263 = .ok (.iload 4, 2) := by decide +kernel
theorem dX4_headFault_265 : decode cX4_headFault 265 = .ok (.iload 7, 2) := by decide +kernel
theorem dX4_headFault_267 : decode cX4_headFault 267 = .ok (.iastore, 1) := by decide +kernel
theorem dX4_headFault_268 : decode cX4_headFault 268 = .ok (.iconst (-1), 1) := by decide +kernel
theorem dX4_headFault_269 : decode cX4_headFault 269 = .ok (.ireturn, 1) := by decide +kernel
theorem dX4_mayReplace_0 : decode cX4_mayReplace 0 = .ok (.aload_n 0, 1) := by decide +kernel
theorem dX4_mayReplace_1 : decode cX4_mayReplace 1 = .ok (.getfield 18, 3) := by decide +kernel
theorem dX4_mayReplace_4 : decode cX4_mayReplace 4 = .ok (.getfield 47, 3) := by decide +kernel
theorem dX4_mayReplace_7 : decode cX4_mayReplace 7 = .ok (.iload_n 1, 1) := by decide +kernel
theorem dX4_mayReplace_8 : decode cX4_mayReplace 8 = .ok (.baload, 1) := by decide +kernel
theorem dX4_mayReplace_9 : decode cX4_mayReplace 9 = .ok (.bipush 51, 2) := by decide +kernel
theorem dX4_mayReplace_11 : decode cX4_mayReplace 11 = .ok (.if_icmp .ne 51, 3) := by decide +kernel
theorem dX4_mayReplace_14 : decode cX4_mayReplace 14 = .ok (.aload_n 0, 1) := by decide +kernel
theorem dX4_mayReplace_15 : decode cX4_mayReplace 15 = .ok (.getfield 22, 3) := by decide +kernel
theorem dX4_mayReplace_18 : decode cX4_mayReplace 18 = .ok (.getfield 134, 3) := by decide +kernel
theorem dX4_mayReplace_21 : decode cX4_mayReplace 21 = .ok (.iload_n 3, 1) := by decide +kernel
theorem dX4_mayReplace_22 : decode cX4_mayReplace 22 = .ok (.baload, 1) := by decide +kernel
theorem dX4_mayReplace_23 : decode cX4_mayReplace 23 = .ok (.ifCond .eq 39, 3) := by decide +kernel
theorem dX4_mayReplace_26 : decode cX4_mayReplace 26 = .ok (.aload_n 0, 1) := by decide +kernel
theorem dX4_mayReplace_27 : decode cX4_mayReplace 27 = .ok (.getfield 22, 3) := by decide +kernel
theorem dX4_mayReplace_30 : decode cX4_mayReplace 30 = .ok (.getfield 138, 3) := by decide +kernel
theorem dX4_mayReplace_33 : decode cX4_mayReplace 33 = .ok (.iload_n 3, 1) := by decide +kernel
theorem dX4_mayReplace_34 : decode cX4_mayReplace 34 = .ok (.iaload, 1) := by decide +kernel
theorem dX4_mayReplace_35 : decode cX4_mayReplace 35 = .ok (.iload_n 2, 1) := by decide +kernel
theorem dX4_mayReplace_36 : decode cX4_mayReplace 36 = .ok (.if_icmp .eq 26, 3) := by decide +kernel
theorem dX4_mayReplace_39 : decode cX4_mayReplace 39 = .ok (.aload_n 0, 1) := by decide +kernel
theorem dX4_mayReplace_40 : decode cX4_mayReplace 40 = .ok (.iload_n 1, 1) := by decide +kernel
theorem dX4_mayReplace_41 : decode cX4_mayReplace 41 = .ok (.iconst 1, 1) := by decide +kernel
theorem dX4_mayReplace_42 : decode cX4_mayReplace 42 = .ok (.iadd, 1) := by decide +kernel
theorem dX4_mayReplace_43 : decode cX4_mayReplace 43 = .ok (.aload_n 0, 1) := by decide +kernel
theorem dX4_mayReplace_44 : decode cX4_mayReplace 44 = .ok (.getfield 22, 3) := by decide +kernel
theorem dX4_mayReplace_47 : decode cX4_mayReplace 47 = .ok (.getfield 141, 3) := by decide +kernel
theorem dX4_mayReplace_50 : decode cX4_mayReplace 50 = .ok (.iload_n 3, 1) := by decide +kernel
theorem dX4_mayReplace_51 : decode cX4_mayReplace 51 = .ok (.iaload, 1) := by decide +kernel
theorem dX4_mayReplace_52 : decode cX4_mayReplace 52 = .ok (.invokevirtual 144, 3) := by decide +kernel
theorem dX4_mayReplace_55 : decode cX4_mayReplace 55 = .ok (.ifCond .eq 7, 3) := by decide +kernel
theorem dX4_mayReplace_58 : decode cX4_mayReplace 58 = .ok (.iconst 1, 1) := by decide +kernel
theorem dX4_mayReplace_59 : decode cX4_mayReplace 59 = .ok (.goto 4, 3) := by decide +kernel
theorem dX4_mayReplace_62 : decode cX4_mayReplace 62 = .ok (.iconst 0, 1) := by decide +kernel
theorem dX4_mayReplace_63 : decode cX4_mayReplace 63 = .ok (.ireturn, 1) := by decide +kernel
theorem dX4_hasSameHead_0 : decode cX4_hasSameHead 0 = .ok (.iload_n 2, 1) := by decide +kernel
theorem dX4_hasSameHead_1 : decode cX4_hasSameHead 1 = .ok (.iload_n 1, 1) := by decide +kernel
theorem dX4_hasSameHead_2 : decode cX4_hasSameHead 2 = .ok (.isub, 1) := by decide +kernel
theorem dX4_hasSameHead_3 : decode cX4_hasSameHead 3 = .ok (.istore_n 3, 1) := by decide +kernel
theorem dX4_hasSameHead_4 : decode cX4_hasSameHead 4 = .ok (.iload_n 1, 1) := by decide +kernel
theorem dX4_hasSameHead_5 : decode cX4_hasSameHead 5 = .ok (.iconst 1, 1) := by decide +kernel
theorem dX4_hasSameHead_6 : decode cX4_hasSameHead 6 = .ok (.iadd, 1) := by decide +kernel
theorem dX4_hasSameHead_7 : decode cX4_hasSameHead 7 = .ok (.istore 4, 2) := by decide +kernel
theorem dX4_hasSameHead_9 : decode cX4_hasSameHead 9 = .ok (.iload 4, 2) := by decide +kernel
theorem dX4_hasSameHead_11 : decode cX4_hasSameHead 11 = .ok (.aload_n 0, 1) := by decide +kernel
theorem dX4_hasSameHead_12 : decode cX4_hasSameHead 12 = .ok (.getfield 18, 3) := by decide +kernel
theorem dX4_hasSameHead_15 : decode cX4_hasSameHead 15 = .ok (.getfield 41, 3) := by decide +kernel
theorem dX4_hasSameHead_18 : decode cX4_hasSameHead 18 = .ok (.if_icmp .ge 97, 3) := by decide +kernel
theorem dX4_hasSameHead_21 : decode cX4_hasSameHead 21 = .ok (.aload_n 0, 1) := by decide +kernel
theorem dX4_hasSameHead_22 : decode cX4_hasSameHead 22 = .ok (.getfield 18, 3) := by decide +kernel
theorem dX4_hasSameHead_25 : decode cX4_hasSameHead 25 = .ok (.iload 4, 2) := by decide +kernel
theorem dX4_hasSameHead_27 : decode cX4_hasSameHead 27 = .ok (.aload_n 0, 1) := by decide +kernel
theorem dX4_hasSameHead_28 : decode cX4_hasSameHead 28 = .ok (.getfield 18, 3) := by decide +kernel
theorem dX4_hasSameHead_31 : decode cX4_hasSameHead 31 = .ok (.iload 4, 2) := by decide +kernel
theorem dX4_hasSameHead_33 : decode cX4_hasSameHead 33 = .ok (.iload_n 3, 1) := by decide +kernel
theorem dX4_hasSameHead_34 : decode cX4_hasSameHead 34 = .ok (.iadd, 1) := by decide +kernel
theorem dX4_hasSameHead_35 : decode cX4_hasSameHead 35 = .ok (.invokevirtual 75, 3) := by decide +kernel
theorem dX4_hasSameHead_38 : decode cX4_hasSameHead 38 = .ok (.aload_n 0, 1) := by decide +kernel
theorem dX4_hasSameHead_39 : decode cX4_hasSameHead 39 = .ok (.getfield 18, 3) := by decide +kernel
theorem dX4_hasSameHead_42 : decode cX4_hasSameHead 42 = .ok (.iload 4, 2) := by decide +kernel
theorem dX4_hasSameHead_44 : decode cX4_hasSameHead 44 = .ok (.iload_n 3, 1) := by decide +kernel
theorem dX4_hasSameHead_45 : decode cX4_hasSameHead 45 = .ok (.iadd, 1) := by decide +kernel
theorem dX4_hasSameHead_46 : decode cX4_hasSameHead 46 = .ok (.invokevirtual 78, 3) := by decide +kernel
theorem dX4_hasSameHead_49 : decode cX4_hasSameHead 49 = .ok (.invokevirtual 147, 3) := by decide +kernel
theorem dX4_hasSameHead_52 : decode cX4_hasSameHead 52 = .ok (.ifCond .ne 5, 3) := by decide +kernel
theorem dX4_hasSameHead_55 : decode cX4_hasSameHead 55 = .ok (.iconst 0, 1) := by decide +kernel
theorem dX4_hasSameHead_56 : decode cX4_hasSameHead 56 = .ok (.ireturn, 1) := by decide +kernel
theorem dX4_hasSameHead_57 : decode cX4_hasSameHead 57 = .ok (.aload_n 0, 1) := by decide +kernel
theorem dX4_hasSameHead_58 : decode cX4_hasSameHead 58 = .ok (.getfield 18, 3) := by decide +kernel
theorem dX4_hasSameHead_61 : decode cX4_hasSameHead 61 = .ok (.iload 4, 2) := by decide +kernel
theorem dX4_hasSameHead_63 : decode cX4_hasSameHead 63 = .ok (.bipush 41, 2) := by decide +kernel
theorem dX4_hasSameHead_65 : decode cX4_hasSameHead 65 = .ok (.invokevirtual 109, 3) := by decide +kernel
theorem dX4_hasSameHead_68 : decode cX4_hasSameHead 68 = .ok (.ifCond .eq 41, 3) := by decide +kernel
theorem dX4_hasSameHead_71 : decode cX4_hasSameHead 71 = .ok (.aload_n 0, 1) := by decide +kernel
theorem dX4_hasSameHead_72 : decode cX4_hasSameHead 72 = .ok (.getfield 18, 3) := by decide +kernel
theorem dX4_hasSameHead_75 : decode cX4_hasSameHead 75 = .ok (.iload 4, 2) := by decide +kernel
theorem dX4_hasSameHead_77 : decode cX4_hasSameHead 77 = .ok (.iconst 1, 1) := by decide +kernel
theorem dX4_hasSameHead_78 : decode cX4_hasSameHead 78 = .ok (.iadd, 1) := by decide +kernel
theorem dX4_hasSameHead_79 : decode cX4_hasSameHead 79 = .ok (.aload_n 0, 1) := by decide +kernel
theorem dX4_hasSameHead_80 : decode cX4_hasSameHead 80 = .ok (.getfield 18, 3) := by decide +kernel
theorem dX4_hasSameHead_83 : decode cX4_hasSameHead 83 = .ok (.iload 4, 2) := by decide +kernel
theorem dX4_hasSameHead_85 : decode cX4_hasSameHead 85 = .ok (.iload_n 3, 1) := by decide +kernel
theorem dX4_hasSameHead_86 : decode cX4_hasSameHead 86 = .ok (.iadd, 1) := by decide +kernel
theorem dX4_hasSameHead_87 : decode cX4_hasSameHead 87 = .ok (.iconst 1, 1) := by decide +kernel
theorem dX4_hasSameHead_88 : decode cX4_hasSameHead 88 = .ok (.iadd, 1) := by decide +kernel
theorem dX4_hasSameHead_89 : decode cX4_hasSameHead 89 = .ok (.invokevirtual 75, 3) := by decide +kernel
theorem dX4_hasSameHead_92 : decode cX4_hasSameHead 92 = .ok (.aload_n 0, 1) := by decide +kernel
theorem dX4_hasSameHead_93 : decode cX4_hasSameHead 93 = .ok (.getfield 18, 3) := by decide +kernel
theorem dX4_hasSameHead_96 : decode cX4_hasSameHead 96 = .ok (.iload 4, 2) := by decide +kernel
theorem dX4_hasSameHead_98 : decode cX4_hasSameHead 98 = .ok (.iload_n 3, 1) := by decide +kernel
theorem dX4_hasSameHead_99 : decode cX4_hasSameHead 99 = .ok (.iadd, 1) := by decide +kernel
theorem dX4_hasSameHead_100 : decode cX4_hasSameHead 100 = .ok (.iconst 1, 1) := by decide +kernel
theorem dX4_hasSameHead_101 : decode cX4_hasSameHead 101 = .ok (.iadd, 1) := by decide +kernel
theorem dX4_hasSameHead_102 : decode cX4_hasSameHead 102 = .ok (.invokevirtual 78, 3) := by decide +kernel
theorem dX4_hasSameHead_105 : decode cX4_hasSameHead 105 = .ok (.invokevirtual 147, 3) := by decide +kernel
theorem dX4_hasSameHead_108 : decode cX4_hasSameHead 108 = .ok (.ireturn, 1) := by decide +kernel
theorem dX4_hasSameHead_109 : decode cX4_hasSameHead 109 = .ok (.iinc 4 1, 3) := by decide +kernel
theorem dX4_hasSameHead_112 : decode cX4_hasSameHead 112 = .ok (.goto (-103), 3) := by decide +kernel
theorem dX4_hasSameHead_115 : decode cX4_hasSameHead 115 = .ok (.iconst 0, 1) := by decide +kernel
theorem dX4_hasSameHead_116 : decode cX4_hasSameHead 116 = .ok (.ireturn, 1) := by decide +kernel
theorem dX4_lineFault_0 : decode cX4_lineFault 0 = .ok (.aload_n 0, 1) := by decide +kernel
theorem dX4_lineFault_1 : decode cX4_lineFault 1 = .ok (.iconst (-1), 1) := by decide +kernel
theorem dX4_lineFault_2 : decode cX4_lineFault 2 = .ok (.putfield 150, 3) := by decide +kernel
theorem dX4_lineFault_5 : decode cX4_lineFault 5 = .ok (.iconst 0, 1) := by decide +kernel
theorem dX4_lineFault_6 : decode cX4_lineFault 6 = .ok (.istore_n 1, 1) := by decide +kernel
theorem dX4_lineFault_7 : decode cX4_lineFault 7 = .ok (.iload_n 1, 1) := by decide +kernel
theorem dX4_lineFault_8 : decode cX4_lineFault 8 = .ok (.aload_n 0, 1) := by decide +kernel
theorem dX4_lineFault_9 : decode cX4_lineFault 9 = .ok (.getfield 18, 3) := by decide +kernel
theorem dX4_lineFault_12 : decode cX4_lineFault 12 = .ok (.getfield 41, 3) := by decide +kernel
theorem dX4_lineFault_15 : decode cX4_lineFault 15 = .ok (.if_icmp .ge 153, 3) := by decide +kernel
theorem dX4_lineFault_18 : decode cX4_lineFault 18 = .ok (.iconst (-1), 1) := by decide +kernel
theorem dX4_lineFault_19 : decode cX4_lineFault 19 = .ok (.istore_n 2, 1) := by decide +kernel
theorem dX4_lineFault_20 : decode cX4_lineFault 20 = .ok (.aload_n 0, 1) := by decide +kernel
theorem dX4_lineFault_21 : decode cX4_lineFault 21 = .ok (.getfield 18, 3) := by decide +kernel
theorem dX4_lineFault_24 : decode cX4_lineFault 24 = .ok (.getfield 47, 3) := by decide +kernel
theorem dX4_lineFault_27 : decode cX4_lineFault 27 = .ok (.iload_n 1, 1) := by decide +kernel
theorem dX4_lineFault_28 : decode cX4_lineFault 28 = .ok (.baload, 1) := by decide +kernel
theorem dX4_lineFault_29 : decode cX4_lineFault 29 = .ok (.tableswitch 93 46 53 #[75, 58, 47, 47, 50, 50, 84, 47], 47) := by decide +kernel
theorem dX4_lineFault_76 : decode cX4_lineFault 76 = .ok (.goto 79, 3) := by decide +kernel
theorem dX4_lineFault_79 : decode cX4_lineFault 79 = .ok (.aload_n 0, 1) := by decide +kernel
theorem dX4_lineFault_80 : decode cX4_lineFault 80 = .ok (.iload_n 1, 1) := by decide +kernel
theorem dX4_lineFault_81 : decode cX4_lineFault 81 = .ok (.invokevirtual 153, 3) := by decide +kernel
theorem dX4_lineFault_84 : decode cX4_lineFault 84 = .ok (.goto 71, 3) := by decide +kernel
theorem dX4_lineFault_87 : decode cX4_lineFault 87 = .ok (.aload_n 0, 1) := by decide +kernel
theorem dX4_lineFault_88 : decode cX4_lineFault 88 = .ok (.iload_n 1, 1) := by decide +kernel
theorem dX4_lineFault_89 : decode cX4_lineFault 89 = .ok (.invokevirtual 156, 3) := by decide +kernel
theorem dX4_lineFault_92 : decode cX4_lineFault 92 = .ok (.ifCond .eq 7, 3) := by decide +kernel
theorem dX4_lineFault_95 : decode cX4_lineFault 95 = .ok (.iconst (-1), 1) := by decide +kernel
theorem dX4_lineFault_96 : decode cX4_lineFault 96 = .ok (.goto 4, 3) := by decide +kernel
theorem dX4_lineFault_99 : decode cX4_lineFault 99 = .ok (.iload_n 1, 1) := by decide +kernel
theorem dX4_lineFault_100 : decode cX4_lineFault 100 = .ok (.istore_n 2, 1) := by decide +kernel
theorem dX4_lineFault_101 : decode cX4_lineFault 101 = .ok (.goto 54, 3) := by decide +kernel
theorem dX4_lineFault_104 : decode cX4_lineFault 104 = .ok (.aload_n 0, 1) := by decide +kernel
theorem dX4_lineFault_105 : decode cX4_lineFault 105 = .ok (.iload_n 1, 1) := by decide +kernel
theorem dX4_lineFault_106 : decode cX4_lineFault 106 = .ok (.invokevirtual 160, 3) := by decide +kernel
theorem dX4_lineFault_109 : decode cX4_lineFault 109 = .ok (.istore_n 2, 1) := by decide +kernel
theorem dX4_lineFault_110 : decode cX4_lineFault 110 = .ok (.goto 45, 3) := by decide +kernel
theorem dX4_lineFault_113 : decode cX4_lineFault 113 = .ok (.aload_n 0, 1) := by decide +kernel
theorem dX4_lineFault_114 : decode cX4_lineFault 114 = .ok (.iload_n 1, 1) := by decide +kernel
theorem dX4_lineFault_115 : decode cX4_lineFault 115 = .ok (.invokevirtual 163, 3) := by decide +kernel
theorem dX4_lineFault_118 : decode cX4_lineFault 118 = .ok (.istore_n 2, 1) := by decide +kernel
theorem dX4_lineFault_119 : decode cX4_lineFault 119 = .ok (.goto 36, 3) := by decide +kernel
theorem dX4_lineFault_122 : decode cX4_lineFault 122 = .ok (.aload_n 0, 1) := by decide +kernel
theorem dX4_lineFault_123 : decode cX4_lineFault 123 = .ok (.aload_n 0, 1) := by decide +kernel
theorem dX4_lineFault_124 : decode cX4_lineFault 124 = .ok (.getfield 18, 3) := by decide +kernel
theorem dX4_lineFault_127 : decode cX4_lineFault 127 = .ok (.getfield 47, 3) := by decide +kernel
theorem dX4_lineFault_130 : decode cX4_lineFault 130 = .ok (.iload_n 1, 1) := by decide +kernel
theorem dX4_lineFault_131 : decode cX4_lineFault 131 = .ok (.baload, 1) := by decide +kernel
theorem dX4_lineFault_132 : decode cX4_lineFault 132 = .ok (.invokevirtual 166, 3) := by decide +kernel
theorem dX4_lineFault_135 : decode cX4_lineFault 135 = .ok (.ifCond .ne 8, 3) := by decide +kernel
theorem dX4_lineFault_138 : decode cX4_lineFault 138 = .ok (.iload_n 1, 1) := by decide +kernel
theorem dX4_lineFault_139 : decode cX4_lineFault 139 = .ok (.istore_n 2, 1) := by decide +kernel
theorem dX4_lineFault_140 : decode cX4_lineFault 140 = .ok (.goto 15, 3) := by decide +kernel
theorem dX4_lineFault_143 : decode cX4_lineFault 143 = .ok (.aload_n 0, 1) := by decide +kernel
theorem dX4_lineFault_144 : decode cX4_lineFault 144 = .ok (.iload_n 1, 1) := by decide +kernel
theorem dX4_lineFault_145 : decode cX4_lineFault 145 = .ok (.invokevirtual 169, 3) := by decide +kernel
theorem dX4_lineFault_148 : decode cX4_lineFault 148 = .ok (.ifCond .ne 7, 3) := by decide +kernel
theorem dX4_lineFault_151 : decode cX4_lineFault 151 = .ok (.iload_n 1, 1) := by decide +kernel
theorem dX4_lineFault_152 : decode cX4_lineFault 152 = .ok (.iconst 1, 1) := by decide +kernel
theorem dX4_lineFault_153 : decode cX4_lineFault 153 = .ok (.iadd, 1) := by decide +kernel
theorem dX4_lineFault_154 : decode cX4_lineFault 154 = .ok (.istore_n 2, 1) := by decide +kernel
theorem dX4_lineFault_155 : decode cX4_lineFault 155 = .ok (.iload_n 2, 1) := by decide +kernel
theorem dX4_lineFault_156 : decode cX4_lineFault 156 = .ok (.iconst (-1), 1) := by decide +kernel
theorem dX4_lineFault_157 : decode cX4_lineFault 157 = .ok (.if_icmp .eq 5, 3) := by decide +kernel
theorem dX4_lineFault_160 : decode cX4_lineFault 160 = .ok (.iload_n 2, 1) := by decide +kernel
theorem dX4_lineFault_161 : decode cX4_lineFault 161 = .ok (.ireturn, 1) := by decide +kernel
theorem dX4_lineFault_162 : decode cX4_lineFault 162 = .ok (.iinc 1 1, 3) := by decide +kernel
theorem dX4_lineFault_165 : decode cX4_lineFault 165 = .ok (.goto (-158), 3) := by decide +kernel
theorem dX4_lineFault_168 : decode cX4_lineFault 168 = .ok (.iconst (-1), 1) := by decide +kernel
theorem dX4_lineFault_169 : decode cX4_lineFault 169 = .ok (.ireturn, 1) := by decide +kernel
theorem dX4_beginBody_0 : decode cX4_beginBody 0 = .ok (.aload_n 0, 1) := by decide +kernel
theorem dX4_beginBody_1 : decode cX4_beginBody 1 = .ok (.dup, 1) := by decide +kernel
theorem dX4_beginBody_2 : decode cX4_beginBody 2 = .ok (.getfield 150, 3) := by decide +kernel
theorem dX4_beginBody_5 : decode cX4_beginBody 5 = .ok (.iconst 1, 1) := by decide +kernel
theorem dX4_beginBody_6 : decode cX4_beginBody 6 = .ok (.iadd, 1) := by decide +kernel
theorem dX4_beginBody_7 : decode cX4_beginBody 7 = .ok (.putfield 150, 3) := by decide +kernel
theorem dX4_beginBody_10 : decode cX4_beginBody 10 = .ok (.aload_n 0, 1) := by decide +kernel
theorem dX4_beginBody_11 : decode cX4_beginBody 11 = .ok (.getfield 22, 3) := by decide +kernel
theorem dX4_beginBody_14 : decode cX4_beginBody 14 = .ok (.getfield 172, 3) := by decide +kernel
theorem dX4_beginBody_17 : decode cX4_beginBody 17 = .ok (.aload_n 0, 1) := by decide +kernel
theorem dX4_beginBody_18 : decode cX4_beginBody 18 = .ok (.getfield 150, 3) := by decide +kernel
theorem dX4_beginBody_21 : decode cX4_beginBody 21 = .ok (.aload_n 0, 1) := by decide +kernel
theorem dX4_beginBody_22 : decode cX4_beginBody 22 = .ok (.getfield 37, 3) := by decide +kernel
theorem dX4_beginBody_25 : decode cX4_beginBody 25 = .ok (.getfield 175, 3) := by decide +kernel
theorem dX4_beginBody_28 : decode cX4_beginBody 28 = .ok (.iastore, 1) := by decide +kernel
theorem dX4_beginBody_29 : decode cX4_beginBody 29 = .ok (.aload_n 0, 1) := by decide +kernel
theorem dX4_beginBody_30 : decode cX4_beginBody 30 = .ok (.getfield 22, 3) := by decide +kernel
theorem dX4_beginBody_33 : decode cX4_beginBody 33 = .ok (.getfield 178, 3) := by decide +kernel
theorem dX4_beginBody_36 : decode cX4_beginBody 36 = .ok (.aload_n 0, 1) := by decide +kernel
theorem dX4_beginBody_37 : decode cX4_beginBody 37 = .ok (.getfield 150, 3) := by decide +kernel
theorem dX4_beginBody_40 : decode cX4_beginBody 40 = .ok (.aload_n 0, 1) := by decide +kernel
theorem dX4_beginBody_41 : decode cX4_beginBody 41 = .ok (.getfield 37, 3) := by decide +kernel
theorem dX4_beginBody_44 : decode cX4_beginBody 44 = .ok (.getfield 181, 3) := by decide +kernel
theorem dX4_beginBody_47 : decode cX4_beginBody 47 = .ok (.iastore, 1) := by decide +kernel
theorem dX4_beginBody_48 : decode cX4_beginBody 48 = .ok (.aload_n 0, 1) := by decide +kernel
theorem dX4_beginBody_49 : decode cX4_beginBody 49 = .ok (.iconst 0, 1) := by decide +kernel
theorem dX4_beginBody_50 : decode cX4_beginBody 50 = .ok (.putfield 184, 3) := by decide +kernel
theorem dX4_beginBody_53 : decode cX4_beginBody 53 = .ok (.aload_n 0, 1) := by decide +kernel
theorem dX4_beginBody_54 : decode cX4_beginBody 54 = .ok (.aload_n 0, 1) := by decide +kernel
theorem dX4_beginBody_55 : decode cX4_beginBody 55 = .ok (.getfield 37, 3) := by decide +kernel
theorem dX4_beginBody_58 : decode cX4_beginBody 58 = .ok (.getfield 175, 3) := by decide +kernel
theorem dX4_beginBody_61 : decode cX4_beginBody 61 = .ok (.putfield 187, 3) := by decide +kernel
theorem dX4_beginBody_64 : decode cX4_beginBody 64 = .ok (.iload_n 1, 1) := by decide +kernel
theorem dX4_beginBody_65 : decode cX4_beginBody 65 = .ok (.iconst 1, 1) := by decide +kernel
theorem dX4_beginBody_66 : decode cX4_beginBody 66 = .ok (.iadd, 1) := by decide +kernel
theorem dX4_beginBody_67 : decode cX4_beginBody 67 = .ok (.istore_n 2, 1) := by decide +kernel
theorem dX4_beginBody_68 : decode cX4_beginBody 68 = .ok (.iload_n 2, 1) := by decide +kernel
theorem dX4_beginBody_69 : decode cX4_beginBody 69 = .ok (.aload_n 0, 1) := by decide +kernel
theorem dX4_beginBody_70 : decode cX4_beginBody 70 = .ok (.getfield 18, 3) := by decide +kernel
theorem dX4_beginBody_73 : decode cX4_beginBody 73 = .ok (.getfield 41, 3) := by decide +kernel
theorem dX4_beginBody_76 : decode cX4_beginBody 76 = .ok (.if_icmp .ge 109, 3) := by decide +kernel
theorem dX4_beginBody_79 : decode cX4_beginBody 79 = .ok (.aload_n 0, 1) := by decide +kernel
theorem dX4_beginBody_80 : decode cX4_beginBody 80 = .ok (.getfield 18, 3) := by decide +kernel
theorem dX4_beginBody_83 : decode cX4_beginBody 83 = .ok (.getfield 47, 3) := by decide +kernel
theorem dX4_beginBody_86 : decode cX4_beginBody 86 = .ok (.iload_n 2, 1) := by decide +kernel
theorem dX4_beginBody_87 : decode cX4_beginBody 87 = .ok (.baload, 1) := by decide +kernel
theorem dX4_beginBody_88 : decode cX4_beginBody 88 = .ok (.bipush 52, 2) := by decide +kernel
theorem dX4_beginBody_90 : decode cX4_beginBody 90 = .ok (.if_icmp .eq 95, 3) := by decide +kernel
theorem dX4_beginBody_93 : decode cX4_beginBody 93 = .ok (.aload_n 0, 1) := by decide +kernel
theorem dX4_beginBody_94 : decode cX4_beginBody 94 = .ok (.getfield 18, 3) := by decide +kernel
theorem dX4_beginBody_97 : decode cX4_beginBody 97 = .ok (.getfield 47, 3) := by decide +kernel
theorem dX4_beginBody_100 : decode cX4_beginBody 100 = .ok (.iload_n 2, 1) := by decide +kernel
theorem dX4_beginBody_101 : decode cX4_beginBody 101 = .ok (.baload, 1) := by decide +kernel
theorem dX4_beginBody_102 : decode cX4_beginBody 102 = .ok (.bipush 47, 2) := by decide +kernel
theorem dX4_beginBody_104 : decode cX4_beginBody 104 = .ok (.if_icmp .ne 51, 3) := by decide +kernel
theorem dX4_beginBody_107 : decode cX4_beginBody 107 = .ok (.aload_n 0, 1) := by decide +kernel
theorem dX4_beginBody_108 : decode cX4_beginBody 108 = .ok (.getfield 184, 3) := by decide +kernel
theorem dX4_beginBody_111 : decode cX4_beginBody 111 = .ok (.aload_n 0, 1) := by decide +kernel
theorem dX4_beginBody_112 : decode cX4_beginBody 112 = .ok (.getfield 9, 3) := by decide +kernel
theorem dX4_beginBody_115 : decode cX4_beginBody 115 = .ok (.arraylength, 1) := by decide +kernel
theorem dX4_beginBody_116 : decode cX4_beginBody 116 = .ok (.if_icmp .ge 39, 3) := by decide +kernel
theorem dX4_beginBody_119 : decode cX4_beginBody 119 = .ok (.aload_n 0, 1) := by decide +kernel
theorem dX4_beginBody_120 : decode cX4_beginBody 120 = .ok (.getfield 9, 3) := by decide +kernel
theorem dX4_beginBody_123 : decode cX4_beginBody 123 = .ok (.aload_n 0, 1) := by decide +kernel
theorem dX4_beginBody_124 : decode cX4_beginBody 124 = .ok (.getfield 184, 3) := by decide +kernel
theorem dX4_beginBody_127 : decode cX4_beginBody 127 = .ok (.iload_n 2, 1) := by decide +kernel
theorem dX4_beginBody_128 : decode cX4_beginBody 128 = .ok (.iastore, 1) := by decide +kernel
theorem dX4_beginBody_129 : decode cX4_beginBody 129 = .ok (.aload_n 0, 1) := by decide +kernel
theorem dX4_beginBody_130 : decode cX4_beginBody 130 = .ok (.getfield 15, 3) := by decide +kernel
theorem dX4_beginBody_133 : decode cX4_beginBody 133 = .ok (.aload_n 0, 1) := by decide +kernel
theorem dX4_beginBody_134 : decode cX4_beginBody 134 = .ok (.getfield 184, 3) := by decide +kernel
theorem dX4_beginBody_137 : decode cX4_beginBody 137 = .ok (.aload_n 0, 1) := by decide +kernel
theorem dX4_beginBody_138 : decode cX4_beginBody 138 = .ok (.getfield 187, 3) := by decide +kernel
theorem dX4_beginBody_141 : decode cX4_beginBody 141 = .ok (.iastore, 1) := by decide +kernel
theorem dX4_beginBody_142 : decode cX4_beginBody 142 = .ok (.aload_n 0, 1) := by decide +kernel
theorem dX4_beginBody_143 : decode cX4_beginBody 143 = .ok (.dup, 1) := by decide +kernel
theorem dX4_beginBody_144 : decode cX4_beginBody 144 = .ok (.getfield 184, 3) := by decide +kernel
theorem dX4_beginBody_147 : decode cX4_beginBody 147 = .ok (.iconst 1, 1) := by decide +kernel
theorem dX4_beginBody_148 : decode cX4_beginBody 148 = .ok (.iadd, 1) := by decide +kernel
theorem dX4_beginBody_149 : decode cX4_beginBody 149 = .ok (.putfield 184, 3) := by decide +kernel
theorem dX4_beginBody_152 : decode cX4_beginBody 152 = .ok (.goto 27, 3) := by decide +kernel
theorem dX4_beginBody_155 : decode cX4_beginBody 155 = .ok (.aload_n 0, 1) := by decide +kernel
theorem dX4_beginBody_156 : decode cX4_beginBody 156 = .ok (.getfield 18, 3) := by decide +kernel
theorem dX4_beginBody_159 : decode cX4_beginBody 159 = .ok (.getfield 47, 3) := by decide +kernel
theorem dX4_beginBody_162 : decode cX4_beginBody 162 = .ok (.iload_n 2, 1) := by decide +kernel
theorem dX4_beginBody_163 : decode cX4_beginBody 163 = .ok (.baload, 1) := by decide +kernel
theorem dX4_beginBody_164 : decode cX4_beginBody 164 = .ok (.bipush 46, 2) := by decide +kernel
theorem dX4_beginBody_166 : decode cX4_beginBody 166 = .ok (.if_icmp .ge 13, 3) := by decide +kernel
theorem dX4_beginBody_169 : decode cX4_beginBody 169 = .ok (.aload_n 0, 1) := by decide +kernel
theorem dX4_beginBody_170 : decode cX4_beginBody 170 = .ok (.dup, 1) := by decide +kernel
theorem dX4_beginBody_171 : decode cX4_beginBody 171 = .ok (.getfield 187, 3) := by decide +kernel
theorem dX4_beginBody_174 : decode cX4_beginBody 174 = .ok (.iconst 1, 1) := by decide +kernel
theorem dX4_beginBody_175 : decode cX4_beginBody 175 = .ok (.iadd, 1) := by decide +kernel
theorem dX4_beginBody_176 : decode cX4_beginBody 176 = .ok (.putfield 187, 3) := by decide +kernel
theorem dX4_beginBody_179 : decode cX4_beginBody 179 = .ok (.iinc 2 1, 3) := by decide +kernel
theorem dX4_beginBody_182 : decode cX4_beginBody 182 = .ok (.goto (-114), 3) := by decide +kernel
theorem dX4_beginBody_185 : decode cX4_beginBody 185 = .ok (.return_, 1) := by decide +kernel
theorem dX4_isFirstLabel_0 : decode cX4_isFirstLabel 0 = .ok (.aload_n 0, 1) := by decide +kernel
theorem dX4_isFirstLabel_1 : decode cX4_isFirstLabel 1 = .ok (.iload_n 1, 1) := by decide +kernel
theorem dX4_isFirstLabel_2 : decode cX4_isFirstLabel 2 = .ok (.invokevirtual 189, 3) := by decide +kernel
theorem dX4_isFirstLabel_5 : decode cX4_isFirstLabel 5 = .ok (.istore_n 2, 1) := by decide +kernel
theorem dX4_isFirstLabel_6 : decode cX4_isFirstLabel 6 = .ok (.iload_n 2, 1) := by decide +kernel
theorem dX4_isFirstLabel_7 : decode cX4_isFirstLabel 7 = .ok (.iconst (-1), 1) := by decide +kernel
theorem dX4_isFirstLabel_8 : decode cX4_isFirstLabel 8 = .ok (.if_icmp .eq 17, 3) := by decide +kernel
theorem dX4_isFirstLabel_11 : decode cX4_isFirstLabel 11 = .ok (.aload_n 0, 1) := by decide +kernel
theorem dX4_isFirstLabel_12 : decode cX4_isFirstLabel 12 = .ok (.getfield 9, 3) := by decide +kernel
theorem dX4_isFirstLabel_15 : decode cX4_isFirstLabel 15 = .ok (.iload_n 2, 1) := by decide +kernel
theorem dX4_isFirstLabel_16 : decode cX4_isFirstLabel 16 = .ok (.iaload, 1) := by decide +kernel
theorem dX4_isFirstLabel_17 : decode cX4_isFirstLabel 17 = .ok (.iload_n 1, 1) := by decide +kernel
theorem dX4_isFirstLabel_18 : decode cX4_isFirstLabel 18 = .ok (.if_icmp .ne 7, 3) := by decide +kernel
theorem dX4_isFirstLabel_21 : decode cX4_isFirstLabel 21 = .ok (.iconst 1, 1) := by decide +kernel
theorem dX4_isFirstLabel_22 : decode cX4_isFirstLabel 22 = .ok (.goto 4, 3) := by decide +kernel
theorem dX4_isFirstLabel_25 : decode cX4_isFirstLabel 25 = .ok (.iconst 0, 1) := by decide +kernel
theorem dX4_isFirstLabel_26 : decode cX4_isFirstLabel 26 = .ok (.ireturn, 1) := by decide +kernel
theorem dX4_catchFault_0 : decode cX4_catchFault 0 = .ok (.aload_n 0, 1) := by decide +kernel
theorem dX4_catchFault_1 : decode cX4_catchFault 1 = .ok (.getfield 37, 3) := by decide +kernel
theorem dX4_catchFault_4 : decode cX4_catchFault 4 = .ok (.getfield 181, 3) := by decide +kernel
theorem dX4_catchFault_7 : decode cX4_catchFault 7 = .ok (.bipush 64, 2) := by decide +kernel
theorem dX4_catchFault_9 : decode cX4_catchFault 9 = .ok (.if_icmp .ne 5, 3) := by decide +kernel
theorem dX4_catchFault_12 : decode cX4_catchFault 12 = .ok (.iload_n 1, 1) := by decide +kernel
theorem dX4_catchFault_13 : decode cX4_catchFault 13 = .ok (.ireturn, 1) := by decide +kernel
theorem dX4_catchFault_14 : decode cX4_catchFault 14 = .ok (.aload_n 0, 1) := by decide +kernel
theorem dX4_catchFault_15 : decode cX4_catchFault 15 = .ok (.iload_n 1, 1) := by decide +kernel
theorem dX4_catchFault_16 : decode cX4_catchFault 16 = .ok (.iconst 1, 1) := by decide +kernel
theorem dX4_catchFault_17 : decode cX4_catchFault 17 = .ok (.iadd, 1) := by decide +kernel
theorem dX4_catchFault_18 : decode cX4_catchFault 18 = .ok (.invokevirtual 192, 3) := by decide +kernel
theorem dX4_catchFault_21 : decode cX4_catchFault 21 = .ok (.istore_n 2, 1) := by decide +kernel
theorem dX4_catchFault_22 : decode cX4_catchFault 22 = .ok (.iload_n 2, 1) := by decide +kernel
theorem dX4_catchFault_23 : decode cX4_catchFault 23 = .ok (.iconst (-1), 1) := by decide +kernel
theorem dX4_catchFault_24 : decode cX4_catchFault 24 = .ok (.if_icmp .ne 7, 3) := by decide +kernel
theorem dX4_catchFault_27 : decode cX4_catchFault 27 = .ok (.iload_n 1, 1) := by decide +kernel
theorem dX4_catchFault_28 : decode cX4_catchFault 28 = .ok (.iconst 1, 1) := by decide +kernel
theorem dX4_catchFault_29 : decode cX4_catchFault 29 = .ok (.iadd, 1) := by decide +kernel
theorem dX4_catchFault_30 : decode cX4_catchFault 30 = .ok (.ireturn, 1) := by decide +kernel
theorem dX4_catchFault_31 : decode cX4_catchFault 31 = .ok (.aload_n 0, 1) := by decide +kernel
theorem dX4_catchFault_32 : decode cX4_catchFault 32 = .ok (.iload_n 1, 1) := by decide +kernel
theorem dX4_catchFault_33 : decode cX4_catchFault 33 = .ok (.iconst 2, 1) := by decide +kernel
theorem dX4_catchFault_34 : decode cX4_catchFault 34 = .ok (.iadd, 1) := by decide +kernel
theorem dX4_catchFault_35 : decode cX4_catchFault 35 = .ok (.invokevirtual 192, 3) := by decide +kernel
theorem dX4_catchFault_38 : decode cX4_catchFault 38 = .ok (.istore_n 3, 1) := by decide +kernel
theorem dX4_catchFault_39 : decode cX4_catchFault 39 = .ok (.iload_n 3, 1) := by decide +kernel
theorem dX4_catchFault_40 : decode cX4_catchFault 40 = .ok (.iload_n 2, 1) := by decide +kernel
theorem dX4_catchFault_41 : decode cX4_catchFault 41 = .ok (.if_icmp .gt 7, 3) := by decide +kernel
theorem dX4_catchFault_44 : decode cX4_catchFault 44 = .ok (.iload_n 1, 1) := by decide +kernel
theorem dX4_catchFault_45 : decode cX4_catchFault 45 = .ok (.iconst 2, 1) := by decide +kernel
theorem dX4_catchFault_46 : decode cX4_catchFault 46 = .ok (.iadd, 1) := by decide +kernel
theorem dX4_catchFault_47 : decode cX4_catchFault 47 = .ok (.ireturn, 1) := by decide +kernel
theorem dX4_catchFault_48 : decode cX4_catchFault 48 = .ok (.aload_n 0, 1) := by decide +kernel
theorem dX4_catchFault_49 : decode cX4_catchFault 49 = .ok (.iload_n 1, 1) := by decide +kernel
theorem dX4_catchFault_50 : decode cX4_catchFault 50 = .ok (.iconst 3, 1) := by decide +kernel
theorem dX4_catchFault_51 : decode cX4_catchFault 51 = .ok (.iadd, 1) := by decide +kernel
theorem dX4_catchFault_52 : decode cX4_catchFault 52 = .ok (.invokevirtual 192, 3) := by decide +kernel
theorem dX4_catchFault_55 : decode cX4_catchFault 55 = .ok (.istore 4, 2) := by decide +kernel
theorem dX4_catchFault_57 : decode cX4_catchFault 57 = .ok (.iload 4, 2) := by decide +kernel
theorem dX4_catchFault_59 : decode cX4_catchFault 59 = .ok (.iconst (-1), 1) := by decide +kernel
theorem dX4_catchFault_60 : decode cX4_catchFault 60 = .ok (.if_icmp .eq 12, 3) := by decide +kernel
theorem dX4_catchFault_63 : decode cX4_catchFault 63 = .ok (.iload 4, 2) := by decide +kernel
theorem dX4_catchFault_65 : decode cX4_catchFault 65 = .ok (.aload_n 0, 1) := by decide +kernel
theorem dX4_catchFault_66 : decode cX4_catchFault 66 = .ok (.getfield 187, 3) := by decide +kernel
theorem dX4_catchFault_69 : decode cX4_catchFault 69 = .ok (.if_icmp .lt 7, 3) := by decide +kernel
theorem dX4_catchFault_72 : decode cX4_catchFault 72 = .ok (.iload_n 1, 1) := by decide +kernel
theorem dX4_catchFault_73 : decode cX4_catchFault 73 = .ok (.iconst 3, 1) := by decide +kernel
theorem dX4_catchFault_74 : decode cX4_catchFault 74 = .ok (.iadd, 1) := by decide +kernel
theorem dX4_catchFault_75 : decode cX4_catchFault 75 = .ok (.ireturn, 1) := by decide +kernel
theorem dX4_catchFault_76 : decode cX4_catchFault 76 = .ok (.aload_n 0, 1) := by decide +kernel
theorem dX4_catchFault_77 : decode cX4_catchFault 77 = .ok (.iload_n 1, 1) := by decide +kernel
theorem dX4_catchFault_78 : decode cX4_catchFault 78 = .ok (.iconst 4, 1) := by decide +kernel
theorem dX4_catchFault_79 : decode cX4_catchFault 79 = .ok (.iadd, 1) := by decide +kernel
theorem dX4_catchFault_80 : decode cX4_catchFault 80 = .ok (.invokevirtual 51, 3) := by decide +kernel
theorem dX4_catchFault_83 : decode cX4_catchFault 83 = .ok (.istore 5, 2) := by decide +kernel
theorem dX4_catchFault_85 : decode cX4_catchFault 85 = .ok (.aload_n 0, 1) := by decide +kernel
theorem dX4_catchFault_86 : decode cX4_catchFault 86 = .ok (.getfield 32, 3) := by decide +kernel
theorem dX4_catchFault_89 : decode cX4_catchFault 89 = .ok (.iconst 1, 1) := by decide +kernel
theorem dX4_catchFault_90 : decode cX4_catchFault 90 = .ok (.iload 5, 2) := by decide +kernel
theorem dX4_catchFault_92 : decode cX4_catchFault 92 = .ok (.invokevirtual 195, 3) := by decide +kernel
theorem dX4_catchFault_95 : decode cX4_catchFault 95 = .ok (.ifCond .ne 7, 3) := by decide +kernel
theorem dX4_catchFault_98 : decode cX4_catchFault 98 = .ok (.iload_n 1, 1) := by decide +kernel
theorem dX4_catchFault_99 : decode cX4_catchFault 99 = .ok (.iconst 4, 1) := by decide +kernel
theorem dX4_catchFault_100 : decode cX4_catchFault 100 = .ok (.iadd, 1) := by decide +kernel
theorem dX4_catchFault_101 : decode cX4_catchFault 101 = .ok (.ireturn, 1) := by decide +kernel
theorem dX4_catchFault_102 : decode cX4_catchFault 102 = .ok (.aload_n 0, 1) := by decide +kernel
theorem dX4_catchFault_103 : decode cX4_catchFault 103 = .ok (.getfield 37, 3) := by decide +kernel
theorem dX4_catchFault_106 : decode cX4_catchFault 106 = .ok (.iload_n 2, 1) := by decide +kernel
theorem dX4_catchFault_107 : decode cX4_catchFault 107 = .ok (.iload_n 3, 1) := by decide +kernel
theorem dX4_catchFault_108 : decode cX4_catchFault 108 = .ok (.iload 4, 2) := by decide +kernel
theorem dX4_catchFault_110 : decode cX4_catchFault 110 = .ok (.iload 5, 2) := by decide +kernel
theorem dX4_catchFault_112 : decode cX4_catchFault 112 = .ok (.invokevirtual 198, 3) := by decide +kernel
theorem dX4_catchFault_115 : decode cX4_catchFault 115 = .ok (.iconst (-1), 1) := by decide +kernel
theorem dX4_catchFault_116 : decode cX4_catchFault 116 = .ok (.ireturn, 1) := by decide +kernel
theorem dX4_endFault_0 : decode cX4_endFault 0 = .ok (.aload_n 0, 1) := by decide +kernel
theorem dX4_endFault_1 : decode cX4_endFault 1 = .ok (.getfield 22, 3) := by decide +kernel
theorem dX4_endFault_4 : decode cX4_endFault 4 = .ok (.getfield 202, 3) := by decide +kernel
theorem dX4_endFault_7 : decode cX4_endFault 7 = .ok (.aload_n 0, 1) := by decide +kernel
theorem dX4_endFault_8 : decode cX4_endFault 8 = .ok (.getfield 150, 3) := by decide +kernel
theorem dX4_endFault_11 : decode cX4_endFault 11 = .ok (.aload_n 0, 1) := by decide +kernel
theorem dX4_endFault_12 : decode cX4_endFault 12 = .ok (.getfield 37, 3) := by decide +kernel
theorem dX4_endFault_15 : decode cX4_endFault 15 = .ok (.getfield 175, 3) := by decide +kernel
