theorem dX10_init_0 : decode cX10_init 0 = .ok (.aload_n 0, 1) := by decide +kernel
theorem dX10_init_1 : decode cX10_init 1 = .ok (.invokespecial 1, 3) := by decide +kernel
theorem dX10_init_4 : decode cX10_init 4 = .ok (.aload_n 0, 1) := by decide +kernel
theorem dX10_init_5 : decode cX10_init 5 = .ok (.sipush 4000, 3) := by decide +kernel
theorem dX10_init_8 : decode cX10_init 8 = .ok (.newarray .int, 2) := by decide +kernel
theorem dX10_init_10 : decode cX10_init 10 = .ok (.putfield 9, 3) := by decide +kernel
theorem dX10_init_13 : decode cX10_init 13 = .ok (.aload_n 0, 1) := by decide +kernel
theorem dX10_init_14 : decode cX10_init 14 = .ok (.iconst (-1), 1) := by decide +kernel
theorem dX10_init_15 : decode cX10_init 15 = .ok (.putfield 13, 3) := by decide +kernel
theorem dX10_init_18 : decode cX10_init 18 = .ok (.new 17, 3) := by decide +kernel
theorem dX10_init_21 : decode cX10_init 21 = .ok (.dup, 1) := by decide +kernel
theorem dX10_init_22 : decode cX10_init 22 = .ok (.invokespecial 19, 3) := by decide +kernel
theorem dX10_init_25 : decode cX10_init 25 = .ok (.astore_n 1, 1) := by decide +kernel
theorem dX10_init_26 : decode cX10_init 26 = .ok (.new 20, 3) := by decide +kernel
theorem dX10_init_29 : decode cX10_init 29 = .ok (.dup, 1) := by decide +kernel
theorem dX10_init_30 : decode cX10_init 30 = .ok (.invokespecial 22, 3) := by decide +kernel
theorem dX10_init_33 : decode cX10_init 33 = .ok (.astore_n 2, 1) := by decide +kernel
theorem dX10_init_34 : decode cX10_init 34 = .ok (.new 20, 3) := by decide +kernel
theorem dX10_init_37 : decode cX10_init 37 = .ok (.dup, 1) := by decide +kernel
theorem dX10_init_38 : decode cX10_init 38 = .ok (.invokespecial 22, 3) := by decide +kernel
theorem dX10_init_41 : decode cX10_init 41 = .ok (.astore_n 3, 1) := by decide +kernel
theorem dX10_init_42 : decode cX10_init 42 = .ok (.aload_n 0, 1) := by decide +kernel
theorem dX10_init_43 : decode cX10_init 43 = .ok (.aload_n 1, 1) := by decide +kernel
theorem dX10_init_44 : decode cX10_init 44 = .ok (.putfield 23, 3) := by decide +kernel
theorem dX10_init_47 : decode cX10_init 47 = .ok (.aload_n 0, 1) := by decide +kernel
theorem dX10_init_48 : decode cX10_init 48 = .ok (.new 27, 3) := by decide +kernel
theorem dX10_init_51 : decode cX10_init 51 = .ok (.dup, 1) := by decide +kernel
theorem dX10_init_52 : decode cX10_init 52 = .ok (.aload_n 1, 1) := by decide +kernel
theorem dX10_init_53 : decode cX10_init 53 = .ok (.invokespecial 29, 3) := by decide +kernel
theorem dX10_init_56 : decode cX10_init 56 = .ok (.putfield 32, 3) := by decide +kernel
theorem dX10_init_59 : decode cX10_init 59 = .ok (.aload_n 0, 1) := by decide +kernel
theorem dX10_init_60 : decode cX10_init 60 = .ok (.new 36, 3) := by decide +kernel
theorem dX10_init_63 : decode cX10_init 63 = .ok (.dup, 1) := by decide +kernel
theorem dX10_init_64 : decode cX10_init 64 = .ok (.aload_n 1, 1) := by decide +kernel
theorem dX10_init_65 : decode cX10_init 65 = .ok (.aload_n 3, 1) := by decide +kernel
theorem dX10_init_66 : decode cX10_init 66 = .ok (.invokespecial 38, 3) := by decide +kernel
theorem dX10_init_69 : decode cX10_init 69 = .ok (.putfield 41, 3) := by decide +kernel
theorem dX10_init_72 : decode cX10_init 72 = .ok (.aload_n 0, 1) := by decide +kernel
theorem dX10_init_73 : decode cX10_init 73 = .ok (.new 45, 3) := by decide +kernel
theorem dX10_init_76 : decode cX10_init 76 = .ok (.dup, 1) := by decide +kernel
theorem dX10_init_77 : decode cX10_init 77 = .ok (.aload_n 3, 1) := by decide +kernel
theorem dX10_init_78 : decode cX10_init 78 = .ok (.invokespecial 47, 3) := by decide +kernel
theorem dX10_init_81 : decode cX10_init 81 = .ok (.putfield 50, 3) := by decide +kernel
theorem dX10_init_84 : decode cX10_init 84 = .ok (.aload_n 0, 1) := by decide +kernel
theorem dX10_init_85 : decode cX10_init 85 = .ok (.new 54, 3) := by decide +kernel
theorem dX10_init_88 : decode cX10_init 88 = .ok (.dup, 1) := by decide +kernel
theorem dX10_init_89 : decode cX10_init 89 = .ok (.aload_n 3, 1) := by decide +kernel
theorem dX10_init_90 : decode cX10_init 90 = .ok (.invokespecial 56, 3) := by decide +kernel
theorem dX10_init_93 : decode cX10_init 93 = .ok (.putfield 57, 3) := by decide +kernel
theorem dX10_init_96 : decode cX10_init 96 = .ok (.aload_n 0, 1) := by decide +kernel
theorem dX10_init_97 : decode cX10_init 97 = .ok (.new 61, 3) := by decide +kernel
theorem dX10_init_100 : decode cX10_init 100 = .ok (.dup, 1) := by decide +kernel
theorem dX10_init_101 : decode cX10_init 101 = .ok (.aload_n 2, 1) := by decide +kernel
theorem dX10_init_102 : decode cX10_init 102 = .ok (.invokespecial 63, 3) := by decide +kernel
theorem dX10_init_105 : decode cX10_init 105 = .ok (.putfield 64, 3) := by decide +kernel
theorem dX10_init_108 : decode cX10_init 108 = .ok (.aload_n 0, 1) := by decide +kernel
theorem dX10_init_109 : decode cX10_init 109 = .ok (.aload_n 2, 1) := by decide +kernel
theorem dX10_init_110 : decode cX10_init 110 = .ok (.putfield 68, 3) := by decide +kernel
theorem dX10_init_113 : decode cX10_init 113 = .ok (.aload_n 0, 1) := by decide +kernel
theorem dX10_init_114 : decode cX10_init 114 = .ok (.aload_n 3, 1) := by decide +kernel
theorem dX10_init_115 : decode cX10_init 115 = .ok (.putfield 72, 3) := by decide +kernel
theorem dX10_init_118 : decode cX10_init 118 = .ok (.return_, 1) := by decide +kernel
theorem dX10_feed_0 : decode cX10_feed 0 = .ok (.aload_n 0, 1) := by decide +kernel
theorem dX10_feed_1 : decode cX10_feed 1 = .ok (.getfield 75, 3) := by decide +kernel
theorem dX10_feed_4 : decode cX10_feed 4 = .ok (.sipush 15980, 3) := by decide +kernel
theorem dX10_feed_7 : decode cX10_feed 7 = .ok (.if_icmp .gt 12, 3) := by decide +kernel
theorem dX10_feed_10 : decode cX10_feed 10 = .ok (.aload_n 0, 1) := by decide +kernel
theorem dX10_feed_11 : decode cX10_feed 11 = .ok (.getfield 78, 3) := by decide +kernel
theorem dX10_feed_14 : decode cX10_feed 14 = .ok (.ldc 81, 2) := by decide +kernel
theorem dX10_feed_16 : decode cX10_feed 16 = .ok (.if_icmp .le 5, 3) := by decide +kernel
theorem dX10_feed_19 : decode cX10_feed 19 = .ok (.iconst (-1), 1) := by decide +kernel
theorem dX10_feed_20 : decode cX10_feed 20 = .ok (.ireturn, 1) := by decide +kernel
theorem dX10_feed_21 : decode cX10_feed 21 = .ok (.aload_n 0, 1) := by decide +kernel
theorem dX10_feed_22 : decode cX10_feed 22 = .ok (.getfield 75, 3) := by decide +kernel
theorem dX10_feed_25 : decode cX10_feed 25 = .ok (.iconst 4, 1) := by decide +kernel
theorem dX10_feed_26 : decode cX10_feed 26 = .ok (.idiv, 1) := by decide +kernel
theorem dX10_feed_27 : decode cX10_feed 27 = .ok (.istore 6, 2) := by decide +kernel
theorem dX10_feed_29 : decode cX10_feed 29 = .ok (.aload_n 0, 1) := by decide +kernel
theorem dX10_feed_30 : decode cX10_feed 30 = .ok (.getfield 9, 3) := by decide +kernel
theorem dX10_feed_33 : decode cX10_feed 33 = .ok (.iload 6, 2) := by decide +kernel
theorem dX10_feed_35 : decode cX10_feed 35 = .ok (.iload_n 1, 1) := by decide +kernel
theorem dX10_feed_36 : decode cX10_feed 36 = .ok (.iastore, 1) := by decide +kernel
theorem dX10_feed_37 : decode cX10_feed 37 = .ok (.aload_n 0, 1) := by decide +kernel
theorem dX10_feed_38 : decode cX10_feed 38 = .ok (.getfield 9, 3) := by decide +kernel
theorem dX10_feed_41 : decode cX10_feed 41 = .ok (.iload 6, 2) := by decide +kernel
theorem dX10_feed_43 : decode cX10_feed 43 = .ok (.iconst 1, 1) := by decide +kernel
theorem dX10_feed_44 : decode cX10_feed 44 = .ok (.iadd, 1) := by decide +kernel
theorem dX10_feed_45 : decode cX10_feed 45 = .ok (.iload_n 2, 1) := by decide +kernel
theorem dX10_feed_46 : decode cX10_feed 46 = .ok (.iastore, 1) := by decide +kernel
theorem dX10_feed_47 : decode cX10_feed 47 = .ok (.aload_n 0, 1) := by decide +kernel
theorem dX10_feed_48 : decode cX10_feed 48 = .ok (.getfield 9, 3) := by decide +kernel
theorem dX10_feed_51 : decode cX10_feed 51 = .ok (.iload 6, 2) := by decide +kernel
theorem dX10_feed_53 : decode cX10_feed 53 = .ok (.iconst 2, 1) := by decide +kernel
theorem dX10_feed_54 : decode cX10_feed 54 = .ok (.iadd, 1) := by decide +kernel
theorem dX10_feed_55 : decode cX10_feed 55 = .ok (.iload_n 3, 1) := by decide +kernel
theorem dX10_feed_56 : decode cX10_feed 56 = .ok (.iastore, 1) := by decide +kernel
theorem dX10_feed_57 : decode cX10_feed 57 = .ok (.aload_n 0, 1) := by decide +kernel
theorem dX10_feed_58 : decode cX10_feed 58 = .ok (.getfield 9, 3) := by decide +kernel
theorem dX10_feed_61 : decode cX10_feed 61 = .ok (.iload 6, 2) := by decide +kernel
theorem dX10_feed_63 : decode cX10_feed 63 = .ok (.iconst 3, 1) := by decide +kernel
theorem dX10_feed_64 : decode cX10_feed 64 = .ok (.iadd, 1) := by decide +kernel
theorem dX10_feed_65 : decode cX10_feed 65 = .ok (.iload 4, 2) := by decide +kernel
theorem dX10_feed_67 : decode cX10_feed 67 = .ok (.iastore, 1) := by decide +kernel
theorem dX10_feed_68 : decode cX10_feed 68 = .ok (.aload_n 0, 1) := by decide +kernel
theorem dX10_feed_69 : decode cX10_feed 69 = .ok (.getfield 9, 3) := by decide +kernel
theorem dX10_feed_72 : decode cX10_feed 72 = .ok (.iload 6, 2) := by decide +kernel
theorem dX10_feed_74 : decode cX10_feed 74 = .ok (.iconst 4, 1) := by decide +kernel
theorem dX10_feed_75 : decode cX10_feed 75 = .ok (.iadd, 1) := by decide +kernel
theorem dX10_feed_76 : decode cX10_feed 76 = .ok (.iload 5, 2) := by decide +kernel
theorem dX10_feed_78 : decode cX10_feed 78 = .ok (.iastore, 1) := by decide +kernel
theorem dX10_feed_79 : decode cX10_feed 79 = .ok (.aload_n 0, 1) := by decide +kernel
theorem dX10_feed_80 : decode cX10_feed 80 = .ok (.dup, 1) := by decide +kernel
theorem dX10_feed_81 : decode cX10_feed 81 = .ok (.getfield 75, 3) := by decide +kernel
theorem dX10_feed_84 : decode cX10_feed 84 = .ok (.bipush 20, 2) := by decide +kernel
theorem dX10_feed_86 : decode cX10_feed 86 = .ok (.iadd, 1) := by decide +kernel
theorem dX10_feed_87 : decode cX10_feed 87 = .ok (.putfield 75, 3) := by decide +kernel
theorem dX10_feed_90 : decode cX10_feed 90 = .ok (.aload_n 0, 1) := by decide +kernel
theorem dX10_feed_91 : decode cX10_feed 91 = .ok (.dup, 1) := by decide +kernel
theorem dX10_feed_92 : decode cX10_feed 92 = .ok (.getfield 78, 3) := by decide +kernel
theorem dX10_feed_95 : decode cX10_feed 95 = .ok (.bipush 20, 2) := by decide +kernel
theorem dX10_feed_97 : decode cX10_feed 97 = .ok (.iadd, 1) := by decide +kernel
theorem dX10_feed_98 : decode cX10_feed 98 = .ok (.putfield 78, 3) := by decide +kernel
theorem dX10_feed_101 : decode cX10_feed 101 = .ok (.aload_n 0, 1) := by decide +kernel
theorem dX10_feed_102 : decode cX10_feed 102 = .ok (.getfield 75, 3) := by decide +kernel
theorem dX10_feed_105 : decode cX10_feed 105 = .ok (.ireturn, 1) := by decide +kernel
theorem dX10_end_0 : decode cX10_end 0 = .ok (.iload_n 1, 1) := by decide +kernel
theorem dX10_end_1 : decode cX10_end 1 = .ok (.ifCond .lt 11, 3) := by decide +kernel
theorem dX10_end_4 : decode cX10_end 4 = .ok (.iload_n 1, 1) := by decide +kernel
theorem dX10_end_5 : decode cX10_end 5 = .ok (.aload_n 0, 1) := by decide +kernel
theorem dX10_end_6 : decode cX10_end 6 = .ok (.getfield 75, 3) := by decide +kernel
theorem dX10_end_9 : decode cX10_end 9 = .ok (.if_icmp .le 5, 3) := by decide +kernel
theorem dX10_end_12 : decode cX10_end 12 = .ok (.iconst 0, 1) := by decide +kernel
theorem dX10_end_13 : decode cX10_end 13 = .ok (.ireturn, 1) := by decide +kernel
theorem dX10_end_14 : decode cX10_end 14 = .ok (.aload_n 0, 1) := by decide +kernel
theorem dX10_end_15 : decode cX10_end 15 = .ok (.getfield 23, 3) := by decide +kernel
theorem dX10_end_18 : decode cX10_end 18 = .ok (.aload_n 0, 1) := by decide +kernel
theorem dX10_end_19 : decode cX10_end 19 = .ok (.getfield 9, 3) := by decide +kernel
theorem dX10_end_22 : decode cX10_end 22 = .ok (.iload_n 1, 1) := by decide +kernel
theorem dX10_end_23 : decode cX10_end 23 = .ok (.invokevirtual 82, 3) := by decide +kernel
theorem dX10_end_26 : decode cX10_end 26 = .ok (.aload_n 0, 1) := by decide +kernel
theorem dX10_end_27 : decode cX10_end 27 = .ok (.iconst 0, 1) := by decide +kernel
theorem dX10_end_28 : decode cX10_end 28 = .ok (.putfield 75, 3) := by decide +kernel
theorem dX10_end_31 : decode cX10_end 31 = .ok (.iconst 1, 1) := by decide +kernel
theorem dX10_end_32 : decode cX10_end 32 = .ok (.ireturn, 1) := by decide +kernel
theorem dX10_load_0 : decode cX10_load 0 = .ok (.iconst 1, 1) := by decide +kernel
theorem dX10_load_1 : decode cX10_load 1 = .ok (.istore_n 1, 1) := by decide +kernel
theorem dX10_load_2 : decode cX10_load 2 = .ok (.aload_n 0, 1) := by decide +kernel
theorem dX10_load_3 : decode cX10_load 3 = .ok (.aload_n 0, 1) := by decide +kernel
theorem dX10_load_4 : decode cX10_load 4 = .ok (.getfield 23, 3) := by decide +kernel
theorem dX10_load_7 : decode cX10_load 7 = .ok (.invokevirtual 86, 3) := by decide +kernel
theorem dX10_load_10 : decode cX10_load 10 = .ok (.ifCond .eq 7, 3) := by decide +kernel
theorem dX10_load_13 : decode cX10_load 13 = .ok (.iconst (-1), 1) := by decide +kernel
theorem dX10_load_14 : decode cX10_load 14 = .ok (.goto 10, 3) := by decide +kernel
theorem dX10_load_17 : decode cX10_load 17 = .ok (.aload_n 0, 1) := by decide +kernel
theorem dX10_load_18 : decode cX10_load 18 = .ok (.getfield 23, 3) := by decide +kernel
theorem dX10_load_21 : decode cX10_load 21 = .ok (.getfield 90, 3) := by decide +kernel
theorem dX10_load_24 : decode cX10_load 24 = .ok (.putfield 13, 3) := by decide +kernel
theorem dX10_load_27 : decode cX10_load 27 = .ok (.aload_n 0, 1) := by decide +kernel
theorem dX10_load_28 : decode cX10_load 28 = .ok (.getfield 13, 3) := by decide +kernel
theorem dX10_load_31 : decode cX10_load 31 = .ok (.iconst (-1), 1) := by decide +kernel
theorem dX10_load_32 : decode cX10_load 32 = .ok (.if_icmp .ne 16, 3) := by decide +kernel
theorem dX10_load_35 : decode cX10_load 35 = .ok (.iconst 2, 1) := by decide +kernel
theorem dX10_load_36 : decode cX10_load 36 = .ok (.istore_n 1, 1) := by decide +kernel
theorem dX10_load_37 : decode cX10_load 37 = .ok (.aload_n 0, 1) := by decide +kernel
theorem dX10_load_38 : decode cX10_load 38 = .ok (.aload_n 0, 1) := by decide +kernel
theorem dX10_load_39 : decode cX10_load 39 = .ok (.getfield 32, 3) := by decide +kernel
theorem dX10_load_42 : decode cX10_load 42 = .ok (.invokevirtual 93, 3) := by decide +kernel
theorem dX10_load_45 : decode cX10_load 45 = .ok (.putfield 13, 3) := by decide +kernel
theorem dX10_load_48 : decode cX10_load 48 = .ok (.aload_n 0, 1) := by decide +kernel
theorem dX10_load_49 : decode cX10_load 49 = .ok (.getfield 13, 3) := by decide +kernel
theorem dX10_load_52 : decode cX10_load 52 = .ok (.iconst (-1), 1) := by decide +kernel
theorem dX10_load_53 : decode cX10_load 53 = .ok (.if_icmp .ne 13, 3) := by decide +kernel
theorem dX10_load_56 : decode cX10_load 56 = .ok (.iconst 3, 1) := by decide +kernel
theorem dX10_load_57 : decode cX10_load 57 = .ok (.istore_n 1, 1) := by decide +kernel
theorem dX10_load_58 : decode cX10_load 58 = .ok (.aload_n 0, 1) := by decide +kernel
theorem dX10_load_59 : decode cX10_load 59 = .ok (.aload_n 0, 1) := by decide +kernel
theorem dX10_load_60 : decode cX10_load 60 = .ok (.invokevirtual 97, 3) := by decide +kernel
theorem dX10_load_63 : decode cX10_load 63 = .ok (.putfield 13, 3) := by decide +kernel
theorem dX10_load_66 : decode cX10_load 66 = .ok (.aload_n 0, 1) := by decide +kernel
theorem dX10_load_67 : decode cX10_load 67 = .ok (.getfield 13, 3) := by decide +kernel
theorem dX10_load_70 : decode cX10_load 70 = .ok (.iconst (-1), 1) := by decide +kernel
theorem dX10_load_71 : decode cX10_load 71 = .ok (.if_icmp .ne 13, 3) := by decide +kernel
theorem dX10_load_74 : decode cX10_load 74 = .ok (.iconst 4, 1) := by decide +kernel
theorem dX10_load_75 : decode cX10_load 75 = .ok (.istore_n 1, 1) := by decide +kernel
theorem dX10_load_76 : decode cX10_load 76 = .ok (.aload_n 0, 1) := by decide +kernel
theorem dX10_load_77 : decode cX10_load 77 = .ok (.aload_n 0, 1) := by decide +kernel
theorem dX10_load_78 : decode cX10_load 78 = .ok (.invokevirtual 100, 3) := by decide +kernel
theorem dX10_load_81 : decode cX10_load 81 = .ok (.putfield 13, 3) := by decide +kernel
theorem dX10_load_84 : decode cX10_load 84 = .ok (.aload_n 0, 1) := by decide +kernel
theorem dX10_load_85 : decode cX10_load 85 = .ok (.getfield 23, 3) := by decide +kernel
theorem dX10_load_88 : decode cX10_load 88 = .ok (.invokevirtual 103, 3) := by decide +kernel
theorem dX10_load_91 : decode cX10_load 91 = .ok (.aload_n 0, 1) := by decide +kernel
theorem dX10_load_92 : decode cX10_load 92 = .ok (.getfield 13, 3) := by decide +kernel
theorem dX10_load_95 : decode cX10_load 95 = .ok (.iconst (-1), 1) := by decide +kernel
theorem dX10_load_96 : decode cX10_load 96 = .ok (.if_icmp .ne 9, 3) := by decide +kernel
theorem dX10_load_99 : decode cX10_load 99 = .ok (.iconst 0, 1) := by decide +kernel
theorem dX10_load_100 : decode cX10_load 100 = .ok (.istore_n 1, 1) := by decide +kernel
theorem dX10_load_101 : decode cX10_load 101 = .ok (.aload_n 0, 1) := by decide +kernel
theorem dX10_load_102 : decode cX10_load 102 = .ok (.invokevirtual 106, 3) := by decide +kernel
theorem dX10_load_105 : decode cX10_load 105 = .ok (.iload_n 1, 1) := by decide +kernel
theorem dX10_load_106 : decode cX10_load 106 = .ok (.ireturn, 1) := by decide +kernel
theorem dX10_nameFault_0 : decode cX10_nameFault 0 = .ok (.aload_n 0, 1) := by decide +kernel
theorem dX10_nameFault_1 : decode cX10_nameFault 1 = .ok (.getfield 41, 3) := by decide +kernel
theorem dX10_nameFault_4 : decode cX10_nameFault 4 = .ok (.aload_n 0, 1) := by decide +kernel
theorem dX10_nameFault_5 : decode cX10_nameFault 5 = .ok (.getfield 72, 3) := by decide +kernel
theorem dX10_nameFault_8 : decode cX10_nameFault 8 = .ok (.invokevirtual 109, 3) := by decide +kernel
theorem dX10_nameFault_11 : decode cX10_nameFault 11 = .ok (.aload_n 0, 1) := by decide +kernel
theorem dX10_nameFault_12 : decode cX10_nameFault 12 = .ok (.getfield 41, 3) := by decide +kernel
theorem dX10_nameFault_15 : decode cX10_nameFault 15 = .ok (.invokevirtual 112, 3) := by decide +kernel
theorem dX10_nameFault_18 : decode cX10_nameFault 18 = .ok (.istore_n 1, 1) := by decide +kernel
theorem dX10_nameFault_19 : decode cX10_nameFault 19 = .ok (.iload_n 1, 1) := by decide +kernel
theorem dX10_nameFault_20 : decode cX10_nameFault 20 = .ok (.iconst (-1), 1) := by decide +kernel
theorem dX10_nameFault_21 : decode cX10_nameFault 21 = .ok (.if_icmp .ne 11, 3) := by decide +kernel
theorem dX10_nameFault_24 : decode cX10_nameFault 24 = .ok (.aload_n 0, 1) := by decide +kernel
theorem dX10_nameFault_25 : decode cX10_nameFault 25 = .ok (.getfield 41, 3) := by decide +kernel
theorem dX10_nameFault_28 : decode cX10_nameFault 28 = .ok (.invokevirtual 115, 3) := by decide +kernel
theorem dX10_nameFault_31 : decode cX10_nameFault 31 = .ok (.istore_n 1, 1) := by decide +kernel
theorem dX10_nameFault_32 : decode cX10_nameFault 32 = .ok (.iload_n 1, 1) := by decide +kernel
theorem dX10_nameFault_33 : decode cX10_nameFault 33 = .ok (.iconst (-1), 1) := by decide +kernel
theorem dX10_nameFault_34 : decode cX10_nameFault 34 = .ok (.if_icmp .ne 11, 3) := by decide +kernel
theorem dX10_nameFault_37 : decode cX10_nameFault 37 = .ok (.aload_n 0, 1) := by decide +kernel
theorem dX10_nameFault_38 : decode cX10_nameFault 38 = .ok (.getfield 41, 3) := by decide +kernel
theorem dX10_nameFault_41 : decode cX10_nameFault 41 = .ok (.invokevirtual 118, 3) := by decide +kernel
theorem dX10_nameFault_44 : decode cX10_nameFault 44 = .ok (.istore_n 1, 1) := by decide +kernel
theorem dX10_nameFault_45 : decode cX10_nameFault 45 = .ok (.iload_n 1, 1) := by decide +kernel
theorem dX10_nameFault_46 : decode cX10_nameFault 46 = .ok (.iconst (-1), 1) := by decide +kernel
theorem dX10_nameFault_47 : decode cX10_nameFault 47 = .ok (.if_icmp .ne 13, 3) := by decide +kernel
theorem dX10_nameFault_50 : decode cX10_nameFault 50 = .ok (.aload_n 0, 1) := by decide +kernel
theorem dX10_nameFault_51 : decode cX10_nameFault 51 = .ok (.getfield 41, 3) := by decide +kernel
theorem dX10_nameFault_54 : decode cX10_nameFault 54 = .ok (.invokevirtual 121, 3) := by decide +kernel
theorem dX10_nameFault_57 : decode cX10_nameFault 57 = .ok (.goto 4, 3) := by decide +kernel
theorem dX10_nameFault_60 : decode cX10_nameFault 60 = .ok (.iload_n 1, 1) := by decide +kernel
theorem dX10_nameFault_61 : decode cX10_nameFault 61 = .ok (.ireturn, 1) := by decide +kernel
theorem dX10_typeFault_0 : decode cX10_typeFault 0 = .ok (.aload_n 0, 1) := by decide +kernel
theorem dX10_typeFault_1 : decode cX10_typeFault 1 = .ok (.getfield 50, 3) := by decide +kernel
theorem dX10_typeFault_4 : decode cX10_typeFault 4 = .ok (.aload_n 0, 1) := by decide +kernel
theorem dX10_typeFault_5 : decode cX10_typeFault 5 = .ok (.getfield 72, 3) := by decide +kernel
theorem dX10_typeFault_8 : decode cX10_typeFault 8 = .ok (.invokevirtual 124, 3) := by decide +kernel
theorem dX10_typeFault_11 : decode cX10_typeFault 11 = .ok (.aload_n 0, 1) := by decide +kernel
theorem dX10_typeFault_12 : decode cX10_typeFault 12 = .ok (.getfield 57, 3) := by decide +kernel
theorem dX10_typeFault_15 : decode cX10_typeFault 15 = .ok (.aload_n 0, 1) := by decide +kernel
theorem dX10_typeFault_16 : decode cX10_typeFault 16 = .ok (.getfield 72, 3) := by decide +kernel
theorem dX10_typeFault_19 : decode cX10_typeFault 19 = .ok (.invokevirtual 125, 3) := by decide +kernel
theorem dX10_typeFault_22 : decode cX10_typeFault 22 = .ok (.iconst 0, 1) := by decide +kernel
theorem dX10_typeFault_23 : decode cX10_typeFault 23 = .ok (.istore_n 1, 1) := by decide +kernel
theorem dX10_typeFault_24 : decode cX10_typeFault 24 = .ok (.iload_n 1, 1) := by decide +kernel
theorem dX10_typeFault_25 : decode cX10_typeFault 25 = .ok (.aload_n 0, 1) := by decide +kernel
theorem dX10_typeFault_26 : decode cX10_typeFault 26 = .ok (.getfield 72, 3) := by decide +kernel
theorem dX10_typeFault_29 : decode cX10_typeFault 29 = .ok (.getfield 126, 3) := by decide +kernel
theorem dX10_typeFault_32 : decode cX10_typeFault 32 = .ok (.if_icmp .ge 50, 3) := by decide +kernel
theorem dX10_typeFault_35 : decode cX10_typeFault 35 = .ok (.aload_n 0, 1) := by decide +kernel
theorem dX10_typeFault_36 : decode cX10_typeFault 36 = .ok (.getfield 50, 3) := by decide +kernel
theorem dX10_typeFault_39 : decode cX10_typeFault 39 = .ok (.iload_n 1, 1) := by decide +kernel
theorem dX10_typeFault_40 : decode cX10_typeFault 40 = .ok (.invokevirtual 129, 3) := by decide +kernel
theorem dX10_typeFault_43 : decode cX10_typeFault 43 = .ok (.istore_n 2, 1) := by decide +kernel
theorem dX10_typeFault_44 : decode cX10_typeFault 44 = .ok (.iload_n 2, 1) := by decide +kernel
theorem dX10_typeFault_45 : decode cX10_typeFault 45 = .ok (.iconst (-1), 1) := by decide +kernel
theorem dX10_typeFault_46 : decode cX10_typeFault 46 = .ok (.if_icmp .ne 12, 3) := by decide +kernel
theorem dX10_typeFault_49 : decode cX10_typeFault 49 = .ok (.aload_n 0, 1) := by decide +kernel
theorem dX10_typeFault_50 : decode cX10_typeFault 50 = .ok (.getfield 57, 3) := by decide +kernel
theorem dX10_typeFault_53 : decode cX10_typeFault 53 = .ok (.iload_n 1, 1) := by decide +kernel
theorem dX10_typeFault_54 : decode cX10_typeFault 54 = .ok (.invokevirtual 132, 3) := by decide +kernel
theorem dX10_typeFault_57 : decode cX10_typeFault 57 = .ok (.istore_n 2, 1) := by decide +kernel
theorem dX10_typeFault_58 : decode cX10_typeFault 58 = .ok (.iload_n 2, 1) := by decide +kernel
theorem dX10_typeFault_59 : decode cX10_typeFault 59 = .ok (.iconst (-1), 1) := by decide +kernel
theorem dX10_typeFault_60 : decode cX10_typeFault 60 = .ok (.if_icmp .eq 16, 3) := by decide +kernel
theorem dX10_typeFault_63 : decode cX10_typeFault 63 = .ok (.aload_n 0, 1) := by decide +kernel
theorem dX10_typeFault_64 : decode cX10_typeFault 64 = .ok (.getfield 72, 3) := by decide +kernel
theorem dX10_typeFault_67 : decode cX10_typeFault 67 = .ok (.getfield 133, 3) := by decide +kernel
theorem dX10_typeFault_70 : decode cX10_typeFault 70 = .ok (.getfield 137, 3) := by decide +kernel
theorem dX10_typeFault_73 : decode cX10_typeFault 73 = .ok (.iload_n 2, 1) := by decide +kernel
theorem dX10_typeFault_74 : decode cX10_typeFault 74 = .ok (.iaload, 1) := by decide +kernel
theorem dX10_typeFault_75 : decode cX10_typeFault 75 = .ok (.ireturn, 1) := by decide +kernel
theorem dX10_typeFault_76 : decode cX10_typeFault 76 = .ok (.iinc 1 1, 3) := by decide +kernel
theorem dX10_typeFault_79 : decode cX10_typeFault 79 = .ok (.goto (-55), 3) := by decide +kernel
theorem dX10_typeFault_82 : decode cX10_typeFault 82 = .ok (.iconst (-1), 1) := by decide +kernel
theorem dX10_typeFault_83 : decode cX10_typeFault 83 = .ok (.ireturn, 1) := by decide +kernel
theorem dX10_takeSpare_0 : decode cX10_takeSpare 0 = .ok (.aload_n 0, 1) := by decide +kernel
theorem dX10_takeSpare_1 : decode cX10_takeSpare 1 = .ok (.getfield 68, 3) := by decide +kernel
theorem dX10_takeSpare_4 : decode cX10_takeSpare 4 = .ok (.astore_n 1, 1) := by decide +kernel
theorem dX10_takeSpare_5 : decode cX10_takeSpare 5 = .ok (.aload_n 0, 1) := by decide +kernel
theorem dX10_takeSpare_6 : decode cX10_takeSpare 6 = .ok (.aload_n 0, 1) := by decide +kernel
theorem dX10_takeSpare_7 : decode cX10_takeSpare 7 = .ok (.getfield 72, 3) := by decide +kernel
theorem dX10_takeSpare_10 : decode cX10_takeSpare 10 = .ok (.putfield 68, 3) := by decide +kernel
theorem dX10_takeSpare_13 : decode cX10_takeSpare 13 = .ok (.aload_n 0, 1) := by decide +kernel
theorem dX10_takeSpare_14 : decode cX10_takeSpare 14 = .ok (.aload_n 1, 1) := by decide +kernel
theorem dX10_takeSpare_15 : decode cX10_takeSpare 15 = .ok (.putfield 72, 3) := by decide +kernel
theorem dX10_takeSpare_18 : decode cX10_takeSpare 18 = .ok (.aload_n 0, 1) := by decide +kernel
theorem dX10_takeSpare_19 : decode cX10_takeSpare 19 = .ok (.iconst 1, 1) := by decide +kernel
theorem dX10_takeSpare_20 : decode cX10_takeSpare 20 = .ok (.putfield 142, 3) := by decide +kernel
theorem dX10_takeSpare_23 : decode cX10_takeSpare 23 = .ok (.return_, 1) := by decide +kernel
theorem dX10_faultAt_0 : decode cX10_faultAt 0 = .ok (.aload_n 0, 1) := by decide +kernel
theorem dX10_faultAt_1 : decode cX10_faultAt 1 = .ok (.getfield 13, 3) := by decide +kernel
theorem dX10_faultAt_4 : decode cX10_faultAt 4 = .ok (.ireturn, 1) := by decide +kernel
theorem dX10_size_0 : decode cX10_size 0 = .ok (.aload_n 0, 1) := by decide +kernel
theorem dX10_size_1 : decode cX10_size 1 = .ok (.getfield 142, 3) := by decide +kernel
theorem dX10_size_4 : decode cX10_size 4 = .ok (.ifCond .ne 5, 3) := by decide +kernel
theorem dX10_size_7 : decode cX10_size 7 = .ok (.iconst (-1), 1) := by decide +kernel
theorem dX10_size_8 : decode cX10_size 8 = .ok (.ireturn, 1) := by decide +kernel
theorem dX10_size_9 : decode cX10_size 9 = .ok (.iload_n 1, 1) := by decide +kernel
theorem dX10_size_10 : decode cX10_size 10 = .ok (.tableswitch 104 0 5 #[38, 49, 60, 68, 79, 93], 38) := by decide +kernel
theorem dX10_size_48 : decode cX10_size 48 = .ok (.aload_n 0, 1) := by decide +kernel
theorem dX10_size_49 : decode cX10_size 49 = .ok (.getfield 68, 3) := by decide +kernel
theorem dX10_size_52 : decode cX10_size 52 = .ok (.getfield 133, 3) := by decide +kernel
theorem dX10_size_55 : decode cX10_size 55 = .ok (.getfield 146, 3) := by decide +kernel
theorem dX10_size_58 : decode cX10_size 58 = .ok (.ireturn, 1) := by decide +kernel
theorem dX10_size_59 : decode cX10_size 59 = .ok (.aload_n 0, 1) := by decide +kernel
theorem dX10_size_60 : decode cX10_size 60 = .ok (.getfield 68, 3) := by decide +kernel
theorem dX10_size_63 : decode cX10_size 63 = .ok (.getfield 133, 3) := by decide +kernel
theorem dX10_size_66 : decode cX10_size 66 = .ok (.getfield 149, 3) := by decide +kernel
theorem dX10_size_69 : decode cX10_size 69 = .ok (.ireturn, 1) := by decide +kernel
theorem dX10_size_70 : decode cX10_size 70 = .ok (.aload_n 0, 1) := by decide +kernel
theorem dX10_size_71 : decode cX10_size 71 = .ok (.getfield 68, 3) := by decide +kernel
theorem dX10_size_74 : decode cX10_size 74 = .ok (.getfield 126, 3) := by decide +kernel
theorem dX10_size_77 : decode cX10_size 77 = .ok (.ireturn, 1) := by decide +kernel
theorem dX10_size_78 : decode cX10_size 78 = .ok (.aload_n 0, 1) := by decide +kernel
theorem dX10_size_79 : decode cX10_size 79 = .ok (.getfield 68, 3) := by decide +kernel
theorem dX10_size_82 : decode cX10_size 82 = .ok (.getfield 152, 3) := by decide +kernel
theorem dX10_size_85 : decode cX10_size 85 = .ok (.getfield 156, 3) := by decide +kernel
theorem dX10_size_88 : decode cX10_size 88 = .ok (.ireturn, 1) := by decide +kernel
theorem dX10_size_89 : decode cX10_size 89 = .ok (.aload_n 0, 1) := by decide +kernel
theorem dX10_size_90 : decode cX10_size 90 = .ok (.getfield 68, 3) := by decide +kernel
theorem dX10_size_93 : decode cX10_size 93 = .ok (.getfield 152, 3) := by decide +kernel
theorem dX10_size_96 : decode cX10_size 96 = .ok (.getfield 161, 3) := by decide +kernel
theorem dX10_size_99 : decode cX10_size 99 = .ok (.bipush 8, 2) := by decide +kernel
theorem dX10_size_101 : decode cX10_size 101 = .ok (.isub, 1) := by decide +kernel
theorem dX10_size_102 : decode cX10_size 102 = .ok (.ireturn, 1) := by decide +kernel
theorem dX10_size_103 : decode cX10_size 103 = .ok (.aload_n 0, 1) := by decide +kernel
theorem dX10_size_104 : decode cX10_size 104 = .ok (.getfield 68, 3) := by decide +kernel
theorem dX10_size_107 : decode cX10_size 107 = .ok (.getfield 133, 3) := by decide +kernel
theorem dX10_size_110 : decode cX10_size 110 = .ok (.getfield 162, 3) := by decide +kernel
theorem dX10_size_113 : decode cX10_size 113 = .ok (.ireturn, 1) := by decide +kernel
theorem dX10_size_114 : decode cX10_size 114 = .ok (.iconst (-1), 1) := by decide +kernel
theorem dX10_size_115 : decode cX10_size 115 = .ok (.ireturn, 1) := by decide +kernel
theorem dX10_height_0 : decode cX10_height 0 = .ok (.aload_n 0, 1) := by decide +kernel
theorem dX10_height_1 : decode cX10_height 1 = .ok (.getfield 142, 3) := by decide +kernel
theorem dX10_height_4 : decode cX10_height 4 = .ok (.ifCond .eq 21, 3) := by decide +kernel
theorem dX10_height_7 : decode cX10_height 7 = .ok (.iload_n 1, 1) := by decide +kernel
theorem dX10_height_8 : decode cX10_height 8 = .ok (.ifCond .lt 17, 3) := by decide +kernel
theorem dX10_height_11 : decode cX10_height 11 = .ok (.iload_n 1, 1) := by decide +kernel
theorem dX10_height_12 : decode cX10_height 12 = .ok (.aload_n 0, 1) := by decide +kernel
theorem dX10_height_13 : decode cX10_height 13 = .ok (.getfield 68, 3) := by decide +kernel
theorem dX10_height_16 : decode cX10_height 16 = .ok (.getfield 133, 3) := by decide +kernel
theorem dX10_height_19 : decode cX10_height 19 = .ok (.getfield 146, 3) := by decide +kernel
theorem dX10_height_22 : decode cX10_height 22 = .ok (.if_icmp .lt 5, 3) := by decide +kernel
theorem dX10_height_25 : decode cX10_height 25 = .ok (.iconst (-1), 1) := by decide +kernel
theorem dX10_height_26 : decode cX10_height 26 = .ok (.ireturn, 1) := by decide +kernel
theorem dX10_height_27 : decode cX10_height 27 = .ok (.aload_n 0, 1) := by decide +kernel
theorem dX10_height_28 : decode cX10_height 28 = .ok (.getfield 68, 3) := by decide +kernel
theorem dX10_height_31 : decode cX10_height 31 = .ok (.getfield 133, 3) := by decide +kernel
theorem dX10_height_34 : decode cX10_height 34 = .ok (.getfield 165, 3) := by decide +kernel
theorem dX10_height_37 : decode cX10_height 37 = .ok (.iload_n 1, 1) := by decide +kernel
theorem dX10_height_38 : decode cX10_height 38 = .ok (.iaload, 1) := by decide +kernel
theorem dX10_height_39 : decode cX10_height 39 = .ok (.ireturn, 1) := by decide +kernel
theorem dX10_input_0 : decode cX10_input 0 = .ok (.aload_n 0, 1) := by decide +kernel
theorem dX10_input_1 : decode cX10_input 1 = .ok (.getfield 64, 3) := by decide +kernel
theorem dX10_input_4 : decode cX10_input 4 = .ok (.iload_n 1, 1) := by decide +kernel
theorem dX10_input_5 : decode cX10_input 5 = .ok (.invokevirtual 168, 3) := by decide +kernel
theorem dX10_input_8 : decode cX10_input 8 = .ok (.ireturn, 1) := by decide +kernel
theorem dX10_run_0 : decode cX10_run 0 = .ok (.aload_n 0, 1) := by decide +kernel
theorem dX10_run_1 : decode cX10_run 1 = .ok (.getfield 142, 3) := by decide +kernel
theorem dX10_run_4 : decode cX10_run 4 = .ok (.ifCond .eq 14, 3) := by decide +kernel
theorem dX10_run_7 : decode cX10_run 7 = .ok (.iload_n 1, 1) := by decide +kernel
theorem dX10_run_8 : decode cX10_run 8 = .ok (.ifCond .lt 10, 3) := by decide +kernel
theorem dX10_run_11 : decode cX10_run 11 = .ok (.iload_n 1, 1) := by decide +kernel
theorem dX10_run_12 : decode cX10_run 12 = .ok (.sipush 20000, 3) := by decide +kernel
theorem dX10_run_15 : decode cX10_run 15 = .ok (.if_icmp .le 5, 3) := by decide +kernel
theorem dX10_run_18 : decode cX10_run 18 = .ok (.iconst (-1), 1) := by decide +kernel
theorem dX10_run_19 : decode cX10_run 19 = .ok (.ireturn, 1) := by decide +kernel
theorem dX10_run_20 : decode cX10_run 20 = .ok (.aload_n 0, 1) := by decide +kernel
theorem dX10_run_21 : decode cX10_run 21 = .ok (.getfield 64, 3) := by decide +kernel
theorem dX10_run_24 : decode cX10_run 24 = .ok (.aload_n 0, 1) := by decide +kernel
theorem dX10_run_25 : decode cX10_run 25 = .ok (.getfield 68, 3) := by decide +kernel
theorem dX10_run_28 : decode cX10_run 28 = .ok (.iload_n 1, 1) := by decide +kernel
theorem dX10_run_29 : decode cX10_run 29 = .ok (.invokevirtual 172, 3) := by decide +kernel
theorem dX10_run_32 : decode cX10_run 32 = .ok (.ireturn, 1) := by decide +kernel
theorem dX10_steps_0 : decode cX10_steps 0 = .ok (.aload_n 0, 1) := by decide +kernel
theorem dX10_steps_1 : decode cX10_steps 1 = .ok (.getfield 64, 3) := by decide +kernel
theorem dX10_steps_4 : decode cX10_steps 4 = .ok (.getfield 176, 3) := by decide +kernel
theorem dX10_steps_7 : decode cX10_steps 7 = .ok (.ireturn, 1) := by decide +kernel
theorem dX10_place_0 : decode cX10_place 0 = .ok (.aload_n 0, 1) := by decide +kernel
theorem dX10_place_1 : decode cX10_place 1 = .ok (.getfield 64, 3) := by decide +kernel
theorem dX10_place_4 : decode cX10_place 4 = .ok (.getfield 179, 3) := by decide +kernel
theorem dX10_place_7 : decode cX10_place 7 = .ok (.ireturn, 1) := by decide +kernel
theorem dX10_thrown_0 : decode cX10_thrown 0 = .ok (.aload_n 0, 1) := by decide +kernel
theorem dX10_thrown_1 : decode cX10_thrown 1 = .ok (.getfield 64, 3) := by decide +kernel
theorem dX10_thrown_4 : decode cX10_thrown 4 = .ok (.getfield 182, 3) := by decide +kernel
theorem dX10_thrown_7 : decode cX10_thrown 7 = .ok (.ireturn, 1) := by decide +kernel
theorem dX10_made_0 : decode cX10_made 0 = .ok (.iload_n 1, 1) := by decide +kernel
theorem dX10_made_1 : decode cX10_made 1 = .ok (.lookupswitch 49 #[(0, 27), (1, 38)], 27) := by decide +kernel
theorem dX10_made_28 : decode cX10_made 28 = .ok (.aload_n 0, 1) := by decide +kernel
theorem dX10_made_29 : decode cX10_made 29 = .ok (.getfield 64, 3) := by decide +kernel
theorem dX10_made_32 : decode cX10_made 32 = .ok (.getfield 185, 3) := by decide +kernel
theorem dX10_made_35 : decode cX10_made 35 = .ok (.getfield 189, 3) := by decide +kernel
theorem dX10_made_38 : decode cX10_made 38 = .ok (.ireturn, 1) := by decide +kernel
theorem dX10_made_39 : decode cX10_made 39 = .ok (.aload_n 0, 1) := by decide +kernel
theorem dX10_made_40 : decode cX10_made 40 = .ok (.getfield 64, 3) := by decide +kernel
theorem dX10_made_43 : decode cX10_made 43 = .ok (.getfield 185, 3) := by decide +kernel
theorem dX10_made_46 : decode cX10_made 46 = .ok (.getfield 194, 3) := by decide +kernel
theorem dX10_made_49 : decode cX10_made 49 = .ok (.ireturn, 1) := by decide +kernel
theorem dX10_made_50 : decode cX10_made 50 = .ok (.iconst (-1), 1) := by decide +kernel
theorem dX10_made_51 : decode cX10_made 51 = .ok (.ireturn, 1) := by decide +kernel
theorem dX10_written_0 : decode cX10_written 0 = .ok (.aload_n 0, 1) := by decide +kernel
theorem dX10_written_1 : decode cX10_written 1 = .ok (.getfield 64, 3) := by decide +kernel
theorem dX10_written_4 : decode cX10_written 4 = .ok (.getfield 197, 3) := by decide +kernel
theorem dX10_written_7 : decode cX10_written 7 = .ok (.ireturn, 1) := by decide +kernel
theorem dX10_out_0 : decode cX10_out 0 = .ok (.iload_n 1, 1) := by decide +kernel
theorem dX10_out_1 : decode cX10_out 1 = .ok (.ifCond .lt 21, 3) := by decide +kernel
theorem dX10_out_4 : decode cX10_out 4 = .ok (.iload_n 1, 1) := by decide +kernel
theorem dX10_out_5 : decode cX10_out 5 = .ok (.aload_n 0, 1) := by decide +kernel
theorem dX10_out_6 : decode cX10_out 6 = .ok (.getfield 64, 3) := by decide +kernel
theorem dX10_out_9 : decode cX10_out 9 = .ok (.getfield 197, 3) := by decide +kernel
theorem dX10_out_12 : decode cX10_out 12 = .ok (.if_icmp .ge 10, 3) := by decide +kernel
theorem dX10_out_15 : decode cX10_out 15 = .ok (.iload_n 1, 1) := by decide +kernel
theorem dX10_out_16 : decode cX10_out 16 = .ok (.sipush 256, 3) := by decide +kernel
theorem dX10_out_19 : decode cX10_out 19 = .ok (.if_icmp .lt 5, 3) := by decide +kernel
theorem dX10_out_22 : decode cX10_out 22 = .ok (.iconst 0, 1) := by decide +kernel
theorem dX10_out_23 : decode cX10_out 23 = .ok (.ireturn, 1) := by decide +kernel
theorem dX10_out_24 : decode cX10_out 24 = .ok (.aload_n 0, 1) := by decide +kernel
theorem dX10_out_25 : decode cX10_out 25 = .ok (.getfield 64, 3) := by decide +kernel
theorem dX10_out_28 : decode cX10_out 28 = .ok (.getfield 200, 3) := by decide +kernel
theorem dX10_out_31 : decode cX10_out 31 = .ok (.iload_n 1, 1) := by decide +kernel
theorem dX10_out_32 : decode cX10_out 32 = .ok (.iaload, 1) := by decide +kernel
theorem dX10_out_33 : decode cX10_out 33 = .ok (.ireturn, 1) := by decide +kernel
theorem dX10_strays_0 : decode cX10_strays 0 = .ok (.aload_n 0, 1) := by decide +kernel
theorem dX10_strays_1 : decode cX10_strays 1 = .ok (.getfield 64, 3) := by decide +kernel
theorem dX10_strays_4 : decode cX10_strays 4 = .ok (.getfield 203, 3) := by decide +kernel
theorem dX10_strays_7 : decode cX10_strays 7 = .ok (.ireturn, 1) := by decide +kernel
