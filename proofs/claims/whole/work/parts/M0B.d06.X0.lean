theorem dX0_init_0 : decode cX0_init 0 = .ok (.aload_n 0, 1) := by decide +kernel
theorem dX0_init_1 : decode cX0_init 1 = .ok (.invokespecial 3, 3) := by decide +kernel
theorem dX0_init_4 : decode cX0_init 4 = .ok (.aload_n 0, 1) := by decide +kernel
theorem dX0_init_5 : decode cX0_init 5 = .ok (.bipush 32, 2) := by decide +kernel
theorem dX0_init_7 : decode cX0_init 7 = .ok (.newarray .int, 2) := by decide +kernel
theorem dX0_init_9 : decode cX0_init 9 = .ok (.putfield 9, 3) := by decide +kernel
theorem dX0_init_12 : decode cX0_init 12 = .ok (.aload_n 0, 1) := by decide +kernel
theorem dX0_init_13 : decode cX0_init 13 = .ok (.bipush 32, 2) := by decide +kernel
theorem dX0_init_15 : decode cX0_init 15 = .ok (.newarray .int, 2) := by decide +kernel
theorem dX0_init_17 : decode cX0_init 17 = .ok (.putfield 15, 3) := by decide +kernel
theorem dX0_init_20 : decode cX0_init 20 = .ok (.aload_n 0, 1) := by decide +kernel
theorem dX0_init_21 : decode cX0_init 21 = .ok (.bipush 32, 2) := by decide +kernel
theorem dX0_init_23 : decode cX0_init 23 = .ok (.newarray .int, 2) := by decide +kernel
theorem dX0_init_25 : decode cX0_init 25 = .ok (.putfield 18, 3) := by decide +kernel
theorem dX0_init_28 : decode cX0_init 28 = .ok (.aload_n 0, 1) := by decide +kernel
theorem dX0_init_29 : decode cX0_init 29 = .ok (.bipush 32, 2) := by decide +kernel
theorem dX0_init_31 : decode cX0_init 31 = .ok (.newarray .int, 2) := by decide +kernel
theorem dX0_init_33 : decode cX0_init 33 = .ok (.putfield 21, 3) := by decide +kernel
theorem dX0_init_36 : decode cX0_init 36 = .ok (.aload_n 0, 1) := by decide +kernel
theorem dX0_init_37 : decode cX0_init 37 = .ok (.bipush 48, 2) := by decide +kernel
theorem dX0_init_39 : decode cX0_init 39 = .ok (.newarray .int, 2) := by decide +kernel
theorem dX0_init_41 : decode cX0_init 41 = .ok (.putfield 24, 3) := by decide +kernel
theorem dX0_init_44 : decode cX0_init 44 = .ok (.aload_n 0, 1) := by decide +kernel
theorem dX0_init_45 : decode cX0_init 45 = .ok (.bipush 48, 2) := by decide +kernel
theorem dX0_init_47 : decode cX0_init 47 = .ok (.newarray .int, 2) := by decide +kernel
theorem dX0_init_49 : decode cX0_init 49 = .ok (.putfield 27, 3) := by decide +kernel
theorem dX0_init_52 : decode cX0_init 52 = .ok (.aload_n 0, 1) := by decide +kernel
theorem dX0_init_53 : decode cX0_init 53 = .ok (.bipush 48, 2) := by decide +kernel
theorem dX0_init_55 : decode cX0_init 55 = .ok (.newarray .int, 2) := by decide +kernel
theorem dX0_init_57 : decode cX0_init 57 = .ok (.putfield 30, 3) := by decide +kernel
theorem dX0_init_60 : decode cX0_init 60 = .ok (.aload_n 0, 1) := by decide +kernel
theorem dX0_init_61 : decode cX0_init 61 = .ok (.bipush 48, 2) := by decide +kernel
theorem dX0_init_63 : decode cX0_init 63 = .ok (.newarray .int, 2) := by decide +kernel
theorem dX0_init_65 : decode cX0_init 65 = .ok (.putfield 33, 3) := by decide +kernel
theorem dX0_init_68 : decode cX0_init 68 = .ok (.return_, 1) := by decide +kernel
theorem dX0_begin_0 : decode cX0_begin 0 = .ok (.aload_n 0, 1) := by decide +kernel
theorem dX0_begin_1 : decode cX0_begin 1 = .ok (.iconst 0, 1) := by decide +kernel
theorem dX0_begin_2 : decode cX0_begin 2 = .ok (.putfield 36, 3) := by decide +kernel
theorem dX0_begin_5 : decode cX0_begin 5 = .ok (.aload_n 0, 1) := by decide +kernel
theorem dX0_begin_6 : decode cX0_begin 6 = .ok (.iconst 0, 1) := by decide +kernel
theorem dX0_begin_7 : decode cX0_begin 7 = .ok (.putfield 40, 3) := by decide +kernel
theorem dX0_begin_10 : decode cX0_begin 10 = .ok (.aload_n 0, 1) := by decide +kernel
theorem dX0_begin_11 : decode cX0_begin 11 = .ok (.iconst (-1), 1) := by decide +kernel
theorem dX0_begin_12 : decode cX0_begin 12 = .ok (.iconst (-1), 1) := by decide +kernel
theorem dX0_begin_13 : decode cX0_begin 13 = .ok (.invokevirtual 43, 3) := by decide +kernel
theorem dX0_begin_16 : decode cX0_begin 16 = .ok (.aload_n 0, 1) := by decide +kernel
theorem dX0_begin_17 : decode cX0_begin 17 = .ok (.iconst (-1), 1) := by decide +kernel
theorem dX0_begin_18 : decode cX0_begin 18 = .ok (.iconst 0, 1) := by decide +kernel
theorem dX0_begin_19 : decode cX0_begin 19 = .ok (.invokevirtual 43, 3) := by decide +kernel
theorem dX0_begin_22 : decode cX0_begin 22 = .ok (.iconst 2, 1) := by decide +kernel
theorem dX0_begin_23 : decode cX0_begin 23 = .ok (.istore_n 1, 1) := by decide +kernel
theorem dX0_begin_24 : decode cX0_begin 24 = .ok (.iload_n 1, 1) := by decide +kernel
theorem dX0_begin_25 : decode cX0_begin 25 = .ok (.bipush 8, 2) := by decide +kernel
theorem dX0_begin_27 : decode cX0_begin 27 = .ok (.if_icmp .ge 15, 3) := by decide +kernel
theorem dX0_begin_30 : decode cX0_begin 30 = .ok (.aload_n 0, 1) := by decide +kernel
theorem dX0_begin_31 : decode cX0_begin 31 = .ok (.iconst (-1), 1) := by decide +kernel
theorem dX0_begin_32 : decode cX0_begin 32 = .ok (.iconst 1, 1) := by decide +kernel
theorem dX0_begin_33 : decode cX0_begin 33 = .ok (.invokevirtual 43, 3) := by decide +kernel
theorem dX0_begin_36 : decode cX0_begin 36 = .ok (.iinc 1 1, 3) := by decide +kernel
theorem dX0_begin_39 : decode cX0_begin 39 = .ok (.goto (-15), 3) := by decide +kernel
theorem dX0_begin_42 : decode cX0_begin 42 = .ok (.return_, 1) := by decide +kernel
theorem dX0_addClass_0 : decode cX0_addClass 0 = .ok (.aload_n 0, 1) := by decide +kernel
theorem dX0_addClass_1 : decode cX0_addClass 1 = .ok (.getfield 40, 3) := by decide +kernel
theorem dX0_addClass_4 : decode cX0_addClass 4 = .ok (.bipush 32, 2) := by decide +kernel
theorem dX0_addClass_6 : decode cX0_addClass 6 = .ok (.if_icmp .ge 81, 3) := by decide +kernel
theorem dX0_addClass_9 : decode cX0_addClass 9 = .ok (.aload_n 0, 1) := by decide +kernel
theorem dX0_addClass_10 : decode cX0_addClass 10 = .ok (.getfield 9, 3) := by decide +kernel
theorem dX0_addClass_13 : decode cX0_addClass 13 = .ok (.aload_n 0, 1) := by decide +kernel
theorem dX0_addClass_14 : decode cX0_addClass 14 = .ok (.getfield 40, 3) := by decide +kernel
theorem dX0_addClass_17 : decode cX0_addClass 17 = .ok (.iload_n 1, 1) := by decide +kernel
theorem dX0_addClass_18 : decode cX0_addClass 18 = .ok (.iastore, 1) := by decide +kernel
theorem dX0_addClass_19 : decode cX0_addClass 19 = .ok (.aload_n 0, 1) := by decide +kernel
theorem dX0_addClass_20 : decode cX0_addClass 20 = .ok (.getfield 15, 3) := by decide +kernel
theorem dX0_addClass_23 : decode cX0_addClass 23 = .ok (.aload_n 0, 1) := by decide +kernel
theorem dX0_addClass_24 : decode cX0_addClass 24 = .ok (.getfield 40, 3) := by decide +kernel
theorem dX0_addClass_27 : decode cX0_addClass 27 = .ok (.iload_n 2, 1) := by decide +kernel
theorem dX0_addClass_28 : decode cX0_addClass 28 = .ok (.iastore, 1) := by decide +kernel
theorem dX0_addClass_29 : decode cX0_addClass 29 = .ok (.aload_n 0, 1) := by decide +kernel
theorem dX0_addClass_30 : decode cX0_addClass 30 = .ok (.getfield 18, 3) := by decide +kernel
theorem dX0_addClass_33 : decode cX0_addClass 33 = .ok (.aload_n 0, 1) := by decide +kernel
theorem dX0_addClass_34 : decode cX0_addClass 34 = .ok (.getfield 40, 3) := by decide +kernel
theorem dX0_addClass_37 : decode cX0_addClass 37 = .ok (.iconst 1, 1) := by decide +kernel
theorem dX0_addClass_38 : decode cX0_addClass 38 = .ok (.aload_n 0, 1) := by decide +kernel
theorem dX0_addClass_39 : decode cX0_addClass 39 = .ok (.getfield 40, 3) := by decide +kernel
theorem dX0_addClass_42 : decode cX0_addClass 42 = .ok (.ishl, 1) := by decide +kernel
theorem dX0_addClass_43 : decode cX0_addClass 43 = .ok (.iload_n 2, 1) := by decide +kernel
theorem dX0_addClass_44 : decode cX0_addClass 44 = .ok (.ifCond .lt 20, 3) := by decide +kernel
theorem dX0_addClass_47 : decode cX0_addClass 47 = .ok (.iload_n 2, 1) := by decide +kernel
theorem dX0_addClass_48 : decode cX0_addClass 48 = .ok (.aload_n 0, 1) := by decide +kernel
theorem dX0_addClass_49 : decode cX0_addClass 49 = .ok (.getfield 40, 3) := by decide +kernel
theorem dX0_addClass_52 : decode cX0_addClass 52 = .ok (.if_icmp .ge 12, 3) := by decide +kernel
theorem dX0_addClass_55 : decode cX0_addClass 55 = .ok (.aload_n 0, 1) := by decide +kernel
theorem dX0_addClass_56 : decode cX0_addClass 56 = .ok (.getfield 18, 3) := by decide +kernel
theorem dX0_addClass_59 : decode cX0_addClass 59 = .ok (.iload_n 2, 1) := by decide +kernel
theorem dX0_addClass_60 : decode cX0_addClass 60 = .ok (.iaload, 1) := by decide +kernel
theorem dX0_addClass_61 : decode cX0_addClass 61 = .ok (.goto 4, 3) := by decide +kernel
theorem dX0_addClass_64 : decode cX0_addClass 64 = .ok (.iconst 0, 1) := by decide +kernel
theorem dX0_addClass_65 : decode cX0_addClass 65 = .ok (.ior, 1) := by decide +kernel
theorem dX0_addClass_66 : decode cX0_addClass 66 = .ok (.iastore, 1) := by decide +kernel
theorem dX0_addClass_67 : decode cX0_addClass 67 = .ok (.aload_n 0, 1) := by decide +kernel
theorem dX0_addClass_68 : decode cX0_addClass 68 = .ok (.getfield 21, 3) := by decide +kernel
theorem dX0_addClass_71 : decode cX0_addClass 71 = .ok (.aload_n 0, 1) := by decide +kernel
theorem dX0_addClass_72 : decode cX0_addClass 72 = .ok (.getfield 40, 3) := by decide +kernel
theorem dX0_addClass_75 : decode cX0_addClass 75 = .ok (.iconst 0, 1) := by decide +kernel
theorem dX0_addClass_76 : decode cX0_addClass 76 = .ok (.iastore, 1) := by decide +kernel
theorem dX0_addClass_77 : decode cX0_addClass 77 = .ok (.aload_n 0, 1) := by decide +kernel
theorem dX0_addClass_78 : decode cX0_addClass 78 = .ok (.dup, 1) := by decide +kernel
theorem dX0_addClass_79 : decode cX0_addClass 79 = .ok (.getfield 40, 3) := by decide +kernel
theorem dX0_addClass_82 : decode cX0_addClass 82 = .ok (.iconst 1, 1) := by decide +kernel
theorem dX0_addClass_83 : decode cX0_addClass 83 = .ok (.iadd, 1) := by decide +kernel
theorem dX0_addClass_84 : decode cX0_addClass 84 = .ok (.putfield 40, 3) := by decide +kernel
theorem dX0_addClass_87 : decode cX0_addClass 87 = .ok (.return_, 1) := by decide +kernel
theorem dX0_addField_0 : decode cX0_addField 0 = .ok (.aload_n 0, 1) := by decide +kernel
theorem dX0_addField_1 : decode cX0_addField 1 = .ok (.getfield 36, 3) := by decide +kernel
theorem dX0_addField_4 : decode cX0_addField 4 = .ok (.bipush 48, 2) := by decide +kernel
theorem dX0_addField_6 : decode cX0_addField 6 = .ok (.if_icmp .ge 76, 3) := by decide +kernel
theorem dX0_addField_9 : decode cX0_addField 9 = .ok (.aload_n 0, 1) := by decide +kernel
theorem dX0_addField_10 : decode cX0_addField 10 = .ok (.iload_n 1, 1) := by decide +kernel
theorem dX0_addField_11 : decode cX0_addField 11 = .ok (.invokevirtual 47, 3) := by decide +kernel
theorem dX0_addField_14 : decode cX0_addField 14 = .ok (.ifCond .eq 68, 3) := by decide +kernel
theorem dX0_addField_17 : decode cX0_addField 17 = .ok (.aload_n 0, 1) := by decide +kernel
theorem dX0_addField_18 : decode cX0_addField 18 = .ok (.getfield 24, 3) := by decide +kernel
theorem dX0_addField_21 : decode cX0_addField 21 = .ok (.aload_n 0, 1) := by decide +kernel
theorem dX0_addField_22 : decode cX0_addField 22 = .ok (.getfield 36, 3) := by decide +kernel
theorem dX0_addField_25 : decode cX0_addField 25 = .ok (.iload_n 2, 1) := by decide +kernel
theorem dX0_addField_26 : decode cX0_addField 26 = .ok (.iastore, 1) := by decide +kernel
theorem dX0_addField_27 : decode cX0_addField 27 = .ok (.aload_n 0, 1) := by decide +kernel
theorem dX0_addField_28 : decode cX0_addField 28 = .ok (.getfield 27, 3) := by decide +kernel
theorem dX0_addField_31 : decode cX0_addField 31 = .ok (.aload_n 0, 1) := by decide +kernel
theorem dX0_addField_32 : decode cX0_addField 32 = .ok (.getfield 36, 3) := by decide +kernel
theorem dX0_addField_35 : decode cX0_addField 35 = .ok (.iload_n 1, 1) := by decide +kernel
theorem dX0_addField_36 : decode cX0_addField 36 = .ok (.iastore, 1) := by decide +kernel
theorem dX0_addField_37 : decode cX0_addField 37 = .ok (.aload_n 0, 1) := by decide +kernel
theorem dX0_addField_38 : decode cX0_addField 38 = .ok (.getfield 30, 3) := by decide +kernel
theorem dX0_addField_41 : decode cX0_addField 41 = .ok (.aload_n 0, 1) := by decide +kernel
theorem dX0_addField_42 : decode cX0_addField 42 = .ok (.getfield 36, 3) := by decide +kernel
theorem dX0_addField_45 : decode cX0_addField 45 = .ok (.iload_n 3, 1) := by decide +kernel
theorem dX0_addField_46 : decode cX0_addField 46 = .ok (.iastore, 1) := by decide +kernel
theorem dX0_addField_47 : decode cX0_addField 47 = .ok (.aload_n 0, 1) := by decide +kernel
theorem dX0_addField_48 : decode cX0_addField 48 = .ok (.getfield 33, 3) := by decide +kernel
theorem dX0_addField_51 : decode cX0_addField 51 = .ok (.aload_n 0, 1) := by decide +kernel
theorem dX0_addField_52 : decode cX0_addField 52 = .ok (.getfield 36, 3) := by decide +kernel
theorem dX0_addField_55 : decode cX0_addField 55 = .ok (.aload_n 0, 1) := by decide +kernel
theorem dX0_addField_56 : decode cX0_addField 56 = .ok (.getfield 21, 3) := by decide +kernel
theorem dX0_addField_59 : decode cX0_addField 59 = .ok (.iload_n 1, 1) := by decide +kernel
theorem dX0_addField_60 : decode cX0_addField 60 = .ok (.iaload, 1) := by decide +kernel
theorem dX0_addField_61 : decode cX0_addField 61 = .ok (.iastore, 1) := by decide +kernel
theorem dX0_addField_62 : decode cX0_addField 62 = .ok (.aload_n 0, 1) := by decide +kernel
theorem dX0_addField_63 : decode cX0_addField 63 = .ok (.getfield 21, 3) := by decide +kernel
theorem dX0_addField_66 : decode cX0_addField 66 = .ok (.iload_n 1, 1) := by decide +kernel
theorem dX0_addField_67 : decode cX0_addField 67 = .ok (.dup2, 1) := by decide +kernel
theorem dX0_addField_68 : decode cX0_addField 68 = .ok (.iaload, 1) := by decide +kernel
theorem dX0_addField_69 : decode cX0_addField 69 = .ok (.iconst 1, 1) := by decide +kernel
theorem dX0_addField_70 : decode cX0_addField 70 = .ok (.iadd, 1) := by decide +kernel
theorem dX0_addField_71 : decode cX0_addField 71 = .ok (.iastore, 1) := by decide +kernel
theorem dX0_addField_72 : decode cX0_addField 72 = .ok (.aload_n 0, 1) := by decide +kernel
theorem dX0_addField_73 : decode cX0_addField 73 = .ok (.dup, 1) := by decide +kernel
theorem dX0_addField_74 : decode cX0_addField 74 = .ok (.getfield 36, 3) := by decide +kernel
theorem dX0_addField_77 : decode cX0_addField 77 = .ok (.iconst 1, 1) := by decide +kernel
theorem dX0_addField_78 : decode cX0_addField 78 = .ok (.iadd, 1) := by decide +kernel
theorem dX0_addField_79 : decode cX0_addField 79 = .ok (.putfield 36, 3) := by decide +kernel
theorem dX0_addField_82 : decode cX0_addField 82 = .ok (.return_, 1) := by decide +kernel
theorem dX0_isClass_0 : decode cX0_isClass 0 = .ok (.iload_n 1, 1) := by decide +kernel
theorem dX0_isClass_1 : decode cX0_isClass 1 = .ok (.ifCond .lt 15, 3) := by decide +kernel
theorem dX0_isClass_4 : decode cX0_isClass 4 = .ok (.iload_n 1, 1) := by decide +kernel
theorem dX0_isClass_5 : decode cX0_isClass 5 = .ok (.aload_n 0, 1) := by decide +kernel
theorem dX0_isClass_6 : decode cX0_isClass 6 = .ok (.getfield 40, 3) := by decide +kernel
theorem dX0_isClass_9 : decode cX0_isClass 9 = .ok (.if_icmp .ge 7, 3) := by decide +kernel
theorem dX0_isClass_12 : decode cX0_isClass 12 = .ok (.iconst 1, 1) := by decide +kernel
theorem dX0_isClass_13 : decode cX0_isClass 13 = .ok (.goto 4, 3) := by decide +kernel
theorem dX0_isClass_16 : decode cX0_isClass 16 = .ok (.iconst 0, 1) := by decide +kernel
theorem dX0_isClass_17 : decode cX0_isClass 17 = .ok (.ireturn, 1) := by decide +kernel
theorem dX0_isArray_0 : decode cX0_isArray 0 = .ok (.iload_n 0, 1) := by decide +kernel
theorem dX0_isArray_1 : decode cX0_isArray 1 = .ok (.bipush 32, 2) := by decide +kernel
theorem dX0_isArray_3 : decode cX0_isArray 3 = .ok (.if_icmp .lt 13, 3) := by decide +kernel
theorem dX0_isArray_6 : decode cX0_isArray 6 = .ok (.iload_n 0, 1) := by decide +kernel
theorem dX0_isArray_7 : decode cX0_isArray 7 = .ok (.bipush 64, 2) := by decide +kernel
theorem dX0_isArray_9 : decode cX0_isArray 9 = .ok (.if_icmp .gt 7, 3) := by decide +kernel
theorem dX0_isArray_12 : decode cX0_isArray 12 = .ok (.iconst 1, 1) := by decide +kernel
theorem dX0_isArray_13 : decode cX0_isArray 13 = .ok (.goto 4, 3) := by decide +kernel
theorem dX0_isArray_16 : decode cX0_isArray 16 = .ok (.iconst 0, 1) := by decide +kernel
theorem dX0_isArray_17 : decode cX0_isArray 17 = .ok (.ireturn, 1) := by decide +kernel
theorem dX0_isAbove_0 : decode cX0_isAbove 0 = .ok (.iload_n 1, 1) := by decide +kernel
theorem dX0_isAbove_1 : decode cX0_isAbove 1 = .ok (.ifCond .lt 40, 3) := by decide +kernel
theorem dX0_isAbove_4 : decode cX0_isAbove 4 = .ok (.iload_n 1, 1) := by decide +kernel
theorem dX0_isAbove_5 : decode cX0_isAbove 5 = .ok (.aload_n 0, 1) := by decide +kernel
theorem dX0_isAbove_6 : decode cX0_isAbove 6 = .ok (.getfield 40, 3) := by decide +kernel
theorem dX0_isAbove_9 : decode cX0_isAbove 9 = .ok (.if_icmp .ge 32, 3) := by decide +kernel
theorem dX0_isAbove_12 : decode cX0_isAbove 12 = .ok (.iload_n 2, 1) := by decide +kernel
theorem dX0_isAbove_13 : decode cX0_isAbove 13 = .ok (.ifCond .lt 28, 3) := by decide +kernel
theorem dX0_isAbove_16 : decode cX0_isAbove 16 = .ok (.iload_n 2, 1) := by decide +kernel
theorem dX0_isAbove_17 : decode cX0_isAbove 17 = .ok (.aload_n 0, 1) := by decide +kernel
theorem dX0_isAbove_18 : decode cX0_isAbove 18 = .ok (.getfield 40, 3) := by decide +kernel
theorem dX0_isAbove_21 : decode cX0_isAbove 21 = .ok (.if_icmp .ge 20, 3) := by decide +kernel
theorem dX0_isAbove_24 : decode cX0_isAbove 24 = .ok (.aload_n 0, 1) := by decide +kernel
theorem dX0_isAbove_25 : decode cX0_isAbove 25 = .ok (.getfield 18, 3) := by decide +kernel
theorem dX0_isAbove_28 : decode cX0_isAbove 28 = .ok (.iload_n 2, 1) := by decide +kernel
theorem dX0_isAbove_29 : decode cX0_isAbove 29 = .ok (.iaload, 1) := by decide +kernel
theorem dX0_isAbove_30 : decode cX0_isAbove 30 = .ok (.iload_n 1, 1) := by decide +kernel
theorem dX0_isAbove_31 : decode cX0_isAbove 31 = .ok (.ishr, 1) := by decide +kernel
theorem dX0_isAbove_32 : decode cX0_isAbove 32 = .ok (.iconst 1, 1) := by decide +kernel
theorem dX0_isAbove_33 : decode cX0_isAbove 33 = .ok (.iand, 1) := by decide +kernel
theorem dX0_isAbove_34 : decode cX0_isAbove 34 = .ok (.ifCond .eq 7, 3) := by decide +kernel
theorem dX0_isAbove_37 : decode cX0_isAbove 37 = .ok (.iconst 1, 1) := by decide +kernel
theorem dX0_isAbove_38 : decode cX0_isAbove 38 = .ok (.goto 4, 3) := by decide +kernel
theorem dX0_isAbove_41 : decode cX0_isAbove 41 = .ok (.iconst 0, 1) := by decide +kernel
theorem dX0_isAbove_42 : decode cX0_isAbove 42 = .ok (.ireturn, 1) := by decide +kernel
theorem dX0_isBelow_0 : decode cX0_isBelow 0 = .ok (.iload_n 1, 1) := by decide +kernel
theorem dX0_isBelow_1 : decode cX0_isBelow 1 = .ok (.iload_n 2, 1) := by decide +kernel
theorem dX0_isBelow_2 : decode cX0_isBelow 2 = .ok (.if_icmp .eq 9, 3) := by decide +kernel
theorem dX0_isBelow_5 : decode cX0_isBelow 5 = .ok (.iload_n 2, 1) := by decide +kernel
theorem dX0_isBelow_6 : decode cX0_isBelow 6 = .ok (.bipush 67, 2) := by decide +kernel
theorem dX0_isBelow_8 : decode cX0_isBelow 8 = .ok (.if_icmp .ne 5, 3) := by decide +kernel
theorem dX0_isBelow_11 : decode cX0_isBelow 11 = .ok (.iconst 1, 1) := by decide +kernel
theorem dX0_isBelow_12 : decode cX0_isBelow 12 = .ok (.ireturn, 1) := by decide +kernel
theorem dX0_isBelow_13 : decode cX0_isBelow 13 = .ok (.iload_n 2, 1) := by decide +kernel
theorem dX0_isBelow_14 : decode cX0_isBelow 14 = .ok (.bipush 69, 2) := by decide +kernel
theorem dX0_isBelow_16 : decode cX0_isBelow 16 = .ok (.if_icmp .ne 22, 3) := by decide +kernel
theorem dX0_isBelow_19 : decode cX0_isBelow 19 = .ok (.iload_n 1, 1) := by decide +kernel
theorem dX0_isBelow_20 : decode cX0_isBelow 20 = .ok (.bipush 65, 2) := by decide +kernel
theorem dX0_isBelow_22 : decode cX0_isBelow 22 = .ok (.if_icmp .eq 10, 3) := by decide +kernel
theorem dX0_isBelow_25 : decode cX0_isBelow 25 = .ok (.iload_n 1, 1) := by decide +kernel
theorem dX0_isBelow_26 : decode cX0_isBelow 26 = .ok (.invokestatic 51, 3) := by decide +kernel
theorem dX0_isBelow_29 : decode cX0_isBelow 29 = .ok (.ifCond .eq 7, 3) := by decide +kernel
theorem dX0_isBelow_32 : decode cX0_isBelow 32 = .ok (.iconst 1, 1) := by decide +kernel
theorem dX0_isBelow_33 : decode cX0_isBelow 33 = .ok (.goto 4, 3) := by decide +kernel
theorem dX0_isBelow_36 : decode cX0_isBelow 36 = .ok (.iconst 0, 1) := by decide +kernel
theorem dX0_isBelow_37 : decode cX0_isBelow 37 = .ok (.ireturn, 1) := by decide +kernel
theorem dX0_isBelow_38 : decode cX0_isBelow 38 = .ok (.iload_n 1, 1) := by decide +kernel
theorem dX0_isBelow_39 : decode cX0_isBelow 39 = .ok (.bipush 65, 2) := by decide +kernel
theorem dX0_isBelow_41 : decode cX0_isBelow 41 = .ok (.if_icmp .gt 9, 3) := by decide +kernel
theorem dX0_isBelow_44 : decode cX0_isBelow 44 = .ok (.iload_n 2, 1) := by decide +kernel
theorem dX0_isBelow_45 : decode cX0_isBelow 45 = .ok (.bipush 65, 2) := by decide +kernel
theorem dX0_isBelow_47 : decode cX0_isBelow 47 = .ok (.if_icmp .le 5, 3) := by decide +kernel
theorem dX0_isBelow_50 : decode cX0_isBelow 50 = .ok (.iconst 0, 1) := by decide +kernel
theorem dX0_isBelow_51 : decode cX0_isBelow 51 = .ok (.ireturn, 1) := by decide +kernel
theorem dX0_isBelow_52 : decode cX0_isBelow 52 = .ok (.iload_n 1, 1) := by decide +kernel
theorem dX0_isBelow_53 : decode cX0_isBelow 53 = .ok (.bipush 65, 2) := by decide +kernel
theorem dX0_isBelow_55 : decode cX0_isBelow 55 = .ok (.if_icmp .eq 7, 3) := by decide +kernel
theorem dX0_isBelow_58 : decode cX0_isBelow 58 = .ok (.iload_n 2, 1) := by decide +kernel
theorem dX0_isBelow_59 : decode cX0_isBelow 59 = .ok (.ifCond .ne 5, 3) := by decide +kernel
theorem dX0_isBelow_62 : decode cX0_isBelow 62 = .ok (.iconst 1, 1) := by decide +kernel
theorem dX0_isBelow_63 : decode cX0_isBelow 63 = .ok (.ireturn, 1) := by decide +kernel
theorem dX0_isBelow_64 : decode cX0_isBelow 64 = .ok (.aload_n 0, 1) := by decide +kernel
theorem dX0_isBelow_65 : decode cX0_isBelow 65 = .ok (.iload_n 2, 1) := by decide +kernel
theorem dX0_isBelow_66 : decode cX0_isBelow 66 = .ok (.iload_n 1, 1) := by decide +kernel
theorem dX0_isBelow_67 : decode cX0_isBelow 67 = .ok (.invokevirtual 54, 3) := by decide +kernel
theorem dX0_isBelow_70 : decode cX0_isBelow 70 = .ok (.ifCond .ne 24, 3) := by decide +kernel
theorem dX0_isBelow_73 : decode cX0_isBelow 73 = .ok (.iload_n 1, 1) := by decide +kernel
theorem dX0_isBelow_74 : decode cX0_isBelow 74 = .ok (.bipush 32, 2) := by decide +kernel
theorem dX0_isBelow_76 : decode cX0_isBelow 76 = .ok (.if_icmp .lt 22, 3) := by decide +kernel
theorem dX0_isBelow_79 : decode cX0_isBelow 79 = .ok (.aload_n 0, 1) := by decide +kernel
theorem dX0_isBelow_80 : decode cX0_isBelow 80 = .ok (.iload_n 2, 1) := by decide +kernel
theorem dX0_isBelow_81 : decode cX0_isBelow 81 = .ok (.bipush 32, 2) := by decide +kernel
theorem dX0_isBelow_83 : decode cX0_isBelow 83 = .ok (.isub, 1) := by decide +kernel
theorem dX0_isBelow_84 : decode cX0_isBelow 84 = .ok (.iload_n 1, 1) := by decide +kernel
theorem dX0_isBelow_85 : decode cX0_isBelow 85 = .ok (.bipush 32, 2) := by decide +kernel
theorem dX0_isBelow_87 : decode cX0_isBelow 87 = .ok (.isub, 1) := by decide +kernel
theorem dX0_isBelow_88 : decode cX0_isBelow 88 = .ok (.invokevirtual 54, 3) := by decide +kernel
theorem dX0_isBelow_91 : decode cX0_isBelow 91 = .ok (.ifCond .eq 7, 3) := by decide +kernel
theorem dX0_isBelow_94 : decode cX0_isBelow 94 = .ok (.iconst 1, 1) := by decide +kernel
theorem dX0_isBelow_95 : decode cX0_isBelow 95 = .ok (.goto 4, 3) := by decide +kernel
theorem dX0_isBelow_98 : decode cX0_isBelow 98 = .ok (.iconst 0, 1) := by decide +kernel
theorem dX0_isBelow_99 : decode cX0_isBelow 99 = .ok (.ireturn, 1) := by decide +kernel
theorem dX0_join_0 : decode cX0_join 0 = .ok (.aload_n 0, 1) := by decide +kernel
theorem dX0_join_1 : decode cX0_join 1 = .ok (.iload_n 1, 1) := by decide +kernel
theorem dX0_join_2 : decode cX0_join 2 = .ok (.iload_n 2, 1) := by decide +kernel
theorem dX0_join_3 : decode cX0_join 3 = .ok (.invokevirtual 58, 3) := by decide +kernel
theorem dX0_join_6 : decode cX0_join 6 = .ok (.ifCond .eq 5, 3) := by decide +kernel
theorem dX0_join_9 : decode cX0_join 9 = .ok (.iload_n 2, 1) := by decide +kernel
theorem dX0_join_10 : decode cX0_join 10 = .ok (.ireturn, 1) := by decide +kernel
theorem dX0_join_11 : decode cX0_join 11 = .ok (.aload_n 0, 1) := by decide +kernel
theorem dX0_join_12 : decode cX0_join 12 = .ok (.iload_n 2, 1) := by decide +kernel
theorem dX0_join_13 : decode cX0_join 13 = .ok (.iload_n 1, 1) := by decide +kernel
theorem dX0_join_14 : decode cX0_join 14 = .ok (.invokevirtual 58, 3) := by decide +kernel
theorem dX0_join_17 : decode cX0_join 17 = .ok (.ifCond .eq 5, 3) := by decide +kernel
theorem dX0_join_20 : decode cX0_join 20 = .ok (.iload_n 1, 1) := by decide +kernel
theorem dX0_join_21 : decode cX0_join 21 = .ok (.ireturn, 1) := by decide +kernel
theorem dX0_join_22 : decode cX0_join 22 = .ok (.iload_n 1, 1) := by decide +kernel
theorem dX0_join_23 : decode cX0_join 23 = .ok (.bipush 65, 2) := by decide +kernel
theorem dX0_join_25 : decode cX0_join 25 = .ok (.if_icmp .gt 9, 3) := by decide +kernel
theorem dX0_join_28 : decode cX0_join 28 = .ok (.iload_n 2, 1) := by decide +kernel
theorem dX0_join_29 : decode cX0_join 29 = .ok (.bipush 65, 2) := by decide +kernel
theorem dX0_join_31 : decode cX0_join 31 = .ok (.if_icmp .le 6, 3) := by decide +kernel
theorem dX0_join_34 : decode cX0_join 34 = .ok (.bipush 67, 2) := by decide +kernel
theorem dX0_join_36 : decode cX0_join 36 = .ok (.ireturn, 1) := by decide +kernel
theorem dX0_join_37 : decode cX0_join 37 = .ok (.aload_n 0, 1) := by decide +kernel
theorem dX0_join_38 : decode cX0_join 38 = .ok (.iload_n 1, 1) := by decide +kernel
theorem dX0_join_39 : decode cX0_join 39 = .ok (.invokevirtual 47, 3) := by decide +kernel
theorem dX0_join_42 : decode cX0_join 42 = .ok (.ifCond .eq 18, 3) := by decide +kernel
theorem dX0_join_45 : decode cX0_join 45 = .ok (.aload_n 0, 1) := by decide +kernel
theorem dX0_join_46 : decode cX0_join 46 = .ok (.iload_n 2, 1) := by decide +kernel
theorem dX0_join_47 : decode cX0_join 47 = .ok (.invokevirtual 47, 3) := by decide +kernel
theorem dX0_join_50 : decode cX0_join 50 = .ok (.ifCond .eq 10, 3) := by decide +kernel
theorem dX0_join_53 : decode cX0_join 53 = .ok (.aload_n 0, 1) := by decide +kernel
theorem dX0_join_54 : decode cX0_join 54 = .ok (.iload_n 1, 1) := by decide +kernel
theorem dX0_join_55 : decode cX0_join 55 = .ok (.iload_n 2, 1) := by decide +kernel
theorem dX0_join_56 : decode cX0_join 56 = .ok (.invokevirtual 61, 3) := by decide +kernel
theorem dX0_join_59 : decode cX0_join 59 = .ok (.ireturn, 1) := by decide +kernel
theorem dX0_join_60 : decode cX0_join 60 = .ok (.aload_n 0, 1) := by decide +kernel
theorem dX0_join_61 : decode cX0_join 61 = .ok (.iload_n 1, 1) := by decide +kernel
theorem dX0_join_62 : decode cX0_join 62 = .ok (.bipush 32, 2) := by decide +kernel
theorem dX0_join_64 : decode cX0_join 64 = .ok (.isub, 1) := by decide +kernel
theorem dX0_join_65 : decode cX0_join 65 = .ok (.invokevirtual 47, 3) := by decide +kernel
theorem dX0_join_68 : decode cX0_join 68 = .ok (.ifCond .eq 18, 3) := by decide +kernel
theorem dX0_join_71 : decode cX0_join 71 = .ok (.aload_n 0, 1) := by decide +kernel
theorem dX0_join_72 : decode cX0_join 72 = .ok (.iload_n 2, 1) := by decide +kernel
theorem dX0_join_73 : decode cX0_join 73 = .ok (.bipush 32, 2) := by decide +kernel
theorem dX0_join_75 : decode cX0_join 75 = .ok (.isub, 1) := by decide +kernel
theorem dX0_join_76 : decode cX0_join 76 = .ok (.invokevirtual 47, 3) := by decide +kernel
theorem dX0_join_79 : decode cX0_join 79 = .ok (.ifCond .eq 7, 3) := by decide +kernel
theorem dX0_join_82 : decode cX0_join 82 = .ok (.iconst 1, 1) := by decide +kernel
theorem dX0_join_83 : decode cX0_join 83 = .ok (.goto 4, 3) := by decide +kernel
theorem dX0_join_86 : decode cX0_join 86 = .ok (.iconst 0, 1) := by decide +kernel
theorem dX0_join_87 : decode cX0_join 87 = .ok (.istore_n 3, 1) := by decide +kernel
theorem dX0_join_88 : decode cX0_join 88 = .ok (.iload_n 3, 1) := by decide +kernel
theorem dX0_join_89 : decode cX0_join 89 = .ok (.ifCond .eq 21, 3) := by decide +kernel
theorem dX0_join_92 : decode cX0_join 92 = .ok (.bipush 32, 2) := by decide +kernel
theorem dX0_join_94 : decode cX0_join 94 = .ok (.aload_n 0, 1) := by decide +kernel
theorem dX0_join_95 : decode cX0_join 95 = .ok (.iload_n 1, 1) := by decide +kernel
theorem dX0_join_96 : decode cX0_join 96 = .ok (.bipush 32, 2) := by decide +kernel
theorem dX0_join_98 : decode cX0_join 98 = .ok (.isub, 1) := by decide +kernel
theorem dX0_join_99 : decode cX0_join 99 = .ok (.iload_n 2, 1) := by decide +kernel
theorem dX0_join_100 : decode cX0_join 100 = .ok (.bipush 32, 2) := by decide +kernel
theorem dX0_join_102 : decode cX0_join 102 = .ok (.isub, 1) := by decide +kernel
theorem dX0_join_103 : decode cX0_join 103 = .ok (.invokevirtual 61, 3) := by decide +kernel
theorem dX0_join_106 : decode cX0_join 106 = .ok (.iadd, 1) := by decide +kernel
theorem dX0_join_107 : decode cX0_join 107 = .ok (.goto 4, 3) := by decide +kernel
theorem dX0_join_110 : decode cX0_join 110 = .ok (.iconst 0, 1) := by decide +kernel
theorem dX0_join_111 : decode cX0_join 111 = .ok (.ireturn, 1) := by decide +kernel
theorem dX0_nearestAbove_0 : decode cX0_nearestAbove 0 = .ok (.bipush 31, 2) := by decide +kernel
theorem dX0_nearestAbove_2 : decode cX0_nearestAbove 2 = .ok (.aload_n 0, 1) := by decide +kernel
theorem dX0_nearestAbove_3 : decode cX0_nearestAbove 3 = .ok (.getfield 18, 3) := by decide +kernel
theorem dX0_nearestAbove_6 : decode cX0_nearestAbove 6 = .ok (.iload_n 1, 1) := by decide +kernel
theorem dX0_nearestAbove_7 : decode cX0_nearestAbove 7 = .ok (.iaload, 1) := by decide +kernel
theorem dX0_nearestAbove_8 : decode cX0_nearestAbove 8 = .ok (.aload_n 0, 1) := by decide +kernel
theorem dX0_nearestAbove_9 : decode cX0_nearestAbove 9 = .ok (.getfield 18, 3) := by decide +kernel
theorem dX0_nearestAbove_12 : decode cX0_nearestAbove 12 = .ok (.iload_n 2, 1) := by decide +kernel
theorem dX0_nearestAbove_13 : decode cX0_nearestAbove 13 = .ok (.iaload, 1) := by decide +kernel
theorem dX0_nearestAbove_14 : decode cX0_nearestAbove 14 = .ok (.iand, 1) := by decide +kernel
theorem dX0_nearestAbove_15 : decode cX0_nearestAbove 15 = .ok (.invokestatic 65, 3) := by decide +kernel
theorem dX0_nearestAbove_18 : decode cX0_nearestAbove 18 = .ok (.isub, 1) := by decide +kernel
theorem dX0_nearestAbove_19 : decode cX0_nearestAbove 19 = .ok (.ireturn, 1) := by decide +kernel
theorem dX0_elementOf_0 : decode cX0_elementOf 0 = .ok (.iload_n 1, 1) := by decide +kernel
theorem dX0_elementOf_1 : decode cX0_elementOf 1 = .ok (.bipush 64, 2) := by decide +kernel
theorem dX0_elementOf_3 : decode cX0_elementOf 3 = .ok (.if_icmp .ne 6, 3) := by decide +kernel
theorem dX0_elementOf_6 : decode cX0_elementOf 6 = .ok (.bipush 66, 2) := by decide +kernel
theorem dX0_elementOf_8 : decode cX0_elementOf 8 = .ok (.ireturn, 1) := by decide +kernel
theorem dX0_elementOf_9 : decode cX0_elementOf 9 = .ok (.iload_n 1, 1) := by decide +kernel
theorem dX0_elementOf_10 : decode cX0_elementOf 10 = .ok (.bipush 65, 2) := by decide +kernel
theorem dX0_elementOf_12 : decode cX0_elementOf 12 = .ok (.if_icmp .ne 6, 3) := by decide +kernel
theorem dX0_elementOf_15 : decode cX0_elementOf 15 = .ok (.bipush 68, 2) := by decide +kernel
theorem dX0_elementOf_17 : decode cX0_elementOf 17 = .ok (.ireturn, 1) := by decide +kernel
theorem dX0_elementOf_18 : decode cX0_elementOf 18 = .ok (.iload_n 1, 1) := by decide +kernel
theorem dX0_elementOf_19 : decode cX0_elementOf 19 = .ok (.invokestatic 51, 3) := by decide +kernel
theorem dX0_elementOf_22 : decode cX0_elementOf 22 = .ok (.ifCond .eq 10, 3) := by decide +kernel
theorem dX0_elementOf_25 : decode cX0_elementOf 25 = .ok (.iload_n 1, 1) := by decide +kernel
theorem dX0_elementOf_26 : decode cX0_elementOf 26 = .ok (.bipush 32, 2) := by decide +kernel
theorem dX0_elementOf_28 : decode cX0_elementOf 28 = .ok (.isub, 1) := by decide +kernel
theorem dX0_elementOf_29 : decode cX0_elementOf 29 = .ok (.goto 5, 3) := by decide +kernel
theorem dX0_elementOf_32 : decode cX0_elementOf 32 = .ok (.bipush 67, 2) := by decide +kernel
theorem dX0_elementOf_34 : decode cX0_elementOf 34 = .ok (.ireturn, 1) := by decide +kernel
theorem dX0_isElement_0 : decode cX0_isElement 0 = .ok (.iload_n 2, 1) := by decide +kernel
theorem dX0_isElement_1 : decode cX0_isElement 1 = .ok (.bipush 65, 2) := by decide +kernel
theorem dX0_isElement_3 : decode cX0_isElement 3 = .ok (.if_icmp .ne 17, 3) := by decide +kernel
theorem dX0_isElement_6 : decode cX0_isElement 6 = .ok (.iload_n 1, 1) := by decide +kernel
theorem dX0_isElement_7 : decode cX0_isElement 7 = .ok (.bipush 67, 2) := by decide +kernel
theorem dX0_isElement_9 : decode cX0_isElement 9 = .ok (.if_icmp .eq 7, 3) := by decide +kernel
theorem dX0_isElement_12 : decode cX0_isElement 12 = .ok (.iconst 1, 1) := by decide +kernel
theorem dX0_isElement_13 : decode cX0_isElement 13 = .ok (.goto 17, 3) := by decide +kernel
theorem dX0_isElement_16 : decode cX0_isElement 16 = .ok (.iconst 0, 1) := by decide +kernel
theorem dX0_isElement_17 : decode cX0_isElement 17 = .ok (.goto 13, 3) := by decide +kernel
theorem dX0_isElement_20 : decode cX0_isElement 20 = .ok (.aload_n 0, 1) := by decide +kernel
theorem dX0_isElement_21 : decode cX0_isElement 21 = .ok (.iload_n 1, 1) := by decide +kernel
theorem dX0_isElement_22 : decode cX0_isElement 22 = .ok (.aload_n 0, 1) := by decide +kernel
theorem dX0_isElement_23 : decode cX0_isElement 23 = .ok (.iload_n 2, 1) := by decide +kernel
theorem dX0_isElement_24 : decode cX0_isElement 24 = .ok (.invokevirtual 71, 3) := by decide +kernel
theorem dX0_isElement_27 : decode cX0_isElement 27 = .ok (.invokevirtual 58, 3) := by decide +kernel
theorem dX0_isElement_30 : decode cX0_isElement 30 = .ok (.ireturn, 1) := by decide +kernel
