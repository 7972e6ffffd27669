theorem dX2_init_0 : decode cX2_init 0 = .ok (.aload_n 0, 1) := by decide +kernel
theorem dX2_init_1 : decode cX2_init 1 = .ok (.invokespecial 3, 3) := by decide +kernel
theorem dX2_init_4 : decode cX2_init 4 = .ok (.aload_n 0, 1) := by decide +kernel
theorem dX2_init_5 : decode cX2_init 5 = .ok (.sipush 2001, 3) := by decide +kernel
theorem dX2_init_8 : decode cX2_init 8 = .ok (.newarray .int, 2) := by decide +kernel
theorem dX2_init_10 : decode cX2_init 10 = .ok (.putfield 9, 3) := by decide +kernel
theorem dX2_init_13 : decode cX2_init 13 = .ok (.aload_n 0, 1) := by decide +kernel
theorem dX2_init_14 : decode cX2_init 14 = .ok (.sipush 2001, 3) := by decide +kernel
theorem dX2_init_17 : decode cX2_init 17 = .ok (.newarray .int, 2) := by decide +kernel
theorem dX2_init_19 : decode cX2_init 19 = .ok (.putfield 15, 3) := by decide +kernel
theorem dX2_init_22 : decode cX2_init 22 = .ok (.aload_n 0, 1) := by decide +kernel
theorem dX2_init_23 : decode cX2_init 23 = .ok (.sipush 2001, 3) := by decide +kernel
theorem dX2_init_26 : decode cX2_init 26 = .ok (.newarray .int, 2) := by decide +kernel
theorem dX2_init_28 : decode cX2_init 28 = .ok (.putfield 18, 3) := by decide +kernel
theorem dX2_init_31 : decode cX2_init 31 = .ok (.aload_n 0, 1) := by decide +kernel
theorem dX2_init_32 : decode cX2_init 32 = .ok (.sipush 2001, 3) := by decide +kernel
theorem dX2_init_35 : decode cX2_init 35 = .ok (.newarray .int, 2) := by decide +kernel
theorem dX2_init_37 : decode cX2_init 37 = .ok (.putfield 21, 3) := by decide +kernel
theorem dX2_init_40 : decode cX2_init 40 = .ok (.aload_n 0, 1) := by decide +kernel
theorem dX2_init_41 : decode cX2_init 41 = .ok (.sipush 12000, 3) := by decide +kernel
theorem dX2_init_44 : decode cX2_init 44 = .ok (.newarray .int, 2) := by decide +kernel
theorem dX2_init_46 : decode cX2_init 46 = .ok (.putfield 24, 3) := by decide +kernel
theorem dX2_init_49 : decode cX2_init 49 = .ok (.return_, 1) := by decide +kernel
theorem dX2_begin_0 : decode cX2_begin 0 = .ok (.aload_n 0, 1) := by decide +kernel
theorem dX2_begin_1 : decode cX2_begin 1 = .ok (.iconst 0, 1) := by decide +kernel
theorem dX2_begin_2 : decode cX2_begin 2 = .ok (.putfield 27, 3) := by decide +kernel
theorem dX2_begin_5 : decode cX2_begin 5 = .ok (.aload_n 0, 1) := by decide +kernel
theorem dX2_begin_6 : decode cX2_begin 6 = .ok (.iconst 0, 1) := by decide +kernel
theorem dX2_begin_7 : decode cX2_begin 7 = .ok (.putfield 31, 3) := by decide +kernel
theorem dX2_begin_10 : decode cX2_begin 10 = .ok (.aload_n 0, 1) := by decide +kernel
theorem dX2_begin_11 : decode cX2_begin 11 = .ok (.getfield 9, 3) := by decide +kernel
theorem dX2_begin_14 : decode cX2_begin 14 = .ok (.iconst 0, 1) := by decide +kernel
theorem dX2_begin_15 : decode cX2_begin 15 = .ok (.bipush 65, 2) := by decide +kernel
theorem dX2_begin_17 : decode cX2_begin 17 = .ok (.iastore, 1) := by decide +kernel
theorem dX2_begin_18 : decode cX2_begin 18 = .ok (.return_, 1) := by decide +kernel
theorem dX2_make_0 : decode cX2_make 0 = .ok (.aload_n 0, 1) := by decide +kernel
theorem dX2_make_1 : decode cX2_make 1 = .ok (.getfield 27, 3) := by decide +kernel
theorem dX2_make_4 : decode cX2_make 4 = .ok (.sipush 2000, 3) := by decide +kernel
theorem dX2_make_7 : decode cX2_make 7 = .ok (.if_icmp .eq 19, 3) := by decide +kernel
theorem dX2_make_10 : decode cX2_make 10 = .ok (.iload_n 2, 1) := by decide +kernel
theorem dX2_make_11 : decode cX2_make 11 = .ok (.ifCond .lt 15, 3) := by decide +kernel
theorem dX2_make_14 : decode cX2_make 14 = .ok (.iload_n 2, 1) := by decide +kernel
theorem dX2_make_15 : decode cX2_make 15 = .ok (.sipush 12000, 3) := by decide +kernel
theorem dX2_make_18 : decode cX2_make 18 = .ok (.aload_n 0, 1) := by decide +kernel
theorem dX2_make_19 : decode cX2_make 19 = .ok (.getfield 31, 3) := by decide +kernel
theorem dX2_make_22 : decode cX2_make 22 = .ok (.isub, 1) := by decide +kernel
theorem dX2_make_23 : decode cX2_make 23 = .ok (.if_icmp .le 5, 3) := by decide +kernel
theorem dX2_make_26 : decode cX2_make 26 = .ok (.iconst 0, 1) := by decide +kernel
theorem dX2_make_27 : decode cX2_make 27 = .ok (.ireturn, 1) := by decide +kernel
theorem dX2_make_28 : decode cX2_make 28 = .ok (.aload_n 0, 1) := by decide +kernel
theorem dX2_make_29 : decode cX2_make 29 = .ok (.dup, 1) := by decide +kernel
theorem dX2_make_30 : decode cX2_make 30 = .ok (.getfield 27, 3) := by decide +kernel
theorem dX2_make_33 : decode cX2_make 33 = .ok (.iconst 1, 1) := by decide +kernel
theorem dX2_make_34 : decode cX2_make 34 = .ok (.iadd, 1) := by decide +kernel
theorem dX2_make_35 : decode cX2_make 35 = .ok (.putfield 27, 3) := by decide +kernel
theorem dX2_make_38 : decode cX2_make 38 = .ok (.aload_n 0, 1) := by decide +kernel
theorem dX2_make_39 : decode cX2_make 39 = .ok (.getfield 9, 3) := by decide +kernel
theorem dX2_make_42 : decode cX2_make 42 = .ok (.aload_n 0, 1) := by decide +kernel
theorem dX2_make_43 : decode cX2_make 43 = .ok (.getfield 27, 3) := by decide +kernel
theorem dX2_make_46 : decode cX2_make 46 = .ok (.iload_n 1, 1) := by decide +kernel
theorem dX2_make_47 : decode cX2_make 47 = .ok (.iastore, 1) := by decide +kernel
theorem dX2_make_48 : decode cX2_make 48 = .ok (.aload_n 0, 1) := by decide +kernel
theorem dX2_make_49 : decode cX2_make 49 = .ok (.getfield 15, 3) := by decide +kernel
theorem dX2_make_52 : decode cX2_make 52 = .ok (.aload_n 0, 1) := by decide +kernel
theorem dX2_make_53 : decode cX2_make 53 = .ok (.getfield 27, 3) := by decide +kernel
theorem dX2_make_56 : decode cX2_make 56 = .ok (.aload_n 0, 1) := by decide +kernel
theorem dX2_make_57 : decode cX2_make 57 = .ok (.getfield 31, 3) := by decide +kernel
theorem dX2_make_60 : decode cX2_make 60 = .ok (.iastore, 1) := by decide +kernel
theorem dX2_make_61 : decode cX2_make 61 = .ok (.aload_n 0, 1) := by decide +kernel
theorem dX2_make_62 : decode cX2_make 62 = .ok (.getfield 18, 3) := by decide +kernel
theorem dX2_make_65 : decode cX2_make 65 = .ok (.aload_n 0, 1) := by decide +kernel
theorem dX2_make_66 : decode cX2_make 66 = .ok (.getfield 27, 3) := by decide +kernel
theorem dX2_make_69 : decode cX2_make 69 = .ok (.iload_n 2, 1) := by decide +kernel
theorem dX2_make_70 : decode cX2_make 70 = .ok (.iastore, 1) := by decide +kernel
theorem dX2_make_71 : decode cX2_make 71 = .ok (.aload_n 0, 1) := by decide +kernel
theorem dX2_make_72 : decode cX2_make 72 = .ok (.getfield 21, 3) := by decide +kernel
theorem dX2_make_75 : decode cX2_make 75 = .ok (.aload_n 0, 1) := by decide +kernel
theorem dX2_make_76 : decode cX2_make 76 = .ok (.getfield 27, 3) := by decide +kernel
theorem dX2_make_79 : decode cX2_make 79 = .ok (.iload_n 3, 1) := by decide +kernel
theorem dX2_make_80 : decode cX2_make 80 = .ok (.iastore, 1) := by decide +kernel
theorem dX2_make_81 : decode cX2_make 81 = .ok (.aload_n 0, 1) := by decide +kernel
theorem dX2_make_82 : decode cX2_make 82 = .ok (.getfield 24, 3) := by decide +kernel
theorem dX2_make_85 : decode cX2_make 85 = .ok (.aload_n 0, 1) := by decide +kernel
theorem dX2_make_86 : decode cX2_make 86 = .ok (.getfield 31, 3) := by decide +kernel
theorem dX2_make_89 : decode cX2_make 89 = .ok (.aload_n 0, 1) := by decide +kernel
theorem dX2_make_90 : decode cX2_make 90 = .ok (.getfield 31, 3) := by decide +kernel
theorem dX2_make_93 : decode cX2_make 93 = .ok (.iload_n 2, 1) := by decide +kernel
theorem dX2_make_94 : decode cX2_make 94 = .ok (.iadd, 1) := by decide +kernel
theorem dX2_make_95 : decode cX2_make 95 = .ok (.iconst 0, 1) := by decide +kernel
theorem dX2_make_96 : decode cX2_make 96 = .ok (.invokestatic 34, 3) := by decide +kernel
theorem dX2_make_99 : decode cX2_make 99 = .ok (.aload_n 0, 1) := by decide +kernel
theorem dX2_make_100 : decode cX2_make 100 = .ok (.dup, 1) := by decide +kernel
theorem dX2_make_101 : decode cX2_make 101 = .ok (.getfield 31, 3) := by decide +kernel
theorem dX2_make_104 : decode cX2_make 104 = .ok (.iload_n 2, 1) := by decide +kernel
theorem dX2_make_105 : decode cX2_make 105 = .ok (.iadd, 1) := by decide +kernel
theorem dX2_make_106 : decode cX2_make 106 = .ok (.putfield 31, 3) := by decide +kernel
theorem dX2_make_109 : decode cX2_make 109 = .ok (.aload_n 0, 1) := by decide +kernel
theorem dX2_make_110 : decode cX2_make 110 = .ok (.getfield 27, 3) := by decide +kernel
theorem dX2_make_113 : decode cX2_make 113 = .ok (.ireturn, 1) := by decide +kernel
theorem dX2_hasCell_0 : decode cX2_hasCell 0 = .ok (.iload_n 1, 1) := by decide +kernel
theorem dX2_hasCell_1 : decode cX2_hasCell 1 = .ok (.ifCond .le 29, 3) := by decide +kernel
theorem dX2_hasCell_4 : decode cX2_hasCell 4 = .ok (.iload_n 1, 1) := by decide +kernel
theorem dX2_hasCell_5 : decode cX2_hasCell 5 = .ok (.aload_n 0, 1) := by decide +kernel
theorem dX2_hasCell_6 : decode cX2_hasCell 6 = .ok (.getfield 27, 3) := by decide +kernel
theorem dX2_hasCell_9 : decode cX2_hasCell 9 = .ok (.if_icmp .gt 21, 3) := by decide +kernel
theorem dX2_hasCell_12 : decode cX2_hasCell 12 = .ok (.iload_n 2, 1) := by decide +kernel
theorem dX2_hasCell_13 : decode cX2_hasCell 13 = .ok (.ifCond .lt 17, 3) := by decide +kernel
theorem dX2_hasCell_16 : decode cX2_hasCell 16 = .ok (.iload_n 2, 1) := by decide +kernel
theorem dX2_hasCell_17 : decode cX2_hasCell 17 = .ok (.aload_n 0, 1) := by decide +kernel
theorem dX2_hasCell_18 : decode cX2_hasCell 18 = .ok (.getfield 18, 3) := by decide +kernel
theorem dX2_hasCell_21 : decode cX2_hasCell 21 = .ok (.iload_n 1, 1) := by decide +kernel
theorem dX2_hasCell_22 : decode cX2_hasCell 22 = .ok (.iaload, 1) := by decide +kernel
theorem dX2_hasCell_23 : decode cX2_hasCell 23 = .ok (.if_icmp .ge 7, 3) := by decide +kernel
theorem dX2_hasCell_26 : decode cX2_hasCell 26 = .ok (.iconst 1, 1) := by decide +kernel
theorem dX2_hasCell_27 : decode cX2_hasCell 27 = .ok (.goto 4, 3) := by decide +kernel
theorem dX2_hasCell_30 : decode cX2_hasCell 30 = .ok (.iconst 0, 1) := by decide +kernel
theorem dX2_hasCell_31 : decode cX2_hasCell 31 = .ok (.ireturn, 1) := by decide +kernel
theorem dX2_cell_0 : decode cX2_cell 0 = .ok (.aload_n 0, 1) := by decide +kernel
theorem dX2_cell_1 : decode cX2_cell 1 = .ok (.iload_n 1, 1) := by decide +kernel
theorem dX2_cell_2 : decode cX2_cell 2 = .ok (.iload_n 2, 1) := by decide +kernel
theorem dX2_cell_3 : decode cX2_cell 3 = .ok (.invokevirtual 40, 3) := by decide +kernel
theorem dX2_cell_6 : decode cX2_cell 6 = .ok (.ifCond .eq 19, 3) := by decide +kernel
theorem dX2_cell_9 : decode cX2_cell 9 = .ok (.aload_n 0, 1) := by decide +kernel
theorem dX2_cell_10 : decode cX2_cell 10 = .ok (.getfield 24, 3) := by decide +kernel
theorem dX2_cell_13 : decode cX2_cell 13 = .ok (.aload_n 0, 1) := by decide +kernel
theorem dX2_cell_14 : decode cX2_cell 14 = .ok (.getfield 15, 3) := by decide +kernel
theorem dX2_cell_17 : decode cX2_cell 17 = .ok (.iload_n 1, 1) := by decide +kernel
theorem dX2_cell_18 : decode cX2_cell 18 = .ok (.iaload, 1) := by decide +kernel
theorem dX2_cell_19 : decode cX2_cell 19 = .ok (.iload_n 2, 1) := by decide +kernel
theorem dX2_cell_20 : decode cX2_cell 20 = .ok (.iadd, 1) := by decide +kernel
theorem dX2_cell_21 : decode cX2_cell 21 = .ok (.iaload, 1) := by decide +kernel
theorem dX2_cell_22 : decode cX2_cell 22 = .ok (.goto 4, 3) := by decide +kernel
theorem dX2_cell_25 : decode cX2_cell 25 = .ok (.iconst 0, 1) := by decide +kernel
theorem dX2_cell_26 : decode cX2_cell 26 = .ok (.ireturn, 1) := by decide +kernel
theorem dX2_setCell_0 : decode cX2_setCell 0 = .ok (.aload_n 0, 1) := by decide +kernel
theorem dX2_setCell_1 : decode cX2_setCell 1 = .ok (.iload_n 1, 1) := by decide +kernel
theorem dX2_setCell_2 : decode cX2_setCell 2 = .ok (.iload_n 2, 1) := by decide +kernel
theorem dX2_setCell_3 : decode cX2_setCell 3 = .ok (.invokevirtual 40, 3) := by decide +kernel
theorem dX2_setCell_6 : decode cX2_setCell 6 = .ok (.ifCond .eq 17, 3) := by decide +kernel
theorem dX2_setCell_9 : decode cX2_setCell 9 = .ok (.aload_n 0, 1) := by decide +kernel
theorem dX2_setCell_10 : decode cX2_setCell 10 = .ok (.getfield 24, 3) := by decide +kernel
theorem dX2_setCell_13 : decode cX2_setCell 13 = .ok (.aload_n 0, 1) := by decide +kernel
theorem dX2_setCell_14 : decode cX2_setCell 14 = .ok (.getfield 15, 3) := by decide +kernel
theorem dX2_setCell_17 : decode cX2_setCell 17 = .ok (.iload_n 1, 1) := by decide +kernel
theorem dX2_setCell_18 : decode cX2_setCell 18 = .ok (.iaload, 1) := by decide +kernel
theorem dX2_setCell_19 : decode cX2_setCell 19 = .ok (.iload_n 2, 1) := by decide +kernel
theorem dX2_setCell_20 : decode cX2_setCell 20 = .ok (.iadd, 1) := by decide +kernel
theorem dX2_setCell_21 : decode cX2_setCell 21 = .ok (.iload_n 3, 1) := by decide +kernel
theorem dX2_setCell_22 : decode cX2_setCell 22 = .ok (.iastore, 1) := by decide +kernel
theorem dX2_setCell_23 : decode cX2_setCell 23 = .ok (.return_, 1) := by decide +kernel
